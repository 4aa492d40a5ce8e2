/-! ===== the calls, one by one: DOWNS are read ===== -/
theorem bring_st {m : Mem} {d st : Nat} {p B : Int} (hsep : d + 10 ≤ st) (hdn : DnOk m d) (hst : StOk m d st B) (hp : 0 ≤ p ∧ p < m d 3) : StOk (bring m d st p) d st B := by
  have h4 := hdn.2.2.2.2.1
  obtain ⟨a0, a1, a2, a3, a4, a5⟩ := hst
  have hpp := a3 p hp.1 hp.2
  have hcb := comeN_b (c := m (st + 6) p) (n := m d 4) (P := upP m d st p) h4.2 hpp.2.2.2.2.2.2.2.2.1 hpp.2.2.2.2.2.2.2.2.2.1 (m d 4).toNat (by omega)
  have r : ∀ b : Nat, b ≠ st + 6 → bring m d st p b = m b := fun b hb => by unfold bring; rw [wr_row hb]
  have r6 : bring m d st p (st + 6) = fun j => if j = p then comeN (m (st + 6) p) (upP m d st p) (m d 4).toNat else m (st + 6) j := by unfold bring; rw [wr_rowat]
  unfold StOk
  rw [r st (by omega), r (st + 1) (by omega), r (st + 2) (by omega), r (st + 3) (by omega), r (st + 4) (by omega), r (st + 5) (by omega), r (st + 7) (by omega), r d (by omega), r (d + 5) (by omega), r6]
  refine ⟨a0, a1, a2, fun q h0 h1 => ?_, a4, a5⟩
  obtain ⟨b1, b2, b3, b4, b5, b6, b7, b8, b9, b10, b11, b12⟩ := a3 q h0 h1
  by_cases e : q = p
  · subst e
    dsimp only
    rw [if_pos rfl]
    exact ⟨b1, b2, b3, b4, b5, b6, b7, b8, hcb.1, hcb.2, b11, b12⟩
  · dsimp only
    rw [if_neg e]
    exact ⟨b1, b2, b3, b4, b5, b6, b7, b8, b9, b10, b11, b12⟩
theorem brN_st {D : Mem} {B : Int} (hdn : DnOk D 47) (hst : StOk D 47 57 B) : ∀ k : Nat, (k : Int) ≤ D 47 3 → StOk (brN D k) 47 57 B := by
  intro k
  induction k with
  | zero => intro _; exact hst
  | succ k ih =>
    intro hk
    have e : ∀ q, q < 10 → brN D k (47 + q) = D (47 + q) := fun q hq => brN_row (by omega) k
    have e0 : brN D k 47 = D 47 := e 0 (by omega)
    exact bring_st (by omega) (hdn.congr e) (ih (by omega)) (by rw [e0]; omega)
theorem lnX_65 {m : Mem} {i : Int} : lnX m i 65 = m 65 := by
  unfold lnX szX wlX fgX psX ptX
  repeat' split
  all_goals simp (disch := omega) only [wr_row]
theorem dl_65 {G : Mem} (k : Nat) : (dl G k).1 65 = G 65 := by
  induction k with
  | zero => rfl
  | succ k ih => show lnX _ _ 65 = _; rw [lnX_65, ih]
theorem rd0_row {m : Mem} {b : Nat} (h : b < 45 ∨ 70 ≤ b) : rd0 m b = m b := by
  unfold rd0
  rw [wr_row (by omega), wr_row (by omega)]
  funext j
  unfold zse zst zdn
  rw [if_neg (by omega), if_neg (by omega), if_neg (by omega)]
theorem DrOk.cc {m M : Mem} (h : DrOk m) (he : ∀ b : Nat, 45 ≤ b → b < 70 → M b = m b) : DrOk M := by
  obtain ⟨h1, h2, h3, h4, h5, h6, h7⟩ := h
  have e : ∀ q, q < 10 → M (47 + q) = m (47 + q) := fun q hq => he _ (by omega) (by omega)
  refine ⟨h1.congr e, h2.congr (he _ (by omega) (by omega)) (he _ (by omega) (by omega)) (fun q hq => he _ (by omega) (by omega)), ?_, ?_, ?_, ?_, ?_⟩
  · rw [he 45 (by omega) (by omega), he 47 (by omega) (by omega)]; exact h3
  · rw [he 63 (by omega) (by omega)]; exact h4
  · rw [he 64 (by omega) (by omega)]; exact h5
  · rw [he 57 (by omega) (by omega)]; exact h6
  · rw [he 57 (by omega) (by omega)]; exact h7
theorem rd0_Rd0 (m : Mem) : Rd0 (rd0 m) ∧ rd0 m 65 0 = 0 := by
  have r : ∀ b : Nat, b ≠ 45 → b ≠ 57 + 8 → rd0 m b = zst (zdn m 47) 57 b := fun b h1 h2 => by unfold rd0; rw [wr_row h1, wr_row h1]; funext j; unfold zse; rw [if_neg h2]
  have e47 : rd0 m 47 = fun j => if j = 0 ∨ j = 1 then 6 else 0 := by rw [r 47 (by decide) (by decide)]; funext j; unfold zst zdn; rw [if_neg (by decide), if_pos rfl]
  refine ⟨⟨⟨by rw [e47]; rfl, by rw [e47]; rfl, by rw [e47]; rfl, by rw [e47]; rfl, by rw [e47]; rfl⟩, ⟨?_, ?_⟩, fun c _ _ => ?_⟩, ?_⟩
  · unfold rd0; rw [wr_ni (by omega), wr_self]
  · unfold rd0; rw [wr_self]
  · rw [r 58 (by decide) (by decide)]; unfold zst; rw [if_pos (by omega)]
  · unfold rd0; rw [wr_row (by omega), wr_row (by omega)]; unfold zse; rw [if_pos rfl]
/-- what the lexer of the class leaves is what the reference's proof speaks of -/
theorem BgOk.te {m0 m G : Mem} {B lim : Int} (hb : BgOk m0 G lim) (h : Inv m B) (e1 : m0 1 1 = m 1 1) (e2 : m0 2 = m 2) (e3 : m0 3 = m 3) (hl : 0 ≤ lim ∧ lim ≤ 900) : TE G (tx m) (m 3) (m 1 1) lim := by
  have et : tx m0 = tx m := by unfold tx; rw [e2]
  have ht := hb.1
  rw [et, e3, e1] at ht
  exact ⟨ht, h.kw, h.tp.2.1, hl, fun j => tx_b m j⟩
theorem ok_u {P : Nat → Prop} {k k' : Nat} (h : ∀ j, j < k → P j) (hk : ¬ P k) (h' : ∀ j, j < k' → P j) (hk' : ¬ P k') : k = k' := by
  apply Classical.byContradiction
  intro z
  rcases Nat.lt_or_gt_of_ne z with z | z
  · exact hk (h' k z)
  · exact hk' (h k' z)
section
variable {m : Mem} {B : Int}
theorem c_downs (h : Inv m B) (hcan : Can m) (hB : 0 ≤ B) : Duo mX11_downs mX12_downs [] m (fun m2 => Inv m2 B) := by
  refine ⟨_, _, (by omega : 8 ≤ 70), ev_X11_downs h.tp.2.1, fun r m1 hq1 => ?_⟩
  obtain ⟨G, mr, r1, hbg, hrd, hend⟩ := hq1
  have hG : ∀ b : Nat, b ≠ 1 → b ≠ 4 → b ≠ 5 → b ≠ 6 → G b = rd0 m b := hbg.2.2.2.2
  have hte : TE G (tx m) (m 3) (m 1 1) 900 := hbg.te h (by rw [rd0_row (by omega)]) (rd0_row (by omega)) (rd0_row (by omega)) (by omega)
  have hG6 : G 1 6 = 0 := hbg.2.2.1
  have hdr : DrOk G := (rd0_ok hcan).cc (fun b h1 h2 => hG b (by omega) (by omega) (by omega) (by omega))
  have hr0 : Rd0 G := by
    have z := (rd0_Rd0 m).1
    unfold Rd0 at *
    rw [hG 47 (by omega) (by omega) (by omega) (by omega), hG 45 (by omega) (by omega) (by omega) (by omega), hG 58 (by omega) (by omega) (by omega) (by omega)]
    exact z
  have hGm : ∀ b : Nat, b ≠ 1 → b ≠ 4 → b ≠ 5 → b ≠ 6 → (b < 45 ∨ 70 ≤ b) → G b = m b := fun b h1 h2 h3 h4 h5 => by rw [hG b h1 h2 h3 h4, rd0_row h5]
  obtain ⟨k, hk, hcs⟩ := hrd
  have nk : ¬ okSt G k := by
    rcases hcs with ⟨z, -⟩ | ⟨-, -, z, -⟩ | ⟨-, -, -, z, -⟩
    · exact fun y => y.1 z
    · exact fun y => z y.2.1
    · exact fun y => z y.2.2
  have kr : ∀ b : Nat, b ≠ 1 → (b < 45 ∨ 70 ≤ b) → mr b = G b := by
    rcases hcs with ⟨-, -, -, he, -⟩ | ⟨-, -, -, -, he⟩ | ⟨-, -, -, -, -, he⟩
    · exact fun b h1 h2 => by rw [he b h1, brN_row (by omega), dl_out k h2]
    · exact he
    · exact he
  have f1 : ∀ b : Nat, b ≠ 1 → b ≠ 4 → b ≠ 5 → b ≠ 6 → (b < 8 ∨ 30 ≤ b) → (b < 45 ∨ 70 ≤ b) → b ≠ 97 → m1 b = m b := by
    intro b b1 b2 b3 b4 b5 b6 b7
    rcases hend with ⟨-, -, hm⟩ | ⟨-, -, hm⟩
    · rw [hm, wr_row b1, kr b b1 b6, hGm b b1 b2 b3 b4 b6]
    · rw [hm, wr_row b7]; unfold cpW; rw [rows_out (by omega), rows_out (by omega), rows_out (by omega), wr_row b1, kr b b1 b6, hGm b b1 b2 b3 b4 b6]
  have f97 : ∀ j : Int, j ≠ 2 → m1 97 j = m 97 j := by
    intro j hj
    rcases hend with ⟨-, -, hm⟩ | ⟨-, -, hm⟩
    · rw [hm, wr_row (by omega), kr 97 (by omega) (by omega), hGm 97 (by omega) (by omega) (by omega) (by omega) (by omega)]
    · rw [hm, wr_ni hj]; unfold cpW; rw [rows_out (by omega), rows_out (by omega), rows_out (by omega), wr_row (by omega), kr 97 (by omega) (by omega), hGm 97 (by omega) (by omega) (by omega) (by omega) (by omega)]
  have f11 : m1 1 1 = 0 := by
    rcases hend with ⟨-, -, hm⟩ | ⟨-, -, hm⟩
    · rw [hm, wr_self]
    · rw [hm, wr_row (by omega)]; unfold cpW; rw [rows_out (by omega), rows_out (by omega), rows_out (by omega), wr_self]
  have f16 : m1 1 6 = mr 1 6 := by
    rcases hend with ⟨-, -, hm⟩ | ⟨-, -, hm⟩
    · rw [hm, wr_ni (by omega)]
    · rw [hm, wr_row (by omega)]; unfold cpW; rw [rows_out (by omega), rows_out (by omega), rows_out (by omega), wr_ni (by omega)]
  have e4 : m1 214 = m 214 := f1 214 (by omega) (by omega) (by omega) (by omega) (by omega) (by omega) (by omega)
  have e5 : m1 215 = m 215 := f1 215 (by omega) (by omega) (by omega) (by omega) (by omega) (by omega) (by omega)
  refine ⟨_, _, (by omega : 7 ≤ 70), ev_X12_downs hte (by rw [e4]; exact h.tp.1) (by rw [e5]; exact h.tp.2.2) hdr hr0, fun r2 m2 hq2 => ?_⟩
  obtain ⟨⟨d1, ⟨d2, d3⟩, d4⟩, k2, hk2, hcs2⟩ := hq2
  have nk2 : ¬ okSt G k2 := by
    rcases hcs2 with ⟨z, -⟩ | ⟨-, -, -, ⟨z, -⟩ | ⟨-, z, -⟩⟩
    · exact fun y => y.1 z
    · exact fun y => z y.2.1
    · exact fun y => z y.2.2
  have ek : k2 = k := ok_u hk2 nk2 hk nk
  subst ek
  have t2 : TpX m2 m2 := TpX.zero (by rw [d1 1 (by omega) (by omega) (by omega) (by omega) (by omega), f11]) d3
  have kk : ∀ (b : Nat) (j : Int), b ≠ 1 → b ≠ 4 → b ≠ 5 → b ≠ 6 → (b < 8 ∨ 30 ≤ b) → (b < 45 ∨ 70 ≤ b) → ¬ (b = 97 ∧ j = 2) → b ≠ 216 → b ≠ 217 → b ≠ 221 → b ≠ 222 → ¬ (b = 214 ∧ (j ≤ 13 ∨ j = 23 ∨ j = 24 ∨ j = 25)) → m2 b j = m b j := fun b j b1 b2 b3 b4 b5 b6 b7 b8 b9 b10 b11 b12 => by
    by_cases z : b = 214
    · subst z; rw [d4 j (by omega), e4]
    · rw [d1 b z b8 b9 b10 b11]
      by_cases y : b = 97
      · subst y; exact f97 j (by omega)
      · rw [f1 b b1 b2 b3 b4 b5 b6 y]
  have mk : Wo m2 8 18 (m2 216) (m2 221) B → HiR m2 B → FaR m2 → Inv m2 B := fun hw hh hf => ⟨hw, hh, fun n a0 b0 => (h.im n a0 b0).c a0 b0 (Int.le_refl _) (fun q j z => kk q j (by omega) (by omega) (by omega) (by omega) (by omega) (by omega) (by omega) (by omega) (by omega) (by omega) (by omega) (by omega)), t2, h.kw.c (fun j => kk 3 j (by omega) (by omega) (by omega) (by omega) (by omega) (by omega) (by omega) (by omega) (by omega) (by omega) (by omega) (by omega)), hf, h.wy.c (fun q j z => kk q j (by omega) (by omega) (by omega) (by omega) (by omega) (by omega) (by omega) (by omega) (by omega) (by omega) (by omega) (by omega)), h.ud.c (fun q j z => kk q j (by omega) (by omega) (by omega) (by omega) (by omega) (by omega) (by omega) (by omega) (by omega) (by omega) (by omega) (by omega)), h.tr.c (fun q j z => kk q j (by omega) (by omega) (by omega) (by omega) (by omega) (by omega) (by omega) (by omega) (by omega) (by omega) (by omega) (by omega)), h.to.c (fun q j z => kk q j (by omega) (by omega) (by omega) (by omega) (by omega) (by omega) (by omega) (by omega) (by omega) (by omega) (by omega) (by omega)), h.sl.c (fun q j z => kk q j (by omega) (by omega) (by omega) (by omega) (by omega) (by omega) (by omega) (by omega) (by omega) (by omega) (by omega) (by omega))⟩
  have fa2 : ∀ x : Int, mr 1 6 = x → m2 214 10 = x → FaR m2 := fun x a b => by unfold FaR; rw [d1 1 (by omega) (by omega) (by omega) (by omega) (by omega), f16, a, b]
  have fail : r1 = -1 → mr 1 3 = G 5 (lnF (dl G k2).1 (dl G k2).2).2 → (m2 216 = m1 216 ∧ m2 221 = m1 221 ∧ m2 214 25 = m1 214 25) → r2 = -1 - G 5 (lnF (dl G k2).1 (dl G k2).2).2 → FaR m2 → r2 = r ∧ Inv m2 B := fun hr1 h3 hs hr2 hf => by
    obtain ⟨s1, s2, s3⟩ := hs
    rcases hend with ⟨-, hr, hm⟩ | ⟨z, -⟩
    · have g1 : ∀ b : Nat, b ≠ 1 → b ≠ 4 → b ≠ 5 → b ≠ 6 → (b < 45 ∨ 70 ≤ b) → m1 b = m b := fun b b1 b2 b3 b4 b6 => by rw [hm, wr_row b1, kr b b1 b6, hGm b b1 b2 b3 b4 b6]
      refine ⟨by rw [hr2, hr, h3], mk (h.w.c (Int.le_refl _) (fun b j z => ?_)) (h.hi.c h.dn (Int.le_refl _) (fun b j z => ?_)) hf⟩
      · by_cases y : b = 216
        · subst y; rw [s1, g1 216 (by omega) (by omega) (by omega) (by omega) (by omega)]
        · by_cases x : b = 221
          · subst x; rw [s2, g1 221 (by omega) (by omega) (by omega) (by omega) (by omega)]
          · rw [d1 b (by omega) (by omega) (by omega) (by omega) (by omega), g1 b (by omega) (by omega) (by omega) (by omega) (by omega)]
      · by_cases y : b = 214
        · subst y; rw [show j = 25 by omega, s3, e4]
        · rw [d1 b (by omega) (by omega) (by omega) (by omega) (by omega), g1 b (by omega) (by omega) (by omega) (by omega) (by omega)]
    · exact absurd hr1 z
  rcases hcs with ⟨c1, c2, c3, c4, c5⟩ | ⟨c1, c2, c3, c4, c5⟩ | ⟨c1, c2, c3, c4, c5, c6⟩
  · rcases hcs2 with ⟨-, a2, a3, a4, a5, a6, a7⟩ | ⟨-, a2, -⟩
    · rcases hend with ⟨z, -⟩ | ⟨-, hr, hm⟩
      · omega
      · refine ⟨by rw [a2, hr, c2], ?_⟩
        have hkn := c5.1.2.2.2.1
        have w8 : ∀ q, q < 10 → m2 (8 + q) = brN (dl G k2).1 ((dl G k2).1 47 3).toNat (47 + q) := fun q hq => by
          rw [d1 _ (by omega) (by omega) (by omega) (by omega) (by omega), hm, wr_row (by omega)]; unfold cpW; rw [rows_out (by omega), rows_out (by omega), rows_in hq, wr_row (by omega), c4 _ (by omega)]
        have w18 : ∀ q, q < 8 → m2 (18 + q) = brN (dl G k2).1 ((dl G k2).1 47 3).toNat (57 + q) := fun q hq => by
          rw [d1 _ (by omega) (by omega) (by omega) (by omega) (by omega), hm, wr_row (by omega)]; unfold cpW; rw [rows_out (by omega), rows_in hq, rows_out (by omega), wr_row (by omega), c4 _ (by omega)]
        have w : SmW (brN (dl G k2).1 ((dl G k2).1 47 3).toNat) 47 57 m2 8 18 := ⟨w8, w18⟩
        have dE : DnOk (brN (dl G k2).1 ((dl G k2).1 47 3).toNat) 47 := c5.1.congr (fun q hq => brN_row (by omega) _)
        have sE : StOk (brN (dl G k2).1 ((dl G k2).1 47 3).toNat) 47 57 0 := brN_st c5.1 c5.2.1 _ (by omega)
        have e26 : m2 26 0 = 0 := by
          rw [d1 26 (by omega) (by omega) (by omega) (by omega) (by omega), hm, wr_row (by omega)]
          unfold cpW
          rw [show (26 : Nat) = 18 + 8 + 0 from rfl, rows_in (by omega), rows_out (by omega), rows_out (by omega), wr_row (by omega), c4 _ (by omega), brN_row (by omega)]
          show (dl G k2).1 65 0 = 0
          rw [dl_65, hG 65 (by omega) (by omega) (by omega) (by omega)]
          exact (rd0_Rd0 m).2
        have e972 : m2 97 2 = 0 := by rw [d1 97 (by omega) (by omega) (by omega) (by omega) (by omega), hm, wr_self]
        have e971 : m2 97 1 = m 97 1 := by rw [d1 97 (by omega) (by omega) (by omega) (by omega) (by omega), f97 1 (by omega)]
        refine mk ⟨w.dn dE, (w.sto sE).up hB, a5.sm w, a6.mv c5.1 (fun q hq => by rw [w8 q hq, brN_row (by omega)]) (fun _ _ _ => rfl), ⟨⟨fun _ => a7 232 (by omega) (by omega), fun _ => e26⟩, fun z => absurd (a7 232 (by omega) (by omega)) z⟩⟩ ⟨⟨by rw [e971]; exact h.hi.1.1, by rw [e972]; omega⟩, by rw [a4, e972], fun q x y => by rw [e972] at y; omega⟩ (fa2 0 ?_ a3)
        rw [c3.2.2.2.2.2.2.2.2.2.2.1, hG6]
    · exact absurd c1 a2
  · rcases hcs2 with ⟨a1, -⟩ | ⟨a1, -, a3, a4⟩
    · exact absurd a1 c2
    · obtain ⟨-, -, p3, -, -, p6, -⟩ := c4
      rw [show (lnF (dl G k2).1 (dl G k2).2).2 + 1 - 1 = (lnF (dl G k2).1 (dl G k2).2).2 by omega] at p3
      rcases a4 with ⟨-, a4⟩ | ⟨z, -⟩
      · exact fail c1 p3 a1 a3 (fa2 _ p6 a4)
      · exact absurd z c3
  · rcases hcs2 with ⟨a1, -⟩ | ⟨a1, -, a3, a4⟩
    · exact absurd a1 c2
    · obtain ⟨-, -, p3, -, -, p6, -⟩ := c5
      rw [show (lnF (dl G k2).1 (dl G k2).2).2 + 1 - 1 = (lnF (dl G k2).1 (dl G k2).2).2 by omega] at p3
      rcases a4 with ⟨z, -⟩ | ⟨-, -, a4⟩
      · exact absurd c3 z
      · exact fail c1 p3 a1 a3 (fa2 _ p6 a4)
end
