/-! ===== the calls, one by one: hours by draws, undo, images ===== -/
def S7 (m M : Mem) : Prop := SmW m 8 18 M 8 18 ∧ M 7 3 = m 7 3
section
variable {m M : Mem}
theorem S7.dw (h : S7 m M) : S7 (drw m 7) (drw M 7) := by
  refine ⟨⟨fun k hk => ?_, fun k hk => ?_⟩, ?_⟩
  · unfold drw; rw [wr_row (by omega), wr_row (by omega)]; exact h.1.1 k hk
  · unfold drw; rw [wr_row (by omega), wr_row (by omega)]; exact h.1.2 k hk
  · unfold drw; rw [wr_self, wr_self, h.2]
theorem S7.dv (h : S7 m M) (n : Int) : drv M 7 n = drv m 7 n := by unfold drv; rw [h.2]
theorem S7.fr {m' M' : Mem} (h : S7 m M) (hs : SmW m' 8 18 M' 8 18) (f1 : m' 7 = m 7) (f2 : M' 7 = M 7) : S7 m' M' := ⟨hs, by rw [f1, f2]; exact h.2⟩
theorem S7.sy (h : S7 m M) (p f s : Int) : S7 (sayIf m 8 18 p f s) (sayIf M 8 18 p f s) := by
  unfold sayIf
  rw [h.1.whySay]
  by_cases q : whySayC m 8 18 p f s = 0
  · rw [if_pos q, if_pos q]; exact h.fr (h.1.say (by omega) (by omega) p f s) (sayC_fr 7 (by omega)) (sayC_fr 7 (by omega))
  · rw [if_neg q, if_neg q]; exact h
theorem S7.kk (h : S7 m M) (p s : Int) : S7 (kickIf m 8 18 p s) (kickIf M 8 18 p s) := by
  unfold kickIf
  rw [h.1.whyKick]
  by_cases q : whyKickC m 8 18 p s = 0
  · rw [if_pos q, if_pos q]; exact h.fr (h.1.kick (by omega) (by omega) p s) (kickC_fr 7 (by omega)) (kickC_fr 7 (by omega))
  · rw [if_neg q, if_neg q]; exact h
theorem S7.rs (h : S7 m M) (p : Int) : S7 (restIf m 8 18 p) (restIf M 8 18 p) := by
  unfold restIf
  rw [h.1.2 5 (by omega), h.1.1 5 (by omega)]
  by_cases q : m (18 + 5) p = m (8 + 5) p
  · rw [if_pos q, if_pos q]; exact h
  · rw [if_neg q, if_neg q]; exact h.fr (h.1.rest (by omega) (by omega) p) (restC_fr 7 (by omega)) (restC_fr 7 (by omega))
theorem S7.act (h : S7 m M) (p : Int) : S7 (actC m 7 8 18 p) (actC M 7 8 18 p) := by
  unfold actC
  rw [h.dv, h.1.d0, h.dw.dv, h.dw.dv]
  by_cases q : drv m 7 8 < 4
  · rw [if_pos q, if_pos q]
    by_cases z : 0 < m 8 2
    · rw [if_pos z, if_pos z]; exact h.dw.dw.sy _ _ _
    · rw [if_neg z, if_neg z]; exact h.dw
  · rw [if_neg q, if_neg q]
    by_cases q6 : drv m 7 8 < 6
    · rw [if_pos q6, if_pos q6]; exact h.dw.dw.kk _ _
    · rw [if_neg q6, if_neg q6]
      by_cases q7 : drv m 7 8 = 6
      · rw [if_pos q7, if_pos q7]; exact h.dw.rs _
      · rw [if_neg q7, if_neg q7]; exact h.dw
theorem S7.acts (h : S7 m M) : ∀ n : Nat, S7 (actsC m 7 8 18 n) (actsC M 7 8 18 n) := by
  intro n
  induction n with
  | zero => exact h
  | succ n ih => exact ih.act _
theorem S7.hours (h : S7 m M) : ∀ n : Nat, S7 (hoursC m 7 8 18 n) (hoursC M 7 8 18 n) := by
  intro n
  induction n with
  | zero => exact h
  | succ n ih =>
    show S7 (passC (actsC (hoursC m 7 8 18 n) 7 8 18 (m 8 3).toNat) 8 18 1) (passC (actsC (hoursC M 7 8 18 n) 7 8 18 (M 8 3).toNat) 8 18 1)
    rw [h.1.d0]
    have k := ih.acts (m 8 3).toNat
    exact k.fr (k.1.pass (by omega) (by omega) 1) (passC_fr 7 (by omega)) (passC_fr 7 (by omega))
end
section
variable {m : Mem} {B : Int}
theorem c_drawn {n seed : Int} (h : Inv m B) (hB : 0 ≤ B ∧ B ≤ 100000000) (hn : InR n) (hs : InR seed) : Duo mX11_drawn mX12_drawn [vi n, vi seed] m (fun m2 => Inv m2 (B + 300)) := by
  have hh := h.hi.1
  have h4 := h.st.1
  refine ⟨_, _, (by omega : 9 ≤ 70), ev_X11_drawn h.dn h.st hB hh hn hs, fun r m1 hq => ?_⟩
  rcases hq with ⟨o, hr, hm⟩ | ⟨ho, hr, hm⟩
  · by_cases w : 0 < min n (400 - m 18 0)
    · rw [if_pos w] at hm
      have sm := keep_sm hh
      have s7 : S7 (wr m 7 3 seed) (wr (keepC m 18) 7 3 seed) := ⟨⟨fun q hq => by rw [wr_row (by omega), wr_row (by omega)]; exact sm.1 q hq, fun q hq => by rw [wr_row (by omega), wr_row (by omega)]; exact sm.2 q hq⟩, by rw [wr_self, wr_self]⟩
      have hd0 : DnOk (wr (keepC m 18) 7 3 seed) 8 := (keepC_dn hh (by omega) h.dn).congr (fun q hq => wr_row (by omega))
      have hs0 : StOk (wr (keepC m 18) 7 3 seed) 8 18 B := (keepC_st hh (by omega) (by omega) h.st).congr (wr_row (by omega)) (wr_row (by omega)) (fun q hq => wr_row (by omega))
      have e18 : wr (keepC m 18) 7 3 seed 18 0 = m 18 0 := by rw [wr_row (by omega), sm.s0]
      have ok := (hoursC_st isWd_7 hd0 hs0 (min n (400 - m 18 0)).toNat (by rw [e18]; omega)).1
      rw [← hm] at ok
      have fr : ∀ b : Nat, b ≠ 7 → (b < 18 ∨ 26 ≤ b) → m1 b = keepC m 18 b := fun b h7 hb => by rw [hm, hoursC_fr _ b h7 hb, wr_row h7]
      have e6 : m1 216 = m 216 := by rw [fr 216 (by omega) (by omega), keepC_row hh (by omega)]
      have e4 : m1 214 = m 214 := by rw [fr 214 (by omega) (by omega), keepC_row hh (by omega)]
      refine ⟨_, _, (by omega : 9 ≤ 70), ev_X12_drawn (G := m) (B := B) isWd_7 (by rw [e6]; exact h.bg) h.dn h.st (by rw [e4]; exact h.n25) hn hs ⟨hB.1, by omega⟩, fun r2 m2 hq2 => ?_⟩
      rcases hq2 with ⟨ho, -⟩ | ⟨-, hr2, hc⟩
      · exact absurd o ho
      · rcases hc with ⟨hc, -⟩ | ⟨-, mA, hS, hsd, hb⟩
        · omega
        · refine ⟨by rw [hr2, hr], act_inv (B' := B + 300) h (by omega) fr (ok.up (by omega)) hS hsd ?_⟩
          rw [hm]
          exact hb.sm (s7.hours _).1
    · rw [if_neg w] at hm
      subst hm
      refine ⟨_, _, (by omega : 9 ≤ 70), ev_X12_drawn isWd_7 h.bg h.dn h.st h.n25 hn hs ⟨hB.1, by omega⟩, fun r2 m2 hq2 => ?_⟩
      rcases hq2 with ⟨ho, -⟩ | ⟨-, hr2, hc⟩
      · exact absurd o ho
      · rcases hc with ⟨-, hc⟩ | ⟨hc, -⟩
        · subst hc
          exact ⟨by rw [hr2, hr], h.t0.all (by omega) (fun _ _ _ => rfl)⟩
        · omega
  · subst hm
    refine ⟨_, _, (by omega : 9 ≤ 70), ev_X12_drawn isWd_7 h.bg h.dn h.st h.n25 hn hs ⟨hB.1, by omega⟩, fun r2 m2 hq2 => ?_⟩
    rcases hq2 with ⟨-, hr2, hm2⟩ | ⟨o, -⟩
    · subst hm2
      exact ⟨by rw [hr2, hr], h.t0.all (by omega) (fun _ _ _ => rfl)⟩
    · exact absurd o ho
theorem c_undo (h : Inv m B) : Duo mX11_undo mX12_undo [] m (fun m2 => Inv m2 B) := by
  obtain ⟨hh, h25, hk⟩ := h.hi
  refine ⟨_, _, (by omega : 6 ≤ 70), ev_X11_undo hh, fun r m1 hq => ?_⟩
  rcases hq with ⟨z, hr, hm⟩ | ⟨z, hr, hm⟩
  · subst hm
    refine ⟨_, _, (by omega : 1 ≤ 70), ev_X12_undo h.n25, fun r2 m2 hq2 => ?_⟩
    rcases hq2 with ⟨-, hr2, hm2⟩ | ⟨z2, -⟩
    · subst hm2; exact ⟨by rw [hr2, hr], h.t0⟩
    · rw [h25] at z2; exact absurd z z2
  · obtain ⟨⟨i0, i1⟩, c0, c1⟩ := id hh
    have hb := hs8_b (i := (m 97 1 + 7) % 8) (by omega) (by omega)
    have f1 : ∀ b : Nat, b ≠ 97 → (b < 18 ∨ 26 ≤ b) → m1 b = m b := fun b h1 h2 => by rw [hm]; unfold backC; rw [wr_row h1, rows_out h2, wr_row h1]
    have f2 : ∀ q, q < 8 → m1 (18 + q) = m (hs8 ((m 97 1 + 7) % 8) + q) := fun q hq => by rw [hm]; unfold backC; rw [wr_row (by omega), rows_in hq, wr_row (by omega)]
    have f3 : m1 97 1 = (m 97 1 + 7) % 8 := by rw [hm]; unfold backC; rw [wr_ni (by omega), rows_out (by omega), wr_self]
    have f4 : m1 97 2 = m 97 2 - 1 := by rw [hm]; unfold backC; rw [wr_self]
    have e4 : m1 214 = m 214 := f1 214 (by omega) (by omega)
    refine ⟨_, _, (by omega : 1 ≤ 70), ev_X12_undo (by rw [e4]; exact h.n25), fun r2 m2 hq2 => ?_⟩
    rcases hq2 with ⟨z2, -⟩ | ⟨-, hr2, hm2⟩
    · rw [e4, h25] at z2; exact absurd z2 z
    · rw [e4, h25] at hm2 hr2
      refine ⟨by rw [hr2, hr], ?_⟩
      have g1 : ∀ b : Nat, b ≠ 214 → b ≠ 216 → m2 b = m1 b := fun b h1 h2 => by rw [hm2, mov_row h2, wr_row h1, wr_row h1]
      have g4 : ∀ j : Int, j ≠ 25 → j ≠ 0 → m2 214 j = m 214 j := fun j h1 h2 => by rw [hm2, mov_row (by omega), wr_ni h1, wr_ni h2, e4]
      have g5 : m2 214 25 = m 97 2 - 1 := by rw [hm2, mov_row (by omega), wr_self]
      have g6 : ∀ j : Int, (j < 123 ∨ 232 ≤ j) → m2 216 j = m 216 j := fun j hj => by rw [hm2, mov_out (by omega), wr_row (by omega), wr_row (by omega), f1 216 (by omega) (by omega)]
      have g7 : ∀ j : Int, 123 ≤ j → j < 232 → m2 216 j = m 219 (109 * (m 97 2 - 1) + (j - 123)) := fun j h0 h1 => by rw [hm2, mov_in h0 (by omega), wr_row (by omega), wr_row (by omega), f1 219 (by omega) (by omega)]
      have k : ∀ (b : Nat) (j : Int), (b < 18 ∨ 26 ≤ b) → b ≠ 97 → b ≠ 216 → ¬ (b = 214 ∧ (j = 25 ∨ j = 0)) → m2 b j = m b j := fun b j h1 h3 h4 h6 => by
        by_cases q : b = 214
        · subst q; exact g4 j (by omega) (by omega)
        · rw [g1 b q h4, f1 b h3 h1]
      have hd : ∀ q, q < 10 → m2 (8 + q) = m (8 + q) := fun q hq => funext (fun j => k _ j (by omega) (by omega) (by omega) (by omega))
      have e8 : m2 8 = m 8 := hd 0 (by omega)
      have hdn : DnOk m2 8 := h.dn.congr hd
      have e71 : m2 97 1 = (m 97 1 + 7) % 8 := by rw [g1 97 (by omega) (by omega), f3]
      have e72 : m2 97 2 = m 97 2 - 1 := by rw [g1 97 (by omega) (by omega), f4]
      have hr3 := hk (m 97 2 - 1) (by omega) (by omega)
      rw [show (m 97 1 - m 97 2 + (m 97 2 - 1)) % 8 = (m 97 1 + 7) % 8 by omega] at hr3
      have w : SmW m 8 (hs8 ((m 97 1 + 7) % 8)) m2 8 18 := ⟨hd, fun q hq => by rw [g1 _ (by omega) (by omega), f2 q hq]⟩
      refine ⟨⟨hdn, w.sto hr3.1, ⟨(h.bg.1.congr h.dn hd (fun j hj => g6 j (by omega))), (hr3.2.sm w).nn hdn g7⟩, h.nm.mv h.dn hd (fun j _ _ => k 221 j (by omega) (by omega) (by omega) (by omega)), ?_⟩, ⟨⟨by rw [e71]; omega, by rw [e72]; omega⟩, by rw [g5, e72], fun q a b => ?_⟩, fun n a0 b0 => (h.im n a0 b0).c a0 b0 (Int.le_refl _) (fun q j z => k q j (by omega) (by omega) (by omega) (by omega)), h.tp.c2 (fun q j z => k q j (by omega) (by omega) (by omega) (by omega)), h.kw.c (fun j => k 3 j (by omega) (by omega) (by omega) (by omega)), h.fa.c (fun q j z => k q j (by omega) (by omega) (by omega) (by omega)), h.wy.c (fun q j z => k q j (by omega) (by omega) (by omega) (by omega)), h.ud.c (fun q j z => k q j (by omega) (by omega) (by omega) (by omega)), h.tr.c (fun q j z => k q j (by omega) (by omega) (by omega) (by omega)), h.to.c (fun q j z => k q j (by omega) (by omega) (by omega) (by omega)), h.sl.c (fun q j z => k q j (by omega) (by omega) (by omega) (by omega))⟩
      · show SenR m2 26 (m2 8 3) (m2 216)
        rw [e8]
        exact h.se.mv (fun q hq => funext (fun j => k _ j (by omega) (by omega) (by omega) (by omega))) (fun j a b => g6 j (by omega))
      · rw [e72] at b
        rw [e71, e72, show ((m 97 1 + 7) % 8 - (m 97 2 - 1) + q) % 8 = (m 97 1 - m 97 2 + q) % 8 by omega]
        have hq8 := hs8_b (i := (m 97 1 - m 97 2 + q) % 8) (by omega) (by omega)
        exact (hk q a (by omega)).c h.dn (Int.le_refl _) hd (fun u hu => funext (fun j => k _ j (by omega) (by omega) (by omega) (by omega))) (funext (fun j => k _ j (by omega) (by omega) (by omega) (by omega)))
theorem ImR.c1 {m m' : Mem} {B k : Int} (h : ImR m B k) (h0 : 0 ≤ k) (he : ∀ b : Nat, imW k + 1 ≤ b → b < imW k + 24 → m' b = m b) (h2 : m' 212 k = m 212 k) (h4 : m' 224 k = m 224 k) (h8 : ∀ j : Int, 0 ≤ j → j < 474 → m' 218 (474 * k + j) = m 218 (474 * k + j)) (h3 : ∀ j : Int, 0 ≤ j → j < 16 → m' 223 (16 * k + j) = m 223 (16 * k + j)) : ImR m' B k :=
  ⟨by rw [h2, h4]; exact h.1, fun hz => (h.2 (by rw [← h2]; exact hz)).mv ⟨fun q hq => he _ (by omega) (by omega), fun q hq => he _ (by omega) (by omega)⟩ (fun q hq => he _ (by omega) (by omega)) h8 h3 (Int.le_refl _)⟩
theorem c_image {k : Int} (h : Inv m B) (hk : InR k) : Duo mX11_image mX12_image [vi k] m (fun m2 => Inv m2 B) := by
  refine ⟨_, _, (by omega : 6 ≤ 70), ev_X11_image hk, fun r m1 hq => ?_⟩
  rcases hq with ⟨o, hr, hm⟩ | ⟨o, hr, hm⟩
  · have hi : imW k = 164 + 24 * k.toNat := rfl
    refine ⟨_, _, (by omega : 2 ≤ 70), ev_X12_image hk, fun r2 m2 hq2 => ?_⟩
    rcases hq2 with ⟨-, hr2, hm2⟩ | ⟨o2, -⟩
    · refine ⟨by rw [hr2, hr], ?_⟩
      have f1 : ∀ b : Nat, b ≠ 212 → (b < imW k + 1 ∨ imW k + 23 ≤ b) → m1 b = m b := fun b h1 h2 => by
        rw [hm]; unfold cpW; rw [wr_row h1, rows_out (by omega), rows_out (by omega), rows_out (by omega)]
      have f2 : ∀ q, q < 10 → m1 (imW k + 1 + q) = m (8 + q) := fun q hq => by
        rw [hm]; unfold cpW; rw [wr_row (by omega), rows_out (by omega), rows_out (by omega), rows_in hq]
      have f3 : ∀ q, q < 8 → m1 (imW k + 11 + q) = m (18 + q) := fun q hq => by
        rw [hm]; unfold cpW; rw [wr_row (by omega), rows_out (by omega), rows_in hq, rows_out (by omega)]
      have f4 : ∀ q, q < 4 → m1 (imW k + 11 + 8 + q) = m (18 + 8 + q) := fun q hq => by
        rw [hm]; unfold cpW; rw [wr_row (by omega), rows_in hq, rows_out (by omega), rows_out (by omega)]
      have f5 : ∀ j : Int, j ≠ k → m1 212 j = m 212 j := fun j hj => by
        rw [hm]; unfold cpW; rw [wr_ni hj, rows_out (by omega), rows_out (by omega), rows_out (by omega)]
      have f6 : m1 212 k = 1 := by rw [hm, wr_self]
      have g1 : ∀ b : Nat, b ≠ 214 → b ≠ 218 → b ≠ 223 → b ≠ 224 → m2 b = m1 b := fun b h1 h2 h3 h4 => by
        rw [hm2]; unfold imgC; rw [wr_row h4, mov_row h3, mov_row h2, wr_row h1]
      have g2 : ∀ j : Int, j ≠ 0 → m2 214 j = m1 214 j := fun j hj => by
        rw [hm2]; unfold imgC; rw [wr_row (by omega), mov_row (by omega), mov_row (by omega), wr_ni hj]
      have g3 : ∀ j : Int, j ≠ k → m2 224 j = m1 224 j := fun j hj => by
        rw [hm2]; unfold imgC; rw [wr_ni hj, mov_row (by omega), mov_row (by omega), wr_row (by omega)]
      have g4 : m2 224 k = 1 := by rw [hm2]; unfold imgC; rw [wr_self]
      have g5 : ∀ j : Int, 0 ≤ j → j < 474 → m2 218 (474 * k + j) = m 216 j := fun j h0 h1 => by
        rw [hm2]; unfold imgC; rw [wr_row (by omega), mov_row (by omega), mov_in (by omega) (by omega), wr_row (by omega), f1 216 (by omega) (by omega)]; congr 1; omega
      have g6 : ∀ j : Int, (j < 474 * k ∨ 474 * k + 474 ≤ j) → m2 218 j = m 218 j := fun j h0 => by
        rw [hm2]; unfold imgC; rw [wr_row (by omega), mov_row (by omega), mov_out h0, wr_row (by omega), f1 218 (by omega) (by omega)]
      have g7 : ∀ j : Int, 0 ≤ j → j < 16 → m2 223 (16 * k + j) = m 221 j := fun j h0 h1 => by
        rw [hm2]; unfold imgC; rw [wr_row (by omega), mov_in (by omega) (by omega), mov_row (by omega), wr_row (by omega), f1 221 (by omega) (by omega)]; congr 1; omega
      have g8 : ∀ j : Int, (j < 16 * k ∨ 16 * k + 16 ≤ j) → m2 223 j = m 223 j := fun j h0 => by
        rw [hm2]; unfold imgC; rw [wr_row (by omega), mov_out h0, mov_row (by omega), wr_row (by omega), f1 223 (by omega) (by omega)]
      have kk : ∀ (b : Nat) (j : Int), (b < 164 ∨ 213 ≤ b) → b ≠ 218 → b ≠ 223 → b ≠ 224 → ¬ (b = 214 ∧ j = 0) → m2 b j = m b j := fun b j h1 h2 h3 h4 h5 => by
        by_cases q : b = 214
        · subst q; rw [g2 j (by omega), f1 214 (by omega) (by omega)]
        · rw [g1 b q h2 h3 h4, f1 b (by omega) (by omega)]
      refine ⟨h.w.c (Int.le_refl _) (fun q j z => kk q j (by omega) (by omega) (by omega) (by omega) (by omega)), h.hi.c h.dn (Int.le_refl _) (fun q j z => kk q j (by omega) (by omega) (by omega) (by omega) (by omega)), fun n a0 b0 => ?_, h.tp.c2 (fun q j z => kk q j (by omega) (by omega) (by omega) (by omega) (by omega)), h.kw.c (fun j => kk 3 j (by omega) (by omega) (by omega) (by omega) (by omega)), h.fa.c (fun q j z => kk q j (by omega) (by omega) (by omega) (by omega) (by omega)), h.wy.c (fun q j z => kk q j (by omega) (by omega) (by omega) (by omega) (by omega)), h.ud.c (fun q j z => kk q j (by omega) (by omega) (by omega) (by omega) (by omega)), h.tr.c (fun q j z => kk q j (by omega) (by omega) (by omega) (by omega) (by omega)), h.to.c (fun q j z => kk q j (by omega) (by omega) (by omega) (by omega) (by omega)), h.sl.c (fun q j z => kk q j (by omega) (by omega) (by omega) (by omega) (by omega))⟩
      by_cases q : n = k
      · subst q
        refine ⟨by rw [g4, g1 212 (by omega) (by omega) (by omega) (by omega), f6], fun _ => h.w.mv ⟨fun u hu => ?_, fun u hu => ?_⟩ (fun u hu => ?_) g5 g7 (Int.le_refl _)⟩
        · rw [g1 _ (by omega) (by omega) (by omega) (by omega)]; exact f2 u hu
        · rw [g1 _ (by omega) (by omega) (by omega) (by omega)]; exact f3 u hu
        · rw [g1 _ (by omega) (by omega) (by omega) (by omega)]; exact f4 u hu
      · have hi2 : imW n = 164 + 24 * n.toNat := rfl
        exact (h.im n a0 b0).c1 a0 (fun b h1 h2 => by rw [g1 b (by omega) (by omega) (by omega) (by omega), f1 b (by omega) (by omega)]) (by rw [g1 212 (by omega) (by omega) (by omega) (by omega), f5 n q]) (by rw [g3 n q, f1 224 (by omega) (by omega)]) (fun j h1 h2 => g6 _ (by omega)) (fun j h1 h2 => g8 _ (by omega))
    · exact absurd o o2
  · subst hm
    refine ⟨_, _, (by omega : 2 ≤ 70), ev_X12_image hk, fun r2 m2 hq2 => ?_⟩
    rcases hq2 with ⟨o2, -⟩ | ⟨-, hr2, hm2⟩
    · exact absurd o2 o
    · subst hm2; exact ⟨by rw [hr2, hr], h.t0⟩
theorem c_restore {k : Int} (h : Inv m B) (hk : InR k) : Duo mX11_restore mX12_restore [vi k] m (fun m2 => Inv m2 B) := by
  refine ⟨_, _, (by omega : 6 ≤ 70), ev_X11_restore hk, fun r m1 hq => ?_⟩
  rcases hq with ⟨⟨o1, o2, o3⟩, hr, hm⟩ | ⟨o, hr, hm⟩
  · have hi : imW k = 164 + 24 * k.toNat := rfl
    obtain ⟨i1, i2⟩ := h.im k o1 o2
    have f1 : ∀ b : Nat, b ≠ 97 → (b < 8 ∨ 30 ≤ b) → m1 b = m b := fun b h1 h2 => by
      rw [hm]; unfold cpW; rw [wr_row h1, rows_out (by omega), rows_out (by omega), rows_out (by omega)]
    have f2 : ∀ q, q < 10 → m1 (8 + q) = m (imW k + 1 + q) := fun q hq => by
      rw [hm]; unfold cpW; rw [wr_row (by omega), rows_out (by omega), rows_out (by omega), rows_in hq]
    have f3 : ∀ q, q < 8 → m1 (18 + q) = m (imW k + 11 + q) := fun q hq => by
      rw [hm]; unfold cpW; rw [wr_row (by omega), rows_out (by omega), rows_in hq, rows_out (by omega)]
    have f4 : ∀ q, q < 4 → m1 (18 + 8 + q) = m (imW k + 11 + 8 + q) := fun q hq => by
      rw [hm]; unfold cpW; rw [wr_row (by omega), rows_in hq, rows_out (by omega), rows_out (by omega)]
    have f5 : ∀ j : Int, j ≠ 2 → m1 97 j = m 97 j := fun j hj => by
      rw [hm]; unfold cpW; rw [wr_ni hj, rows_out (by omega), rows_out (by omega), rows_out (by omega)]
    have f6 : m1 97 2 = 0 := by rw [hm, wr_self]
    refine ⟨_, _, (by omega : 2 ≤ 70), ev_X12_restore hk, fun r2 m2 hq2 => ?_⟩
    rcases hq2 with ⟨-, hr2, hm2⟩ | ⟨z, -⟩
    · refine ⟨by rw [hr2, hr], ?_⟩
      have g1 : ∀ b : Nat, b ≠ 214 → b ≠ 216 → b ≠ 221 → m2 b = m1 b := fun b h1 h2 h3 => by
        rw [hm2]; unfold resC; rw [wr_row h1, mov_row h3, mov_row h2, wr_row h1]
      have g2 : ∀ j : Int, j ≠ 0 → j ≠ 25 → m2 214 j = m1 214 j := fun j hj h25 => by
        rw [hm2]; unfold resC; rw [wr_ni h25, mov_row (by omega), mov_row (by omega), wr_ni hj]
      have g4 : m2 214 25 = 0 := by rw [hm2]; unfold resC; rw [wr_self]
      have g5 : ∀ j : Int, 0 ≤ j → j < 474 → m2 216 j = m 218 (474 * k + j) := fun j h0 h1 => by
        rw [hm2]; unfold resC; rw [wr_row (by omega), mov_row (by omega), mov_in (by omega) (by omega), wr_row (by omega), f1 218 (by omega) (by omega)]; congr 1; omega
      have g7 : ∀ j : Int, 0 ≤ j → j < 16 → m2 221 j = m 223 (16 * k + j) := fun j h0 h1 => by
        rw [hm2]; unfold resC; rw [wr_row (by omega), mov_in (by omega) (by omega), mov_row (by omega), wr_row (by omega), f1 223 (by omega) (by omega)]; congr 1; omega
      have kk : ∀ (b : Nat) (j : Int), (b < 8 ∨ 30 ≤ b) → b ≠ 97 → b ≠ 216 → b ≠ 221 → ¬ (b = 214 ∧ (j = 0 ∨ j = 25)) → m2 b j = m b j := fun b j h1 h2 h3 h4 h5 => by
        by_cases q : b = 214
        · subst q; rw [g2 j (by omega) (by omega), f1 214 (by omega) (by omega)]
        · rw [g1 b q h3 h4, f1 b h2 h1]
      have e1 : m2 97 1 = m 97 1 := by rw [g1 97 (by omega) (by omega) (by omega), f5 1 (by omega)]
      have e2 : m2 97 2 = 0 := by rw [g1 97 (by omega) (by omega) (by omega), f6]
      have hh := h.hi.1
      refine ⟨(i2 o3).mv ⟨fun u hu => ?_, fun u hu => ?_⟩ (fun u hu => ?_) g5 g7 (Int.le_refl _), ⟨⟨by rw [e1]; exact hh.1, by rw [e2]; omega⟩, by rw [g4, e2], fun q a b => by rw [e2] at b; omega⟩, fun n a0 b0 => (h.im n a0 b0).c a0 b0 (Int.le_refl _) (fun q j z => kk q j (by omega) (by omega) (by omega) (by omega) (by omega)), h.tp.c2 (fun q j z => kk q j (by omega) (by omega) (by omega) (by omega) (by omega)), h.kw.c (fun j => kk 3 j (by omega) (by omega) (by omega) (by omega) (by omega)), h.fa.c (fun q j z => kk q j (by omega) (by omega) (by omega) (by omega) (by omega)), h.wy.c (fun q j z => kk q j (by omega) (by omega) (by omega) (by omega) (by omega)), h.ud.c (fun q j z => kk q j (by omega) (by omega) (by omega) (by omega) (by omega)), h.tr.c (fun q j z => kk q j (by omega) (by omega) (by omega) (by omega) (by omega)), h.to.c (fun q j z => kk q j (by omega) (by omega) (by omega) (by omega) (by omega)), h.sl.c (fun q j z => kk q j (by omega) (by omega) (by omega) (by omega) (by omega))⟩
      · rw [g1 _ (by omega) (by omega) (by omega)]; exact f2 u hu
      · rw [g1 _ (by omega) (by omega) (by omega)]; exact f3 u hu
      · rw [g1 _ (by omega) (by omega) (by omega)]; exact f4 u hu
    · exact absurd ⟨o1, o2, by rw [f1 224 (by omega) (by omega), ← i1]; exact o3⟩ z
  · subst hm
    refine ⟨_, _, (by omega : 2 ≤ 70), ev_X12_restore hk, fun r2 m2 hq2 => ?_⟩
    rcases hq2 with ⟨⟨o1, o2, o3⟩, -⟩ | ⟨-, hr2, hm2⟩
    · exact absurd ⟨o1, o2, by rw [(h.im k o1 o2).1]; exact o3⟩ o
    · subst hm2; exact ⟨by rw [hr2, hr], h.t0⟩
end
