/-! ===== the calls, one by one: a SENTENCE, a BOOK ===== -/
section
variable {m : Mem} {B : Int}
theorem zse_row {m : Mem} {e b : Nat} (h : b ≠ e) : zse m e b = m b := by funext j; unfold zse; rw [if_neg h]
theorem rb_aux {x : Int} {y : Nat} (a : (0 : Int) + 1 ≤ x ∧ x ≤ 20 ∧ (y : Int) + 1 ≤ 2 * (x - 0)) : x ≠ 0 ∧ y ≤ 40 := by omega
theorem c_sentence (h : Inv m B) : Duo mX11_sentence mX12_sentence [] m (fun m2 => Inv m2 B) := by
  refine ⟨_, _, (by omega : 54 ≤ 70), ev_X11_sentence h.tp.2.1 h.dn, fun r m1 hq1 => ?_⟩
  obtain ⟨G, mr, r1, hbg, hrd, hend⟩ := hq1
  have hG : ∀ b : Nat, b ≠ 1 → b ≠ 4 → b ≠ 5 → b ≠ 6 → b ≠ 76 → G b = m b := fun b h1 h2 h3 h4 h5 => by rw [hbg.2.2.2.2 b h1 h2 h3 h4, zse_row h5]
  have hte : TE G (tx m) (m 3) (m 1 1) 200 := hbg.te h (by rw [zse_row (by omega)]) (zse_row (by omega)) (zse_row (by omega)) (by omega)
  have hG6 : G 1 6 = 0 := hbg.2.2.1
  have kr : ∀ b : Nat, b ≠ 1 → (b < 76 ∨ 80 ≤ b) → mr b = G b := by
    rcases hrd with ⟨-, -, -, -, -, -, -, -, he⟩ | ⟨-, ⟨-, -, he⟩ | ⟨-, -, -, he⟩⟩
    · exact he
    · exact he
    · exact he
  have f1 : ∀ b : Nat, b ≠ 1 → b ≠ 4 → b ≠ 5 → b ≠ 6 → (b < 26 ∨ 30 ≤ b) → (b < 76 ∨ 80 ≤ b) → m1 b = m b := by
    intro b b1 b2 b3 b4 b5 b6
    rcases hend with ⟨-, -, hm⟩ | ⟨-, -, hm⟩
    · rw [hm, wr_row b1, kr b b1 b6, hG b b1 b2 b3 b4 (by omega)]
    · rw [hm, rows_out (by omega), wr_row b1, kr b b1 b6, hG b b1 b2 b3 b4 (by omega)]
  have f11 : m1 1 1 = 0 := by
    rcases hend with ⟨-, -, hm⟩ | ⟨-, -, hm⟩
    · rw [hm, wr_self]
    · rw [hm, rows_out (by omega), wr_self]
  have f16 : m1 1 6 = mr 1 6 := by
    rcases hend with ⟨-, -, hm⟩ | ⟨-, -, hm⟩
    · rw [hm, wr_ni (by omega)]
    · rw [hm, rows_out (by omega), wr_ni (by omega)]
  have e4 : m1 214 = m 214 := f1 214 (by omega) (by omega) (by omega) (by omega) (by omega) (by omega)
  have e5 : m1 215 = m 215 := f1 215 (by omega) (by omega) (by omega) (by omega) (by omega) (by omega)
  have e6 : m1 216 = m 216 := f1 216 (by omega) (by omega) (by omega) (by omega) (by omega) (by omega)
  have e21 : m1 221 = m 221 := f1 221 (by omega) (by omega) (by omega) (by omega) (by omega) (by omega)
  have gd : ∀ q, q < 10 → G (8 + q) = m (8 + q) := fun q hq => hG _ (by omega) (by omega) (by omega) (by omega) (by omega)
  have gs : ∀ q, q < 8 → G (18 + q) = m (18 + q) := fun q hq => hG _ (by omega) (by omega) (by omega) (by omega) (by omega)
  have g8 : G 8 = m 8 := gd 0 (by omega)
  refine ⟨_, _, (by omega : 49 ≤ 70), ev_X12_sentence (G := G) hte (by rw [e4]; exact h.tp.1) (by rw [e5]; exact h.tp.2.2) (by rw [e6]; exact h.bg.g gd gs) (h.dn.congr gd) (by rw [e21]; exact h.nm.mv h.dn gd (fun _ _ _ => rfl)), fun r2 m2 hq2 => ?_⟩
  obtain ⟨⟨d1, ⟨d2, d3⟩, d4⟩, hcs2⟩ := hq2
  have t2 : TpX m2 m2 := TpX.zero (by rw [d1 1 (by omega) (by omega) (by omega), f11]) d3
  have kk : ∀ (b : Nat) (j : Int), b ≠ 1 → b ≠ 4 → b ≠ 5 → b ≠ 6 → (b < 26 ∨ 30 ≤ b) → (b < 76 ∨ 80 ≤ b) → b ≠ 216 → b ≠ 234 → ¬ (b = 214 ∧ (j ≤ 13 ∨ (44 ≤ j ∧ j ≤ 47))) → m2 b j = m b j := fun b j b1 b2 b3 b4 b5 b6 b8 b9 b12 => by
    by_cases z : b = 214
    · subst z; rw [d4 j (by omega), e4]
    · rw [d1 b z b8 b9, f1 b b1 b2 b3 b4 b5 b6]
  have mk : Wo m2 8 18 (m2 216) (m2 221) B → FaR m2 → Inv m2 B := fun hw hf => ⟨hw, h.hi.c h.dn (Int.le_refl _) (fun q j z => kk q j (by omega) (by omega) (by omega) (by omega) (by omega) (by omega) (by omega) (by omega) (by omega)), fun n a0 b0 => (h.im n a0 b0).c a0 b0 (Int.le_refl _) (fun q j z => kk q j (by omega) (by omega) (by omega) (by omega) (by omega) (by omega) (by omega) (by omega) (by omega)), t2, h.kw.c (fun j => kk 3 j (by omega) (by omega) (by omega) (by omega) (by omega) (by omega) (by omega) (by omega) (by omega)), hf, h.wy.c (fun q j z => kk q j (by omega) (by omega) (by omega) (by omega) (by omega) (by omega) (by omega) (by omega) (by omega)), h.ud.c (fun q j z => kk q j (by omega) (by omega) (by omega) (by omega) (by omega) (by omega) (by omega) (by omega) (by omega)), h.tr.c (fun q j z => kk q j (by omega) (by omega) (by omega) (by omega) (by omega) (by omega) (by omega) (by omega) (by omega)), h.to.c (fun q j z => kk q j (by omega) (by omega) (by omega) (by omega) (by omega) (by omega) (by omega) (by omega) (by omega)), h.sl.c (fun q j z => kk q j (by omega) (by omega) (by omega) (by omega) (by omega) (by omega) (by omega) (by omega) (by omega))⟩
  have fa2 : ∀ x : Int, mr 1 6 = x → m2 214 10 = x → FaR m2 := fun x a b => by unfold FaR; rw [d1 1 (by omega) (by omega) (by omega), f16, a, b]
  have fail : r1 = 0 → mr 1 3 = G 5 (snF G).2.1 → m2 216 = m1 216 → r2 = -1 - G 5 (snF G).2.1 → FaR m2 → r2 = r ∧ Inv m2 B := fun hr1 h3 s1 hr2 hf => by
    rcases hend with ⟨-, hr, hm⟩ | ⟨z, -⟩
    · have g1 : ∀ b : Nat, b ≠ 1 → b ≠ 4 → b ≠ 5 → b ≠ 6 → (b < 76 ∨ 80 ≤ b) → m1 b = m b := fun b b1 b2 b3 b4 b6 => by rw [hm, wr_row b1, kr b b1 b6, hG b b1 b2 b3 b4 (by omega)]
      refine ⟨by rw [hr2, hr, h3], mk (h.w.c (Int.le_refl _) (fun b j z => ?_)) hf⟩
      by_cases y : b = 216
      · subst y; rw [s1, e6]
      · rw [d1 b (by omega) (by omega) (by omega), g1 b (by omega) (by omega) (by omega) (by omega) (by omega)]
    · omega
  rcases hrd with ⟨c1, c2, c3, c4, c5, c6, c7, c8, c9⟩ | ⟨c1, hcc⟩
  · rcases hcs2 with ⟨-, -, a3, a4, ⟨a5, a6⟩, a7, a8, a9, a10⟩ | ⟨-, -, ⟨z, -⟩ | ⟨-, z, -⟩⟩
    · rcases hend with ⟨z, -⟩ | ⟨-, hr, hm⟩
      · omega
      · have hrb : (snF G).2.2.1 ≠ 0 ∧ (snF G).2.2.2.length ≤ 40 := rb_aux ((seqF_b (K := G 4) (kw := 213) (seqF_b (K := G 4) (kw := 214) (oneF_b G 8))) 0 0 (by omega) (by omega) c2)
        have w26 : ∀ q, q < 4 → m2 (26 + q) = mr (76 + q) := fun q hq => by rw [d1 _ (by omega) (by omega) (by omega), hm, rows_in hq, wr_row (by omega)]
        have e26 : m2 26 = mr 76 := w26 0 (by omega)
        have hd : ∀ q, q < 10 → m2 (8 + q) = m (8 + q) := fun q hq => funext (fun j => kk _ j (by omega) (by omega) (by omega) (by omega) (by omega) (by omega) (by omega) (by omega) (by omega))
        have hs : ∀ q, q < 8 → m2 (18 + q) = m (18 + q) := fun q hq => funext (fun j => kk _ j (by omega) (by omega) (by omega) (by omega) (by omega) (by omega) (by omega) (by omega) (by omega))
        have e8 : m2 8 = m 8 := hd 0 (by omega)
        have hdn2 : DnOk m2 8 := h.dn.congr hd
        have hb2 := h.bg.g hd hs
        refine ⟨by rw [a3, hr, c6], mk ⟨hdn2, h.st.congr (hd 0 (by omega)) (hd 5 (by omega)) hs, ⟨hb2.1.nn hdn2 (fun j x y => by rw [a7 j (by omega), e6]), hb2.2.nn hdn2 (fun j x y => by rw [a7 j (by omega), e6])⟩, h.nm.mv h.dn hd (fun j _ _ => kk 221 j (by omega) (by omega) (by omega) (by omega) (by omega) (by omega) (by omega) (by omega) (by omega)), ⟨⟨fun z => ?_, fun z => ?_⟩, fun _ => ?_⟩⟩ (fa2 0 ?_ a4)⟩
        · have z : m2 26 0 = 0 := z
          rw [e26, c6] at z
          exact absurd z hrb.1
        · omega
        · show SeR m2 26 (m2 8 3) _ _
          rw [e8, ← g8]
          exact ⟨(snF G).2.2.2, ⟨putT_c w26 _ 0 c8, by rw [e26, c7], hrb.2⟩, a9, a8, a6, a10⟩
        · rw [c4.2.2.2.2.2.2.2.2.2.2.1, hG6]
    · exact absurd c2 z
    · exact absurd c3 z
  · rcases hcc with ⟨q1, q2⟩ | ⟨q1, q2, q3⟩
    · obtain ⟨-, -, p3, -, -, p6, -⟩ := q2.1
      rw [show (snF G).2.1 + 1 - 1 = (snF G).2.1 by omega] at p3
      rcases hcs2 with ⟨z, -⟩ | ⟨a1, a2, ⟨-, a3⟩ | ⟨z, -⟩⟩
      · exact absurd z q1
      · exact fail c1 p3 a1 a2 (fa2 _ p6 a3)
      · exact absurd z q1
    · obtain ⟨-, -, p3, -, -, p6, -⟩ := q3.1
      rw [show (snF G).2.1 + 1 - 1 = (snF G).2.1 by omega] at p3
      rcases hcs2 with ⟨-, z, -⟩ | ⟨a1, a2, ⟨z, -⟩ | ⟨-, -, a3⟩⟩
      · exact absurd z q2
      · exact absurd q1 z
      · exact fail c1 p3 a1 a2 (fa2 _ p6 a3)
set_option maxRecDepth 4000 in
theorem ev_X12_bookN {m : Mem} {v : Int} (hv : InR v) (hbad : ¬ (0 ≤ v ∧ v ≤ 1)) : Ev 0 7 mX12_book [vr 214, vi v] m (fun r m' => r = -1000 ∧ m' = wr m 214 0 0) := by
  refine Ev.of (L := [vr 214, vi v, un, un]) (by decide +kernel) rfl (Nat.le_of_ble_eq_true rfl) rfl (fun t ht => by cases ht; first | exact Or.inl rfl | exact Or.inr (Or.inl rfl) | exact Or.inr (Or.inr rfl)) (fun hcan => ?_)
  refine go_aload_n dX12_book_0 rfl ?_
  refine go_iconst dX12_book_1 ?_
  refine go_putf_i (ki := 0) dX12_book_2 fw_12_1 ob_214 rfl rfl ⟨by omega, by omega⟩ ?_
  refine go_iload_n dX12_book_5 rfl ?_
  refine go_iconst dX12_book_6 ?_
  refine go_iconst dX12_book_7 ?_
  refine go_callSp_z (as := [vi v, vi 0, vi 1]) (S := []) (ev_X12_isIn (m := (wr m 214 0 0)) (n := v) (lo := 0) (hi := 1) (by first | assumption | omega | exact ⟨by omega, by omega⟩ | (constructor <;> omega)) (by first | assumption | omega | exact ⟨by omega, by omega⟩ | (constructor <;> omega)) (by first | assumption | omega | exact ⟨by omega, by omega⟩ | (constructor <;> omega))) rfl dX12_book_8 cs_12_75 rfl rfl (by decide) (Nat.le_of_ble_eq_true rfl) (fun r_8 hr_8 ho_8 => ?_)
  refine go_if_ne (tgt := 18) dX12_book_11 (by decide) ⟨by omega, by omega⟩ (fun h_11 => ?_) (fun h_11 => ?_)
  · exfalso; omega
  · refine go_sipush dX12_book_14 (by decide) ?_
    exact go_ret (v := -1000) rfl dX12_book_17 (okI ⟨by omega, by omega⟩) ⟨rfl, rfl⟩
theorem keepC_c {m M : Mem} (h : HiOk m) (he : ∀ b : Nat, (18 ≤ b ∧ b < 26) ∨ (97 ≤ b ∧ b < 163) → M b = m b) : ∀ b : Nat, 97 ≤ b → b < 163 → keepC M 18 b = keepC m 18 b := by
  intro b b0 b1
  have hb := hs8_b h.1.1 h.1.2
  have e97 : M 97 = m 97 := he 97 (by omega)
  unfold keepC
  rw [e97]
  by_cases z : b = 97
  · subst z
    funext j
    unfold wr
    rw [rows_out (by omega), rows_out (by omega), e97]
  · rw [wr_row z, wr_row z, wr_row z, wr_row z]
    by_cases y : hs8 (m 97 1) ≤ b ∧ b < hs8 (m 97 1) + 8
    · rw [show b = hs8 (m 97 1) + (b - hs8 (m 97 1)) by omega, rows_in (by omega), rows_in (by omega)]
      exact he _ (by omega)
    · rw [rows_out (by omega), rows_out (by omega)]
      exact he _ (by omega)
theorem LOk.cc {m M : Mem} {l : Int} (h : LOk m l) (e8 : M 8 = m 8) (he : ∀ b : Nat, 71 ≤ b → b ≤ 75 → M b = m b) : LOk M l := by
  unfold LOk at *
  rw [e8, he 71 (by omega) (by omega), he 72 (by omega) (by omega), he 73 (by omega) (by omega), he 74 (by omega) (by omega), he 75 (by omega) (by omega)]
  exact h
end
