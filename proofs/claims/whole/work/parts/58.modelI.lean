/-! ===== the reference: what may be said of whom ===== -/
def Sx2 (m m' : Mem) : Prop := (∀ b : Nat, b ≠ 214 → b ≠ 216 → b ≠ 234 → m' b = m b) ∧ (m' 214 0 = 0 ∧ m' 214 2 = 0) ∧ ∀ j : Int, (j = 1 ∨ (13 < j ∧ j < 44) ∨ 47 < j) → m' 214 j = m 214 j
def SnM (m G : Mem) (r : Int) (m' : Mem) : Prop := Sx2 m m' ∧ (((snF G).1 = 0 ∧ G 4 (snF G).2.1 = 0 ∧ r = (snF G).2.2.1 ∧ m' 214 10 = 0 ∧ (m' 216 232 = 1 ∧ 0 ≤ m' 216 233 ∧ m' 216 233 < ((snF G).2.2.2.length : Int)) ∧ (∀ j : Int, j < 232 → m' 216 j = m 216 j) ∧ Wf (fun j => m' 216 (234 + j)) (G 8 3) ((snF G).2.2.2.length : Int) ∧ Rep (fun j => m' 216 (234 + j)) (m' 216 233) (snF G).2.2.2 ∧ CdA (G 8 3) (snF G).2.2.2) ∨
  (m' 216 = m 216 ∧ r = -1 - G 5 (snF G).2.1 ∧ (((snF G).1 ≠ 0 ∧ m' 214 10 = (snF G).1) ∨ ((snF G).1 = 0 ∧ G 4 (snF G).2.1 ≠ 0 ∧ m' 214 10 = 1))))
theorem evT_3 {A : Cd → Bool} {N : Int → Int} {f : Nat} {k : Int} : evT A N (f + 1) k = if N (4 * k) = 1 then !(evT A N f (N (4 * k + 1))) else if N (4 * k) = 2 then evT A N f (N (4 * k + 1)) && evT A N f (N (4 * k + 2)) else if N (4 * k) = 3 then evT A N f (N (4 * k + 1)) || evT A N f (N (4 * k + 2)) else A (ndC N k) := rfl
theorem Wf.sub {N : Int → Int} {P n k : Int} (h : Wf N P n) (hk : k ≤ n) : Wf N P k := fun j h0 h1 => h j h0 (by omega)
abbrev NW (m : Mem) : Int → Int := fun j => m 216 (234 + j)
theorem by_eq {x y X Y : Int} : (iabs (x - X) + iabs (y - Y) = 1) ↔ ((X = x + 1 ∧ Y = y) ∨ (X = x ∧ Y = y + 1) ∨ (X = x - 1 ∧ Y = y) ∨ (X = x ∧ Y = y - 1)) := by
  unfold iabs
  split <;> split <;> omega

theorem dX12_sentence_0 : decode mX12_sentence.2.1 0 = .ok (.aload_n 0, 1) := by decide +kernel
theorem dX12_sentence_1 : decode mX12_sentence.2.1 1 = .ok (.sipush 200, 3) := by decide +kernel
theorem dX12_sentence_4 : decode mX12_sentence.2.1 4 = .ok (.invokevirtual 220, 3) := by decide +kernel
theorem dX12_sentence_7 : decode mX12_sentence.2.1 7 = .ok (.aload_n 0, 1) := by decide +kernel
theorem dX12_sentence_8 : decode mX12_sentence.2.1 8 = .ok (.iconst 0, 1) := by decide +kernel
theorem dX12_sentence_9 : decode mX12_sentence.2.1 9 = .ok (.putfield 424, 3) := by decide +kernel
theorem dX12_sentence_12 : decode mX12_sentence.2.1 12 = .ok (.aload_n 0, 1) := by decide +kernel
theorem dX12_sentence_13 : decode mX12_sentence.2.1 13 = .ok (.iconst 0, 1) := by decide +kernel
theorem dX12_sentence_14 : decode mX12_sentence.2.1 14 = .ok (.putfield 439, 3) := by decide +kernel
theorem dX12_sentence_17 : decode mX12_sentence.2.1 17 = .ok (.aload_n 0, 1) := by decide +kernel
theorem dX12_sentence_18 : decode mX12_sentence.2.1 18 = .ok (.iconst 0, 1) := by decide +kernel
theorem dX12_sentence_19 : decode mX12_sentence.2.1 19 = .ok (.putfield 442, 3) := by decide +kernel
theorem dX12_sentence_22 : decode mX12_sentence.2.1 22 = .ok (.aload_n 0, 1) := by decide +kernel
theorem dX12_sentence_23 : decode mX12_sentence.2.1 23 = .ok (.invokevirtual 457, 3) := by decide +kernel
theorem dX12_sentence_26 : decode mX12_sentence.2.1 26 = .ok (.ifCond .ne 10, 3) := by decide +kernel
theorem dX12_sentence_29 : decode mX12_sentence.2.1 29 = .ok (.iconst (-1), 1) := by decide +kernel
theorem dX12_sentence_30 : decode mX12_sentence.2.1 30 = .ok (.aload_n 0, 1) := by decide +kernel
theorem dX12_sentence_31 : decode mX12_sentence.2.1 31 = .ok (.getfield 69, 3) := by decide +kernel
theorem dX12_sentence_34 : decode mX12_sentence.2.1 34 = .ok (.isub, 1) := by decide +kernel
theorem dX12_sentence_35 : decode mX12_sentence.2.1 35 = .ok (.ireturn, 1) := by decide +kernel
theorem dX12_sentence_36 : decode mX12_sentence.2.1 36 = .ok (.aload_n 0, 1) := by decide +kernel
theorem dX12_sentence_37 : decode mX12_sentence.2.1 37 = .ok (.getfield 30, 3) := by decide +kernel
theorem dX12_sentence_40 : decode mX12_sentence.2.1 40 = .ok (.ifCond .eq 16, 3) := by decide +kernel
theorem dX12_sentence_43 : decode mX12_sentence.2.1 43 = .ok (.aload_n 0, 1) := by decide +kernel
theorem dX12_sentence_44 : decode mX12_sentence.2.1 44 = .ok (.iconst 1, 1) := by decide +kernel
theorem dX12_sentence_45 : decode mX12_sentence.2.1 45 = .ok (.invokevirtual 72, 3) := by decide +kernel
theorem dX12_sentence_48 : decode mX12_sentence.2.1 48 = .ok (.pop, 1) := by decide +kernel
theorem dX12_sentence_49 : decode mX12_sentence.2.1 49 = .ok (.iconst (-1), 1) := by decide +kernel
theorem dX12_sentence_50 : decode mX12_sentence.2.1 50 = .ok (.aload_n 0, 1) := by decide +kernel
theorem dX12_sentence_51 : decode mX12_sentence.2.1 51 = .ok (.getfield 69, 3) := by decide +kernel
theorem dX12_sentence_54 : decode mX12_sentence.2.1 54 = .ok (.isub, 1) := by decide +kernel
theorem dX12_sentence_55 : decode mX12_sentence.2.1 55 = .ok (.ireturn, 1) := by decide +kernel
theorem dX12_sentence_56 : decode mX12_sentence.2.1 56 = .ok (.aload_n 0, 1) := by decide +kernel
theorem dX12_sentence_57 : decode mX12_sentence.2.1 57 = .ok (.getfield 98, 3) := by decide +kernel
theorem dX12_sentence_60 : decode mX12_sentence.2.1 60 = .ok (.sipush 232, 3) := by decide +kernel
theorem dX12_sentence_63 : decode mX12_sentence.2.1 63 = .ok (.iconst 1, 1) := by decide +kernel
theorem dX12_sentence_64 : decode mX12_sentence.2.1 64 = .ok (.iastore, 1) := by decide +kernel
theorem dX12_sentence_65 : decode mX12_sentence.2.1 65 = .ok (.aload_n 0, 1) := by decide +kernel
theorem dX12_sentence_66 : decode mX12_sentence.2.1 66 = .ok (.getfield 98, 3) := by decide +kernel
theorem dX12_sentence_69 : decode mX12_sentence.2.1 69 = .ok (.sipush 233, 3) := by decide +kernel
theorem dX12_sentence_72 : decode mX12_sentence.2.1 72 = .ok (.aload_n 0, 1) := by decide +kernel
theorem dX12_sentence_73 : decode mX12_sentence.2.1 73 = .ok (.getfield 430, 3) := by decide +kernel
theorem dX12_sentence_76 : decode mX12_sentence.2.1 76 = .ok (.iastore, 1) := by decide +kernel
theorem dX12_sentence_77 : decode mX12_sentence.2.1 77 = .ok (.iconst 0, 1) := by decide +kernel
theorem dX12_sentence_78 : decode mX12_sentence.2.1 78 = .ok (.istore_n 1, 1) := by decide +kernel
theorem dX12_sentence_79 : decode mX12_sentence.2.1 79 = .ok (.iload_n 1, 1) := by decide +kernel
theorem dX12_sentence_80 : decode mX12_sentence.2.1 80 = .ok (.sipush 240, 3) := by decide +kernel
theorem dX12_sentence_83 : decode mX12_sentence.2.1 83 = .ok (.if_icmp .ge 25, 3) := by decide +kernel
theorem dX12_sentence_86 : decode mX12_sentence.2.1 86 = .ok (.aload_n 0, 1) := by decide +kernel
theorem dX12_sentence_87 : decode mX12_sentence.2.1 87 = .ok (.getfield 98, 3) := by decide +kernel
theorem dX12_sentence_90 : decode mX12_sentence.2.1 90 = .ok (.sipush 234, 3) := by decide +kernel
theorem dX12_sentence_93 : decode mX12_sentence.2.1 93 = .ok (.iload_n 1, 1) := by decide +kernel
theorem dX12_sentence_94 : decode mX12_sentence.2.1 94 = .ok (.iadd, 1) := by decide +kernel
theorem dX12_sentence_95 : decode mX12_sentence.2.1 95 = .ok (.aload_n 0, 1) := by decide +kernel
theorem dX12_sentence_96 : decode mX12_sentence.2.1 96 = .ok (.getfield 157, 3) := by decide +kernel
theorem dX12_sentence_99 : decode mX12_sentence.2.1 99 = .ok (.iload_n 1, 1) := by decide +kernel
theorem dX12_sentence_100 : decode mX12_sentence.2.1 100 = .ok (.iaload, 1) := by decide +kernel
theorem dX12_sentence_101 : decode mX12_sentence.2.1 101 = .ok (.iastore, 1) := by decide +kernel
theorem dX12_sentence_102 : decode mX12_sentence.2.1 102 = .ok (.iinc 1 1, 3) := by decide +kernel
theorem dX12_sentence_105 : decode mX12_sentence.2.1 105 = .ok (.goto (-26), 3) := by decide +kernel
theorem dX12_sentence_108 : decode mX12_sentence.2.1 108 = .ok (.aload_n 0, 1) := by decide +kernel
theorem dX12_sentence_109 : decode mX12_sentence.2.1 109 = .ok (.getfield 439, 3) := by decide +kernel
theorem dX12_sentence_112 : decode mX12_sentence.2.1 112 = .ok (.ireturn, 1) := by decide +kernel
set_option maxRecDepth 4000 in
theorem ev_X12_sentence {m : Mem} {G : Mem} {t : Int → Int} {kw : Int → Int} {n : Int} (hte : TE G t kw n 200) (hsz : m 214 2 = n) (ht : ∀ j : Int, 0 ≤ j → j < n → m 215 j = t j) (hb : Bg G 8 18 (m 216)) (hdn : DnOk G 8) (hnm : NmR G 8 (m 221)) : Ev 0 49 mX12_sentence [vr 214] m (fun r m' => SnM m G r m') := by
  refine Ev.of (L := [vr 214, un]) (by decide +kernel) rfl (Nat.le_of_ble_eq_true rfl) rfl (fun t ht => by cases ht; first | exact Or.inl rfl | exact Or.inr (Or.inl rfl) | exact Or.inr (Or.inr rfl)) (fun hcan => ?_)
  refine go_aload_n dX12_sentence_0 rfl ?_
  refine go_sipush dX12_sentence_1 (by decide) ?_
  refine go_callV_v (as := [vi 200]) (S := []) (b := 214) (ev_X12_begin (m := m) (lim := 200) (G := G) (t := t) (kw := kw) (n := n) hte hsz ht) rfl dX12_sentence_4 cv_12_220 rfl rfl ob_214 rfl (by decide) (Nat.le_of_ble_eq_true rfl) (fun m_4 hr_4 => ?_)
  obtain ⟨b4t, b4r, ⟨b40, b42, b410⟩, b4j⟩ := id hr_4
  refine go_aload_n dX12_sentence_7 rfl ?_
  refine go_iconst dX12_sentence_8 ?_
  refine go_putf_i (ki := 44) dX12_sentence_9 fw_12_424 ob_214 rfl rfl ⟨by omega, by omega⟩ ?_
  refine go_aload_n dX12_sentence_12 rfl ?_
  refine go_iconst dX12_sentence_13 ?_
  refine go_putf_i (ki := 45) dX12_sentence_14 fw_12_439 ob_214 rfl rfl ⟨by omega, by omega⟩ ?_
  refine go_aload_n dX12_sentence_17 rfl ?_
  refine go_iconst dX12_sentence_18 ?_
  refine go_putf_i (ki := 46) dX12_sentence_19 fw_12_442 ob_214 rfl rfl ⟨by omega, by omega⟩ ?_
  refine go_aload_n dX12_sentence_22 rfl ?_
  refine go_callV_z (as := []) (S := []) (b := 214) (ev_X12_con8 (m := (wr (wr (wr m_4 214 44 0) 214 45 0) 214 46 0)) (G := G) (t := t) (kw := kw) (n := n) (lim := 200) (i := 0) (o := 0) (nn := 0) (((b4t.w (by decide) (by omega)).w (by decide) (by omega)).w (by decide) (by omega)) (by rw [wr_row (by decide), wr_row (by decide), wr_row (by decide), b4r 216 (by decide)]; exact hb) hdn (by rw [wr_row (by decide), wr_row (by decide), wr_row (by decide), b4r 221 (by decide)]; exact hnm) ⟨by rw [wr_ni (by decide), wr_self], by rw [wr_self], by rw [wr_ni (by decide), wr_ni (by decide), wr_self], fun k h0 h1 => by omega⟩ (by omega) (by omega)) rfl dX12_sentence_23 cv_12_457 rfl rfl ob_214 rfl (by decide) (Nat.le_of_ble_eq_true rfl) (fun r_23 m_23 hr_23 ho_23 => ?_)
  have hr_23 : SaQ G t kw n 200 (wr (wr (wr m_4 214 44 0) 214 45 0) 214 46 0) m_23 0 0 (snF G) r_23 := hr_23
  obtain ⟨x_23, -, hr_23⟩ := hr_23
  have hRB : RB 0 (snF G) := seqF_b (seqF_b (oneF_b G 8)) 0 0 (by omega) (by omega)
  have sx2 : Sx2 m m_23 := ⟨fun b h1 h2 h3 => by rw [x_23.1 b h1 h3, wr_row h1, wr_row h1, wr_row h1, b4r b h1], ⟨by rw [x_23.2 0 (by omega), wr_ni (by decide), wr_ni (by decide), wr_ni (by decide)]; exact b40, by rw [x_23.2 2 (by omega), wr_ni (by decide), wr_ni (by decide), wr_ni (by decide)]; exact b42⟩, fun j hj => by rw [x_23.2 j (by omega), wr_ni (by omega), wr_ni (by omega), wr_ni (by omega)]; exact b4j j (by omega)⟩
  have e216 : m_23 216 = m 216 := by rw [x_23.1 216 (by decide) (by decide), wr_row (by decide), wr_row (by decide), wr_row (by decide), b4r 216 (by decide)]
  rcases hr_23 with ⟨f_23, e_23, g_23, t_23, s_23, j_23, p_23, r_23e, c_23⟩ | ⟨f_23, e_23, no_23⟩
  · refine go_if_ne (tgt := 36) dX12_sentence_26 (by decide) ⟨by omega, by omega⟩ (fun h_26 => ?_) (fun h_26 => ?_)
    · have hkd := t_23.kd
      have hkz := hkd.k0
      refine go_aload_n dX12_sentence_36 rfl ?_
      refine go_getf_i (ki := 7) dX12_sentence_37 fl_12_30 ob_214 rfl rfl (fun hf_37 => ?_)
      refine go_if_eq (tgt := 56) dX12_sentence_40 (by decide) ⟨by omega, by omega⟩ (fun h_40 => ?_) (fun h_40 => ?_)
      · refine go_aload_n dX12_sentence_56 rfl ?_
        refine go_getf_p (b := 216) dX12_sentence_57 fl_12_98 ob_214 rfl pt_214_14 ?_
        refine go_sipush dX12_sentence_60 (by decide) ?_
        refine go_iconst dX12_sentence_63 ?_
        refine go_iastore dX12_sentence_64 ar_216 (by omega) (by omega) ⟨by omega, by omega⟩ ?_
        refine go_aload_n dX12_sentence_65 rfl ?_
        refine go_getf_p (b := 216) dX12_sentence_66 fl_12_98 ob_214 rfl pt_214_14 ?_
        refine go_sipush dX12_sentence_69 (by decide) ?_
        refine go_aload_n dX12_sentence_72 rfl ?_
        refine go_getf_i (ki := 47) dX12_sentence_73 fl_12_430 ob_214 rfl rfl (fun hf_73 => ?_)
        rw [show ((wr m_23 216 232 1) 214 47 : Int) = (m_23 214 47) from by rw [wr_na (by omega)]] at hf_73 ⊢
        refine go_iastore dX12_sentence_76 ar_216 (by omega) (by omega) ⟨by omega, by omega⟩ ?_
        refine go_iconst dX12_sentence_77 ?_
        refine go_istore_n (L' := [vr 214, vi 0]) dX12_sentence_78 (by decide) rfl rfl ?_
        have lp_79 : ∀ (n_79 : Nat) (m1 : Mem) (k : Int) , (0 ≤ k) → (k ≤ 240) → (m1 = mov (wr (wr m_23 216 232 1) 216 233 (m_23 214 47)) 234 216 0 234 k) → (240 - k).toNat < n_79 → Go 0 49 mX12_sentence (fun r m' => SnM m G r m') 79 [vr 214, vi k] [] m1 := by
          intro n_79
          induction n_79 with
          | zero => intro m1 k hk0 hk1 hm hmu; exact absurd hmu (Nat.not_lt_zero _)
          | succ n_79 ih_79 =>
            intro m1 k hk0 hk1 hm hmu
            have e1 : m1 234 k = (wr (wr m_23 216 232 1) 216 233 (m_23 214 47)) 234 k := by rw [hm, mov_row (by decide)]
            have e2 : m1 214 45 = (snF G).2.2.1 := by rw [hm, mov_row (by decide), wr_na (by decide), wr_na (by decide)]; exact s_23.1
            refine go_iload_n dX12_sentence_79 rfl ?_
            refine go_sipush dX12_sentence_80 (by decide) ?_
            refine go_icmp_ge (tgt := 108) dX12_sentence_83 (by decide) ⟨by omega, by omega⟩ ⟨by omega, by omega⟩ (fun h_83 => ?_) (fun h_83 => ?_)
            · refine go_aload_n dX12_sentence_108 rfl ?_
              refine go_getf_i (ki := 45) dX12_sentence_109 fl_12_439 ob_214 rfl rfl (fun hf_109 => ?_)
              rw [show (m1 214 45 : Int) = (snF G).2.2.1 from e2] at hf_109 ⊢
              refine go_ret (v := (snF G).2.2.1) rfl dX12_sentence_112 (okI (by have := hRB f_23; exact ⟨by omega, by omega⟩)) ?_
              have hRb := hRB f_23
              rw [Int.zero_add] at p_23 s_23
              have hm9 : m1 = mov (wr (wr m_23 216 232 1) 216 233 (m_23 214 47)) 234 216 0 234 240 := by rw [hm, show k = 240 by omega]
              have r234 : ∀ j : Int, 0 ≤ j → j < 240 → m1 216 (234 + j) = m_23 234 j := fun j a b => by rw [hm9, mov_in (by omega) (by omega), wr_na (by decide), wr_na (by decide), show 0 + (234 + j - 234) = j by omega]
              have r233 : m1 216 233 = m_23 214 47 := by rw [hm9, mov_out (by omega), wr_self]
              have hln := s_23.2.2.2
              refine ⟨⟨fun b h1 h2 h3 => ?_, ⟨?_, ?_⟩, fun j hj => ?_⟩, Or.inl ⟨f_23, hkz.mp (by omega), rfl, ?_, ⟨?_, ?_, ?_⟩, fun j hj => ?_, ?_, ?_, c_23⟩⟩
              · rw [hm9, mov_row h2, wr_row h2, wr_row h2]; exact sx2.1 b h1 h2 h3
              · rw [hm9, mov_row (by decide), wr_na (by decide), wr_na (by decide)]; exact sx2.2.1.1
              · rw [hm9, mov_row (by decide), wr_na (by decide), wr_na (by decide)]; exact sx2.2.1.2
              · rw [hm9, mov_row (by decide), wr_na (by decide), wr_na (by decide)]; exact sx2.2.2 j hj
              · rw [hm9, mov_row (by decide), wr_na (by decide), wr_na (by decide), g_23, wr_ni (by decide), wr_ni (by decide), wr_ni (by decide)]; exact b410
              · rw [hm9, mov_out (by omega), wr_ni (by decide), wr_self]
              · rw [r233]; omega
              · rw [r233]; omega
              · rw [hm9, mov_out (by omega), wr_ni (by omega), wr_ni (by omega), e216]
              · intro k h0 h1
                have w := s_23.2.2.2 k h0 h1
                unfold Wk at *
                dsimp only
                rw [r234 (4 * k) (by omega) (by omega), r234 (4 * k + 1) (by omega) (by omega), r234 (4 * k + 2) (by omega) (by omega), r234 (4 * k + 3) (by omega) (by omega)]
                exact w
              · intro A S
                rw [r_23e A S, r233]
                have hc : ∀ (f : Nat) (q : Int), 0 ≤ q → q < ((snF G).2.2.2.length : Int) → evT A (fun j => m1 216 (234 + j)) f q = evT A (m_23 234) f q := by
                  intro f
                  induction f with
                  | zero => intro q _ _; rfl
                  | succ f ih =>
                    intro q h0 h1
                    have w := s_23.2.2.2 q h0 h1
                    unfold Wk at w
                    rw [evT_3, evT_3]
                    have en : ndC (fun j => m1 216 (234 + j)) q = ndC (m_23 234) q := by unfold ndC; simp only [r234 (4 * q) (by omega) (by omega), r234 (4 * q + 1) (by omega) (by omega), r234 (4 * q + 2) (by omega) (by omega), r234 (4 * q + 3) (by omega) (by omega)]
                    rw [en]
                    try dsimp only
                    rw [r234 (4 * q) (by omega) (by omega), r234 (4 * q + 1) (by omega) (by omega), r234 (4 * q + 2) (by omega) (by omega)]
                    by_cases q1 : m_23 234 (4 * q) = 1
                    · rw [if_pos q1, if_pos q1, ih _ (by omega) (by omega)]
                    · rw [if_neg q1, if_neg q1]
                      by_cases q2 : m_23 234 (4 * q) = 2
                      · rw [if_pos q2, if_pos q2, ih _ (by omega) (by omega), ih _ (by omega) (by omega)]
                      · rw [if_neg q2, if_neg q2]
                        by_cases q3 : m_23 234 (4 * q) = 3
                        · rw [if_pos q3, if_pos q3, ih _ (by omega) (by omega), ih _ (by omega) (by omega)]
                        · rw [if_neg q3, if_neg q3]
                rw [hc _ _ (by omega) (by omega)]
            · refine go_aload_n dX12_sentence_86 rfl ?_
              refine go_getf_p (b := 216) dX12_sentence_87 fl_12_98 ob_214 rfl pt_214_14 ?_
              refine go_sipush dX12_sentence_90 (by decide) ?_
              refine go_iload_n dX12_sentence_93 rfl ?_
              refine go_iadd dX12_sentence_94 ?_
              refine go_aload_n dX12_sentence_95 rfl ?_
              refine go_getf_p (b := 234) dX12_sentence_96 fl_12_157 ob_214 rfl pt_214_43 ?_
              refine go_iload_n dX12_sentence_99 rfl ?_
              refine go_iaload dX12_sentence_100 ar_234 (by omega) (by omega) (fun he_100 => ?_)
              rw [show (m1 234 k : Int) = ((wr (wr m_23 216 232 1) 216 233 (m_23 214 47)) 234 k) from e1] at he_100 ⊢
              refine go_iastore dX12_sentence_101 ar_216 (by omega) (by omega) ⟨by omega, by omega⟩ ?_
              refine go_iinc (L' := [vr 214, vi (k + 1)]) dX12_sentence_102 rfl (by decide) rfl rfl ?_
              refine go_goto (tgt := 79) dX12_sentence_105 (by decide) ?_
              exact ih_79 (wr m1 216 (234 + k) ((wr (wr m_23 216 232 1) 216 233 (m_23 214 47)) 234 k)) (k + 1) (by first | assumption | omega | rfl) (by first | assumption | omega | rfl) (by have h := mov_s (m := (wr (wr m_23 216 232 1) 216 233 (m_23 214 47))) (a := 234) (b := 216) (o := 0) (p := 234) hk0; rw [Int.zero_add] at h; rw [hm]; exact h) (by omega)
        exact lp_79 _ (wr (wr m_23 216 232 1) 216 233 (m_23 214 47)) 0 (by first | assumption | omega | rfl) (by first | assumption | omega | rfl) (mov_0 _ _ _ _ _).symm (Nat.lt_succ_self _)
      · refine go_aload_n dX12_sentence_43 rfl ?_
        refine go_iconst dX12_sentence_44 ?_
        refine go_callV_z (as := [vi 1]) (S := []) (b := 214) (ev_X12_bad (m := m_23) (k := 1) (G := G) (t := t) (kw := kw) (n := n) (lim := 200) (i := (snF G).2.1) t_23 (by first | assumption | omega | exact ⟨by omega, by omega⟩ | (constructor <;> omega))) rfl dX12_sentence_45 cv_12_72 rfl rfl ob_214 rfl (by decide) (Nat.le_of_ble_eq_true rfl) (fun r_45 m_45 hr_45 ho_45 => ?_)
        refine go_pop_i dX12_sentence_48 ?_
        refine go_iconst dX12_sentence_49 ?_
        refine go_aload_n dX12_sentence_50 rfl ?_
        refine go_getf_i (ki := 11) dX12_sentence_51 fl_12_69 ob_214 rfl rfl (fun hf_51 => ?_)
        rw [show (m_45 214 11 : Int) = (G 5 (snF G).2.1) from by rw [hr_45.2, wr_self]] at hf_51 ⊢
        refine go_isub dX12_sentence_54 ?_
        refine go_ret (v := ((-1) - (G 5 (snF G).2.1))) rfl dX12_sentence_55 (okI ⟨by omega, by omega⟩) ?_
        have z := NoT.b (G := G) (m := m_23) (m' := m_45) (f := 1) (i := (snF G).2.1) (by rw [hr_45.2]; congr 2; split <;> rfl)
        refine ⟨⟨fun b h1 h2 h3 => by rw [z.1.1 b h1]; exact sx2.1 b h1 h2 h3, ⟨by rw [z.1.2 0 (by omega)]; exact sx2.2.1.1, by rw [z.1.2 2 (by omega)]; exact sx2.2.1.2⟩, fun j hj => by rw [z.1.2 j (by omega)]; exact sx2.2.2 j hj⟩, Or.inr ⟨by rw [z.1.1 216 (by decide)]; exact e216, rfl, Or.inr ⟨f_23, fun y => by have := hkz.mpr y; omega, z.2.1⟩⟩⟩
    · exfalso; omega
  · refine go_if_ne (tgt := 36) dX12_sentence_26 (by decide) ⟨by omega, by omega⟩ (fun h_26 => ?_) (fun h_26 => ?_)
    · exfalso; omega
    · refine go_iconst dX12_sentence_29 ?_
      refine go_aload_n dX12_sentence_30 rfl ?_
      refine go_getf_i (ki := 11) dX12_sentence_31 fl_12_69 ob_214 rfl rfl (fun hf_31 => ?_)
      rw [show (m_23 214 11 : Int) = (G 5 (snF G).2.1) from no_23.2] at hf_31 ⊢
      refine go_isub dX12_sentence_34 ?_
      exact go_ret (v := ((-1) - (G 5 (snF G).2.1))) rfl dX12_sentence_35 (okI ⟨by omega, by omega⟩) ⟨sx2, Or.inr ⟨e216, rfl, Or.inl ⟨f_23, no_23.1⟩⟩⟩
theorem dX12_isBy_0 : decode mX12_isBy.2.1 0 = .ok (.iconst 0, 1) := by decide +kernel
theorem dX12_isBy_1 : decode mX12_isBy.2.1 1 = .ok (.istore_n 3, 1) := by decide +kernel
theorem dX12_isBy_2 : decode mX12_isBy.2.1 2 = .ok (.iload_n 3, 1) := by decide +kernel
theorem dX12_isBy_3 : decode mX12_isBy.2.1 3 = .ok (.iconst 4, 1) := by decide +kernel
theorem dX12_isBy_4 : decode mX12_isBy.2.1 4 = .ok (.if_icmp .ge 38, 3) := by decide +kernel
theorem dX12_isBy_7 : decode mX12_isBy.2.1 7 = .ok (.aload_n 0, 1) := by decide +kernel
theorem dX12_isBy_8 : decode mX12_isBy.2.1 8 = .ok (.aload_n 0, 1) := by decide +kernel
theorem dX12_isBy_9 : decode mX12_isBy.2.1 9 = .ok (.getfield 98, 3) := by decide +kernel
theorem dX12_isBy_12 : decode mX12_isBy.2.1 12 = .ok (.bipush 126, 2) := by decide +kernel
theorem dX12_isBy_14 : decode mX12_isBy.2.1 14 = .ok (.iload_n 1, 1) := by decide +kernel
theorem dX12_isBy_15 : decode mX12_isBy.2.1 15 = .ok (.iadd, 1) := by decide +kernel
theorem dX12_isBy_16 : decode mX12_isBy.2.1 16 = .ok (.iaload, 1) := by decide +kernel
theorem dX12_isBy_17 : decode mX12_isBy.2.1 17 = .ok (.iload_n 3, 1) := by decide +kernel
theorem dX12_isBy_18 : decode mX12_isBy.2.1 18 = .ok (.iconst 1, 1) := by decide +kernel
theorem dX12_isBy_19 : decode mX12_isBy.2.1 19 = .ok (.invokevirtual 235, 3) := by decide +kernel
theorem dX12_isBy_22 : decode mX12_isBy.2.1 22 = .ok (.aload_n 0, 1) := by decide +kernel
theorem dX12_isBy_23 : decode mX12_isBy.2.1 23 = .ok (.getfield 98, 3) := by decide +kernel
theorem dX12_isBy_26 : decode mX12_isBy.2.1 26 = .ok (.bipush 126, 2) := by decide +kernel
theorem dX12_isBy_28 : decode mX12_isBy.2.1 28 = .ok (.iload_n 2, 1) := by decide +kernel
theorem dX12_isBy_29 : decode mX12_isBy.2.1 29 = .ok (.iadd, 1) := by decide +kernel
theorem dX12_isBy_30 : decode mX12_isBy.2.1 30 = .ok (.iaload, 1) := by decide +kernel
theorem dX12_isBy_31 : decode mX12_isBy.2.1 31 = .ok (.if_icmp .ne 5, 3) := by decide +kernel
theorem dX12_isBy_34 : decode mX12_isBy.2.1 34 = .ok (.iconst 1, 1) := by decide +kernel
theorem dX12_isBy_35 : decode mX12_isBy.2.1 35 = .ok (.ireturn, 1) := by decide +kernel
theorem dX12_isBy_36 : decode mX12_isBy.2.1 36 = .ok (.iinc 3 1, 3) := by decide +kernel
theorem dX12_isBy_39 : decode mX12_isBy.2.1 39 = .ok (.goto (-37), 3) := by decide +kernel
theorem dX12_isBy_42 : decode mX12_isBy.2.1 42 = .ok (.iconst 0, 1) := by decide +kernel
theorem dX12_isBy_43 : decode mX12_isBy.2.1 43 = .ok (.ireturn, 1) := by decide +kernel
set_option maxRecDepth 4000 in
theorem ev_X12_isBy {m : Mem} {G : Mem} {B : Int} {p : Int} {q : Int} (hb : Bg G 8 18 (m 216)) (hdn : DnOk G 8) (hst : StOk G 8 18 B) (hp : 0 ≤ p ∧ p < G 8 3) (hq : 0 ≤ q ∧ q < G 8 3) : Ev 0 4 mX12_isBy [vr 214, vi p, vi q] m (fun r m' => m' = m ∧ ((r = 1 ∧ iabs (G 20 p - G 20 q) + iabs (G 21 p - G 21 q) = 1) ∨ (r = 0 ∧ ¬ iabs (G 20 p - G 20 q) + iabs (G 21 p - G 21 q) = 1))) := by
  refine Ev.of (L := [vr 214, vi p, vi q, un]) (by decide +kernel) rfl (Nat.le_of_ble_eq_true rfl) rfl (fun t ht => by cases ht; first | exact Or.inl rfl | exact Or.inr (Or.inl rfl) | exact Or.inr (Or.inr rfl)) (fun hcan => ?_)
  obtain ⟨⟨hd0, hd1⟩, ⟨hd2, hd3⟩, ⟨hd4, hd5⟩, ⟨hd6, hd7⟩, ⟨hd8, hd9⟩, hdf, hdp, hdq⟩ := id hdn
  obtain ⟨⟨hs0, hs1⟩, ⟨hs2, hs3⟩, hsw, hsp, hsd, hsz⟩ := id hst
  have hpp := hsp p hp.1 hp.2
  have hqq := hsp q hq.1 hq.2
  have hbe := by_eq (x := G 20 p) (y := G 21 p) (X := G 20 q) (Y := G 21 q)
  refine go_iconst dX12_isBy_0 ?_
  refine go_istore_n (L' := [vr 214, vi p, vi q, vi 0]) dX12_isBy_1 (by decide) rfl rfl ?_
  have lp_2 : ∀ (n_2 : Nat) (s : Int) , (0 ≤ s) → (s ≤ 4) → (∀ j : Int, 0 ≤ j → j < s → ¬ (G 20 q = G 20 p + dx j ∧ G 21 q = G 21 p + dy j)) → (4 - s).toNat < n_2 → Go 0 4 mX12_isBy (fun r m' => m' = m ∧ ((r = 1 ∧ iabs (G 20 p - G 20 q) + iabs (G 21 p - G 21 q) = 1) ∨ (r = 0 ∧ ¬ iabs (G 20 p - G 20 q) + iabs (G 21 p - G 21 q) = 1))) 2 [vr 214, vi p, vi q, vi s] [] m := by
    intro n_2
    induction n_2 with
    | zero => intro s hs0 hs1 hno hmu; exact absurd hmu (Nat.not_lt_zero _)
    | succ n_2 ih_2 =>
      intro s hs0 hs1 hno hmu
      refine go_iload_n dX12_isBy_2 rfl ?_
      refine go_iconst dX12_isBy_3 ?_
      refine go_icmp_ge (tgt := 42) dX12_isBy_4 (by decide) ⟨by omega, by omega⟩ ⟨by omega, by omega⟩ (fun h_4 => ?_) (fun h_4 => ?_)
      · refine go_iconst dX12_isBy_42 ?_
        exact go_ret (v := 0) rfl dX12_isBy_43 (okZ (by first | exact Or.inl rfl | exact Or.inr rfl | assumption | omega)) ⟨rfl, (Or.inr ⟨rfl, fun z => by have z := hbe.mp z; have h0 := hno 0 (by omega) (by omega); have h1 := hno 1 (by omega) (by omega); have h2 := hno 2 (by omega) (by omega); have h3 := hno 3 (by omega) (by omega); rw [show dx 0 = 1 from rfl, show dy 0 = 0 from rfl] at h0; rw [show dx 1 = 0 from rfl, show dy 1 = 1 from rfl] at h1; rw [show dx 2 = -1 from rfl, show dy 2 = 0 from rfl] at h2; rw [show dx 3 = 0 from rfl, show dy 3 = -1 from rfl] at h3; omega⟩)⟩
      · refine go_aload_n dX12_isBy_7 rfl ?_
        refine go_aload_n dX12_isBy_8 rfl ?_
        refine go_getf_p (b := 216) dX12_isBy_9 fl_12_98 ob_214 rfl pt_214_14 ?_
        refine go_bipush dX12_isBy_12 (by decide) ?_
        refine go_iload_n dX12_isBy_14 rfl ?_
        refine go_iadd dX12_isBy_15 ?_
        refine go_iaload dX12_isBy_16 ar_216 (by omega) (by omega) (fun he_16 => ?_)
        rw [show (m 216 (126 + p) : Int) = (9 * G (18 + 3) p + G (18 + 2) p) from (hb.at (p := p) (by omega) (by omega))] at he_16 ⊢
        refine go_iload_n dX12_isBy_17 rfl ?_
        refine go_iconst dX12_isBy_18 ?_
        refine go_callVp_i (as := [vi (9 * G (18 + 3) p + G (18 + 2) p), vi s, vi 1]) (S := []) (b := 214) (ev_X12_cellOn (m := m) (c := (9 * G (18 + 3) p + G (18 + 2) p)) (s := s) (n := 1) (G := G) (d := 8) (st := 18) (x := (G (18 + 2) p)) (y := (G (18 + 3) p)) (by first | exact hb | exact hb.w (by decide) | exact (hb.w (by decide)).w (by decide)) (by first | assumption | omega | exact ⟨by omega, by omega⟩ | (constructor <;> omega)) rfl (by first | assumption | omega | exact ⟨by omega, by omega⟩ | (constructor <;> omega)) (by first | assumption | omega | exact ⟨by omega, by omega⟩ | (constructor <;> omega)) (by first | assumption | omega | exact ⟨by omega, by omega⟩ | (constructor <;> omega))) rfl dX12_isBy_19 cv_12_235 rfl rfl ob_214 rfl (by decide) (Nat.le_of_ble_eq_true rfl) (fun r_19 hr_19 ho_19 => ?_)
        rw [Int.one_mul, Int.one_mul] at hr_19
        have hsd := sdx (n := 1) hs0 (by omega)
        rw [Int.one_mul, Int.one_mul] at hsd
        refine go_aload_n dX12_isBy_22 rfl ?_
        refine go_getf_p (b := 216) dX12_isBy_23 fl_12_98 ob_214 rfl pt_214_14 ?_
        refine go_bipush dX12_isBy_26 (by decide) ?_
        refine go_iload_n dX12_isBy_28 rfl ?_
        refine go_iadd dX12_isBy_29 ?_
        refine go_iaload dX12_isBy_30 ar_216 (by omega) (by omega) (fun he_30 => ?_)
        rw [show (m 216 (126 + q) : Int) = (9 * G (18 + 3) q + G (18 + 2) q) from (hb.at (p := q) (by omega) (by omega))] at he_30 ⊢
        refine go_icmp_ne (tgt := 36) dX12_isBy_31 (by decide) ⟨by omega, by omega⟩ ⟨by omega, by omega⟩ (fun h_31 => ?_) (fun h_31 => ?_)
        · refine go_iinc (L' := [vr 214, vi p, vi q, vi (s + 1)]) dX12_isBy_36 rfl (by decide) rfl rfl ?_
          refine go_goto (tgt := 2) dX12_isBy_39 (by decide) ?_
          exact ih_2 (s + 1) (by first | assumption | omega | rfl) (by first | assumption | omega | rfl) (stp hno (fun z => by have z1 : G (18 + 2) q = G (18 + 2) p + dx s := z.1; have z2 : G (18 + 3) q = G (18 + 3) p + dy s := z.2; rw [if_pos (by unfold insC; omega)] at hr_19; omega)) (by omega)
        · refine go_iconst dX12_isBy_34 ?_
          exact go_ret (v := 1) rfl dX12_isBy_35 (okZ (by first | exact Or.inl rfl | exact Or.inr rfl | assumption | omega)) ⟨rfl, (Or.inl ⟨rfl, hbe.mpr (by by_cases y : insC G 8 (G (18 + 2) p + dx s) (G (18 + 3) p + dy s); (rw [if_pos y] at hr_19; unfold insC at y; show (G (18 + 2) q = G (18 + 2) p + 1 ∧ G (18 + 3) q = G (18 + 3) p) ∨ (G (18 + 2) q = G (18 + 2) p ∧ G (18 + 3) q = G (18 + 3) p + 1) ∨ (G (18 + 2) q = G (18 + 2) p - 1 ∧ G (18 + 3) q = G (18 + 3) p) ∨ (G (18 + 2) q = G (18 + 2) p ∧ G (18 + 3) q = G (18 + 3) p - 1); omega); (rw [if_neg y] at hr_19; omega))⟩)⟩
  exact lp_2 _ 0 (by first | assumption | omega | rfl) (by first | assumption | omega | rfl) (fun j a b => by omega) (Nat.lt_succ_self _)
theorem b2i_1 {r : Int} {e : Bool} (h : r = b2i e) (z : r ≠ 0) : e = true := by
  cases e with
  | true => rfl
  | false => exact absurd h z
theorem b2i_0 {r : Int} {e : Bool} (h : r = b2i e) (z : r = 0) : e = false := by
  cases e with
  | false => rfl
  | true => rw [h] at z; exact absurd z (by decide)
theorem b2i_t {p : Prop} [Decidable p] (h : p) : (1 : Int) = b2i (decide p) := by rw [decide_eq_true h]; rfl
theorem b2i_n {p : Prop} [Decidable p] (h : ¬ p) : (0 : Int) = b2i (decide p) := by rw [decide_eq_false h]; rfl

theorem dX12_holds_0 : decode mX12_holds.2.1 0 = .ok (.sipush 234, 3) := by decide +kernel
theorem dX12_holds_3 : decode mX12_holds.2.1 3 = .ok (.iconst 4, 1) := by decide +kernel
theorem dX12_holds_4 : decode mX12_holds.2.1 4 = .ok (.iload_n 1, 1) := by decide +kernel
theorem dX12_holds_5 : decode mX12_holds.2.1 5 = .ok (.imul, 1) := by decide +kernel
theorem dX12_holds_6 : decode mX12_holds.2.1 6 = .ok (.iadd, 1) := by decide +kernel
theorem dX12_holds_7 : decode mX12_holds.2.1 7 = .ok (.istore_n 3, 1) := by decide +kernel
theorem dX12_holds_8 : decode mX12_holds.2.1 8 = .ok (.aload_n 0, 1) := by decide +kernel
theorem dX12_holds_9 : decode mX12_holds.2.1 9 = .ok (.getfield 98, 3) := by decide +kernel
theorem dX12_holds_12 : decode mX12_holds.2.1 12 = .ok (.iload_n 3, 1) := by decide +kernel
theorem dX12_holds_13 : decode mX12_holds.2.1 13 = .ok (.iconst 1, 1) := by decide +kernel
theorem dX12_holds_14 : decode mX12_holds.2.1 14 = .ok (.iadd, 1) := by decide +kernel
theorem dX12_holds_15 : decode mX12_holds.2.1 15 = .ok (.iaload, 1) := by decide +kernel
theorem dX12_holds_16 : decode mX12_holds.2.1 16 = .ok (.istore 4, 2) := by decide +kernel
theorem dX12_holds_18 : decode mX12_holds.2.1 18 = .ok (.aload_n 0, 1) := by decide +kernel
theorem dX12_holds_19 : decode mX12_holds.2.1 19 = .ok (.getfield 98, 3) := by decide +kernel
theorem dX12_holds_22 : decode mX12_holds.2.1 22 = .ok (.iload_n 3, 1) := by decide +kernel
theorem dX12_holds_23 : decode mX12_holds.2.1 23 = .ok (.iconst 2, 1) := by decide +kernel
theorem dX12_holds_24 : decode mX12_holds.2.1 24 = .ok (.iadd, 1) := by decide +kernel
theorem dX12_holds_25 : decode mX12_holds.2.1 25 = .ok (.iaload, 1) := by decide +kernel
theorem dX12_holds_26 : decode mX12_holds.2.1 26 = .ok (.istore 5, 2) := by decide +kernel
theorem dX12_holds_28 : decode mX12_holds.2.1 28 = .ok (.aload_n 0, 1) := by decide +kernel
theorem dX12_holds_29 : decode mX12_holds.2.1 29 = .ok (.getfield 98, 3) := by decide +kernel
theorem dX12_holds_32 : decode mX12_holds.2.1 32 = .ok (.iload_n 3, 1) := by decide +kernel
theorem dX12_holds_33 : decode mX12_holds.2.1 33 = .ok (.iaload, 1) := by decide +kernel
theorem dX12_holds_34 : decode mX12_holds.2.1 34 = .ok (.lookupswitch 210 #[(1, 74), (2, 90), (3, 116), (66, 142), (67, 161), (68, 180), (69, 186), (70, 202)], 74) := by decide +kernel
theorem dX12_holds_108 : decode mX12_holds.2.1 108 = .ok (.aload_n 0, 1) := by decide +kernel
theorem dX12_holds_109 : decode mX12_holds.2.1 109 = .ok (.iload 4, 2) := by decide +kernel
theorem dX12_holds_111 : decode mX12_holds.2.1 111 = .ok (.iload_n 2, 1) := by decide +kernel
theorem dX12_holds_112 : decode mX12_holds.2.1 112 = .ok (.invokevirtual 463, 3) := by decide +kernel
theorem dX12_holds_115 : decode mX12_holds.2.1 115 = .ok (.ifCond .ne 7, 3) := by decide +kernel
theorem dX12_holds_118 : decode mX12_holds.2.1 118 = .ok (.iconst 1, 1) := by decide +kernel
theorem dX12_holds_119 : decode mX12_holds.2.1 119 = .ok (.goto 4, 3) := by decide +kernel
theorem dX12_holds_122 : decode mX12_holds.2.1 122 = .ok (.iconst 0, 1) := by decide +kernel
theorem dX12_holds_123 : decode mX12_holds.2.1 123 = .ok (.ireturn, 1) := by decide +kernel
theorem dX12_holds_124 : decode mX12_holds.2.1 124 = .ok (.aload_n 0, 1) := by decide +kernel
theorem dX12_holds_125 : decode mX12_holds.2.1 125 = .ok (.iload 4, 2) := by decide +kernel
theorem dX12_holds_127 : decode mX12_holds.2.1 127 = .ok (.iload_n 2, 1) := by decide +kernel
theorem dX12_holds_128 : decode mX12_holds.2.1 128 = .ok (.invokevirtual 463, 3) := by decide +kernel
theorem dX12_holds_131 : decode mX12_holds.2.1 131 = .ok (.ifCond .eq 17, 3) := by decide +kernel
theorem dX12_holds_134 : decode mX12_holds.2.1 134 = .ok (.aload_n 0, 1) := by decide +kernel
theorem dX12_holds_135 : decode mX12_holds.2.1 135 = .ok (.iload 5, 2) := by decide +kernel
theorem dX12_holds_137 : decode mX12_holds.2.1 137 = .ok (.iload_n 2, 1) := by decide +kernel
theorem dX12_holds_138 : decode mX12_holds.2.1 138 = .ok (.invokevirtual 463, 3) := by decide +kernel
theorem dX12_holds_141 : decode mX12_holds.2.1 141 = .ok (.ifCond .eq 7, 3) := by decide +kernel
theorem dX12_holds_144 : decode mX12_holds.2.1 144 = .ok (.iconst 1, 1) := by decide +kernel
theorem dX12_holds_145 : decode mX12_holds.2.1 145 = .ok (.goto 4, 3) := by decide +kernel
theorem dX12_holds_148 : decode mX12_holds.2.1 148 = .ok (.iconst 0, 1) := by decide +kernel
theorem dX12_holds_149 : decode mX12_holds.2.1 149 = .ok (.ireturn, 1) := by decide +kernel
theorem dX12_holds_150 : decode mX12_holds.2.1 150 = .ok (.aload_n 0, 1) := by decide +kernel
theorem dX12_holds_151 : decode mX12_holds.2.1 151 = .ok (.iload 4, 2) := by decide +kernel
theorem dX12_holds_153 : decode mX12_holds.2.1 153 = .ok (.iload_n 2, 1) := by decide +kernel
theorem dX12_holds_154 : decode mX12_holds.2.1 154 = .ok (.invokevirtual 463, 3) := by decide +kernel
theorem dX12_holds_157 : decode mX12_holds.2.1 157 = .ok (.ifCond .ne 13, 3) := by decide +kernel
theorem dX12_holds_160 : decode mX12_holds.2.1 160 = .ok (.aload_n 0, 1) := by decide +kernel
theorem dX12_holds_161 : decode mX12_holds.2.1 161 = .ok (.iload 5, 2) := by decide +kernel
theorem dX12_holds_163 : decode mX12_holds.2.1 163 = .ok (.iload_n 2, 1) := by decide +kernel
theorem dX12_holds_164 : decode mX12_holds.2.1 164 = .ok (.invokevirtual 463, 3) := by decide +kernel
theorem dX12_holds_167 : decode mX12_holds.2.1 167 = .ok (.ifCond .eq 7, 3) := by decide +kernel
theorem dX12_holds_170 : decode mX12_holds.2.1 170 = .ok (.iconst 1, 1) := by decide +kernel
theorem dX12_holds_171 : decode mX12_holds.2.1 171 = .ok (.goto 4, 3) := by decide +kernel
theorem dX12_holds_174 : decode mX12_holds.2.1 174 = .ok (.iconst 0, 1) := by decide +kernel
theorem dX12_holds_175 : decode mX12_holds.2.1 175 = .ok (.ireturn, 1) := by decide +kernel
theorem dX12_holds_176 : decode mX12_holds.2.1 176 = .ok (.aload_n 0, 1) := by decide +kernel
theorem dX12_holds_177 : decode mX12_holds.2.1 177 = .ok (.getfield 98, 3) := by decide +kernel
theorem dX12_holds_180 : decode mX12_holds.2.1 180 = .ok (.sipush 131, 3) := by decide +kernel
theorem dX12_holds_183 : decode mX12_holds.2.1 183 = .ok (.iload_n 2, 1) := by decide +kernel
theorem dX12_holds_184 : decode mX12_holds.2.1 184 = .ok (.iadd, 1) := by decide +kernel
theorem dX12_holds_185 : decode mX12_holds.2.1 185 = .ok (.iaload, 1) := by decide +kernel
theorem dX12_holds_186 : decode mX12_holds.2.1 186 = .ok (.ifCond .ne 7, 3) := by decide +kernel
theorem dX12_holds_189 : decode mX12_holds.2.1 189 = .ok (.iconst 1, 1) := by decide +kernel
theorem dX12_holds_190 : decode mX12_holds.2.1 190 = .ok (.goto 4, 3) := by decide +kernel
theorem dX12_holds_193 : decode mX12_holds.2.1 193 = .ok (.iconst 0, 1) := by decide +kernel
theorem dX12_holds_194 : decode mX12_holds.2.1 194 = .ok (.ireturn, 1) := by decide +kernel
theorem dX12_holds_195 : decode mX12_holds.2.1 195 = .ok (.aload_n 0, 1) := by decide +kernel
theorem dX12_holds_196 : decode mX12_holds.2.1 196 = .ok (.getfield 98, 3) := by decide +kernel
theorem dX12_holds_199 : decode mX12_holds.2.1 199 = .ok (.sipush 136, 3) := by decide +kernel
theorem dX12_holds_202 : decode mX12_holds.2.1 202 = .ok (.iload_n 2, 1) := by decide +kernel
theorem dX12_holds_203 : decode mX12_holds.2.1 203 = .ok (.iadd, 1) := by decide +kernel
theorem dX12_holds_204 : decode mX12_holds.2.1 204 = .ok (.iaload, 1) := by decide +kernel
theorem dX12_holds_205 : decode mX12_holds.2.1 205 = .ok (.ifCond .ne 7, 3) := by decide +kernel
theorem dX12_holds_208 : decode mX12_holds.2.1 208 = .ok (.iconst 1, 1) := by decide +kernel
theorem dX12_holds_209 : decode mX12_holds.2.1 209 = .ok (.goto 4, 3) := by decide +kernel
theorem dX12_holds_212 : decode mX12_holds.2.1 212 = .ok (.iconst 0, 1) := by decide +kernel
theorem dX12_holds_213 : decode mX12_holds.2.1 213 = .ok (.ireturn, 1) := by decide +kernel
theorem dX12_holds_214 : decode mX12_holds.2.1 214 = .ok (.aload_n 0, 1) := by decide +kernel
theorem dX12_holds_215 : decode mX12_holds.2.1 215 = .ok (.iload_n 2, 1) := by decide +kernel
theorem dX12_holds_216 : decode mX12_holds.2.1 216 = .ok (.invokevirtual 260, 3) := by decide +kernel
theorem dX12_holds_219 : decode mX12_holds.2.1 219 = .ok (.ireturn, 1) := by decide +kernel
theorem dX12_holds_220 : decode mX12_holds.2.1 220 = .ok (.aload_n 0, 1) := by decide +kernel
theorem dX12_holds_221 : decode mX12_holds.2.1 221 = .ok (.getfield 98, 3) := by decide +kernel
theorem dX12_holds_224 : decode mX12_holds.2.1 224 = .ok (.sipush 141, 3) := by decide +kernel
theorem dX12_holds_227 : decode mX12_holds.2.1 227 = .ok (.iload_n 2, 1) := by decide +kernel
theorem dX12_holds_228 : decode mX12_holds.2.1 228 = .ok (.iadd, 1) := by decide +kernel
theorem dX12_holds_229 : decode mX12_holds.2.1 229 = .ok (.iaload, 1) := by decide +kernel
theorem dX12_holds_230 : decode mX12_holds.2.1 230 = .ok (.iload 4, 2) := by decide +kernel
theorem dX12_holds_232 : decode mX12_holds.2.1 232 = .ok (.invokestatic 242, 3) := by decide +kernel
theorem dX12_holds_235 : decode mX12_holds.2.1 235 = .ok (.ireturn, 1) := by decide +kernel
theorem dX12_holds_236 : decode mX12_holds.2.1 236 = .ok (.aload_n 0, 1) := by decide +kernel
theorem dX12_holds_237 : decode mX12_holds.2.1 237 = .ok (.iload_n 2, 1) := by decide +kernel
theorem dX12_holds_238 : decode mX12_holds.2.1 238 = .ok (.iload 4, 2) := by decide +kernel
theorem dX12_holds_240 : decode mX12_holds.2.1 240 = .ok (.invokevirtual 466, 3) := by decide +kernel
theorem dX12_holds_243 : decode mX12_holds.2.1 243 = .ok (.ireturn, 1) := by decide +kernel
theorem dX12_holds_244 : decode mX12_holds.2.1 244 = .ok (.aload_n 0, 1) := by decide +kernel
theorem dX12_holds_245 : decode mX12_holds.2.1 245 = .ok (.getfield 98, 3) := by decide +kernel
theorem dX12_holds_248 : decode mX12_holds.2.1 248 = .ok (.iload_n 3, 1) := by decide +kernel
theorem dX12_holds_249 : decode mX12_holds.2.1 249 = .ok (.iaload, 1) := by decide +kernel
theorem dX12_holds_250 : decode mX12_holds.2.1 250 = .ok (.bipush 50, 2) := by decide +kernel
theorem dX12_holds_252 : decode mX12_holds.2.1 252 = .ok (.isub, 1) := by decide +kernel
theorem dX12_holds_253 : decode mX12_holds.2.1 253 = .ok (.istore 6, 2) := by decide +kernel
theorem dX12_holds_255 : decode mX12_holds.2.1 255 = .ok (.iload 6, 2) := by decide +kernel
theorem dX12_holds_257 : decode mX12_holds.2.1 257 = .ok (.bipush 21, 2) := by decide +kernel
theorem dX12_holds_259 : decode mX12_holds.2.1 259 = .ok (.if_icmp .ne 16, 3) := by decide +kernel
theorem dX12_holds_262 : decode mX12_holds.2.1 262 = .ok (.aload_n 0, 1) := by decide +kernel
theorem dX12_holds_263 : decode mX12_holds.2.1 263 = .ok (.getfield 98, 3) := by decide +kernel
theorem dX12_holds_266 : decode mX12_holds.2.1 266 = .ok (.sipush 136, 3) := by decide +kernel
theorem dX12_holds_269 : decode mX12_holds.2.1 269 = .ok (.iload_n 2, 1) := by decide +kernel
theorem dX12_holds_270 : decode mX12_holds.2.1 270 = .ok (.iadd, 1) := by decide +kernel
theorem dX12_holds_271 : decode mX12_holds.2.1 271 = .ok (.iaload, 1) := by decide +kernel
theorem dX12_holds_272 : decode mX12_holds.2.1 272 = .ok (.goto 44, 3) := by decide +kernel
theorem dX12_holds_275 : decode mX12_holds.2.1 275 = .ok (.iload 6, 2) := by decide +kernel
theorem dX12_holds_277 : decode mX12_holds.2.1 277 = .ok (.bipush 22, 2) := by decide +kernel
theorem dX12_holds_279 : decode mX12_holds.2.1 279 = .ok (.if_icmp .ne 16, 3) := by decide +kernel
theorem dX12_holds_282 : decode mX12_holds.2.1 282 = .ok (.aload_n 0, 1) := by decide +kernel
theorem dX12_holds_283 : decode mX12_holds.2.1 283 = .ok (.getfield 98, 3) := by decide +kernel
theorem dX12_holds_286 : decode mX12_holds.2.1 286 = .ok (.sipush 131, 3) := by decide +kernel
theorem dX12_holds_289 : decode mX12_holds.2.1 289 = .ok (.iload_n 2, 1) := by decide +kernel
theorem dX12_holds_290 : decode mX12_holds.2.1 290 = .ok (.iadd, 1) := by decide +kernel
theorem dX12_holds_291 : decode mX12_holds.2.1 291 = .ok (.iaload, 1) := by decide +kernel
theorem dX12_holds_292 : decode mX12_holds.2.1 292 = .ok (.goto 24, 3) := by decide +kernel
theorem dX12_holds_295 : decode mX12_holds.2.1 295 = .ok (.iload 6, 2) := by decide +kernel
theorem dX12_holds_297 : decode mX12_holds.2.1 297 = .ok (.bipush 23, 2) := by decide +kernel
theorem dX12_holds_299 : decode mX12_holds.2.1 299 = .ok (.if_icmp .ne 16, 3) := by decide +kernel
theorem dX12_holds_302 : decode mX12_holds.2.1 302 = .ok (.aload_n 0, 1) := by decide +kernel
theorem dX12_holds_303 : decode mX12_holds.2.1 303 = .ok (.getfield 98, 3) := by decide +kernel
theorem dX12_holds_306 : decode mX12_holds.2.1 306 = .ok (.sipush 146, 3) := by decide +kernel
theorem dX12_holds_309 : decode mX12_holds.2.1 309 = .ok (.iload_n 2, 1) := by decide +kernel
theorem dX12_holds_310 : decode mX12_holds.2.1 310 = .ok (.iadd, 1) := by decide +kernel
theorem dX12_holds_311 : decode mX12_holds.2.1 311 = .ok (.iaload, 1) := by decide +kernel
theorem dX12_holds_312 : decode mX12_holds.2.1 312 = .ok (.goto 4, 3) := by decide +kernel
theorem dX12_holds_315 : decode mX12_holds.2.1 315 = .ok (.iload_n 2, 1) := by decide +kernel
theorem dX12_holds_316 : decode mX12_holds.2.1 316 = .ok (.istore 7, 2) := by decide +kernel
theorem dX12_holds_318 : decode mX12_holds.2.1 318 = .ok (.aload_n 0, 1) := by decide +kernel
theorem dX12_holds_319 : decode mX12_holds.2.1 319 = .ok (.getfield 98, 3) := by decide +kernel
theorem dX12_holds_322 : decode mX12_holds.2.1 322 = .ok (.iload_n 3, 1) := by decide +kernel
theorem dX12_holds_323 : decode mX12_holds.2.1 323 = .ok (.iconst 3, 1) := by decide +kernel
theorem dX12_holds_324 : decode mX12_holds.2.1 324 = .ok (.iadd, 1) := by decide +kernel
theorem dX12_holds_325 : decode mX12_holds.2.1 325 = .ok (.iaload, 1) := by decide +kernel
theorem dX12_holds_326 : decode mX12_holds.2.1 326 = .ok (.bipush 60, 2) := by decide +kernel
theorem dX12_holds_328 : decode mX12_holds.2.1 328 = .ok (.if_icmp .ne 18, 3) := by decide +kernel
theorem dX12_holds_331 : decode mX12_holds.2.1 331 = .ok (.iload 7, 2) := by decide +kernel
theorem dX12_holds_333 : decode mX12_holds.2.1 333 = .ok (.iload 5, 2) := by decide +kernel
theorem dX12_holds_335 : decode mX12_holds.2.1 335 = .ok (.if_icmp .ge 7, 3) := by decide +kernel
theorem dX12_holds_338 : decode mX12_holds.2.1 338 = .ok (.iconst 1, 1) := by decide +kernel
theorem dX12_holds_339 : decode mX12_holds.2.1 339 = .ok (.goto 47, 3) := by decide +kernel
theorem dX12_holds_342 : decode mX12_holds.2.1 342 = .ok (.iconst 0, 1) := by decide +kernel
theorem dX12_holds_343 : decode mX12_holds.2.1 343 = .ok (.goto 43, 3) := by decide +kernel
theorem dX12_holds_346 : decode mX12_holds.2.1 346 = .ok (.aload_n 0, 1) := by decide +kernel
theorem dX12_holds_347 : decode mX12_holds.2.1 347 = .ok (.getfield 98, 3) := by decide +kernel
theorem dX12_holds_350 : decode mX12_holds.2.1 350 = .ok (.iload_n 3, 1) := by decide +kernel
theorem dX12_holds_351 : decode mX12_holds.2.1 351 = .ok (.iconst 3, 1) := by decide +kernel
theorem dX12_holds_352 : decode mX12_holds.2.1 352 = .ok (.iadd, 1) := by decide +kernel
theorem dX12_holds_353 : decode mX12_holds.2.1 353 = .ok (.iaload, 1) := by decide +kernel
theorem dX12_holds_354 : decode mX12_holds.2.1 354 = .ok (.bipush 61, 2) := by decide +kernel
theorem dX12_holds_356 : decode mX12_holds.2.1 356 = .ok (.if_icmp .ne 18, 3) := by decide +kernel
theorem dX12_holds_359 : decode mX12_holds.2.1 359 = .ok (.iload 7, 2) := by decide +kernel
theorem dX12_holds_361 : decode mX12_holds.2.1 361 = .ok (.iload 5, 2) := by decide +kernel
theorem dX12_holds_363 : decode mX12_holds.2.1 363 = .ok (.if_icmp .ne 7, 3) := by decide +kernel
theorem dX12_holds_366 : decode mX12_holds.2.1 366 = .ok (.iconst 1, 1) := by decide +kernel
theorem dX12_holds_367 : decode mX12_holds.2.1 367 = .ok (.goto 19, 3) := by decide +kernel
theorem dX12_holds_370 : decode mX12_holds.2.1 370 = .ok (.iconst 0, 1) := by decide +kernel
theorem dX12_holds_371 : decode mX12_holds.2.1 371 = .ok (.goto 15, 3) := by decide +kernel
theorem dX12_holds_374 : decode mX12_holds.2.1 374 = .ok (.iload 7, 2) := by decide +kernel
theorem dX12_holds_376 : decode mX12_holds.2.1 376 = .ok (.iload 5, 2) := by decide +kernel
theorem dX12_holds_378 : decode mX12_holds.2.1 378 = .ok (.if_icmp .le 7, 3) := by decide +kernel
theorem dX12_holds_381 : decode mX12_holds.2.1 381 = .ok (.iconst 1, 1) := by decide +kernel
theorem dX12_holds_382 : decode mX12_holds.2.1 382 = .ok (.goto 4, 3) := by decide +kernel
theorem dX12_holds_385 : decode mX12_holds.2.1 385 = .ok (.iconst 0, 1) := by decide +kernel
theorem dX12_holds_386 : decode mX12_holds.2.1 386 = .ok (.ireturn, 1) := by decide +kernel
set_option maxRecDepth 4000 in
theorem st_X12_holds {m : Mem} {G : Mem} {B : Int} {N : Int → Int} {nn : Int} {kk : Int} {p : Int} {dn : Nat} (hb : Bg G 8 18 (m 216)) (hdn : DnOk G 8) (hst : StOk G 8 18 B) (hB : B ≤ 1900000000) (hp : 0 ≤ p ∧ p < G 8 3) (hN : ∀ j : Int, m 216 (234 + j) = N j) (hwf : Wf N (G 8 3) nn) (hnn : nn ≤ 60) (hkk : 0 ≤ kk ∧ kk < nn) (hdn4 : 6 ≤ dn) (ih : ∀ {k : Int}, 0 ≤ k → k < kk → Ev 0 dn mX12_holds [vr 214, vi k, vi p] m (fun r m' => m' = m ∧ (r = b2i (evT (plA G p) N (k + 1).toNat k)))) : Ev 0 (dn + 1) mX12_holds [vr 214, vi kk, vi p] m (fun r m' => m' = m ∧ (r = b2i (evT (plA G p) N (kk + 1).toNat kk))) := by
  refine Ev.of (L := [vr 214, vi kk, vi p, un, un, un, un, un]) (by decide +kernel) rfl (Nat.le_of_ble_eq_true rfl) rfl (fun t ht => by cases ht; first | exact Or.inl rfl | exact Or.inr (Or.inl rfl) | exact Or.inr (Or.inr rfl)) (fun hcan => ?_)
  obtain ⟨⟨hd0, hd1⟩, ⟨hd2, hd3⟩, ⟨hd4, hd5⟩, ⟨hd6, hd7⟩, ⟨hd8, hd9⟩, hdf, hdp, hdq⟩ := id hdn
  obtain ⟨⟨hs0, hs1⟩, ⟨hs2, hs3⟩, hsw, hsp, hsd, hsz⟩ := id hst
  have hpp := hsp p hp.1 hp.2
  refine go_sipush dX12_holds_0 (by decide) ?_
  refine go_iconst dX12_holds_3 ?_
  refine go_iload_n dX12_holds_4 rfl ?_
  refine go_imul dX12_holds_5 ?_
  refine go_iadd dX12_holds_6 ?_
  refine go_istore_n (L' := [vr 214, vi kk, vi p, vi (234 + (4 * kk)), un, un, un, un]) dX12_holds_7 (by decide) rfl rfl ?_
  refine go_aload_n dX12_holds_8 rfl ?_
  refine go_getf_p (b := 216) dX12_holds_9 fl_12_98 ob_214 rfl pt_214_14 ?_
  refine go_iload_n dX12_holds_12 rfl ?_
  refine go_iconst dX12_holds_13 ?_
  refine go_iadd dX12_holds_14 ?_
  refine go_iaload dX12_holds_15 ar_216 (by omega) (by omega) (fun he_15 => ?_)
  rw [show (m 216 ((234 + (4 * kk)) + 1) : Int) = (N (4 * kk + 1)) from (by rw [show 234 + 4 * kk + 1 = 234 + (4 * kk + 1) by omega]; exact hN _)] at he_15 ⊢
  refine go_istore (L' := [vr 214, vi kk, vi p, vi (234 + (4 * kk)), vi (N (4 * kk + 1)), un, un, un]) dX12_holds_16 (by decide) rfl rfl ?_
  refine go_aload_n dX12_holds_18 rfl ?_
  refine go_getf_p (b := 216) dX12_holds_19 fl_12_98 ob_214 rfl pt_214_14 ?_
  refine go_iload_n dX12_holds_22 rfl ?_
  refine go_iconst dX12_holds_23 ?_
  refine go_iadd dX12_holds_24 ?_
  refine go_iaload dX12_holds_25 ar_216 (by omega) (by omega) (fun he_25 => ?_)
  rw [show (m 216 ((234 + (4 * kk)) + 2) : Int) = (N (4 * kk + 2)) from (by rw [show 234 + 4 * kk + 2 = 234 + (4 * kk + 2) by omega]; exact hN _)] at he_25 ⊢
  refine go_istore (L' := [vr 214, vi kk, vi p, vi (234 + (4 * kk)), vi (N (4 * kk + 1)), vi (N (4 * kk + 2)), un, un]) dX12_holds_26 (by decide) rfl rfl ?_
  refine go_aload_n dX12_holds_28 rfl ?_
  refine go_getf_p (b := 216) dX12_holds_29 fl_12_98 ob_214 rfl pt_214_14 ?_
  refine go_iload_n dX12_holds_32 rfl ?_
  refine go_iaload dX12_holds_33 ar_216 (by omega) (by omega) (fun he_33 => ?_)
  rw [show (m 216 (234 + (4 * kk)) : Int) = (N (4 * kk)) from (by rw [show 234 + 4 * kk = 234 + (4 * kk) by omega]; exact hN _)] at he_33 ⊢
  have w := hwf kk hkk.1 hkk.2
  unfold Wk at w
  have hev := evT_3 (A := plA G p) (N := N) (f := kk.toNat) (k := kk)
  rw [show kk.toNat + 1 = (kk + 1).toNat by omega] at hev
  by_cases hk_34_0 : (N (4 * kk)) = 1
  · refine go_lswitch (off := 74) (tgt := 108) dX12_holds_34 ⟨by omega, by omega⟩ (by decide) (by rw [hk_34_0] <;> rfl) (by decide) ?_
    rw [if_pos hk_34_0, evT_f hwf kk.toNat ((N (4 * kk + 1)) + 1).toNat (N (4 * kk + 1)) (by omega) (by omega) (by omega) (by omega)] at hev
    refine go_aload_n dX12_holds_108 rfl ?_
    refine go_iload dX12_holds_109 rfl ?_
    refine go_iload_n dX12_holds_111 rfl ?_
    refine go_callVp_z (as := [vi (N (4 * kk + 1)), vi p]) (S := []) (b := 214) (ih  (k := (N (4 * kk + 1))) (by first | assumption | omega | exact ⟨by omega, by omega⟩ | (constructor <;> omega)) (by first | assumption | omega | exact ⟨by omega, by omega⟩ | (constructor <;> omega))) rfl dX12_holds_112 cv_12_463 rfl rfl ob_214 rfl (by omega) (Nat.le_of_ble_eq_true rfl) (fun r_112 hr_112 ho_112 => ?_)
    refine go_if_ne (tgt := 122) dX12_holds_115 (by decide) ⟨by omega, by omega⟩ (fun h_115 => ?_) (fun h_115 => ?_)
    · refine go_iconst dX12_holds_122 ?_
      exact go_ret (v := 0) rfl dX12_holds_123 (okZ (by first | exact Or.inl rfl | exact Or.inr rfl | assumption | omega)) ⟨rfl, by rw [hev, b2i_1 hr_112 (by omega)]; rfl⟩
    · refine go_iconst dX12_holds_118 ?_
      refine go_goto (tgt := 123) dX12_holds_119 (by decide) ?_
      exact go_ret (v := 1) rfl dX12_holds_123 (okZ (by first | exact Or.inl rfl | exact Or.inr rfl | assumption | omega)) ⟨rfl, by rw [hev, b2i_0 hr_112 (by omega)]; rfl⟩
  · skip
    by_cases hk_34_1 : (N (4 * kk)) = 2
    · refine go_lswitch (off := 90) (tgt := 124) dX12_holds_34 ⟨by omega, by omega⟩ (by decide) (by rw [hk_34_1] <;> rfl) (by decide) ?_
      rw [if_neg hk_34_0, if_pos hk_34_1, evT_f hwf kk.toNat ((N (4 * kk + 1)) + 1).toNat (N (4 * kk + 1)) (by omega) (by omega) (by omega) (by omega), evT_f hwf kk.toNat ((N (4 * kk + 2)) + 1).toNat (N (4 * kk + 2)) (by omega) (by omega) (by omega) (by omega)] at hev
      refine go_aload_n dX12_holds_124 rfl ?_
      refine go_iload dX12_holds_125 rfl ?_
      refine go_iload_n dX12_holds_127 rfl ?_
      refine go_callVp_z (as := [vi (N (4 * kk + 1)), vi p]) (S := []) (b := 214) (ih  (k := (N (4 * kk + 1))) (by first | assumption | omega | exact ⟨by omega, by omega⟩ | (constructor <;> omega)) (by first | assumption | omega | exact ⟨by omega, by omega⟩ | (constructor <;> omega))) rfl dX12_holds_128 cv_12_463 rfl rfl ob_214 rfl (by omega) (Nat.le_of_ble_eq_true rfl) (fun r_128 hr_128 ho_128 => ?_)
      refine go_if_eq (tgt := 148) dX12_holds_131 (by decide) ⟨by omega, by omega⟩ (fun h_131 => ?_) (fun h_131 => ?_)
      · refine go_iconst dX12_holds_148 ?_
        exact go_ret (v := 0) rfl dX12_holds_149 (okZ (by first | exact Or.inl rfl | exact Or.inr rfl | assumption | omega)) ⟨rfl, by rw [hev]; first | (rw [b2i_0 hr_128 (by omega)]; rfl) | (rw [b2i_0 hr_138 (by omega), Bool.and_false]; rfl)⟩
      · refine go_aload_n dX12_holds_134 rfl ?_
        refine go_iload dX12_holds_135 rfl ?_
        refine go_iload_n dX12_holds_137 rfl ?_
        refine go_callVp_z (as := [vi (N (4 * kk + 2)), vi p]) (S := []) (b := 214) (ih  (k := (N (4 * kk + 2))) (by first | assumption | omega | exact ⟨by omega, by omega⟩ | (constructor <;> omega)) (by first | assumption | omega | exact ⟨by omega, by omega⟩ | (constructor <;> omega))) rfl dX12_holds_138 cv_12_463 rfl rfl ob_214 rfl (by omega) (Nat.le_of_ble_eq_true rfl) (fun r_138 hr_138 ho_138 => ?_)
        refine go_if_eq (tgt := 148) dX12_holds_141 (by decide) ⟨by omega, by omega⟩ (fun h_141 => ?_) (fun h_141 => ?_)
        · refine go_iconst dX12_holds_148 ?_
          exact go_ret (v := 0) rfl dX12_holds_149 (okZ (by first | exact Or.inl rfl | exact Or.inr rfl | assumption | omega)) ⟨rfl, by rw [hev]; first | (rw [b2i_0 hr_128 (by omega)]; rfl) | (rw [b2i_0 hr_138 (by omega), Bool.and_false]; rfl)⟩
        · refine go_iconst dX12_holds_144 ?_
          refine go_goto (tgt := 149) dX12_holds_145 (by decide) ?_
          exact go_ret (v := 1) rfl dX12_holds_149 (okZ (by first | exact Or.inl rfl | exact Or.inr rfl | assumption | omega)) ⟨rfl, by rw [hev, b2i_1 hr_128 (by omega), b2i_1 hr_138 (by omega)]; rfl⟩
    · skip
      by_cases hk_34_2 : (N (4 * kk)) = 3
      · refine go_lswitch (off := 116) (tgt := 150) dX12_holds_34 ⟨by omega, by omega⟩ (by decide) (by rw [hk_34_2] <;> rfl) (by decide) ?_
        rw [if_neg hk_34_0, if_neg hk_34_1, if_pos hk_34_2, evT_f hwf kk.toNat ((N (4 * kk + 1)) + 1).toNat (N (4 * kk + 1)) (by omega) (by omega) (by omega) (by omega), evT_f hwf kk.toNat ((N (4 * kk + 2)) + 1).toNat (N (4 * kk + 2)) (by omega) (by omega) (by omega) (by omega)] at hev
        refine go_aload_n dX12_holds_150 rfl ?_
        refine go_iload dX12_holds_151 rfl ?_
        refine go_iload_n dX12_holds_153 rfl ?_
        refine go_callVp_z (as := [vi (N (4 * kk + 1)), vi p]) (S := []) (b := 214) (ih  (k := (N (4 * kk + 1))) (by first | assumption | omega | exact ⟨by omega, by omega⟩ | (constructor <;> omega)) (by first | assumption | omega | exact ⟨by omega, by omega⟩ | (constructor <;> omega))) rfl dX12_holds_154 cv_12_463 rfl rfl ob_214 rfl (by omega) (Nat.le_of_ble_eq_true rfl) (fun r_154 hr_154 ho_154 => ?_)
        refine go_if_ne (tgt := 170) dX12_holds_157 (by decide) ⟨by omega, by omega⟩ (fun h_157 => ?_) (fun h_157 => ?_)
        · refine go_iconst dX12_holds_170 ?_
          refine go_goto (tgt := 175) dX12_holds_171 (by decide) ?_
          exact go_ret (v := 1) rfl dX12_holds_175 (okZ (by first | exact Or.inl rfl | exact Or.inr rfl | assumption | omega)) ⟨rfl, by rw [hev]; first | (rw [b2i_1 hr_154 (by omega)]; rfl) | (rw [b2i_1 hr_164 (by omega), Bool.or_true]; rfl)⟩
        · refine go_aload_n dX12_holds_160 rfl ?_
          refine go_iload dX12_holds_161 rfl ?_
          refine go_iload_n dX12_holds_163 rfl ?_
          refine go_callVp_z (as := [vi (N (4 * kk + 2)), vi p]) (S := []) (b := 214) (ih  (k := (N (4 * kk + 2))) (by first | assumption | omega | exact ⟨by omega, by omega⟩ | (constructor <;> omega)) (by first | assumption | omega | exact ⟨by omega, by omega⟩ | (constructor <;> omega))) rfl dX12_holds_164 cv_12_463 rfl rfl ob_214 rfl (by omega) (Nat.le_of_ble_eq_true rfl) (fun r_164 hr_164 ho_164 => ?_)
          refine go_if_eq (tgt := 174) dX12_holds_167 (by decide) ⟨by omega, by omega⟩ (fun h_167 => ?_) (fun h_167 => ?_)
          · refine go_iconst dX12_holds_174 ?_
            exact go_ret (v := 0) rfl dX12_holds_175 (okZ (by first | exact Or.inl rfl | exact Or.inr rfl | assumption | omega)) ⟨rfl, by rw [hev, b2i_0 hr_154 (by omega), b2i_0 hr_164 (by omega)]; rfl⟩
          · refine go_iconst dX12_holds_170 ?_
            refine go_goto (tgt := 175) dX12_holds_171 (by decide) ?_
            exact go_ret (v := 1) rfl dX12_holds_175 (okZ (by first | exact Or.inl rfl | exact Or.inr rfl | assumption | omega)) ⟨rfl, by rw [hev]; first | (rw [b2i_1 hr_154 (by omega)]; rfl) | (rw [b2i_1 hr_164 (by omega), Bool.or_true]; rfl)⟩
      · skip
        by_cases hk_34_3 : (N (4 * kk)) = 66
        · refine go_lswitch (off := 142) (tgt := 176) dX12_holds_34 ⟨by omega, by omega⟩ (by decide) (by rw [hk_34_3] <;> rfl) (by decide) ?_
          rw [if_neg hk_34_0, if_neg hk_34_1, if_neg hk_34_2] at hev
          have hnd : ndC N kk = (216, 0, 0) := by unfold ndC; rw [hk_34_3]; rfl
          have hpl : plA G p (216, 0, 0) = decide (G (18 + 4) p = 0) := rfl
          rw [hnd, hpl] at hev
          refine go_aload_n dX12_holds_176 rfl ?_
          refine go_getf_p (b := 216) dX12_holds_177 fl_12_98 ob_214 rfl pt_214_14 ?_
          refine go_sipush dX12_holds_180 (by decide) ?_
          refine go_iload_n dX12_holds_183 rfl ?_
          refine go_iadd dX12_holds_184 ?_
          refine go_iaload dX12_holds_185 ar_216 (by omega) (by omega) (fun he_185 => ?_)
          rw [show (m 216 (131 + p) : Int) = (G (18 + 4) p) from (hb.up (p := p) (by omega) (by omega))] at he_185 ⊢
          refine go_if_ne (tgt := 193) dX12_holds_186 (by decide) ⟨by omega, by omega⟩ (fun h_186 => ?_) (fun h_186 => ?_)
          · refine go_iconst dX12_holds_193 ?_
            exact go_ret (v := 0) rfl dX12_holds_194 (okZ (by first | exact Or.inl rfl | exact Or.inr rfl | assumption | omega)) ⟨rfl, (by rw [hev]; first | exact b2i_t (by omega) | exact b2i_n (by omega))⟩
          · refine go_iconst dX12_holds_189 ?_
            refine go_goto (tgt := 194) dX12_holds_190 (by decide) ?_
            exact go_ret (v := 1) rfl dX12_holds_194 (okZ (by first | exact Or.inl rfl | exact Or.inr rfl | assumption | omega)) ⟨rfl, (by rw [hev]; first | exact b2i_t (by omega) | exact b2i_n (by omega))⟩
        · skip
          by_cases hk_34_4 : (N (4 * kk)) = 67
          · refine go_lswitch (off := 161) (tgt := 195) dX12_holds_34 ⟨by omega, by omega⟩ (by decide) (by rw [hk_34_4] <;> rfl) (by decide) ?_
            rw [if_neg hk_34_0, if_neg hk_34_1, if_neg hk_34_2] at hev
            have hnd : ndC N kk = (217, 0, 0) := by unfold ndC; rw [hk_34_4]; rfl
            have hpl : plA G p (217, 0, 0) = decide (G (18 + 5) p = 0) := rfl
            rw [hnd, hpl] at hev
            refine go_aload_n dX12_holds_195 rfl ?_
            refine go_getf_p (b := 216) dX12_holds_196 fl_12_98 ob_214 rfl pt_214_14 ?_
            refine go_sipush dX12_holds_199 (by decide) ?_
            refine go_iload_n dX12_holds_202 rfl ?_
            refine go_iadd dX12_holds_203 ?_
            refine go_iaload dX12_holds_204 ar_216 (by omega) (by omega) (fun he_204 => ?_)
            rw [show (m 216 (136 + p) : Int) = (G (18 + 5) p) from (hb.br (p := p) (by omega) (by omega))] at he_204 ⊢
            refine go_if_ne (tgt := 212) dX12_holds_205 (by decide) ⟨by omega, by omega⟩ (fun h_205 => ?_) (fun h_205 => ?_)
            · refine go_iconst dX12_holds_212 ?_
              exact go_ret (v := 0) rfl dX12_holds_213 (okZ (by first | exact Or.inl rfl | exact Or.inr rfl | assumption | omega)) ⟨rfl, (by rw [hev]; first | exact b2i_t (by omega) | exact b2i_n (by omega))⟩
            · refine go_iconst dX12_holds_208 ?_
              refine go_goto (tgt := 213) dX12_holds_209 (by decide) ?_
              exact go_ret (v := 1) rfl dX12_holds_213 (okZ (by first | exact Or.inl rfl | exact Or.inr rfl | assumption | omega)) ⟨rfl, (by rw [hev]; first | exact b2i_t (by omega) | exact b2i_n (by omega))⟩
          · skip
            by_cases hk_34_5 : (N (4 * kk)) = 68
            · refine go_lswitch (off := 180) (tgt := 214) dX12_holds_34 ⟨by omega, by omega⟩ (by decide) (by rw [hk_34_5] <;> rfl) (by decide) ?_
              rw [if_neg hk_34_0, if_neg hk_34_1, if_neg hk_34_2] at hev
              have hnd : ndC N kk = (218, 0, 0) := by unfold ndC; rw [hk_34_5]; rfl
              have hpl : plA G p (218, 0, 0) = setlC G 8 18 p := rfl
              rw [hnd, hpl] at hev
              refine go_aload_n dX12_holds_214 rfl ?_
              refine go_iload_n dX12_holds_215 rfl ?_
              refine go_callVp_z (as := [vi p]) (S := []) (b := 214) (ev_X12_isSettled (m := m) (p := p) (G := G) (d := 8) (st := 18) (by first | exact hb | exact hb.w (by decide) | exact (hb.w (by decide)).w (by decide)) (by first | assumption | omega | exact ⟨by omega, by omega⟩ | (constructor <;> omega)) (by first | assumption | omega | exact ⟨by omega, by omega⟩ | (constructor <;> omega))) rfl dX12_holds_216 cv_12_260 rfl rfl ob_214 rfl (by omega) (Nat.le_of_ble_eq_true rfl) (fun r_216 hr_216 ho_216 => ?_)
              exact go_ret (v := r_216) rfl dX12_holds_219 (okZ (by first | exact Or.inl rfl | exact Or.inr rfl | assumption | omega)) ⟨rfl, (by rw [hev]; rcases hr_216 with ⟨a, b⟩ | ⟨a, b⟩ <;> rw [a, b] <;> rfl)⟩
            · skip
              by_cases hk_34_6 : (N (4 * kk)) = 69
              · refine go_lswitch (off := 186) (tgt := 220) dX12_holds_34 ⟨by omega, by omega⟩ (by decide) (by rw [hk_34_6] <;> rfl) (by decide) ?_
                rw [if_neg hk_34_0, if_neg hk_34_1, if_neg hk_34_2] at hev
                have hnd : ndC N kk = (219, 0, N (4 * kk + 1)) := by unfold ndC; rw [hk_34_6]; rfl
                have hpl : plA G p (219, 0, N (4 * kk + 1)) = decide (iand (ishr (G (18 + 6) p) (N (4 * kk + 1))) 1 = 1) := rfl
                rw [hnd, hpl] at hev
                refine go_aload_n dX12_holds_220 rfl ?_
                refine go_getf_p (b := 216) dX12_holds_221 fl_12_98 ob_214 rfl pt_214_14 ?_
                refine go_sipush dX12_holds_224 (by decide) ?_
                refine go_iload_n dX12_holds_227 rfl ?_
                refine go_iadd dX12_holds_228 ?_
                refine go_iaload dX12_holds_229 ar_216 (by omega) (by omega) (fun he_229 => ?_)
                rw [show (m 216 (141 + p) : Int) = (G (18 + 6) p) from (hb.ca (p := p) (by omega) (by omega))] at he_229 ⊢
                refine go_iload dX12_holds_230 rfl ?_
                refine go_callSp_z (as := [vi (G (18 + 6) p), vi (N (4 * kk + 1))]) (S := []) (ev_X12_has (m := m) (a := (G (18 + 6) p)) (k := (N (4 * kk + 1))) ) rfl dX12_holds_232 cs_12_242 rfl rfl (by omega) (Nat.le_of_ble_eq_true rfl) (fun r_232 hr_232 ho_232 => ?_)
                exact go_ret (v := r_232) rfl dX12_holds_235 (okZ (by first | exact Or.inl rfl | exact Or.inr rfl | assumption | omega)) ⟨rfl, (by rw [hev]; rcases hr_232 with ⟨a, b⟩ | ⟨a, b⟩; (rw [a]; exact b2i_t b); (rw [a]; exact b2i_n b))⟩
              · skip
                by_cases hk_34_7 : (N (4 * kk)) = 70
                · refine go_lswitch (off := 202) (tgt := 236) dX12_holds_34 ⟨by omega, by omega⟩ (by decide) (by rw [hk_34_7] <;> rfl) (by decide) ?_
                  rw [if_neg hk_34_0, if_neg hk_34_1, if_neg hk_34_2] at hev
                  have hnd : ndC N kk = (220, 0, N (4 * kk + 1)) := by unfold ndC; rw [hk_34_7]; rfl
                  have hpl : plA G p (220, 0, N (4 * kk + 1)) = decide (iabs (G 20 p - G 20 (N (4 * kk + 1))) + iabs (G 21 p - G 21 (N (4 * kk + 1))) = 1) := rfl
                  rw [hnd, hpl] at hev
                  refine go_aload_n dX12_holds_236 rfl ?_
                  refine go_iload_n dX12_holds_237 rfl ?_
                  refine go_iload dX12_holds_238 rfl ?_
                  refine go_callVp_z (as := [vi p, vi (N (4 * kk + 1))]) (S := []) (b := 214) (ev_X12_isBy (m := m) (p := p) (q := (N (4 * kk + 1))) (G := G) (B := B) (by first | exact hb | exact hb.w (by decide) | exact (hb.w (by decide)).w (by decide)) (by first | assumption | omega | exact ⟨by omega, by omega⟩ | (constructor <;> omega)) (by first | assumption | omega | exact ⟨by omega, by omega⟩ | (constructor <;> omega)) (by first | assumption | omega | exact ⟨by omega, by omega⟩ | (constructor <;> omega)) (by first | assumption | omega | exact ⟨by omega, by omega⟩ | (constructor <;> omega))) rfl dX12_holds_240 cv_12_466 rfl rfl ob_214 rfl (by omega) (Nat.le_of_ble_eq_true rfl) (fun r_240 hr_240 ho_240 => ?_)
                  exact go_ret (v := r_240) rfl dX12_holds_243 (okZ (by first | exact Or.inl rfl | exact Or.inr rfl | assumption | omega)) ⟨rfl, (by rw [hev]; rcases hr_240 with ⟨a, b⟩ | ⟨a, b⟩; (rw [a]; exact b2i_t b); (rw [a]; exact b2i_n b))⟩
                · skip
                  refine go_lswitch (off := 210) (tgt := 244) dX12_holds_34 ⟨by omega, by omega⟩ (by decide) (by simp [Op.lookupswitch.offset, hk_34_0, show ¬ (1 : Int) = (N (4 * kk)) from fun z => hk_34_0 z.symm, hk_34_1, show ¬ (2 : Int) = (N (4 * kk)) from fun z => hk_34_1 z.symm, hk_34_2, show ¬ (3 : Int) = (N (4 * kk)) from fun z => hk_34_2 z.symm, hk_34_3, show ¬ (66 : Int) = (N (4 * kk)) from fun z => hk_34_3 z.symm, hk_34_4, show ¬ (67 : Int) = (N (4 * kk)) from fun z => hk_34_4 z.symm, hk_34_5, show ¬ (68 : Int) = (N (4 * kk)) from fun z => hk_34_5 z.symm, hk_34_6, show ¬ (69 : Int) = (N (4 * kk)) from fun z => hk_34_6 z.symm, hk_34_7, show ¬ (70 : Int) = (N (4 * kk)) from fun z => hk_34_7 z.symm]) (by decide) ?_
                  rw [if_neg hk_34_0, if_neg hk_34_1, if_neg hk_34_2] at hev
                  have hnd : ndC N kk = (N (4 * kk) + 150, N (4 * kk + 3), N (4 * kk + 2)) := by unfold ndC; rw [if_neg (by omega), if_neg (by omega)]
                  rw [hnd] at hev
                  refine go_aload_n dX12_holds_244 rfl ?_
                  refine go_getf_p (b := 216) dX12_holds_245 fl_12_98 ob_214 rfl pt_214_14 ?_
                  refine go_iload_n dX12_holds_248 rfl ?_
                  refine go_iaload dX12_holds_249 ar_216 (by omega) (by omega) (fun he_249 => ?_)
                  rw [show (m 216 (234 + (4 * kk)) : Int) = (N (4 * kk)) from (by rw [show 234 + 4 * kk = 234 + (4 * kk) by omega]; exact hN _)] at he_249 ⊢
                  refine go_bipush dX12_holds_250 (by decide) ?_
                  refine go_isub dX12_holds_252 ?_
                  refine go_istore (L' := [vr 214, vi kk, vi p, vi (234 + (4 * kk)), vi (N (4 * kk + 1)), vi (N (4 * kk + 2)), vi ((N (4 * kk)) - 50), un]) dX12_holds_253 (by decide) rfl rfl ?_
                  refine go_iload dX12_holds_255 rfl ?_
                  refine go_bipush dX12_holds_257 (by decide) ?_
                  refine go_icmp_ne (tgt := 275) dX12_holds_259 (by decide) ⟨by omega, by omega⟩ ⟨by omega, by omega⟩ (fun h_259 => ?_) (fun h_259 => ?_)
                  · refine go_iload dX12_holds_275 rfl ?_
                    refine go_bipush dX12_holds_277 (by decide) ?_
                    refine go_icmp_ne (tgt := 295) dX12_holds_279 (by decide) ⟨by omega, by omega⟩ ⟨by omega, by omega⟩ (fun h_279 => ?_) (fun h_279 => ?_)
                    · refine go_iload dX12_holds_295 rfl ?_
                      refine go_bipush dX12_holds_297 (by decide) ?_
                      refine go_icmp_ne (tgt := 315) dX12_holds_299 (by decide) ⟨by omega, by omega⟩ ⟨by omega, by omega⟩ (fun h_299 => ?_) (fun h_299 => ?_)
                      · refine go_iload_n dX12_holds_315 rfl ?_
                        have hpl : plA G p (N (4 * kk) + 150, N (4 * kk + 3), N (4 * kk + 2)) = cmpB p (N (4 * kk) + 150, N (4 * kk + 3), N (4 * kk + 2)) := by unfold plA; dsimp only; rw [if_neg (by omega), if_neg (by omega), if_neg (by omega), if_neg (by omega), if_neg (by omega), if_neg (by omega), if_neg (by omega), if_neg (by omega)]
                        refine go_istore (L' := [vr 214, vi kk, vi p, vi (234 + (4 * kk)), vi (N (4 * kk + 1)), vi (N (4 * kk + 2)), vi ((N (4 * kk)) - 50), vi p]) dX12_holds_316 (by decide) rfl rfl ?_
                        refine go_aload_n dX12_holds_318 rfl ?_
                        refine go_getf_p (b := 216) dX12_holds_319 fl_12_98 ob_214 rfl pt_214_14 ?_
                        refine go_iload_n dX12_holds_322 rfl ?_
                        refine go_iconst dX12_holds_323 ?_
                        refine go_iadd dX12_holds_324 ?_
                        refine go_iaload dX12_holds_325 ar_216 (by omega) (by omega) (fun he_325 => ?_)
                        rw [show (m 216 ((234 + (4 * kk)) + 3) : Int) = (N (4 * kk + 3)) from (by rw [show 234 + 4 * kk + 3 = 234 + (4 * kk + 3) by omega]; exact hN _)] at he_325 ⊢
                        refine go_bipush dX12_holds_326 (by decide) ?_
                        refine go_icmp_ne (tgt := 346) dX12_holds_328 (by decide) ⟨by omega, by omega⟩ ⟨by omega, by omega⟩ (fun h_328 => ?_) (fun h_328 => ?_)
                        · refine go_aload_n dX12_holds_346 rfl ?_
                          refine go_getf_p (b := 216) dX12_holds_347 fl_12_98 ob_214 rfl pt_214_14 ?_
                          refine go_iload_n dX12_holds_350 rfl ?_
                          refine go_iconst dX12_holds_351 ?_
                          refine go_iadd dX12_holds_352 ?_
                          refine go_iaload dX12_holds_353 ar_216 (by omega) (by omega) (fun he_353 => ?_)
                          rw [show (m 216 ((234 + (4 * kk)) + 3) : Int) = (N (4 * kk + 3)) from (by rw [show 234 + 4 * kk + 3 = 234 + (4 * kk + 3) by omega]; exact hN _)] at he_353 ⊢
                          refine go_bipush dX12_holds_354 (by decide) ?_
                          refine go_icmp_ne (tgt := 374) dX12_holds_356 (by decide) ⟨by omega, by omega⟩ ⟨by omega, by omega⟩ (fun h_356 => ?_) (fun h_356 => ?_)
                          · refine go_iload dX12_holds_374 rfl ?_
                            refine go_iload dX12_holds_376 rfl ?_
                            refine go_icmp_le (tgt := 385) dX12_holds_378 (by decide) ⟨by omega, by omega⟩ ⟨by omega, by omega⟩ (fun h_378 => ?_) (fun h_378 => ?_)
                            · refine go_iconst dX12_holds_385 ?_
                              exact go_ret (v := 0) rfl dX12_holds_386 (okZ (by first | exact Or.inl rfl | exact Or.inr rfl | assumption | omega)) ⟨rfl, (by rw [hev, hpl]; unfold cmpB; dsimp only; first | (rw [if_pos (by omega)]; first | exact b2i_t (by omega) | exact b2i_n (by omega)) | (rw [if_neg (by omega), if_pos (by omega)]; first | exact b2i_t (by omega) | exact b2i_n (by omega)) | (rw [if_neg (by omega), if_neg (by omega)]; first | exact b2i_t (by omega) | exact b2i_n (by omega)))⟩
                            · refine go_iconst dX12_holds_381 ?_
                              refine go_goto (tgt := 386) dX12_holds_382 (by decide) ?_
                              exact go_ret (v := 1) rfl dX12_holds_386 (okZ (by first | exact Or.inl rfl | exact Or.inr rfl | assumption | omega)) ⟨rfl, (by rw [hev, hpl]; unfold cmpB; dsimp only; first | (rw [if_pos (by omega)]; first | exact b2i_t (by omega) | exact b2i_n (by omega)) | (rw [if_neg (by omega), if_pos (by omega)]; first | exact b2i_t (by omega) | exact b2i_n (by omega)) | (rw [if_neg (by omega), if_neg (by omega)]; first | exact b2i_t (by omega) | exact b2i_n (by omega)))⟩
                          · refine go_iload dX12_holds_359 rfl ?_
                            refine go_iload dX12_holds_361 rfl ?_
                            refine go_icmp_ne (tgt := 370) dX12_holds_363 (by decide) ⟨by omega, by omega⟩ ⟨by omega, by omega⟩ (fun h_363 => ?_) (fun h_363 => ?_)
                            · refine go_iconst dX12_holds_370 ?_
                              refine go_goto (tgt := 386) dX12_holds_371 (by decide) ?_
                              exact go_ret (v := 0) rfl dX12_holds_386 (okZ (by first | exact Or.inl rfl | exact Or.inr rfl | assumption | omega)) ⟨rfl, (by rw [hev, hpl]; unfold cmpB; dsimp only; first | (rw [if_pos (by omega)]; first | exact b2i_t (by omega) | exact b2i_n (by omega)) | (rw [if_neg (by omega), if_pos (by omega)]; first | exact b2i_t (by omega) | exact b2i_n (by omega)) | (rw [if_neg (by omega), if_neg (by omega)]; first | exact b2i_t (by omega) | exact b2i_n (by omega)))⟩
                            · refine go_iconst dX12_holds_366 ?_
                              refine go_goto (tgt := 386) dX12_holds_367 (by decide) ?_
                              exact go_ret (v := 1) rfl dX12_holds_386 (okZ (by first | exact Or.inl rfl | exact Or.inr rfl | assumption | omega)) ⟨rfl, (by rw [hev, hpl]; unfold cmpB; dsimp only; first | (rw [if_pos (by omega)]; first | exact b2i_t (by omega) | exact b2i_n (by omega)) | (rw [if_neg (by omega), if_pos (by omega)]; first | exact b2i_t (by omega) | exact b2i_n (by omega)) | (rw [if_neg (by omega), if_neg (by omega)]; first | exact b2i_t (by omega) | exact b2i_n (by omega)))⟩
                        · refine go_iload dX12_holds_331 rfl ?_
                          refine go_iload dX12_holds_333 rfl ?_
                          refine go_icmp_ge (tgt := 342) dX12_holds_335 (by decide) ⟨by omega, by omega⟩ ⟨by omega, by omega⟩ (fun h_335 => ?_) (fun h_335 => ?_)
                          · refine go_iconst dX12_holds_342 ?_
                            refine go_goto (tgt := 386) dX12_holds_343 (by decide) ?_
                            exact go_ret (v := 0) rfl dX12_holds_386 (okZ (by first | exact Or.inl rfl | exact Or.inr rfl | assumption | omega)) ⟨rfl, (by rw [hev, hpl]; unfold cmpB; dsimp only; first | (rw [if_pos (by omega)]; first | exact b2i_t (by omega) | exact b2i_n (by omega)) | (rw [if_neg (by omega), if_pos (by omega)]; first | exact b2i_t (by omega) | exact b2i_n (by omega)) | (rw [if_neg (by omega), if_neg (by omega)]; first | exact b2i_t (by omega) | exact b2i_n (by omega)))⟩
                          · refine go_iconst dX12_holds_338 ?_
                            refine go_goto (tgt := 386) dX12_holds_339 (by decide) ?_
                            exact go_ret (v := 1) rfl dX12_holds_386 (okZ (by first | exact Or.inl rfl | exact Or.inr rfl | assumption | omega)) ⟨rfl, (by rw [hev, hpl]; unfold cmpB; dsimp only; first | (rw [if_pos (by omega)]; first | exact b2i_t (by omega) | exact b2i_n (by omega)) | (rw [if_neg (by omega), if_pos (by omega)]; first | exact b2i_t (by omega) | exact b2i_n (by omega)) | (rw [if_neg (by omega), if_neg (by omega)]; first | exact b2i_t (by omega) | exact b2i_n (by omega)))⟩
                      · refine go_aload_n dX12_holds_302 rfl ?_
                        refine go_getf_p (b := 216) dX12_holds_303 fl_12_98 ob_214 rfl pt_214_14 ?_
                        refine go_sipush dX12_holds_306 (by decide) ?_
                        refine go_iload_n dX12_holds_309 rfl ?_
                        refine go_iadd dX12_holds_310 ?_
                        refine go_iaload dX12_holds_311 ar_216 (by omega) (by omega) (fun he_311 => ?_)
                        rw [show (m 216 (146 + p) : Int) = (G (18 + 7) p) from (hb.sa (p := p) (by omega) (by omega))] at he_311 ⊢
                        refine go_goto (tgt := 316) dX12_holds_312 (by decide) ?_
                        have hpl : plA G p (N (4 * kk) + 150, N (4 * kk + 3), N (4 * kk + 2)) = cmpB (G (18 + 7) p) (N (4 * kk) + 150, N (4 * kk + 3), N (4 * kk + 2)) := by unfold plA; dsimp only; rw [if_neg (by omega), if_neg (by omega), if_neg (by omega), if_neg (by omega), if_neg (by omega), if_neg (by omega), if_neg (by omega), if_pos (by omega)]
                        refine go_istore (L' := [vr 214, vi kk, vi p, vi (234 + (4 * kk)), vi (N (4 * kk + 1)), vi (N (4 * kk + 2)), vi ((N (4 * kk)) - 50), vi (G (18 + 7) p)]) dX12_holds_316 (by decide) rfl rfl ?_
                        refine go_aload_n dX12_holds_318 rfl ?_
                        refine go_getf_p (b := 216) dX12_holds_319 fl_12_98 ob_214 rfl pt_214_14 ?_
                        refine go_iload_n dX12_holds_322 rfl ?_
                        refine go_iconst dX12_holds_323 ?_
                        refine go_iadd dX12_holds_324 ?_
                        refine go_iaload dX12_holds_325 ar_216 (by omega) (by omega) (fun he_325 => ?_)
                        rw [show (m 216 ((234 + (4 * kk)) + 3) : Int) = (N (4 * kk + 3)) from (by rw [show 234 + 4 * kk + 3 = 234 + (4 * kk + 3) by omega]; exact hN _)] at he_325 ⊢
                        refine go_bipush dX12_holds_326 (by decide) ?_
                        refine go_icmp_ne (tgt := 346) dX12_holds_328 (by decide) ⟨by omega, by omega⟩ ⟨by omega, by omega⟩ (fun h_328 => ?_) (fun h_328 => ?_)
                        · refine go_aload_n dX12_holds_346 rfl ?_
                          refine go_getf_p (b := 216) dX12_holds_347 fl_12_98 ob_214 rfl pt_214_14 ?_
                          refine go_iload_n dX12_holds_350 rfl ?_
                          refine go_iconst dX12_holds_351 ?_
                          refine go_iadd dX12_holds_352 ?_
                          refine go_iaload dX12_holds_353 ar_216 (by omega) (by omega) (fun he_353 => ?_)
                          rw [show (m 216 ((234 + (4 * kk)) + 3) : Int) = (N (4 * kk + 3)) from (by rw [show 234 + 4 * kk + 3 = 234 + (4 * kk + 3) by omega]; exact hN _)] at he_353 ⊢
                          refine go_bipush dX12_holds_354 (by decide) ?_
                          refine go_icmp_ne (tgt := 374) dX12_holds_356 (by decide) ⟨by omega, by omega⟩ ⟨by omega, by omega⟩ (fun h_356 => ?_) (fun h_356 => ?_)
                          · refine go_iload dX12_holds_374 rfl ?_
                            refine go_iload dX12_holds_376 rfl ?_
                            refine go_icmp_le (tgt := 385) dX12_holds_378 (by decide) ⟨by omega, by omega⟩ ⟨by omega, by omega⟩ (fun h_378 => ?_) (fun h_378 => ?_)
                            · refine go_iconst dX12_holds_385 ?_
                              exact go_ret (v := 0) rfl dX12_holds_386 (okZ (by first | exact Or.inl rfl | exact Or.inr rfl | assumption | omega)) ⟨rfl, (by rw [hev, hpl]; unfold cmpB; dsimp only; first | (rw [if_pos (by omega)]; first | exact b2i_t (by omega) | exact b2i_n (by omega)) | (rw [if_neg (by omega), if_pos (by omega)]; first | exact b2i_t (by omega) | exact b2i_n (by omega)) | (rw [if_neg (by omega), if_neg (by omega)]; first | exact b2i_t (by omega) | exact b2i_n (by omega)))⟩
                            · refine go_iconst dX12_holds_381 ?_
                              refine go_goto (tgt := 386) dX12_holds_382 (by decide) ?_
                              exact go_ret (v := 1) rfl dX12_holds_386 (okZ (by first | exact Or.inl rfl | exact Or.inr rfl | assumption | omega)) ⟨rfl, (by rw [hev, hpl]; unfold cmpB; dsimp only; first | (rw [if_pos (by omega)]; first | exact b2i_t (by omega) | exact b2i_n (by omega)) | (rw [if_neg (by omega), if_pos (by omega)]; first | exact b2i_t (by omega) | exact b2i_n (by omega)) | (rw [if_neg (by omega), if_neg (by omega)]; first | exact b2i_t (by omega) | exact b2i_n (by omega)))⟩
                          · refine go_iload dX12_holds_359 rfl ?_
                            refine go_iload dX12_holds_361 rfl ?_
                            refine go_icmp_ne (tgt := 370) dX12_holds_363 (by decide) ⟨by omega, by omega⟩ ⟨by omega, by omega⟩ (fun h_363 => ?_) (fun h_363 => ?_)
                            · refine go_iconst dX12_holds_370 ?_
                              refine go_goto (tgt := 386) dX12_holds_371 (by decide) ?_
                              exact go_ret (v := 0) rfl dX12_holds_386 (okZ (by first | exact Or.inl rfl | exact Or.inr rfl | assumption | omega)) ⟨rfl, (by rw [hev, hpl]; unfold cmpB; dsimp only; first | (rw [if_pos (by omega)]; first | exact b2i_t (by omega) | exact b2i_n (by omega)) | (rw [if_neg (by omega), if_pos (by omega)]; first | exact b2i_t (by omega) | exact b2i_n (by omega)) | (rw [if_neg (by omega), if_neg (by omega)]; first | exact b2i_t (by omega) | exact b2i_n (by omega)))⟩
                            · refine go_iconst dX12_holds_366 ?_
                              refine go_goto (tgt := 386) dX12_holds_367 (by decide) ?_
                              exact go_ret (v := 1) rfl dX12_holds_386 (okZ (by first | exact Or.inl rfl | exact Or.inr rfl | assumption | omega)) ⟨rfl, (by rw [hev, hpl]; unfold cmpB; dsimp only; first | (rw [if_pos (by omega)]; first | exact b2i_t (by omega) | exact b2i_n (by omega)) | (rw [if_neg (by omega), if_pos (by omega)]; first | exact b2i_t (by omega) | exact b2i_n (by omega)) | (rw [if_neg (by omega), if_neg (by omega)]; first | exact b2i_t (by omega) | exact b2i_n (by omega)))⟩
                        · refine go_iload dX12_holds_331 rfl ?_
                          refine go_iload dX12_holds_333 rfl ?_
                          refine go_icmp_ge (tgt := 342) dX12_holds_335 (by decide) ⟨by omega, by omega⟩ ⟨by omega, by omega⟩ (fun h_335 => ?_) (fun h_335 => ?_)
                          · refine go_iconst dX12_holds_342 ?_
                            refine go_goto (tgt := 386) dX12_holds_343 (by decide) ?_
                            exact go_ret (v := 0) rfl dX12_holds_386 (okZ (by first | exact Or.inl rfl | exact Or.inr rfl | assumption | omega)) ⟨rfl, (by rw [hev, hpl]; unfold cmpB; dsimp only; first | (rw [if_pos (by omega)]; first | exact b2i_t (by omega) | exact b2i_n (by omega)) | (rw [if_neg (by omega), if_pos (by omega)]; first | exact b2i_t (by omega) | exact b2i_n (by omega)) | (rw [if_neg (by omega), if_neg (by omega)]; first | exact b2i_t (by omega) | exact b2i_n (by omega)))⟩
                          · refine go_iconst dX12_holds_338 ?_
                            refine go_goto (tgt := 386) dX12_holds_339 (by decide) ?_
                            exact go_ret (v := 1) rfl dX12_holds_386 (okZ (by first | exact Or.inl rfl | exact Or.inr rfl | assumption | omega)) ⟨rfl, (by rw [hev, hpl]; unfold cmpB; dsimp only; first | (rw [if_pos (by omega)]; first | exact b2i_t (by omega) | exact b2i_n (by omega)) | (rw [if_neg (by omega), if_pos (by omega)]; first | exact b2i_t (by omega) | exact b2i_n (by omega)) | (rw [if_neg (by omega), if_neg (by omega)]; first | exact b2i_t (by omega) | exact b2i_n (by omega)))⟩
                    · refine go_aload_n dX12_holds_282 rfl ?_
                      refine go_getf_p (b := 216) dX12_holds_283 fl_12_98 ob_214 rfl pt_214_14 ?_
                      refine go_sipush dX12_holds_286 (by decide) ?_
                      refine go_iload_n dX12_holds_289 rfl ?_
                      refine go_iadd dX12_holds_290 ?_
                      refine go_iaload dX12_holds_291 ar_216 (by omega) (by omega) (fun he_291 => ?_)
                      rw [show (m 216 (131 + p) : Int) = (G (18 + 4) p) from (hb.up (p := p) (by omega) (by omega))] at he_291 ⊢
                      refine go_goto (tgt := 316) dX12_holds_292 (by decide) ?_
                      have hpl : plA G p (N (4 * kk) + 150, N (4 * kk + 3), N (4 * kk + 2)) = cmpB (G (18 + 4) p) (N (4 * kk) + 150, N (4 * kk + 3), N (4 * kk + 2)) := by unfold plA; dsimp only; rw [if_neg (by omega), if_neg (by omega), if_neg (by omega), if_neg (by omega), if_neg (by omega), if_neg (by omega), if_pos (by omega)]
                      refine go_istore (L' := [vr 214, vi kk, vi p, vi (234 + (4 * kk)), vi (N (4 * kk + 1)), vi (N (4 * kk + 2)), vi ((N (4 * kk)) - 50), vi (G (18 + 4) p)]) dX12_holds_316 (by decide) rfl rfl ?_
                      refine go_aload_n dX12_holds_318 rfl ?_
                      refine go_getf_p (b := 216) dX12_holds_319 fl_12_98 ob_214 rfl pt_214_14 ?_
                      refine go_iload_n dX12_holds_322 rfl ?_
                      refine go_iconst dX12_holds_323 ?_
                      refine go_iadd dX12_holds_324 ?_
                      refine go_iaload dX12_holds_325 ar_216 (by omega) (by omega) (fun he_325 => ?_)
                      rw [show (m 216 ((234 + (4 * kk)) + 3) : Int) = (N (4 * kk + 3)) from (by rw [show 234 + 4 * kk + 3 = 234 + (4 * kk + 3) by omega]; exact hN _)] at he_325 ⊢
                      refine go_bipush dX12_holds_326 (by decide) ?_
                      refine go_icmp_ne (tgt := 346) dX12_holds_328 (by decide) ⟨by omega, by omega⟩ ⟨by omega, by omega⟩ (fun h_328 => ?_) (fun h_328 => ?_)
                      · refine go_aload_n dX12_holds_346 rfl ?_
                        refine go_getf_p (b := 216) dX12_holds_347 fl_12_98 ob_214 rfl pt_214_14 ?_
                        refine go_iload_n dX12_holds_350 rfl ?_
                        refine go_iconst dX12_holds_351 ?_
                        refine go_iadd dX12_holds_352 ?_
                        refine go_iaload dX12_holds_353 ar_216 (by omega) (by omega) (fun he_353 => ?_)
                        rw [show (m 216 ((234 + (4 * kk)) + 3) : Int) = (N (4 * kk + 3)) from (by rw [show 234 + 4 * kk + 3 = 234 + (4 * kk + 3) by omega]; exact hN _)] at he_353 ⊢
                        refine go_bipush dX12_holds_354 (by decide) ?_
                        refine go_icmp_ne (tgt := 374) dX12_holds_356 (by decide) ⟨by omega, by omega⟩ ⟨by omega, by omega⟩ (fun h_356 => ?_) (fun h_356 => ?_)
                        · refine go_iload dX12_holds_374 rfl ?_
                          refine go_iload dX12_holds_376 rfl ?_
                          refine go_icmp_le (tgt := 385) dX12_holds_378 (by decide) ⟨by omega, by omega⟩ ⟨by omega, by omega⟩ (fun h_378 => ?_) (fun h_378 => ?_)
                          · refine go_iconst dX12_holds_385 ?_
                            exact go_ret (v := 0) rfl dX12_holds_386 (okZ (by first | exact Or.inl rfl | exact Or.inr rfl | assumption | omega)) ⟨rfl, (by rw [hev, hpl]; unfold cmpB; dsimp only; first | (rw [if_pos (by omega)]; first | exact b2i_t (by omega) | exact b2i_n (by omega)) | (rw [if_neg (by omega), if_pos (by omega)]; first | exact b2i_t (by omega) | exact b2i_n (by omega)) | (rw [if_neg (by omega), if_neg (by omega)]; first | exact b2i_t (by omega) | exact b2i_n (by omega)))⟩
                          · refine go_iconst dX12_holds_381 ?_
                            refine go_goto (tgt := 386) dX12_holds_382 (by decide) ?_
                            exact go_ret (v := 1) rfl dX12_holds_386 (okZ (by first | exact Or.inl rfl | exact Or.inr rfl | assumption | omega)) ⟨rfl, (by rw [hev, hpl]; unfold cmpB; dsimp only; first | (rw [if_pos (by omega)]; first | exact b2i_t (by omega) | exact b2i_n (by omega)) | (rw [if_neg (by omega), if_pos (by omega)]; first | exact b2i_t (by omega) | exact b2i_n (by omega)) | (rw [if_neg (by omega), if_neg (by omega)]; first | exact b2i_t (by omega) | exact b2i_n (by omega)))⟩
                        · refine go_iload dX12_holds_359 rfl ?_
                          refine go_iload dX12_holds_361 rfl ?_
                          refine go_icmp_ne (tgt := 370) dX12_holds_363 (by decide) ⟨by omega, by omega⟩ ⟨by omega, by omega⟩ (fun h_363 => ?_) (fun h_363 => ?_)
                          · refine go_iconst dX12_holds_370 ?_
                            refine go_goto (tgt := 386) dX12_holds_371 (by decide) ?_
                            exact go_ret (v := 0) rfl dX12_holds_386 (okZ (by first | exact Or.inl rfl | exact Or.inr rfl | assumption | omega)) ⟨rfl, (by rw [hev, hpl]; unfold cmpB; dsimp only; first | (rw [if_pos (by omega)]; first | exact b2i_t (by omega) | exact b2i_n (by omega)) | (rw [if_neg (by omega), if_pos (by omega)]; first | exact b2i_t (by omega) | exact b2i_n (by omega)) | (rw [if_neg (by omega), if_neg (by omega)]; first | exact b2i_t (by omega) | exact b2i_n (by omega)))⟩
                          · refine go_iconst dX12_holds_366 ?_
                            refine go_goto (tgt := 386) dX12_holds_367 (by decide) ?_
                            exact go_ret (v := 1) rfl dX12_holds_386 (okZ (by first | exact Or.inl rfl | exact Or.inr rfl | assumption | omega)) ⟨rfl, (by rw [hev, hpl]; unfold cmpB; dsimp only; first | (rw [if_pos (by omega)]; first | exact b2i_t (by omega) | exact b2i_n (by omega)) | (rw [if_neg (by omega), if_pos (by omega)]; first | exact b2i_t (by omega) | exact b2i_n (by omega)) | (rw [if_neg (by omega), if_neg (by omega)]; first | exact b2i_t (by omega) | exact b2i_n (by omega)))⟩
                      · refine go_iload dX12_holds_331 rfl ?_
                        refine go_iload dX12_holds_333 rfl ?_
                        refine go_icmp_ge (tgt := 342) dX12_holds_335 (by decide) ⟨by omega, by omega⟩ ⟨by omega, by omega⟩ (fun h_335 => ?_) (fun h_335 => ?_)
                        · refine go_iconst dX12_holds_342 ?_
                          refine go_goto (tgt := 386) dX12_holds_343 (by decide) ?_
                          exact go_ret (v := 0) rfl dX12_holds_386 (okZ (by first | exact Or.inl rfl | exact Or.inr rfl | assumption | omega)) ⟨rfl, (by rw [hev, hpl]; unfold cmpB; dsimp only; first | (rw [if_pos (by omega)]; first | exact b2i_t (by omega) | exact b2i_n (by omega)) | (rw [if_neg (by omega), if_pos (by omega)]; first | exact b2i_t (by omega) | exact b2i_n (by omega)) | (rw [if_neg (by omega), if_neg (by omega)]; first | exact b2i_t (by omega) | exact b2i_n (by omega)))⟩
                        · refine go_iconst dX12_holds_338 ?_
                          refine go_goto (tgt := 386) dX12_holds_339 (by decide) ?_
                          exact go_ret (v := 1) rfl dX12_holds_386 (okZ (by first | exact Or.inl rfl | exact Or.inr rfl | assumption | omega)) ⟨rfl, (by rw [hev, hpl]; unfold cmpB; dsimp only; first | (rw [if_pos (by omega)]; first | exact b2i_t (by omega) | exact b2i_n (by omega)) | (rw [if_neg (by omega), if_pos (by omega)]; first | exact b2i_t (by omega) | exact b2i_n (by omega)) | (rw [if_neg (by omega), if_neg (by omega)]; first | exact b2i_t (by omega) | exact b2i_n (by omega)))⟩
                  · refine go_aload_n dX12_holds_262 rfl ?_
                    refine go_getf_p (b := 216) dX12_holds_263 fl_12_98 ob_214 rfl pt_214_14 ?_
                    refine go_sipush dX12_holds_266 (by decide) ?_
                    refine go_iload_n dX12_holds_269 rfl ?_
                    refine go_iadd dX12_holds_270 ?_
                    refine go_iaload dX12_holds_271 ar_216 (by omega) (by omega) (fun he_271 => ?_)
                    rw [show (m 216 (136 + p) : Int) = (G (18 + 5) p) from (hb.br (p := p) (by omega) (by omega))] at he_271 ⊢
                    refine go_goto (tgt := 316) dX12_holds_272 (by decide) ?_
                    have hpl : plA G p (N (4 * kk) + 150, N (4 * kk + 3), N (4 * kk + 2)) = cmpB (G (18 + 5) p) (N (4 * kk) + 150, N (4 * kk + 3), N (4 * kk + 2)) := by unfold plA; dsimp only; rw [if_neg (by omega), if_neg (by omega), if_neg (by omega), if_neg (by omega), if_neg (by omega), if_pos (by omega)]
                    refine go_istore (L' := [vr 214, vi kk, vi p, vi (234 + (4 * kk)), vi (N (4 * kk + 1)), vi (N (4 * kk + 2)), vi ((N (4 * kk)) - 50), vi (G (18 + 5) p)]) dX12_holds_316 (by decide) rfl rfl ?_
                    refine go_aload_n dX12_holds_318 rfl ?_
                    refine go_getf_p (b := 216) dX12_holds_319 fl_12_98 ob_214 rfl pt_214_14 ?_
                    refine go_iload_n dX12_holds_322 rfl ?_
                    refine go_iconst dX12_holds_323 ?_
                    refine go_iadd dX12_holds_324 ?_
                    refine go_iaload dX12_holds_325 ar_216 (by omega) (by omega) (fun he_325 => ?_)
                    rw [show (m 216 ((234 + (4 * kk)) + 3) : Int) = (N (4 * kk + 3)) from (by rw [show 234 + 4 * kk + 3 = 234 + (4 * kk + 3) by omega]; exact hN _)] at he_325 ⊢
                    refine go_bipush dX12_holds_326 (by decide) ?_
                    refine go_icmp_ne (tgt := 346) dX12_holds_328 (by decide) ⟨by omega, by omega⟩ ⟨by omega, by omega⟩ (fun h_328 => ?_) (fun h_328 => ?_)
                    · refine go_aload_n dX12_holds_346 rfl ?_
                      refine go_getf_p (b := 216) dX12_holds_347 fl_12_98 ob_214 rfl pt_214_14 ?_
                      refine go_iload_n dX12_holds_350 rfl ?_
                      refine go_iconst dX12_holds_351 ?_
                      refine go_iadd dX12_holds_352 ?_
                      refine go_iaload dX12_holds_353 ar_216 (by omega) (by omega) (fun he_353 => ?_)
                      rw [show (m 216 ((234 + (4 * kk)) + 3) : Int) = (N (4 * kk + 3)) from (by rw [show 234 + 4 * kk + 3 = 234 + (4 * kk + 3) by omega]; exact hN _)] at he_353 ⊢
                      refine go_bipush dX12_holds_354 (by decide) ?_
                      refine go_icmp_ne (tgt := 374) dX12_holds_356 (by decide) ⟨by omega, by omega⟩ ⟨by omega, by omega⟩ (fun h_356 => ?_) (fun h_356 => ?_)
                      · refine go_iload dX12_holds_374 rfl ?_
                        refine go_iload dX12_holds_376 rfl ?_
                        refine go_icmp_le (tgt := 385) dX12_holds_378 (by decide) ⟨by omega, by omega⟩ ⟨by omega, by omega⟩ (fun h_378 => ?_) (fun h_378 => ?_)
                        · refine go_iconst dX12_holds_385 ?_
                          exact go_ret (v := 0) rfl dX12_holds_386 (okZ (by first | exact Or.inl rfl | exact Or.inr rfl | assumption | omega)) ⟨rfl, (by rw [hev, hpl]; unfold cmpB; dsimp only; first | (rw [if_pos (by omega)]; first | exact b2i_t (by omega) | exact b2i_n (by omega)) | (rw [if_neg (by omega), if_pos (by omega)]; first | exact b2i_t (by omega) | exact b2i_n (by omega)) | (rw [if_neg (by omega), if_neg (by omega)]; first | exact b2i_t (by omega) | exact b2i_n (by omega)))⟩
                        · refine go_iconst dX12_holds_381 ?_
                          refine go_goto (tgt := 386) dX12_holds_382 (by decide) ?_
                          exact go_ret (v := 1) rfl dX12_holds_386 (okZ (by first | exact Or.inl rfl | exact Or.inr rfl | assumption | omega)) ⟨rfl, (by rw [hev, hpl]; unfold cmpB; dsimp only; first | (rw [if_pos (by omega)]; first | exact b2i_t (by omega) | exact b2i_n (by omega)) | (rw [if_neg (by omega), if_pos (by omega)]; first | exact b2i_t (by omega) | exact b2i_n (by omega)) | (rw [if_neg (by omega), if_neg (by omega)]; first | exact b2i_t (by omega) | exact b2i_n (by omega)))⟩
                      · refine go_iload dX12_holds_359 rfl ?_
                        refine go_iload dX12_holds_361 rfl ?_
                        refine go_icmp_ne (tgt := 370) dX12_holds_363 (by decide) ⟨by omega, by omega⟩ ⟨by omega, by omega⟩ (fun h_363 => ?_) (fun h_363 => ?_)
                        · refine go_iconst dX12_holds_370 ?_
                          refine go_goto (tgt := 386) dX12_holds_371 (by decide) ?_
                          exact go_ret (v := 0) rfl dX12_holds_386 (okZ (by first | exact Or.inl rfl | exact Or.inr rfl | assumption | omega)) ⟨rfl, (by rw [hev, hpl]; unfold cmpB; dsimp only; first | (rw [if_pos (by omega)]; first | exact b2i_t (by omega) | exact b2i_n (by omega)) | (rw [if_neg (by omega), if_pos (by omega)]; first | exact b2i_t (by omega) | exact b2i_n (by omega)) | (rw [if_neg (by omega), if_neg (by omega)]; first | exact b2i_t (by omega) | exact b2i_n (by omega)))⟩
                        · refine go_iconst dX12_holds_366 ?_
                          refine go_goto (tgt := 386) dX12_holds_367 (by decide) ?_
                          exact go_ret (v := 1) rfl dX12_holds_386 (okZ (by first | exact Or.inl rfl | exact Or.inr rfl | assumption | omega)) ⟨rfl, (by rw [hev, hpl]; unfold cmpB; dsimp only; first | (rw [if_pos (by omega)]; first | exact b2i_t (by omega) | exact b2i_n (by omega)) | (rw [if_neg (by omega), if_pos (by omega)]; first | exact b2i_t (by omega) | exact b2i_n (by omega)) | (rw [if_neg (by omega), if_neg (by omega)]; first | exact b2i_t (by omega) | exact b2i_n (by omega)))⟩
                    · refine go_iload dX12_holds_331 rfl ?_
                      refine go_iload dX12_holds_333 rfl ?_
                      refine go_icmp_ge (tgt := 342) dX12_holds_335 (by decide) ⟨by omega, by omega⟩ ⟨by omega, by omega⟩ (fun h_335 => ?_) (fun h_335 => ?_)
                      · refine go_iconst dX12_holds_342 ?_
                        refine go_goto (tgt := 386) dX12_holds_343 (by decide) ?_
                        exact go_ret (v := 0) rfl dX12_holds_386 (okZ (by first | exact Or.inl rfl | exact Or.inr rfl | assumption | omega)) ⟨rfl, (by rw [hev, hpl]; unfold cmpB; dsimp only; first | (rw [if_pos (by omega)]; first | exact b2i_t (by omega) | exact b2i_n (by omega)) | (rw [if_neg (by omega), if_pos (by omega)]; first | exact b2i_t (by omega) | exact b2i_n (by omega)) | (rw [if_neg (by omega), if_neg (by omega)]; first | exact b2i_t (by omega) | exact b2i_n (by omega)))⟩
                      · refine go_iconst dX12_holds_338 ?_
                        refine go_goto (tgt := 386) dX12_holds_339 (by decide) ?_
                        exact go_ret (v := 1) rfl dX12_holds_386 (okZ (by first | exact Or.inl rfl | exact Or.inr rfl | assumption | omega)) ⟨rfl, (by rw [hev, hpl]; unfold cmpB; dsimp only; first | (rw [if_pos (by omega)]; first | exact b2i_t (by omega) | exact b2i_n (by omega)) | (rw [if_neg (by omega), if_pos (by omega)]; first | exact b2i_t (by omega) | exact b2i_n (by omega)) | (rw [if_neg (by omega), if_neg (by omega)]; first | exact b2i_t (by omega) | exact b2i_n (by omega)))⟩
