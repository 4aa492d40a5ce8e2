theorem dX12_readSaid_0 : decode mX12_readSaid.2.1 0 = .ok (.aload_n 0, 1) := by decide +kernel
theorem dX12_readSaid_1 : decode mX12_readSaid.2.1 1 = .ok (.bipush 40, 2) := by decide +kernel
theorem dX12_readSaid_3 : decode mX12_readSaid.2.1 3 = .ok (.invokevirtual 86, 3) := by decide +kernel
theorem dX12_readSaid_6 : decode mX12_readSaid.2.1 6 = .ok (.istore_n 1, 1) := by decide +kernel
theorem dX12_readSaid_7 : decode mX12_readSaid.2.1 7 = .ok (.bipush 15, 2) := by decide +kernel
theorem dX12_readSaid_9 : decode mX12_readSaid.2.1 9 = .ok (.istore_n 2, 1) := by decide +kernel
theorem dX12_readSaid_10 : decode mX12_readSaid.2.1 10 = .ok (.iload_n 2, 1) := by decide +kernel
theorem dX12_readSaid_11 : decode mX12_readSaid.2.1 11 = .ok (.bipush 24, 2) := by decide +kernel
theorem dX12_readSaid_13 : decode mX12_readSaid.2.1 13 = .ok (.if_icmp .gt 17, 3) := by decide +kernel
theorem dX12_readSaid_16 : decode mX12_readSaid.2.1 16 = .ok (.aload_n 0, 1) := by decide +kernel
theorem dX12_readSaid_17 : decode mX12_readSaid.2.1 17 = .ok (.iload_n 2, 1) := by decide +kernel
theorem dX12_readSaid_18 : decode mX12_readSaid.2.1 18 = .ok (.invokevirtual 202, 3) := by decide +kernel
theorem dX12_readSaid_21 : decode mX12_readSaid.2.1 21 = .ok (.ifCond .ne 9, 3) := by decide +kernel
theorem dX12_readSaid_24 : decode mX12_readSaid.2.1 24 = .ok (.iinc 2 1, 3) := by decide +kernel
theorem dX12_readSaid_27 : decode mX12_readSaid.2.1 27 = .ok (.goto (-17), 3) := by decide +kernel
theorem dX12_readSaid_30 : decode mX12_readSaid.2.1 30 = .ok (.iload_n 1, 1) := by decide +kernel
theorem dX12_readSaid_31 : decode mX12_readSaid.2.1 31 = .ok (.ifCond .ne 15, 3) := by decide +kernel
theorem dX12_readSaid_34 : decode mX12_readSaid.2.1 34 = .ok (.iload_n 2, 1) := by decide +kernel
theorem dX12_readSaid_35 : decode mX12_readSaid.2.1 35 = .ok (.bipush 24, 2) := by decide +kernel
theorem dX12_readSaid_37 : decode mX12_readSaid.2.1 37 = .ok (.if_icmp .le 9, 3) := by decide +kernel
theorem dX12_readSaid_40 : decode mX12_readSaid.2.1 40 = .ok (.aload_n 0, 1) := by decide +kernel
theorem dX12_readSaid_41 : decode mX12_readSaid.2.1 41 = .ok (.iconst 1, 1) := by decide +kernel
theorem dX12_readSaid_42 : decode mX12_readSaid.2.1 42 = .ok (.invokevirtual 72, 3) := by decide +kernel
theorem dX12_readSaid_45 : decode mX12_readSaid.2.1 45 = .ok (.ireturn, 1) := by decide +kernel
theorem dX12_readSaid_46 : decode mX12_readSaid.2.1 46 = .ok (.aload_n 0, 1) := by decide +kernel
theorem dX12_readSaid_47 : decode mX12_readSaid.2.1 47 = .ok (.getfield 439, 3) := by decide +kernel
theorem dX12_readSaid_50 : decode mX12_readSaid.2.1 50 = .ok (.bipush 20, 2) := by decide +kernel
theorem dX12_readSaid_52 : decode mX12_readSaid.2.1 52 = .ok (.if_icmp .eq 12, 3) := by decide +kernel
theorem dX12_readSaid_55 : decode mX12_readSaid.2.1 55 = .ok (.aload_n 0, 1) := by decide +kernel
theorem dX12_readSaid_56 : decode mX12_readSaid.2.1 56 = .ok (.getfield 442, 3) := by decide +kernel
theorem dX12_readSaid_59 : decode mX12_readSaid.2.1 59 = .ok (.bipush 8, 2) := by decide +kernel
theorem dX12_readSaid_61 : decode mX12_readSaid.2.1 61 = .ok (.if_icmp .ne 9, 3) := by decide +kernel
theorem dX12_readSaid_64 : decode mX12_readSaid.2.1 64 = .ok (.aload_n 0, 1) := by decide +kernel
theorem dX12_readSaid_65 : decode mX12_readSaid.2.1 65 = .ok (.iconst 4, 1) := by decide +kernel
theorem dX12_readSaid_66 : decode mX12_readSaid.2.1 66 = .ok (.invokevirtual 72, 3) := by decide +kernel
theorem dX12_readSaid_69 : decode mX12_readSaid.2.1 69 = .ok (.ireturn, 1) := by decide +kernel
set_option maxRecDepth 4000 in
theorem ev_X12_one0 {m : Mem} {G : Mem} {t : Int → Int} {kw : Int → Int} {n : Int} {lim : Int} {i : Int} {o : Int} {nn : Int} (htm : TM G t kw n lim m i) (hb : Bg G 8 18 (m 216)) (hdn : DnOk G 8) (hnm : NmR G 8 (m 221)) (hms : MS m (G 8 3) o 8 nn) (ho : 0 ≤ o ∧ o ≤ 20) (hnn : 0 ≤ nn ∧ nn ≤ 2 * o) : Ev 0 14 mX12_readSaid [vr 214] m (fun r m' => SaQ G t kw n lim m m' 8 nn (oneF G 0 i o) r) := by
  refine Ev.of (L := [vr 214, un, un, un]) (by decide +kernel) rfl (Nat.le_of_ble_eq_true rfl) rfl (fun t ht => by cases ht; first | exact Or.inl rfl | exact Or.inr (Or.inl rfl) | exact Or.inr (Or.inr rfl)) (fun hcan => ?_)
  obtain ⟨hm1, hm2, hm3, hm4⟩ := id hms
  have hkd := htm.kd
  refine go_aload_n dX12_readSaid_0 rfl ?_
  refine go_bipush dX12_readSaid_1 (by decide) ?_
  refine go_callVp_z (as := [vi 40]) (S := []) (b := 214) (ev_X12_isSign (m := m) (c := 40) (G := G) (t := t) (kw := kw) (n := n) (lim := lim) (i := i) htm (by unfold isS; omega)) rfl dX12_readSaid_3 cv_12_86 rfl rfl ob_214 rfl (by decide) (Nat.le_of_ble_eq_true rfl) (fun r_3 hr_3 ho_3 => ?_)
  refine go_istore_n (L' := [vr 214, vi r_3, un, un]) dX12_readSaid_6 (by decide) rfl rfl ?_
  refine go_bipush dX12_readSaid_7 (by decide) ?_
  refine go_istore_n (L' := [vr 214, vi r_3, vi 15, un]) dX12_readSaid_9 (by decide) rfl rfl ?_
  have lp_10 : ∀ (n_10 : Nat) (w : Int) , (15 ≤ w) → (w ≤ 25) → (∀ j : Int, 15 ≤ j → j < w → G 4 i ≠ 200 + j) → (25 - w).toNat < n_10 → Go 0 14 mX12_readSaid (fun r m' => SaQ G t kw n lim m m' 8 nn (oneF G 0 i o) r) 10 [vr 214, vi r_3, vi w, un] [] m := by
    intro n_10
    induction n_10 with
    | zero => intro w hw0 hw1 hno hmu; exact absurd hmu (Nat.not_lt_zero _)
    | succ n_10 ih_10 =>
      intro w hw0 hw1 hno hmu
      refine go_iload_n dX12_readSaid_10 rfl ?_
      have cut_30 :  ((w ≤ 24 ∧ G 4 i = 200 + w) ∨ (w = 25 ∧ ¬ (215 ≤ G 4 i ∧ G 4 i ≤ 224))) → Go 0 14 mX12_readSaid (fun r m' => SaQ G t kw n lim m m' 8 nn (oneF G 0 i o) r) 30 [vr 214, vi r_3, vi w, un] [] m := by
        intro hww
        refine go_iload_n dX12_readSaid_30 rfl ?_
        have cut_46 :  (G 4 i = 40 ∨ (215 ≤ G 4 i ∧ G 4 i ≤ 224)) → Go 0 14 mX12_readSaid (fun r m' => SaQ G t kw n lim m m' 8 nn (oneF G 0 i o) r) 46 [vr 214, vi r_3, vi w, un] [] m := by
          intro hst
          refine go_aload_n dX12_readSaid_46 rfl ?_
          refine go_getf_i (ki := 45) dX12_readSaid_47 fl_12_439 ob_214 rfl rfl (fun hf_47 => ?_)
          rw [show (m 214 45 : Int) = o from hm1] at hf_47 ⊢
          refine go_bipush dX12_readSaid_50 (by decide) ?_
          refine go_icmp_eq (tgt := 64) dX12_readSaid_52 (by decide) ⟨by omega, by omega⟩ ⟨by omega, by omega⟩ (fun h_52 => ?_) (fun h_52 => ?_)
          · refine go_aload_n dX12_readSaid_64 rfl ?_
            refine go_iconst dX12_readSaid_65 ?_
            refine go_callV_z (as := [vi 4]) (S := []) (b := 214) (ev_X12_bad (m := m) (k := 4) (G := G) (t := t) (kw := kw) (n := n) (lim := lim) (i := i) htm (by first | assumption | omega | exact ⟨by omega, by omega⟩ | (constructor <;> omega))) rfl dX12_readSaid_66 cv_12_72 rfl rfl ob_214 rfl (by decide) (Nat.le_of_ble_eq_true rfl) (fun r_66 m_66 hr_66 ho_66 => ?_)
            refine go_ret (v := r_66) rfl dX12_readSaid_69 (okZ (by first | exact Or.inl rfl | exact Or.inr rfl | assumption | omega)) ?_
            have hq : oneF G 0 i o = (4, i, o, []) := by unfold oneF; rw [if_neg (by omega)]
            have z := NoT.b (G := G) (m := m) (m' := m_66) (f := 4) (i := i) (by rw [hr_66.2, if_neg (by omega)])
            rw [SaQ, hq]
            exact ⟨z.1.s, by rw [z.1.2 46 (by omega)]; exact hm2, Or.inr ⟨(show (4 : Int) ≠ 0 by decide), hr_66.1, z.2.1, z.2.2⟩⟩
          · refine go_aload_n dX12_readSaid_55 rfl ?_
            refine go_getf_i (ki := 46) dX12_readSaid_56 fl_12_442 ob_214 rfl rfl (fun hf_56 => ?_)
            rw [show (m 214 46 : Int) = 8 from hm2] at hf_56 ⊢
            refine go_bipush dX12_readSaid_59 (by decide) ?_
            refine go_icmp_ne (tgt := 70) dX12_readSaid_61 (by decide) ⟨by omega, by omega⟩ ⟨by omega, by omega⟩ (fun h_61 => ?_) (fun h_61 => ?_)
            · exfalso; omega
            · refine go_aload_n dX12_readSaid_64 rfl ?_
              refine go_iconst dX12_readSaid_65 ?_
              refine go_callV_z (as := [vi 4]) (S := []) (b := 214) (ev_X12_bad (m := m) (k := 4) (G := G) (t := t) (kw := kw) (n := n) (lim := lim) (i := i) htm (by first | assumption | omega | exact ⟨by omega, by omega⟩ | (constructor <;> omega))) rfl dX12_readSaid_66 cv_12_72 rfl rfl ob_214 rfl (by decide) (Nat.le_of_ble_eq_true rfl) (fun r_66 m_66 hr_66 ho_66 => ?_)
              refine go_ret (v := r_66) rfl dX12_readSaid_69 (okZ (by first | exact Or.inl rfl | exact Or.inr rfl | assumption | omega)) ?_
              have hq : oneF G 0 i o = (4, i, o, []) := by unfold oneF; rw [if_neg (by omega)]
              have z := NoT.b (G := G) (m := m) (m' := m_66) (f := 4) (i := i) (by rw [hr_66.2, if_neg (by omega)])
              rw [SaQ, hq]
              exact ⟨z.1.s, by rw [z.1.2 46 (by omega)]; exact hm2, Or.inr ⟨(show (4 : Int) ≠ 0 by decide), hr_66.1, z.2.1, z.2.2⟩⟩
        refine go_if_ne (tgt := 46) dX12_readSaid_31 (by decide) ⟨by omega, by omega⟩ (fun h_31 => ?_) (fun h_31 => ?_)
        · exact cut_46  (by omega)
        · refine go_iload_n dX12_readSaid_34 rfl ?_
          refine go_bipush dX12_readSaid_35 (by decide) ?_
          refine go_icmp_le (tgt := 46) dX12_readSaid_37 (by decide) ⟨by omega, by omega⟩ ⟨by omega, by omega⟩ (fun h_37 => ?_) (fun h_37 => ?_)
          · exact cut_46  (by omega)
          · refine go_aload_n dX12_readSaid_40 rfl ?_
            refine go_iconst dX12_readSaid_41 ?_
            refine go_callV_z (as := [vi 1]) (S := []) (b := 214) (ev_X12_bad (m := m) (k := 1) (G := G) (t := t) (kw := kw) (n := n) (lim := lim) (i := i) htm (by first | assumption | omega | exact ⟨by omega, by omega⟩ | (constructor <;> omega))) rfl dX12_readSaid_42 cv_12_72 rfl rfl ob_214 rfl (by decide) (Nat.le_of_ble_eq_true rfl) (fun r_42 m_42 hr_42 ho_42 => ?_)
            refine go_ret (v := r_42) rfl dX12_readSaid_45 (okZ (by first | exact Or.inl rfl | exact Or.inr rfl | assumption | omega)) ?_
            have hq : oneF G 0 i o = (1, i, o, []) := by unfold oneF; rw [if_pos (by omega)]
            have z := NoT.b (G := G) (m := m) (m' := m_42) (f := 1) (i := i) (by rw [hr_42.2]; congr 2; split <;> rfl)
            rw [SaQ, hq]
            exact ⟨z.1.s, by rw [z.1.2 46 (by omega)]; exact hm2, Or.inr ⟨(show (1 : Int) ≠ 0 by decide), hr_42.1, z.2.1, z.2.2⟩⟩
      refine go_bipush dX12_readSaid_11 (by decide) ?_
      refine go_icmp_gt (tgt := 30) dX12_readSaid_13 (by decide) ⟨by omega, by omega⟩ ⟨by omega, by omega⟩ (fun h_13 => ?_) (fun h_13 => ?_)
      · exact cut_30  (by first | (left; omega) | (right; refine ⟨by omega, fun z => hno (G 4 i - 200) (by omega) (by omega) (by omega)⟩))
      · refine go_aload_n dX12_readSaid_16 rfl ?_
        refine go_iload_n dX12_readSaid_17 rfl ?_
        refine go_callVp_z (as := [vi w]) (S := []) (b := 214) (ev_X12_isWord (m := m) (k := w) (G := G) (t := t) (kw := kw) (n := n) (lim := lim) (i := i) htm (by first | assumption | omega | exact ⟨by omega, by omega⟩ | (constructor <;> omega))) rfl dX12_readSaid_18 cv_12_202 rfl rfl ob_214 rfl (by decide) (Nat.le_of_ble_eq_true rfl) (fun r_18 hr_18 ho_18 => ?_)
        refine go_if_ne (tgt := 30) dX12_readSaid_21 (by decide) ⟨by omega, by omega⟩ (fun h_21 => ?_) (fun h_21 => ?_)
        · exact cut_30  (by first | (left; omega) | (right; refine ⟨by omega, fun z => hno (G 4 i - 200) (by omega) (by omega) (by omega)⟩))
        · refine go_iinc (L' := [vr 214, vi r_3, vi (w + 1), un]) dX12_readSaid_24 rfl (by decide) rfl rfl ?_
          refine go_goto (tgt := 10) dX12_readSaid_27 (by decide) ?_
          exact ih_10 (w + 1) (by first | assumption | omega | rfl) (by first | assumption | omega | rfl) (fun j a b => by by_cases q : j < w; exact hno j a q; (rw [show j = w by omega]; omega)) (by omega)
  exact lp_10 _ 15 (by first | assumption | omega | rfl) (by first | assumption | omega | rfl) (fun j a b => by omega) (Nat.lt_succ_self _)
theorem dX12_readAnd_0 : decode mX12_readAnd.2.1 0 = .ok (.aload_n 0, 1) := by decide +kernel
theorem dX12_readAnd_1 : decode mX12_readAnd.2.1 1 = .ok (.invokevirtual 436, 3) := by decide +kernel
theorem dX12_readAnd_4 : decode mX12_readAnd.2.1 4 = .ok (.ifCond .ne 5, 3) := by decide +kernel
theorem dX12_readAnd_7 : decode mX12_readAnd.2.1 7 = .ok (.iconst 0, 1) := by decide +kernel
theorem dX12_readAnd_8 : decode mX12_readAnd.2.1 8 = .ok (.ireturn, 1) := by decide +kernel
theorem dX12_readAnd_9 : decode mX12_readAnd.2.1 9 = .ok (.aload_n 0, 1) := by decide +kernel
theorem dX12_readAnd_10 : decode mX12_readAnd.2.1 10 = .ok (.getfield 430, 3) := by decide +kernel
theorem dX12_readAnd_13 : decode mX12_readAnd.2.1 13 = .ok (.istore_n 1, 1) := by decide +kernel
theorem dX12_readAnd_14 : decode mX12_readAnd.2.1 14 = .ok (.aload_n 0, 1) := by decide +kernel
theorem dX12_readAnd_15 : decode mX12_readAnd.2.1 15 = .ok (.bipush 14, 2) := by decide +kernel
theorem dX12_readAnd_17 : decode mX12_readAnd.2.1 17 = .ok (.invokevirtual 202, 3) := by decide +kernel
theorem dX12_readAnd_20 : decode mX12_readAnd.2.1 20 = .ok (.ifCond .eq 31, 3) := by decide +kernel
theorem dX12_readAnd_23 : decode mX12_readAnd.2.1 23 = .ok (.aload_n 0, 1) := by decide +kernel
theorem dX12_readAnd_24 : decode mX12_readAnd.2.1 24 = .ok (.invokevirtual 82, 3) := by decide +kernel
theorem dX12_readAnd_27 : decode mX12_readAnd.2.1 27 = .ok (.aload_n 0, 1) := by decide +kernel
theorem dX12_readAnd_28 : decode mX12_readAnd.2.1 28 = .ok (.invokevirtual 436, 3) := by decide +kernel
theorem dX12_readAnd_31 : decode mX12_readAnd.2.1 31 = .ok (.ifCond .ne 5, 3) := by decide +kernel
theorem dX12_readAnd_34 : decode mX12_readAnd.2.1 34 = .ok (.iconst 0, 1) := by decide +kernel
theorem dX12_readAnd_35 : decode mX12_readAnd.2.1 35 = .ok (.ireturn, 1) := by decide +kernel
theorem dX12_readAnd_36 : decode mX12_readAnd.2.1 36 = .ok (.aload_n 0, 1) := by decide +kernel
theorem dX12_readAnd_37 : decode mX12_readAnd.2.1 37 = .ok (.iconst 2, 1) := by decide +kernel
theorem dX12_readAnd_38 : decode mX12_readAnd.2.1 38 = .ok (.iload_n 1, 1) := by decide +kernel
theorem dX12_readAnd_39 : decode mX12_readAnd.2.1 39 = .ok (.aload_n 0, 1) := by decide +kernel
theorem dX12_readAnd_40 : decode mX12_readAnd.2.1 40 = .ok (.getfield 430, 3) := by decide +kernel
theorem dX12_readAnd_43 : decode mX12_readAnd.2.1 43 = .ok (.iconst 0, 1) := by decide +kernel
theorem dX12_readAnd_44 : decode mX12_readAnd.2.1 44 = .ok (.invokevirtual 433, 3) := by decide +kernel
theorem dX12_readAnd_47 : decode mX12_readAnd.2.1 47 = .ok (.istore_n 1, 1) := by decide +kernel
theorem dX12_readAnd_48 : decode mX12_readAnd.2.1 48 = .ok (.goto (-34), 3) := by decide +kernel
theorem dX12_readAnd_51 : decode mX12_readAnd.2.1 51 = .ok (.aload_n 0, 1) := by decide +kernel
theorem dX12_readAnd_52 : decode mX12_readAnd.2.1 52 = .ok (.iload_n 1, 1) := by decide +kernel
theorem dX12_readAnd_53 : decode mX12_readAnd.2.1 53 = .ok (.putfield 430, 3) := by decide +kernel
theorem dX12_readAnd_56 : decode mX12_readAnd.2.1 56 = .ok (.iconst 1, 1) := by decide +kernel
theorem dX12_readAnd_57 : decode mX12_readAnd.2.1 57 = .ok (.ireturn, 1) := by decide +kernel
set_option maxRecDepth 4000 in
theorem ev_X12_all0 {m : Mem} {G : Mem} {t : Int → Int} {kw : Int → Int} {n : Int} {lim : Int} {i : Int} {o : Int} {nn : Int} (htm : TM G t kw n lim m i) (hb : Bg G 8 18 (m 216)) (hdn : DnOk G 8) (hnm : NmR G 8 (m 221)) (hms : MS m (G 8 3) o 8 nn) (ho : 0 ≤ o ∧ o ≤ 20) (hnn : 0 ≤ nn ∧ nn ≤ 2 * o) : Ev 0 15 mX12_readAnd [vr 214] m (fun r m' => SaQ G t kw n lim m m' 8 nn (seqF (G 4) 214 (oneF G 0) i o) r) := by
  refine Ev.of (L := [vr 214, un]) (by decide +kernel) rfl (Nat.le_of_ble_eq_true rfl) rfl (fun t ht => by cases ht; first | exact Or.inl rfl | exact Or.inr (Or.inl rfl) | exact Or.inr (Or.inr rfl)) (fun hcan => ?_)
  obtain ⟨hm1, hm2, hm3, hm4⟩ := id hms
  have hPB : PB (oneF G 0) := (oneF_b G 0)
  refine go_aload_n dX12_readAnd_0 rfl ?_
  refine go_callV_z (as := []) (S := []) (b := 214) (ev_X12_one0 (m := m) (G := G) (t := t) (kw := kw) (n := n) (lim := lim) (i := i) (o := o) (nn := nn) htm hb hdn hnm hms (by first | assumption | omega | exact ⟨by omega, by omega⟩ | (constructor <;> omega)) (by first | assumption | omega | exact ⟨by omega, by omega⟩ | (constructor <;> omega))) rfl dX12_readAnd_1 cv_12_436 rfl rfl ob_214 rfl (by decide) (Nat.le_of_ble_eq_true rfl) (fun r_1 m_1 hr_1 ho_1 => ?_)
  obtain ⟨x_1, w_1, hr_1⟩ := hr_1
  rcases hr_1 with ⟨f_1, e_1, g_1, t_1, s_1, j_1, p_1, r_1e, c_1⟩ | ⟨f_1, e_1, no_1⟩
  · refine go_if_ne (tgt := 9) dX12_readAnd_4 (by decide) ⟨by omega, by omega⟩ (fun h_4 => ?_) (fun h_4 => ?_)
    · have hR1 := hPB i o (by omega) (by omega) f_1
      refine go_aload_n dX12_readAnd_9 rfl ?_
      refine go_getf_i (ki := 47) dX12_readAnd_10 fl_12_430 ob_214 rfl rfl (fun hf_10 => ?_)
      refine go_istore_n (L' := [vr 214, vi (m_1 214 47)]) dX12_readAnd_13 (by decide) rfl rfl ?_
      have lp_14 : ∀ (n_14 : Nat) (m1 : Mem) (av : Int) (a : Rs) (f : Nat), (a.1 = 0) → (Sx m m1) → (m1 214 46 = 8) → (m1 214 10 = m 214 10) → (TM G t kw n lim m1 a.2.1) → (MS m1 (G 8 3) a.2.2.1 8 (nn + (a.2.2.2.length : Int))) → (∀ j : Int, j < 4 * nn → m1 234 j = m 234 j) → (nn ≤ av ∧ av < nn + (a.2.2.2.length : Int)) → (Rep (m1 234) av a.2.2.2) → (CdA (G 8 3) a.2.2.2) → (seqL (G 4) 214 (oneF G 0) f a = seqL (G 4) 214 (oneF G 0) 21 ((oneF G 0) i o)) → ((o + 1 ≤ a.2.2.1 ∧ a.2.2.1 ≤ 20) ∧ (a.2.2.2.length : Int) + 1 ≤ 2 * (a.2.2.1 - o)) → (22 + o ≤ (f : Int) + a.2.2.1) → f < n_14 → Go 0 15 mX12_readAnd (fun r m' => SaQ G t kw n lim m m' 8 nn (seqF (G 4) 214 (oneF G 0) i o) r) 14 [vr 214, vi av] [] m1 := by
        intro n_14
        induction n_14 with
        | zero => intro m1 av a f ha0 hsx hw46 hg10 htm1 hms1 hfr hav hrp hcd hsl hab hfu hmu; exact absurd hmu (Nat.not_lt_zero _)
        | succ n_14 ih_14 =>
          intro m1 av a f ha0 hsx hw46 hg10 htm1 hms1 hfr hav hrp hcd hsl hab hfu hmu
          obtain ⟨hab1, hab2⟩ := hab
          have hsu : seqL (G 4) 214 (oneF G 0) f a = if G 4 a.2.1 = 214 then (if ((oneF G 0) (a.2.1 + 1) a.2.2.1).1 ≠ 0 then ((oneF G 0) (a.2.1 + 1) a.2.2.1) else seqL (G 4) 214 (oneF G 0) (f - 1) (0, ((oneF G 0) (a.2.1 + 1) a.2.2.1).2.1, ((oneF G 0) (a.2.1 + 1) a.2.2.1).2.2.1, a.2.2.2 ++ ((oneF G 0) (a.2.1 + 1) a.2.2.1).2.2.2 ++ [(214, 0, 0)])) else a := by
            obtain ⟨g, rfl⟩ : ∃ g, f = g + 1 := ⟨f - 1, by omega⟩
            rfl
          have hPB2 := hPB (a.2.1 + 1) a.2.2.1 (by omega) (by omega)
          refine go_aload_n dX12_readAnd_14 rfl ?_
          refine go_bipush dX12_readAnd_15 (by decide) ?_
          refine go_callVp_z (as := [vi 14]) (S := []) (b := 214) (ev_X12_isWord (m := m1) (k := 14) (G := G) (t := t) (kw := kw) (n := n) (lim := lim) (i := a.2.1) htm1 (by first | assumption | omega | exact ⟨by omega, by omega⟩ | (constructor <;> omega))) rfl dX12_readAnd_17 cv_12_202 rfl rfl ob_214 rfl (by decide) (Nat.le_of_ble_eq_true rfl) (fun r_17 hr_17 ho_17 => ?_)
          refine go_if_eq (tgt := 51) dX12_readAnd_20 (by decide) ⟨by omega, by omega⟩ (fun h_20 => ?_) (fun h_20 => ?_)
          · refine go_aload_n dX12_readAnd_51 rfl ?_
            refine go_iload_n dX12_readAnd_52 rfl ?_
            refine go_putf_i (ki := 47) dX12_readAnd_53 fw_12_430 ob_214 rfl rfl ⟨by omega, by omega⟩ ?_
            refine go_iconst dX12_readAnd_56 ?_
            refine go_ret (v := 1) rfl dX12_readAnd_57 (okZ (by first | exact Or.inl rfl | exact Or.inr rfl | assumption | omega)) ?_
            have hq : seqF (G 4) 214 (oneF G 0) i o = a := by rw [seqF_e (G 4) 214, if_neg (fun z => z f_1), ← hsl, hsu, if_neg (by omega)]
            rw [SaQ, hq]
            refine ⟨hsx.w (by omega) (by omega), by rw [wr_ni (by decide)]; exact hw46, Or.inl ⟨ha0, rfl, by rw [wr_ni (by decide)]; exact hg10, htm1.w (by decide) (by omega), ⟨by rw [wr_ni (by decide)]; exact hms1.1, by rw [wr_ni (by decide)]; exact hms1.2.1, by rw [wr_ni (by decide)]; exact hms1.2.2.1, by rw [wr_row (by decide)]; exact hms1.2.2.2⟩, fun j hj => by rw [wr_na (by decide)]; exact hfr j hj, by rw [wr_self]; exact hav, by rw [wr_self, wr_row (by decide)]; exact hrp, hcd⟩⟩
          · refine go_aload_n dX12_readAnd_23 rfl ?_
            refine go_callV_v (as := []) (S := []) (b := 214) (ev_X12_go (m := m1) (G := G) (t := t) (kw := kw) (n := n) (lim := lim) (i := (a.2.1 + 1)) (htm1.nx (by omega))) rfl dX12_readAnd_24 cv_12_82 rfl rfl ob_214 rfl (by decide) (Nat.le_of_ble_eq_true rfl) (fun m_24 hr_24 => ?_)
            have l24 := hr_24.1.l
            refine go_aload_n dX12_readAnd_27 rfl ?_
            refine go_callV_z (as := []) (S := []) (b := 214) (ev_X12_one0 (m := m_24) (G := G) (t := t) (kw := kw) (n := n) (lim := lim) (i := (a.2.1 + 1)) (o := a.2.2.1) (nn := (nn + (a.2.2.2.length : Int))) hr_24.2 (by rw [(hsx.tr l24.s).1 216 (by decide) (by decide)]; exact hb) hdn (by rw [(hsx.tr l24.s).1 221 (by decide) (by decide)]; exact hnm) (hms1.l l24) (by omega) (by omega)) rfl dX12_readAnd_28 cv_12_436 rfl rfl ob_214 rfl (by decide) (Nat.le_of_ble_eq_true rfl) (fun r_28 m_28 hr_28 ho_28 => ?_)
            obtain ⟨Q, hQe⟩ : ∃ z, z = ((oneF G 0) (a.2.1 + 1) a.2.2.1) := ⟨_, rfl⟩
            rw [← hQe] at hr_28
            obtain ⟨x_28, w_28, hr_28⟩ := hr_28
            rcases hr_28 with ⟨f_28, e_28, g_28, t_28, s_28, j_28, p_28, r_28e, c_28⟩ | ⟨f_28, e_28, no_28⟩
            · refine go_if_ne (tgt := 36) dX12_readAnd_31 (by decide) ⟨by omega, by omega⟩ (fun h_31 => ?_) (fun h_31 => ?_)
              · rw [← hQe] at hPB2
                have hQ2 := hPB2 f_28
                have hln : ((a.2.2.2 ++ Q.2.2.2 ++ [((214 : Int), (0 : Int), (0 : Int))]).length : Int) = a.2.2.2.length + Q.2.2.2.length + 1 := by rw [List.length_append, List.length_append]; rfl
                have hw2 : Wf (m_24 234) (G 8 3) (nn + (a.2.2.2.length : Int)) := by rw [l24.1 234 (by decide)]; exact hms1.2.2.2
                have hrp2 : Rep (m_28 234) av a.2.2.2 := by
                  have z : Rep (m_24 234) av a.2.2.2 := by rw [l24.1 234 (by decide)]; exact hrp
                  exact z.c j_28 hw2 (by omega) (by omega)
                have hwk : Wk (nodF (m_28 234) (nn + (a.2.2.2.length : Int) + (Q.2.2.2.length : Int)) 2 av (m_28 214 47) 0) (G 8 3) (nn + (a.2.2.2.length : Int) + (Q.2.2.2.length : Int)) := by
                  obtain ⟨e0, e1, e2, e3⟩ := nodF_n (N := m_28 234) (n := nn + (a.2.2.2.length : Int) + (Q.2.2.2.length : Int)) (w := 2) (a := av) (b := m_28 214 47) (r := 0)
                  unfold Wk
                  rw [e0, e1, e2, e3]
                  right; left; omega
                have hwn := s_28.2.2.2.add (by omega) hwk
                have hrb := hrp2.bin r_28e s_28.2.2.2 (by omega) (by omega) (by omega) (by omega) (by omega) hwn
                refine go_aload_n dX12_readAnd_36 rfl ?_
                refine go_iconst dX12_readAnd_37 ?_
                refine go_iload_n dX12_readAnd_38 rfl ?_
                refine go_aload_n dX12_readAnd_39 rfl ?_
                refine go_getf_i (ki := 47) dX12_readAnd_40 fl_12_430 ob_214 rfl rfl (fun hf_40 => ?_)
                refine go_iconst dX12_readAnd_43 ?_
                refine go_callV_i (as := [vi 2, vi av, vi (m_28 214 47), vi 0]) (S := []) (b := 214) (ev_X12_saysOne (m := m_28) (w := 2) (a := av) (b := (m_28 214 47)) (s := 0) (nn := (nn + (a.2.2.2.length : Int) + (Q.2.2.2.length : Int))) s_28.2.2.1 (by omega) (by first | assumption | omega | exact ⟨by omega, by omega⟩ | (constructor <;> omega)) (by first | assumption | omega | exact ⟨by omega, by omega⟩ | (constructor <;> omega)) hf_40 (by first | assumption | omega | exact ⟨by omega, by omega⟩ | (constructor <;> omega))) rfl dX12_readAnd_44 cv_12_433 rfl rfl ob_214 rfl (by decide) (Nat.le_of_ble_eq_true rfl) (fun r_44 m_44 hr_44 ho_44 => ?_)
                obtain ⟨e_44, hm_44⟩ := hr_44
                refine go_istore_n (L' := [vr 214, vi r_44]) dX12_readAnd_47 (by decide) rfl rfl ?_
                refine go_goto (tgt := 14) dX12_readAnd_48 (by decide) ?_
                exact ih_14 m_44 r_44 (0, ((oneF G 0) (a.2.1 + 1) a.2.2.1).2.1, ((oneF G 0) (a.2.1 + 1) a.2.2.1).2.2.1, a.2.2.2 ++ ((oneF G 0) (a.2.1 + 1) a.2.2.1).2.2.2 ++ [(214, 0, 0)]) (f - 1) rfl (by rw [hm_44]; exact ((hsx.tr l24.s).tr x_28).tr nodW_s) (by rw [hm_44, nodW_214 (by decide)]; exact w_28) (by rw [hm_44, nodW_214 (by decide), g_28, hr_24.1.2 10 (by decide) (by decide) (by decide) (by decide) (by decide) (by decide)]; exact hg10) (by rw [hm_44]; show TM G t kw n lim _ ((oneF G 0) (a.2.1 + 1) a.2.2.1).2.1; rw [← hQe]; exact t_28.nod) (by show MS m_44 (G 8 3) ((oneF G 0) (a.2.1 + 1) a.2.2.1).2.2.1 8 (nn + ((a.2.2.2 ++ ((oneF G 0) (a.2.1 + 1) a.2.2.1).2.2.2 ++ [((214 : Int), (0 : Int), (0 : Int))]).length : Int)); rw [← hQe, hln, hm_44]; refine ⟨by rw [nodW_214 (by decide)]; exact s_28.1, by rw [nodW_214 (by decide)]; exact s_28.2.1, by rw [nodW_44]; omega, ?_⟩; rw [nodW_234, show nn + ((a.2.2.2.length : Int) + Q.2.2.2.length + 1) = nn + (a.2.2.2.length : Int) + (Q.2.2.2.length : Int) + 1 by omega]; exact hwn) (fun j hj => by rw [hm_44, nodW_234, nodF_o j (by omega), j_28 j (by omega), l24.1 234 (by decide)]; exact hfr j hj) (by show nn ≤ r_44 ∧ r_44 < nn + ((a.2.2.2 ++ ((oneF G 0) (a.2.1 + 1) a.2.2.1).2.2.2 ++ [((214 : Int), (0 : Int), (0 : Int))]).length : Int); rw [← hQe, hln]; omega) (by show Rep _ _ (a.2.2.2 ++ ((oneF G 0) (a.2.1 + 1) a.2.2.1).2.2.2 ++ [((214 : Int), (0 : Int), (0 : Int))]); rw [← hQe, hm_44, nodW_234, e_44]; exact hrb) (by show CdA _ (a.2.2.2 ++ ((oneF G 0) (a.2.1 + 1) a.2.2.1).2.2.2 ++ [((214 : Int), (0 : Int), (0 : Int))]); rw [← hQe]; exact (hcd.app c_28).app (CdA.k (by decide))) (by rw [← hsl, hsu, if_pos (by omega), ← hQe, if_neg (fun z => z f_28)]) (by show (o + 1 ≤ ((oneF G 0) (a.2.1 + 1) a.2.2.1).2.2.1 ∧ ((oneF G 0) (a.2.1 + 1) a.2.2.1).2.2.1 ≤ 20) ∧ ((a.2.2.2 ++ ((oneF G 0) (a.2.1 + 1) a.2.2.1).2.2.2 ++ [((214 : Int), (0 : Int), (0 : Int))]).length : Int) + 1 ≤ 2 * (((oneF G 0) (a.2.1 + 1) a.2.2.1).2.2.1 - o); rw [← hQe, hln]; omega) (by show 22 + o ≤ ((f - 1 : Nat) : Int) + ((oneF G 0) (a.2.1 + 1) a.2.2.1).2.2.1; rw [← hQe]; omega) (by omega)
              · exfalso; omega
            · refine go_if_ne (tgt := 36) dX12_readAnd_31 (by decide) ⟨by omega, by omega⟩ (fun h_31 => ?_) (fun h_31 => ?_)
              · exfalso; omega
              · refine go_iconst dX12_readAnd_34 ?_
                refine go_ret (v := 0) rfl dX12_readAnd_35 (okZ (by first | exact Or.inl rfl | exact Or.inr rfl | assumption | omega)) ?_
                have hq : seqF (G 4) 214 (oneF G 0) i o = Q := by rw [seqF_e (G 4) 214, if_neg (fun z => z f_1), ← hsl, hsu, if_pos (by omega), ← hQe, if_pos f_28]
                rw [SaQ, hq]
                exact ⟨(hsx.tr l24.s).tr x_28, w_28, Or.inr ⟨f_28, rfl, no_28⟩⟩
      exact lp_14 _ m_1 (m_1 214 47) ((oneF G 0) i o) 21 f_1 x_1 w_1 g_1 t_1 s_1 j_1 p_1 r_1e c_1 rfl ⟨⟨hR1.1, hR1.2.1⟩, hR1.2.2⟩ (by have := hR1.1; omega) (Nat.lt_succ_self _)
    · exfalso; omega
  · refine go_if_ne (tgt := 9) dX12_readAnd_4 (by decide) ⟨by omega, by omega⟩ (fun h_4 => ?_) (fun h_4 => ?_)
    · exfalso; omega
    · refine go_iconst dX12_readAnd_7 ?_
      refine go_ret (v := 0) rfl dX12_readAnd_8 (okZ (by first | exact Or.inl rfl | exact Or.inr rfl | assumption | omega)) ?_
      rw [SaQ, seqF_e (G 4) 214, if_pos f_1]
      exact ⟨x_1, w_1, Or.inr ⟨f_1, rfl, no_1⟩⟩
theorem dX12_readOr_0 : decode mX12_readOr.2.1 0 = .ok (.aload_n 0, 1) := by decide +kernel
theorem dX12_readOr_1 : decode mX12_readOr.2.1 1 = .ok (.invokevirtual 427, 3) := by decide +kernel
theorem dX12_readOr_4 : decode mX12_readOr.2.1 4 = .ok (.ifCond .ne 5, 3) := by decide +kernel
theorem dX12_readOr_7 : decode mX12_readOr.2.1 7 = .ok (.iconst 0, 1) := by decide +kernel
theorem dX12_readOr_8 : decode mX12_readOr.2.1 8 = .ok (.ireturn, 1) := by decide +kernel
theorem dX12_readOr_9 : decode mX12_readOr.2.1 9 = .ok (.aload_n 0, 1) := by decide +kernel
theorem dX12_readOr_10 : decode mX12_readOr.2.1 10 = .ok (.getfield 430, 3) := by decide +kernel
theorem dX12_readOr_13 : decode mX12_readOr.2.1 13 = .ok (.istore_n 1, 1) := by decide +kernel
theorem dX12_readOr_14 : decode mX12_readOr.2.1 14 = .ok (.aload_n 0, 1) := by decide +kernel
theorem dX12_readOr_15 : decode mX12_readOr.2.1 15 = .ok (.bipush 13, 2) := by decide +kernel
theorem dX12_readOr_17 : decode mX12_readOr.2.1 17 = .ok (.invokevirtual 202, 3) := by decide +kernel
theorem dX12_readOr_20 : decode mX12_readOr.2.1 20 = .ok (.ifCond .eq 31, 3) := by decide +kernel
theorem dX12_readOr_23 : decode mX12_readOr.2.1 23 = .ok (.aload_n 0, 1) := by decide +kernel
theorem dX12_readOr_24 : decode mX12_readOr.2.1 24 = .ok (.invokevirtual 82, 3) := by decide +kernel
theorem dX12_readOr_27 : decode mX12_readOr.2.1 27 = .ok (.aload_n 0, 1) := by decide +kernel
theorem dX12_readOr_28 : decode mX12_readOr.2.1 28 = .ok (.invokevirtual 427, 3) := by decide +kernel
theorem dX12_readOr_31 : decode mX12_readOr.2.1 31 = .ok (.ifCond .ne 5, 3) := by decide +kernel
theorem dX12_readOr_34 : decode mX12_readOr.2.1 34 = .ok (.iconst 0, 1) := by decide +kernel
theorem dX12_readOr_35 : decode mX12_readOr.2.1 35 = .ok (.ireturn, 1) := by decide +kernel
theorem dX12_readOr_36 : decode mX12_readOr.2.1 36 = .ok (.aload_n 0, 1) := by decide +kernel
theorem dX12_readOr_37 : decode mX12_readOr.2.1 37 = .ok (.iconst 3, 1) := by decide +kernel
theorem dX12_readOr_38 : decode mX12_readOr.2.1 38 = .ok (.iload_n 1, 1) := by decide +kernel
theorem dX12_readOr_39 : decode mX12_readOr.2.1 39 = .ok (.aload_n 0, 1) := by decide +kernel
theorem dX12_readOr_40 : decode mX12_readOr.2.1 40 = .ok (.getfield 430, 3) := by decide +kernel
theorem dX12_readOr_43 : decode mX12_readOr.2.1 43 = .ok (.iconst 0, 1) := by decide +kernel
theorem dX12_readOr_44 : decode mX12_readOr.2.1 44 = .ok (.invokevirtual 433, 3) := by decide +kernel
theorem dX12_readOr_47 : decode mX12_readOr.2.1 47 = .ok (.istore_n 1, 1) := by decide +kernel
theorem dX12_readOr_48 : decode mX12_readOr.2.1 48 = .ok (.goto (-34), 3) := by decide +kernel
theorem dX12_readOr_51 : decode mX12_readOr.2.1 51 = .ok (.aload_n 0, 1) := by decide +kernel
theorem dX12_readOr_52 : decode mX12_readOr.2.1 52 = .ok (.iload_n 1, 1) := by decide +kernel
theorem dX12_readOr_53 : decode mX12_readOr.2.1 53 = .ok (.putfield 430, 3) := by decide +kernel
theorem dX12_readOr_56 : decode mX12_readOr.2.1 56 = .ok (.iconst 1, 1) := by decide +kernel
theorem dX12_readOr_57 : decode mX12_readOr.2.1 57 = .ok (.ireturn, 1) := by decide +kernel
set_option maxRecDepth 4000 in
theorem ev_X12_con0 {m : Mem} {G : Mem} {t : Int → Int} {kw : Int → Int} {n : Int} {lim : Int} {i : Int} {o : Int} {nn : Int} (htm : TM G t kw n lim m i) (hb : Bg G 8 18 (m 216)) (hdn : DnOk G 8) (hnm : NmR G 8 (m 221)) (hms : MS m (G 8 3) o 8 nn) (ho : 0 ≤ o ∧ o ≤ 20) (hnn : 0 ≤ nn ∧ nn ≤ 2 * o) : Ev 0 16 mX12_readOr [vr 214] m (fun r m' => SaQ G t kw n lim m m' 8 nn (seqF (G 4) 213 (seqF (G 4) 214 (oneF G 0)) i o) r) := by
  refine Ev.of (L := [vr 214, un]) (by decide +kernel) rfl (Nat.le_of_ble_eq_true rfl) rfl (fun t ht => by cases ht; first | exact Or.inl rfl | exact Or.inr (Or.inl rfl) | exact Or.inr (Or.inr rfl)) (fun hcan => ?_)
  obtain ⟨hm1, hm2, hm3, hm4⟩ := id hms
  have hPB : PB (seqF (G 4) 214 (oneF G 0)) := (seqF_b (oneF_b G 0))
  refine go_aload_n dX12_readOr_0 rfl ?_
  refine go_callV_z (as := []) (S := []) (b := 214) (ev_X12_all0 (m := m) (G := G) (t := t) (kw := kw) (n := n) (lim := lim) (i := i) (o := o) (nn := nn) htm hb hdn hnm hms (by first | assumption | omega | exact ⟨by omega, by omega⟩ | (constructor <;> omega)) (by first | assumption | omega | exact ⟨by omega, by omega⟩ | (constructor <;> omega))) rfl dX12_readOr_1 cv_12_427 rfl rfl ob_214 rfl (by decide) (Nat.le_of_ble_eq_true rfl) (fun r_1 m_1 hr_1 ho_1 => ?_)
  obtain ⟨x_1, w_1, hr_1⟩ := hr_1
  rcases hr_1 with ⟨f_1, e_1, g_1, t_1, s_1, j_1, p_1, r_1e, c_1⟩ | ⟨f_1, e_1, no_1⟩
  · refine go_if_ne (tgt := 9) dX12_readOr_4 (by decide) ⟨by omega, by omega⟩ (fun h_4 => ?_) (fun h_4 => ?_)
    · have hR1 := hPB i o (by omega) (by omega) f_1
      refine go_aload_n dX12_readOr_9 rfl ?_
      refine go_getf_i (ki := 47) dX12_readOr_10 fl_12_430 ob_214 rfl rfl (fun hf_10 => ?_)
      refine go_istore_n (L' := [vr 214, vi (m_1 214 47)]) dX12_readOr_13 (by decide) rfl rfl ?_
      have lp_14 : ∀ (n_14 : Nat) (m1 : Mem) (av : Int) (a : Rs) (f : Nat), (a.1 = 0) → (Sx m m1) → (m1 214 46 = 8) → (m1 214 10 = m 214 10) → (TM G t kw n lim m1 a.2.1) → (MS m1 (G 8 3) a.2.2.1 8 (nn + (a.2.2.2.length : Int))) → (∀ j : Int, j < 4 * nn → m1 234 j = m 234 j) → (nn ≤ av ∧ av < nn + (a.2.2.2.length : Int)) → (Rep (m1 234) av a.2.2.2) → (CdA (G 8 3) a.2.2.2) → (seqL (G 4) 213 (seqF (G 4) 214 (oneF G 0)) f a = seqL (G 4) 213 (seqF (G 4) 214 (oneF G 0)) 21 ((seqF (G 4) 214 (oneF G 0)) i o)) → ((o + 1 ≤ a.2.2.1 ∧ a.2.2.1 ≤ 20) ∧ (a.2.2.2.length : Int) + 1 ≤ 2 * (a.2.2.1 - o)) → (22 + o ≤ (f : Int) + a.2.2.1) → f < n_14 → Go 0 16 mX12_readOr (fun r m' => SaQ G t kw n lim m m' 8 nn (seqF (G 4) 213 (seqF (G 4) 214 (oneF G 0)) i o) r) 14 [vr 214, vi av] [] m1 := by
        intro n_14
        induction n_14 with
        | zero => intro m1 av a f ha0 hsx hw46 hg10 htm1 hms1 hfr hav hrp hcd hsl hab hfu hmu; exact absurd hmu (Nat.not_lt_zero _)
        | succ n_14 ih_14 =>
          intro m1 av a f ha0 hsx hw46 hg10 htm1 hms1 hfr hav hrp hcd hsl hab hfu hmu
          obtain ⟨hab1, hab2⟩ := hab
          have hsu : seqL (G 4) 213 (seqF (G 4) 214 (oneF G 0)) f a = if G 4 a.2.1 = 213 then (if ((seqF (G 4) 214 (oneF G 0)) (a.2.1 + 1) a.2.2.1).1 ≠ 0 then ((seqF (G 4) 214 (oneF G 0)) (a.2.1 + 1) a.2.2.1) else seqL (G 4) 213 (seqF (G 4) 214 (oneF G 0)) (f - 1) (0, ((seqF (G 4) 214 (oneF G 0)) (a.2.1 + 1) a.2.2.1).2.1, ((seqF (G 4) 214 (oneF G 0)) (a.2.1 + 1) a.2.2.1).2.2.1, a.2.2.2 ++ ((seqF (G 4) 214 (oneF G 0)) (a.2.1 + 1) a.2.2.1).2.2.2 ++ [(213, 0, 0)])) else a := by
            obtain ⟨g, rfl⟩ : ∃ g, f = g + 1 := ⟨f - 1, by omega⟩
            rfl
          have hPB2 := hPB (a.2.1 + 1) a.2.2.1 (by omega) (by omega)
          refine go_aload_n dX12_readOr_14 rfl ?_
          refine go_bipush dX12_readOr_15 (by decide) ?_
          refine go_callVp_z (as := [vi 13]) (S := []) (b := 214) (ev_X12_isWord (m := m1) (k := 13) (G := G) (t := t) (kw := kw) (n := n) (lim := lim) (i := a.2.1) htm1 (by first | assumption | omega | exact ⟨by omega, by omega⟩ | (constructor <;> omega))) rfl dX12_readOr_17 cv_12_202 rfl rfl ob_214 rfl (by decide) (Nat.le_of_ble_eq_true rfl) (fun r_17 hr_17 ho_17 => ?_)
          refine go_if_eq (tgt := 51) dX12_readOr_20 (by decide) ⟨by omega, by omega⟩ (fun h_20 => ?_) (fun h_20 => ?_)
          · refine go_aload_n dX12_readOr_51 rfl ?_
            refine go_iload_n dX12_readOr_52 rfl ?_
            refine go_putf_i (ki := 47) dX12_readOr_53 fw_12_430 ob_214 rfl rfl ⟨by omega, by omega⟩ ?_
            refine go_iconst dX12_readOr_56 ?_
            refine go_ret (v := 1) rfl dX12_readOr_57 (okZ (by first | exact Or.inl rfl | exact Or.inr rfl | assumption | omega)) ?_
            have hq : seqF (G 4) 213 (seqF (G 4) 214 (oneF G 0)) i o = a := by rw [seqF_e (G 4) 213, if_neg (fun z => z f_1), ← hsl, hsu, if_neg (by omega)]
            rw [SaQ, hq]
            refine ⟨hsx.w (by omega) (by omega), by rw [wr_ni (by decide)]; exact hw46, Or.inl ⟨ha0, rfl, by rw [wr_ni (by decide)]; exact hg10, htm1.w (by decide) (by omega), ⟨by rw [wr_ni (by decide)]; exact hms1.1, by rw [wr_ni (by decide)]; exact hms1.2.1, by rw [wr_ni (by decide)]; exact hms1.2.2.1, by rw [wr_row (by decide)]; exact hms1.2.2.2⟩, fun j hj => by rw [wr_na (by decide)]; exact hfr j hj, by rw [wr_self]; exact hav, by rw [wr_self, wr_row (by decide)]; exact hrp, hcd⟩⟩
          · refine go_aload_n dX12_readOr_23 rfl ?_
            refine go_callV_v (as := []) (S := []) (b := 214) (ev_X12_go (m := m1) (G := G) (t := t) (kw := kw) (n := n) (lim := lim) (i := (a.2.1 + 1)) (htm1.nx (by omega))) rfl dX12_readOr_24 cv_12_82 rfl rfl ob_214 rfl (by decide) (Nat.le_of_ble_eq_true rfl) (fun m_24 hr_24 => ?_)
            have l24 := hr_24.1.l
            refine go_aload_n dX12_readOr_27 rfl ?_
            refine go_callV_z (as := []) (S := []) (b := 214) (ev_X12_all0 (m := m_24) (G := G) (t := t) (kw := kw) (n := n) (lim := lim) (i := (a.2.1 + 1)) (o := a.2.2.1) (nn := (nn + (a.2.2.2.length : Int))) hr_24.2 (by rw [(hsx.tr l24.s).1 216 (by decide) (by decide)]; exact hb) hdn (by rw [(hsx.tr l24.s).1 221 (by decide) (by decide)]; exact hnm) (hms1.l l24) (by omega) (by omega)) rfl dX12_readOr_28 cv_12_427 rfl rfl ob_214 rfl (by decide) (Nat.le_of_ble_eq_true rfl) (fun r_28 m_28 hr_28 ho_28 => ?_)
            obtain ⟨Q, hQe⟩ : ∃ z, z = ((seqF (G 4) 214 (oneF G 0)) (a.2.1 + 1) a.2.2.1) := ⟨_, rfl⟩
            rw [← hQe] at hr_28
            obtain ⟨x_28, w_28, hr_28⟩ := hr_28
            rcases hr_28 with ⟨f_28, e_28, g_28, t_28, s_28, j_28, p_28, r_28e, c_28⟩ | ⟨f_28, e_28, no_28⟩
            · refine go_if_ne (tgt := 36) dX12_readOr_31 (by decide) ⟨by omega, by omega⟩ (fun h_31 => ?_) (fun h_31 => ?_)
              · rw [← hQe] at hPB2
                have hQ2 := hPB2 f_28
                have hln : ((a.2.2.2 ++ Q.2.2.2 ++ [((213 : Int), (0 : Int), (0 : Int))]).length : Int) = a.2.2.2.length + Q.2.2.2.length + 1 := by rw [List.length_append, List.length_append]; rfl
                have hw2 : Wf (m_24 234) (G 8 3) (nn + (a.2.2.2.length : Int)) := by rw [l24.1 234 (by decide)]; exact hms1.2.2.2
                have hrp2 : Rep (m_28 234) av a.2.2.2 := by
                  have z : Rep (m_24 234) av a.2.2.2 := by rw [l24.1 234 (by decide)]; exact hrp
                  exact z.c j_28 hw2 (by omega) (by omega)
                have hwk : Wk (nodF (m_28 234) (nn + (a.2.2.2.length : Int) + (Q.2.2.2.length : Int)) 3 av (m_28 214 47) 0) (G 8 3) (nn + (a.2.2.2.length : Int) + (Q.2.2.2.length : Int)) := by
                  obtain ⟨e0, e1, e2, e3⟩ := nodF_n (N := m_28 234) (n := nn + (a.2.2.2.length : Int) + (Q.2.2.2.length : Int)) (w := 3) (a := av) (b := m_28 214 47) (r := 0)
                  unfold Wk
                  rw [e0, e1, e2, e3]
                  right; left; omega
                have hwn := s_28.2.2.2.add (by omega) hwk
                have hrb := hrp2.bin r_28e s_28.2.2.2 (by omega) (by omega) (by omega) (by omega) (by omega) hwn
                refine go_aload_n dX12_readOr_36 rfl ?_
                refine go_iconst dX12_readOr_37 ?_
                refine go_iload_n dX12_readOr_38 rfl ?_
                refine go_aload_n dX12_readOr_39 rfl ?_
                refine go_getf_i (ki := 47) dX12_readOr_40 fl_12_430 ob_214 rfl rfl (fun hf_40 => ?_)
                refine go_iconst dX12_readOr_43 ?_
                refine go_callV_i (as := [vi 3, vi av, vi (m_28 214 47), vi 0]) (S := []) (b := 214) (ev_X12_saysOne (m := m_28) (w := 3) (a := av) (b := (m_28 214 47)) (s := 0) (nn := (nn + (a.2.2.2.length : Int) + (Q.2.2.2.length : Int))) s_28.2.2.1 (by omega) (by first | assumption | omega | exact ⟨by omega, by omega⟩ | (constructor <;> omega)) (by first | assumption | omega | exact ⟨by omega, by omega⟩ | (constructor <;> omega)) hf_40 (by first | assumption | omega | exact ⟨by omega, by omega⟩ | (constructor <;> omega))) rfl dX12_readOr_44 cv_12_433 rfl rfl ob_214 rfl (by decide) (Nat.le_of_ble_eq_true rfl) (fun r_44 m_44 hr_44 ho_44 => ?_)
                obtain ⟨e_44, hm_44⟩ := hr_44
                refine go_istore_n (L' := [vr 214, vi r_44]) dX12_readOr_47 (by decide) rfl rfl ?_
                refine go_goto (tgt := 14) dX12_readOr_48 (by decide) ?_
                exact ih_14 m_44 r_44 (0, ((seqF (G 4) 214 (oneF G 0)) (a.2.1 + 1) a.2.2.1).2.1, ((seqF (G 4) 214 (oneF G 0)) (a.2.1 + 1) a.2.2.1).2.2.1, a.2.2.2 ++ ((seqF (G 4) 214 (oneF G 0)) (a.2.1 + 1) a.2.2.1).2.2.2 ++ [(213, 0, 0)]) (f - 1) rfl (by rw [hm_44]; exact ((hsx.tr l24.s).tr x_28).tr nodW_s) (by rw [hm_44, nodW_214 (by decide)]; exact w_28) (by rw [hm_44, nodW_214 (by decide), g_28, hr_24.1.2 10 (by decide) (by decide) (by decide) (by decide) (by decide) (by decide)]; exact hg10) (by rw [hm_44]; show TM G t kw n lim _ ((seqF (G 4) 214 (oneF G 0)) (a.2.1 + 1) a.2.2.1).2.1; rw [← hQe]; exact t_28.nod) (by show MS m_44 (G 8 3) ((seqF (G 4) 214 (oneF G 0)) (a.2.1 + 1) a.2.2.1).2.2.1 8 (nn + ((a.2.2.2 ++ ((seqF (G 4) 214 (oneF G 0)) (a.2.1 + 1) a.2.2.1).2.2.2 ++ [((213 : Int), (0 : Int), (0 : Int))]).length : Int)); rw [← hQe, hln, hm_44]; refine ⟨by rw [nodW_214 (by decide)]; exact s_28.1, by rw [nodW_214 (by decide)]; exact s_28.2.1, by rw [nodW_44]; omega, ?_⟩; rw [nodW_234, show nn + ((a.2.2.2.length : Int) + Q.2.2.2.length + 1) = nn + (a.2.2.2.length : Int) + (Q.2.2.2.length : Int) + 1 by omega]; exact hwn) (fun j hj => by rw [hm_44, nodW_234, nodF_o j (by omega), j_28 j (by omega), l24.1 234 (by decide)]; exact hfr j hj) (by show nn ≤ r_44 ∧ r_44 < nn + ((a.2.2.2 ++ ((seqF (G 4) 214 (oneF G 0)) (a.2.1 + 1) a.2.2.1).2.2.2 ++ [((213 : Int), (0 : Int), (0 : Int))]).length : Int); rw [← hQe, hln]; omega) (by show Rep _ _ (a.2.2.2 ++ ((seqF (G 4) 214 (oneF G 0)) (a.2.1 + 1) a.2.2.1).2.2.2 ++ [((213 : Int), (0 : Int), (0 : Int))]); rw [← hQe, hm_44, nodW_234, e_44]; exact hrb) (by show CdA _ (a.2.2.2 ++ ((seqF (G 4) 214 (oneF G 0)) (a.2.1 + 1) a.2.2.1).2.2.2 ++ [((213 : Int), (0 : Int), (0 : Int))]); rw [← hQe]; exact (hcd.app c_28).app (CdA.k (by decide))) (by rw [← hsl, hsu, if_pos (by omega), ← hQe, if_neg (fun z => z f_28)]) (by show (o + 1 ≤ ((seqF (G 4) 214 (oneF G 0)) (a.2.1 + 1) a.2.2.1).2.2.1 ∧ ((seqF (G 4) 214 (oneF G 0)) (a.2.1 + 1) a.2.2.1).2.2.1 ≤ 20) ∧ ((a.2.2.2 ++ ((seqF (G 4) 214 (oneF G 0)) (a.2.1 + 1) a.2.2.1).2.2.2 ++ [((213 : Int), (0 : Int), (0 : Int))]).length : Int) + 1 ≤ 2 * (((seqF (G 4) 214 (oneF G 0)) (a.2.1 + 1) a.2.2.1).2.2.1 - o); rw [← hQe, hln]; omega) (by show 22 + o ≤ ((f - 1 : Nat) : Int) + ((seqF (G 4) 214 (oneF G 0)) (a.2.1 + 1) a.2.2.1).2.2.1; rw [← hQe]; omega) (by omega)
              · exfalso; omega
            · refine go_if_ne (tgt := 36) dX12_readOr_31 (by decide) ⟨by omega, by omega⟩ (fun h_31 => ?_) (fun h_31 => ?_)
              · exfalso; omega
              · refine go_iconst dX12_readOr_34 ?_
                refine go_ret (v := 0) rfl dX12_readOr_35 (okZ (by first | exact Or.inl rfl | exact Or.inr rfl | assumption | omega)) ?_
                have hq : seqF (G 4) 213 (seqF (G 4) 214 (oneF G 0)) i o = Q := by rw [seqF_e (G 4) 213, if_neg (fun z => z f_1), ← hsl, hsu, if_pos (by omega), ← hQe, if_pos f_28]
                rw [SaQ, hq]
                exact ⟨(hsx.tr l24.s).tr x_28, w_28, Or.inr ⟨f_28, rfl, no_28⟩⟩
      exact lp_14 _ m_1 (m_1 214 47) ((seqF (G 4) 214 (oneF G 0)) i o) 21 f_1 x_1 w_1 g_1 t_1 s_1 j_1 p_1 r_1e c_1 rfl ⟨⟨hR1.1, hR1.2.1⟩, hR1.2.2⟩ (by have := hR1.1; omega) (Nat.lt_succ_self _)
    · exfalso; omega
  · refine go_if_ne (tgt := 9) dX12_readOr_4 (by decide) ⟨by omega, by omega⟩ (fun h_4 => ?_) (fun h_4 => ?_)
    · exfalso; omega
    · refine go_iconst dX12_readOr_7 ?_
      refine go_ret (v := 0) rfl dX12_readOr_8 (okZ (by first | exact Or.inl rfl | exact Or.inr rfl | assumption | omega)) ?_
      rw [SaQ, seqF_e (G 4) 213, if_pos f_1]
      exact ⟨x_1, w_1, Or.inr ⟨f_1, rfl, no_1⟩⟩
/-! ===== the reference reads a SENTENCE ===== -/
theorem MS.x {m m' : Mem} {P o wi nn : Int} (h : MS m P o wi nn) (h1 : m' 214 45 = m 214 45) (h2 : m' 214 46 = m 214 46) (h3 : m' 214 44 = m 214 44) (h4 : m' 234 = m 234) : MS m' P o wi nn := by
  unfold MS at *
  rw [h1, h2, h3, h4]; exact h

theorem dX12_readNot_0 : decode mX12_readNot.2.1 0 = .ok (.aload_n 0, 1) := by decide +kernel
theorem dX12_readNot_1 : decode mX12_readNot.2.1 1 = .ok (.invokevirtual 436, 3) := by decide +kernel
theorem dX12_readNot_4 : decode mX12_readNot.2.1 4 = .ok (.ifCond .ne 5, 3) := by decide +kernel
theorem dX12_readNot_7 : decode mX12_readNot.2.1 7 = .ok (.iconst 0, 1) := by decide +kernel
theorem dX12_readNot_8 : decode mX12_readNot.2.1 8 = .ok (.ireturn, 1) := by decide +kernel
theorem dX12_readNot_9 : decode mX12_readNot.2.1 9 = .ok (.aload_n 0, 1) := by decide +kernel
theorem dX12_readNot_10 : decode mX12_readNot.2.1 10 = .ok (.aload_n 0, 1) := by decide +kernel
theorem dX12_readNot_11 : decode mX12_readNot.2.1 11 = .ok (.iconst 1, 1) := by decide +kernel
theorem dX12_readNot_12 : decode mX12_readNot.2.1 12 = .ok (.aload_n 0, 1) := by decide +kernel
theorem dX12_readNot_13 : decode mX12_readNot.2.1 13 = .ok (.getfield 430, 3) := by decide +kernel
theorem dX12_readNot_16 : decode mX12_readNot.2.1 16 = .ok (.iconst 0, 1) := by decide +kernel
theorem dX12_readNot_17 : decode mX12_readNot.2.1 17 = .ok (.iconst 0, 1) := by decide +kernel
theorem dX12_readNot_18 : decode mX12_readNot.2.1 18 = .ok (.invokevirtual 433, 3) := by decide +kernel
theorem dX12_readNot_21 : decode mX12_readNot.2.1 21 = .ok (.putfield 430, 3) := by decide +kernel
theorem dX12_readNot_24 : decode mX12_readNot.2.1 24 = .ok (.iconst 1, 1) := by decide +kernel
theorem dX12_readNot_25 : decode mX12_readNot.2.1 25 = .ok (.ireturn, 1) := by decide +kernel
set_option maxRecDepth 4000 in
theorem ev_X12_not1 {m : Mem} {G : Mem} {t : Int → Int} {kw : Int → Int} {n : Int} {lim : Int} {i : Int} {o : Int} {nn : Int} (htm : TM G t kw n lim m i) (hb : Bg G 8 18 (m 216)) (hdn : DnOk G 8) (hnm : NmR G 8 (m 221)) (hms : MS m (G 8 3) o 8 nn) (ho : 1 ≤ o ∧ o ≤ 20) (hnn : 0 ≤ nn ∧ nn + 2 ≤ 2 * o) : Ev 0 16 mX12_readNot [vr 214] m (fun r m' => SaQ G t kw n lim m m' 8 nn (notF (oneF G 0) (i - 1) o) r) := by
  refine Ev.of (L := [vr 214]) (by decide +kernel) rfl (Nat.le_of_ble_eq_true rfl) rfl (fun t ht => by cases ht; first | exact Or.inl rfl | exact Or.inr (Or.inl rfl) | exact Or.inr (Or.inr rfl)) (fun hcan => ?_)
  obtain ⟨hm1, hm2, hm3, hm4⟩ := id hms
  have hni : i - 1 + 1 = i := by omega
  have hR : RB o ((oneF G 0) i o) := oneF_b G 0 i o (by omega) (by omega)
  refine go_aload_n dX12_readNot_0 rfl ?_
  refine go_callV_z (as := []) (S := []) (b := 214) (ev_X12_one0 (m := m) (G := G) (t := t) (kw := kw) (n := n) (lim := lim) (i := i) (o := o) (nn := nn) htm hb hdn hnm hms (by omega) (by omega)) rfl dX12_readNot_1 cv_12_436 rfl rfl ob_214 rfl (by decide) (Nat.le_of_ble_eq_true rfl) (fun r_1 m_1 hr_1 ho_1 => ?_)
  obtain ⟨R, hRe⟩ : ∃ z, z = (oneF G 0) i o := ⟨_, rfl⟩
  rw [← hRe] at hr_1 hR
  obtain ⟨x_1, w_1, hr_1⟩ := hr_1
  rcases hr_1 with ⟨f_1, e_1, g_1, t_1, s_1, j_1, p_1, r_1e, c_1⟩ | ⟨f_1, e_1, no_1⟩
  · refine go_if_ne (tgt := 9) dX12_readNot_4 (by decide) ⟨by omega, by omega⟩ (fun h_4 => ?_) (fun h_4 => ?_)
    · refine go_aload_n dX12_readNot_9 rfl ?_
      refine go_aload_n dX12_readNot_10 rfl ?_
      refine go_iconst dX12_readNot_11 ?_
      refine go_aload_n dX12_readNot_12 rfl ?_
      refine go_getf_i (ki := 47) dX12_readNot_13 fl_12_430 ob_214 rfl rfl (fun hf_13 => ?_)
      refine go_iconst dX12_readNot_16 ?_
      refine go_iconst dX12_readNot_17 ?_
      refine go_callV_i (as := [vi 1, vi (m_1 214 47), vi 0, vi 0]) (S := [vr 214]) (b := 214) (ev_X12_saysOne (m := m_1) (w := 1) (a := (m_1 214 47)) (b := 0) (s := 0) (nn := (nn + (R.2.2.2.length : Int))) s_1.2.2.1 (by have := hR f_1; omega) (by first | assumption | omega | exact ⟨by omega, by omega⟩ | (constructor <;> omega)) (by first | assumption | omega | exact ⟨by omega, by omega⟩ | (constructor <;> omega)) (by first | assumption | omega | exact ⟨by omega, by omega⟩ | (constructor <;> omega)) (by first | assumption | omega | exact ⟨by omega, by omega⟩ | (constructor <;> omega))) rfl dX12_readNot_18 cv_12_433 rfl rfl ob_214 rfl (by decide) (Nat.le_of_ble_eq_true rfl) (fun r_18 m_18 hr_18 ho_18 => ?_)
      obtain ⟨e_18, hm_18⟩ := hr_18
      refine go_putf_i (ki := 47) dX12_readNot_21 fw_12_430 ob_214 rfl rfl ⟨by omega, by omega⟩ ?_
      refine go_iconst dX12_readNot_24 ?_
      refine go_ret (v := 1) rfl dX12_readNot_25 (okZ (by first | exact Or.inl rfl | exact Or.inr rfl | assumption | omega)) ?_
      have hRb := hR f_1
      have hq : notF (oneF G 0) (i - 1) o = (R.1, R.2.1, R.2.2.1, R.2.2.2 ++ [(215, 0, 0)]) := by unfold notF; rw [hni, ← hRe]
      have hwk : Wk (nodF (m_1 234) (nn + (R.2.2.2.length : Int)) 1 (m_1 214 47) 0 0) (G 8 3) (nn + (R.2.2.2.length : Int)) := by
        obtain ⟨e0, e1, e2, e3⟩ := nodF_n (N := m_1 234) (n := nn + (R.2.2.2.length : Int)) (w := 1) (a := m_1 214 47) (b := 0) (r := 0)
        unfold Wk
        rw [e0, e1, e2, e3]
        left; omega
      have hwn := s_1.2.2.2.add (by omega) hwk
      have hln : ((R.2.2.2 ++ [((215 : Int), (0 : Int), (0 : Int))]).length : Int) = R.2.2.2.length + 1 := by rw [List.length_append]; rfl
      rw [SaQ, hq, hm_18]
      refine ⟨(x_1.tr nodW_s).w (by omega) (by omega), ?_, Or.inl ⟨f_1, rfl, ?_, (t_1.nod).w (by decide) (by omega), ⟨?_, ?_, ?_, ?_⟩, fun j hj => ?_, ?_, ?_, c_1.app (CdA.k (by decide))⟩⟩
      · rw [wr_ni (by decide), nodW_214 (by decide)]; exact w_1
      · rw [wr_ni (by decide), nodW_214 (by decide)]; exact g_1
      · rw [wr_ni (by decide), nodW_214 (by decide)]; exact s_1.1
      · rw [wr_ni (by decide), nodW_214 (by decide)]; exact s_1.2.1
      · rw [wr_ni (by decide), nodW_44]; show _ = nn + ((R.2.2.2 ++ [((215 : Int), (0 : Int), (0 : Int))]).length : Int); rw [hln]; omega
      · rw [wr_row (by decide), nodW_234]; show Wf _ _ (nn + ((R.2.2.2 ++ [((215 : Int), (0 : Int), (0 : Int))]).length : Int)); rw [hln, show nn + ((R.2.2.2.length : Int) + 1) = nn + (R.2.2.2.length : Int) + 1 by omega]; exact hwn
      · rw [wr_na (by decide), nodW_234, nodF_o j (by omega)]; exact j_1 j hj
      · rw [wr_self, e_18]; show nn ≤ _ ∧ _ < nn + ((R.2.2.2 ++ [((215 : Int), (0 : Int), (0 : Int))]).length : Int); rw [hln]; omega
      · rw [wr_self, e_18, wr_row (by decide), nodW_234]
        exact r_1e.not s_1.2.2.2 (by omega) (by omega) hwn
    · exfalso; omega
  · refine go_if_ne (tgt := 9) dX12_readNot_4 (by decide) ⟨by omega, by omega⟩ (fun h_4 => ?_) (fun h_4 => ?_)
    · exfalso; omega
    · refine go_iconst dX12_readNot_7 ?_
      refine go_ret (v := 0) rfl dX12_readNot_8 (okZ (by first | exact Or.inl rfl | exact Or.inr rfl | assumption | omega)) ?_
      have hq : (notF (oneF G 0) (i - 1) o).1 = R.1 ∧ (notF (oneF G 0) (i - 1) o).2.1 = R.2.1 := by unfold notF; rw [hni, ← hRe]; exact ⟨rfl, rfl⟩
      exact ⟨x_1, w_1, Or.inr ⟨by rw [hq.1]; exact f_1, rfl, by rw [hq.1]; exact no_1.1, by rw [hq.2]; exact no_1.2⟩⟩
theorem dX12_readBracket_0 : decode mX12_readBracket.2.1 0 = .ok (.aload_n 0, 1) := by decide +kernel
theorem dX12_readBracket_1 : decode mX12_readBracket.2.1 1 = .ok (.invokevirtual 457, 3) := by decide +kernel
theorem dX12_readBracket_4 : decode mX12_readBracket.2.1 4 = .ok (.ifCond .ne 5, 3) := by decide +kernel
theorem dX12_readBracket_7 : decode mX12_readBracket.2.1 7 = .ok (.iconst 0, 1) := by decide +kernel
theorem dX12_readBracket_8 : decode mX12_readBracket.2.1 8 = .ok (.ireturn, 1) := by decide +kernel
theorem dX12_readBracket_9 : decode mX12_readBracket.2.1 9 = .ok (.aload_n 0, 1) := by decide +kernel
theorem dX12_readBracket_10 : decode mX12_readBracket.2.1 10 = .ok (.bipush 41, 2) := by decide +kernel
theorem dX12_readBracket_12 : decode mX12_readBracket.2.1 12 = .ok (.invokevirtual 86, 3) := by decide +kernel
theorem dX12_readBracket_15 : decode mX12_readBracket.2.1 15 = .ok (.ifCond .ne 9, 3) := by decide +kernel
theorem dX12_readBracket_18 : decode mX12_readBracket.2.1 18 = .ok (.aload_n 0, 1) := by decide +kernel
theorem dX12_readBracket_19 : decode mX12_readBracket.2.1 19 = .ok (.iconst 1, 1) := by decide +kernel
theorem dX12_readBracket_20 : decode mX12_readBracket.2.1 20 = .ok (.invokevirtual 72, 3) := by decide +kernel
theorem dX12_readBracket_23 : decode mX12_readBracket.2.1 23 = .ok (.ireturn, 1) := by decide +kernel
theorem dX12_readBracket_24 : decode mX12_readBracket.2.1 24 = .ok (.aload_n 0, 1) := by decide +kernel
theorem dX12_readBracket_25 : decode mX12_readBracket.2.1 25 = .ok (.invokevirtual 82, 3) := by decide +kernel
theorem dX12_readBracket_28 : decode mX12_readBracket.2.1 28 = .ok (.iconst 1, 1) := by decide +kernel
theorem dX12_readBracket_29 : decode mX12_readBracket.2.1 29 = .ok (.ireturn, 1) := by decide +kernel
set_option maxRecDepth 4000 in
theorem ev_X12_brk1 {m : Mem} {G : Mem} {t : Int → Int} {kw : Int → Int} {n : Int} {lim : Int} {i : Int} {o : Int} {nn : Int} (htm : TM G t kw n lim m i) (hb : Bg G 8 18 (m 216)) (hdn : DnOk G 8) (hnm : NmR G 8 (m 221)) (hms : MS m (G 8 3) o 8 nn) (ho : 1 ≤ o ∧ o ≤ 20) (hnn : 0 ≤ nn ∧ nn + 2 ≤ 2 * o) : Ev 0 17 mX12_readBracket [vr 214] m (fun r m' => SaQ G t kw n lim m m' 8 nn (brkF (G 4) (seqF (G 4) 213 (seqF (G 4) 214 (oneF G 0))) (i - 1) o) r) := by
  refine Ev.of (L := [vr 214]) (by decide +kernel) rfl (Nat.le_of_ble_eq_true rfl) rfl (fun t ht => by cases ht; first | exact Or.inl rfl | exact Or.inr (Or.inl rfl) | exact Or.inr (Or.inr rfl)) (fun hcan => ?_)
  obtain ⟨hm1, hm2, hm3, hm4⟩ := id hms
  have hni : i - 1 + 1 = i := by omega
  refine go_aload_n dX12_readBracket_0 rfl ?_
  refine go_callV_z (as := []) (S := []) (b := 214) (ev_X12_con0 (m := m) (G := G) (t := t) (kw := kw) (n := n) (lim := lim) (i := i) (o := o) (nn := nn) htm hb hdn hnm hms (by omega) (by omega)) rfl dX12_readBracket_1 cv_12_457 rfl rfl ob_214 rfl (by decide) (Nat.le_of_ble_eq_true rfl) (fun r_1 m_1 hr_1 ho_1 => ?_)
  obtain ⟨R, hRe⟩ : ∃ z, z = (seqF (G 4) 213 (seqF (G 4) 214 (oneF G 0))) i o := ⟨_, rfl⟩
  rw [← hRe] at hr_1
  obtain ⟨x_1, w_1, hr_1⟩ := hr_1
  rcases hr_1 with ⟨f_1, e_1, g_1, t_1, s_1, j_1, p_1, r_1e, c_1⟩ | ⟨f_1, e_1, no_1⟩
  · refine go_if_ne (tgt := 9) dX12_readBracket_4 (by decide) ⟨by omega, by omega⟩ (fun h_4 => ?_) (fun h_4 => ?_)
    · refine go_aload_n dX12_readBracket_9 rfl ?_
      refine go_bipush dX12_readBracket_10 (by decide) ?_
      refine go_callVp_z (as := [vi 41]) (S := []) (b := 214) (ev_X12_isSign (m := m_1) (c := 41) (G := G) (t := t) (kw := kw) (n := n) (lim := lim) (i := R.2.1) t_1 (by unfold isS; omega)) rfl dX12_readBracket_12 cv_12_86 rfl rfl ob_214 rfl (by decide) (Nat.le_of_ble_eq_true rfl) (fun r_12 hr_12 ho_12 => ?_)
      refine go_if_ne (tgt := 24) dX12_readBracket_15 (by decide) ⟨by omega, by omega⟩ (fun h_15 => ?_) (fun h_15 => ?_)
      · refine go_aload_n dX12_readBracket_24 rfl ?_
        refine go_callV_v (as := []) (S := []) (b := 214) (ev_X12_go (m := m_1) (G := G) (t := t) (kw := kw) (n := n) (lim := lim) (i := (R.2.1 + 1)) (t_1.nx (by omega))) rfl dX12_readBracket_25 cv_12_82 rfl rfl ob_214 rfl (by decide) (Nat.le_of_ble_eq_true rfl) (fun m_25 hr_25 => ?_)
        refine go_iconst dX12_readBracket_28 ?_
        refine go_ret (v := 1) rfl dX12_readBracket_29 (okZ (by first | exact Or.inl rfl | exact Or.inr rfl | assumption | omega)) ?_
        have hq : brkF (G 4) (seqF (G 4) 213 (seqF (G 4) 214 (oneF G 0))) (i - 1) o = (0, R.2.1 + 1, R.2.2.1, R.2.2.2) := by unfold brkF; rw [hni, ← hRe, if_neg (fun z => z f_1), if_pos (by omega)]
        have hl := hr_25.1.l
        rw [SaQ, hq]
        refine ⟨x_1.tr hl.s, by rw [hl.2 46 (by omega)]; exact w_1, Or.inl ⟨rfl, rfl, ?_, hr_25.2, s_1.l hl, fun j hj => ?_, ?_, ?_, c_1⟩⟩
        · rw [hr_25.1.2 10 (by decide) (by decide) (by decide) (by decide) (by decide) (by decide)]; exact g_1
        · rw [hl.1 234 (by decide)]; exact j_1 j hj
        · rw [hl.2 47 (by omega)]; exact p_1
        · rw [hl.2 47 (by omega), hl.1 234 (by decide)]; exact r_1e
      · refine go_aload_n dX12_readBracket_18 rfl ?_
        refine go_iconst dX12_readBracket_19 ?_
        refine go_callV_z (as := [vi 1]) (S := []) (b := 214) (ev_X12_bad (m := m_1) (k := 1) (G := G) (t := t) (kw := kw) (n := n) (lim := lim) (i := R.2.1) t_1 (by first | assumption | omega | exact ⟨by omega, by omega⟩ | (constructor <;> omega))) rfl dX12_readBracket_20 cv_12_72 rfl rfl ob_214 rfl (by decide) (Nat.le_of_ble_eq_true rfl) (fun r_20 m_20 hr_20 ho_20 => ?_)
        refine go_ret (v := r_20) rfl dX12_readBracket_23 (okZ (by first | exact Or.inl rfl | exact Or.inr rfl | assumption | omega)) ?_
        have hq : brkF (G 4) (seqF (G 4) 213 (seqF (G 4) 214 (oneF G 0))) (i - 1) o = (1, R.2.1, 0, []) := by unfold brkF; rw [hni, ← hRe, if_neg (fun z => z f_1), if_neg (by omega)]
        have z := NoT.b (G := G) (m := m_1) (m' := m_20) (f := 1) (i := R.2.1) (by rw [hr_20.2]; congr 2; split <;> rfl)
        rw [SaQ, hq]
        exact ⟨x_1.tr z.1.s, by rw [z.1.2 46 (by omega)]; exact w_1, Or.inr ⟨(show (1 : Int) ≠ 0 by decide), hr_20.1, z.2.1, z.2.2⟩⟩
    · exfalso; omega
  · refine go_if_ne (tgt := 9) dX12_readBracket_4 (by decide) ⟨by omega, by omega⟩ (fun h_4 => ?_) (fun h_4 => ?_)
    · exfalso; omega
    · refine go_iconst dX12_readBracket_7 ?_
      refine go_ret (v := 0) rfl dX12_readBracket_8 (okZ (by first | exact Or.inl rfl | exact Or.inr rfl | assumption | omega)) ?_
      have hq : brkF (G 4) (seqF (G 4) 213 (seqF (G 4) 214 (oneF G 0))) (i - 1) o = R := by unfold brkF; rw [hni, ← hRe, if_pos f_1]
      rw [SaQ, hq]
      exact ⟨x_1, w_1, Or.inr ⟨f_1, rfl, no_1⟩⟩
theorem dX12_readSaid_70 : decode mX12_readSaid.2.1 70 = .ok (.aload_n 0, 1) := by decide +kernel
theorem dX12_readSaid_71 : decode mX12_readSaid.2.1 71 = .ok (.dup, 1) := by decide +kernel
theorem dX12_readSaid_72 : decode mX12_readSaid.2.1 72 = .ok (.getfield 439, 3) := by decide +kernel
theorem dX12_readSaid_75 : decode mX12_readSaid.2.1 75 = .ok (.iconst 1, 1) := by decide +kernel
theorem dX12_readSaid_76 : decode mX12_readSaid.2.1 76 = .ok (.iadd, 1) := by decide +kernel
theorem dX12_readSaid_77 : decode mX12_readSaid.2.1 77 = .ok (.putfield 439, 3) := by decide +kernel
theorem dX12_readSaid_80 : decode mX12_readSaid.2.1 80 = .ok (.aload_n 0, 1) := by decide +kernel
theorem dX12_readSaid_81 : decode mX12_readSaid.2.1 81 = .ok (.dup, 1) := by decide +kernel
theorem dX12_readSaid_82 : decode mX12_readSaid.2.1 82 = .ok (.getfield 442, 3) := by decide +kernel
theorem dX12_readSaid_85 : decode mX12_readSaid.2.1 85 = .ok (.iconst 1, 1) := by decide +kernel
theorem dX12_readSaid_86 : decode mX12_readSaid.2.1 86 = .ok (.iadd, 1) := by decide +kernel
theorem dX12_readSaid_87 : decode mX12_readSaid.2.1 87 = .ok (.putfield 442, 3) := by decide +kernel
theorem dX12_readSaid_90 : decode mX12_readSaid.2.1 90 = .ok (.aload_n 0, 1) := by decide +kernel
theorem dX12_readSaid_91 : decode mX12_readSaid.2.1 91 = .ok (.invokevirtual 82, 3) := by decide +kernel
theorem dX12_readSaid_94 : decode mX12_readSaid.2.1 94 = .ok (.iconst 1, 1) := by decide +kernel
theorem dX12_readSaid_95 : decode mX12_readSaid.2.1 95 = .ok (.istore_n 3, 1) := by decide +kernel
theorem dX12_readSaid_96 : decode mX12_readSaid.2.1 96 = .ok (.iload_n 1, 1) := by decide +kernel
theorem dX12_readSaid_97 : decode mX12_readSaid.2.1 97 = .ok (.ifCond .eq 11, 3) := by decide +kernel
theorem dX12_readSaid_100 : decode mX12_readSaid.2.1 100 = .ok (.aload_n 0, 1) := by decide +kernel
theorem dX12_readSaid_101 : decode mX12_readSaid.2.1 101 = .ok (.invokevirtual 445, 3) := by decide +kernel
theorem dX12_readSaid_104 : decode mX12_readSaid.2.1 104 = .ok (.istore_n 3, 1) := by decide +kernel
theorem dX12_readSaid_105 : decode mX12_readSaid.2.1 105 = .ok (.goto 61, 3) := by decide +kernel
theorem dX12_readSaid_108 : decode mX12_readSaid.2.1 108 = .ok (.iload_n 2, 1) := by decide +kernel
theorem dX12_readSaid_109 : decode mX12_readSaid.2.1 109 = .ok (.bipush 15, 2) := by decide +kernel
theorem dX12_readSaid_111 : decode mX12_readSaid.2.1 111 = .ok (.if_icmp .ne 11, 3) := by decide +kernel
theorem dX12_readSaid_114 : decode mX12_readSaid.2.1 114 = .ok (.aload_n 0, 1) := by decide +kernel
theorem dX12_readSaid_115 : decode mX12_readSaid.2.1 115 = .ok (.invokevirtual 448, 3) := by decide +kernel
theorem dX12_readSaid_118 : decode mX12_readSaid.2.1 118 = .ok (.istore_n 3, 1) := by decide +kernel
theorem dX12_readSaid_119 : decode mX12_readSaid.2.1 119 = .ok (.goto 47, 3) := by decide +kernel
theorem dX12_readSaid_122 : decode mX12_readSaid.2.1 122 = .ok (.iload_n 2, 1) := by decide +kernel
theorem dX12_readSaid_123 : decode mX12_readSaid.2.1 123 = .ok (.bipush 19, 2) := by decide +kernel
theorem dX12_readSaid_125 : decode mX12_readSaid.2.1 125 = .ok (.if_icmp .ge 21, 3) := by decide +kernel
theorem dX12_readSaid_128 : decode mX12_readSaid.2.1 128 = .ok (.aload_n 0, 1) := by decide +kernel
theorem dX12_readSaid_129 : decode mX12_readSaid.2.1 129 = .ok (.aload_n 0, 1) := by decide +kernel
theorem dX12_readSaid_130 : decode mX12_readSaid.2.1 130 = .ok (.bipush 50, 2) := by decide +kernel
theorem dX12_readSaid_132 : decode mX12_readSaid.2.1 132 = .ok (.iload_n 2, 1) := by decide +kernel
theorem dX12_readSaid_133 : decode mX12_readSaid.2.1 133 = .ok (.iadd, 1) := by decide +kernel
theorem dX12_readSaid_134 : decode mX12_readSaid.2.1 134 = .ok (.iconst 0, 1) := by decide +kernel
theorem dX12_readSaid_135 : decode mX12_readSaid.2.1 135 = .ok (.iconst 0, 1) := by decide +kernel
theorem dX12_readSaid_136 : decode mX12_readSaid.2.1 136 = .ok (.iconst 0, 1) := by decide +kernel
theorem dX12_readSaid_137 : decode mX12_readSaid.2.1 137 = .ok (.invokevirtual 433, 3) := by decide +kernel
theorem dX12_readSaid_140 : decode mX12_readSaid.2.1 140 = .ok (.putfield 430, 3) := by decide +kernel
theorem dX12_readSaid_143 : decode mX12_readSaid.2.1 143 = .ok (.goto 23, 3) := by decide +kernel
theorem dX12_readSaid_146 : decode mX12_readSaid.2.1 146 = .ok (.iload_n 2, 1) := by decide +kernel
theorem dX12_readSaid_147 : decode mX12_readSaid.2.1 147 = .ok (.bipush 21, 2) := by decide +kernel
theorem dX12_readSaid_149 : decode mX12_readSaid.2.1 149 = .ok (.if_icmp .ge 11, 3) := by decide +kernel
theorem dX12_readSaid_152 : decode mX12_readSaid.2.1 152 = .ok (.aload_n 0, 1) := by decide +kernel
theorem dX12_readSaid_153 : decode mX12_readSaid.2.1 153 = .ok (.iload_n 2, 1) := by decide +kernel
theorem dX12_readSaid_154 : decode mX12_readSaid.2.1 154 = .ok (.invokevirtual 451, 3) := by decide +kernel
theorem dX12_readSaid_157 : decode mX12_readSaid.2.1 157 = .ok (.goto 8, 3) := by decide +kernel
theorem dX12_readSaid_160 : decode mX12_readSaid.2.1 160 = .ok (.aload_n 0, 1) := by decide +kernel
theorem dX12_readSaid_161 : decode mX12_readSaid.2.1 161 = .ok (.iload_n 2, 1) := by decide +kernel
theorem dX12_readSaid_162 : decode mX12_readSaid.2.1 162 = .ok (.invokevirtual 454, 3) := by decide +kernel
theorem dX12_readSaid_165 : decode mX12_readSaid.2.1 165 = .ok (.istore_n 3, 1) := by decide +kernel
theorem dX12_readSaid_166 : decode mX12_readSaid.2.1 166 = .ok (.aload_n 0, 1) := by decide +kernel
theorem dX12_readSaid_167 : decode mX12_readSaid.2.1 167 = .ok (.dup, 1) := by decide +kernel
theorem dX12_readSaid_168 : decode mX12_readSaid.2.1 168 = .ok (.getfield 442, 3) := by decide +kernel
theorem dX12_readSaid_171 : decode mX12_readSaid.2.1 171 = .ok (.iconst 1, 1) := by decide +kernel
theorem dX12_readSaid_172 : decode mX12_readSaid.2.1 172 = .ok (.isub, 1) := by decide +kernel
theorem dX12_readSaid_173 : decode mX12_readSaid.2.1 173 = .ok (.putfield 442, 3) := by decide +kernel
theorem dX12_readSaid_176 : decode mX12_readSaid.2.1 176 = .ok (.iload_n 3, 1) := by decide +kernel
theorem dX12_readSaid_177 : decode mX12_readSaid.2.1 177 = .ok (.ireturn, 1) := by decide +kernel
set_option maxRecDepth 4000 in
theorem ev_X12_one1 {m : Mem} {G : Mem} {t : Int → Int} {kw : Int → Int} {n : Int} {lim : Int} {i : Int} {o : Int} {nn : Int} (htm : TM G t kw n lim m i) (hb : Bg G 8 18 (m 216)) (hdn : DnOk G 8) (hnm : NmR G 8 (m 221)) (hms : MS m (G 8 3) o 7 nn) (ho : 0 ≤ o ∧ o ≤ 20) (hnn : 0 ≤ nn ∧ nn ≤ 2 * o) : Ev 0 18 mX12_readSaid [vr 214] m (fun r m' => SaQ G t kw n lim m m' 7 nn (oneF G 1 i o) r) := by
  refine Ev.of (L := [vr 214, un, un, un]) (by decide +kernel) rfl (Nat.le_of_ble_eq_true rfl) rfl (fun t ht => by cases ht; first | exact Or.inl rfl | exact Or.inr (Or.inl rfl) | exact Or.inr (Or.inr rfl)) (fun hcan => ?_)
  obtain ⟨hm1, hm2, hm3, hm4⟩ := id hms
  have hkd := htm.kd
  refine go_aload_n dX12_readSaid_0 rfl ?_
  refine go_bipush dX12_readSaid_1 (by decide) ?_
  refine go_callVp_z (as := [vi 40]) (S := []) (b := 214) (ev_X12_isSign (m := m) (c := 40) (G := G) (t := t) (kw := kw) (n := n) (lim := lim) (i := i) htm (by unfold isS; omega)) rfl dX12_readSaid_3 cv_12_86 rfl rfl ob_214 rfl (by decide) (Nat.le_of_ble_eq_true rfl) (fun r_3 hr_3 ho_3 => ?_)
  refine go_istore_n (L' := [vr 214, vi r_3, un, un]) dX12_readSaid_6 (by decide) rfl rfl ?_
  refine go_bipush dX12_readSaid_7 (by decide) ?_
  refine go_istore_n (L' := [vr 214, vi r_3, vi 15, un]) dX12_readSaid_9 (by decide) rfl rfl ?_
  have lp_10 : ∀ (n_10 : Nat) (w : Int) , (15 ≤ w) → (w ≤ 25) → (∀ j : Int, 15 ≤ j → j < w → G 4 i ≠ 200 + j) → (25 - w).toNat < n_10 → Go 0 18 mX12_readSaid (fun r m' => SaQ G t kw n lim m m' 7 nn (oneF G 1 i o) r) 10 [vr 214, vi r_3, vi w, un] [] m := by
    intro n_10
    induction n_10 with
    | zero => intro w hw0 hw1 hno hmu; exact absurd hmu (Nat.not_lt_zero _)
    | succ n_10 ih_10 =>
      intro w hw0 hw1 hno hmu
      refine go_iload_n dX12_readSaid_10 rfl ?_
      have cut_30 :  ((w ≤ 24 ∧ G 4 i = 200 + w) ∨ (w = 25 ∧ ¬ (215 ≤ G 4 i ∧ G 4 i ≤ 224))) → Go 0 18 mX12_readSaid (fun r m' => SaQ G t kw n lim m m' 7 nn (oneF G 1 i o) r) 30 [vr 214, vi r_3, vi w, un] [] m := by
        intro hww
        refine go_iload_n dX12_readSaid_30 rfl ?_
        have cut_46 :  (G 4 i = 40 ∨ (215 ≤ G 4 i ∧ G 4 i ≤ 224)) → Go 0 18 mX12_readSaid (fun r m' => SaQ G t kw n lim m m' 7 nn (oneF G 1 i o) r) 46 [vr 214, vi r_3, vi w, un] [] m := by
          intro hst
          refine go_aload_n dX12_readSaid_46 rfl ?_
          refine go_getf_i (ki := 45) dX12_readSaid_47 fl_12_439 ob_214 rfl rfl (fun hf_47 => ?_)
          rw [show (m 214 45 : Int) = o from hm1] at hf_47 ⊢
          refine go_bipush dX12_readSaid_50 (by decide) ?_
          refine go_icmp_eq (tgt := 64) dX12_readSaid_52 (by decide) ⟨by omega, by omega⟩ ⟨by omega, by omega⟩ (fun h_52 => ?_) (fun h_52 => ?_)
          · refine go_aload_n dX12_readSaid_64 rfl ?_
            refine go_iconst dX12_readSaid_65 ?_
            refine go_callV_z (as := [vi 4]) (S := []) (b := 214) (ev_X12_bad (m := m) (k := 4) (G := G) (t := t) (kw := kw) (n := n) (lim := lim) (i := i) htm (by first | assumption | omega | exact ⟨by omega, by omega⟩ | (constructor <;> omega))) rfl dX12_readSaid_66 cv_12_72 rfl rfl ob_214 rfl (by decide) (Nat.le_of_ble_eq_true rfl) (fun r_66 m_66 hr_66 ho_66 => ?_)
            refine go_ret (v := r_66) rfl dX12_readSaid_69 (okZ (by first | exact Or.inl rfl | exact Or.inr rfl | assumption | omega)) ?_
            have hq : oneF G 1 i o = (4, i, o, []) := by unfold oneF; rw [if_neg (by omega), if_pos (by omega)]
            have z := NoT.b (G := G) (m := m) (m' := m_66) (f := 4) (i := i) (by rw [hr_66.2, if_neg (by omega)])
            rw [SaQ, hq]
            exact ⟨z.1.s, by rw [z.1.2 46 (by omega)]; exact hm2, Or.inr ⟨(show (4 : Int) ≠ 0 by decide), hr_66.1, z.2.1, z.2.2⟩⟩
          · refine go_aload_n dX12_readSaid_55 rfl ?_
            refine go_getf_i (ki := 46) dX12_readSaid_56 fl_12_442 ob_214 rfl rfl (fun hf_56 => ?_)
            rw [show (m 214 46 : Int) = 7 from hm2] at hf_56 ⊢
            refine go_bipush dX12_readSaid_59 (by decide) ?_
            refine go_icmp_ne (tgt := 70) dX12_readSaid_61 (by decide) ⟨by omega, by omega⟩ ⟨by omega, by omega⟩ (fun h_61 => ?_) (fun h_61 => ?_)
            · refine go_aload_n dX12_readSaid_70 rfl ?_
              refine go_dup_r dX12_readSaid_71 ?_
              refine go_getf_i (ki := 45) dX12_readSaid_72 fl_12_439 ob_214 rfl rfl (fun hf_72 => ?_)
              rw [show (m 214 45 : Int) = o from hm1] at hf_72 ⊢
              refine go_iconst dX12_readSaid_75 ?_
              refine go_iadd dX12_readSaid_76 ?_
              refine go_putf_i (ki := 45) dX12_readSaid_77 fw_12_439 ob_214 rfl rfl ⟨by omega, by omega⟩ ?_
              refine go_aload_n dX12_readSaid_80 rfl ?_
              refine go_dup_r dX12_readSaid_81 ?_
              refine go_getf_i (ki := 46) dX12_readSaid_82 fl_12_442 ob_214 rfl rfl (fun hf_82 => ?_)
              rw [show ((wr m 214 45 (o + 1)) 214 46 : Int) = 7 from by rw [wr_ni (by decide)]; exact hm2] at hf_82 ⊢
              refine go_iconst dX12_readSaid_85 ?_
              refine go_iadd dX12_readSaid_86 ?_
              refine go_putf_i (ki := 46) dX12_readSaid_87 fw_12_442 ob_214 rfl rfl ⟨by omega, by omega⟩ ?_
              refine go_aload_n dX12_readSaid_90 rfl ?_
              refine go_callV_v (as := []) (S := []) (b := 214) (ev_X12_go (m := (wr (wr m 214 45 (o + 1)) 214 46 (7 + 1))) (G := G) (t := t) (kw := kw) (n := n) (lim := lim) (i := (i + 1)) (((htm.nx (by omega)).w (by decide) (by omega)).w (by decide) (by omega))) rfl dX12_readSaid_91 cv_12_82 rfl rfl ob_214 rfl (by decide) (Nat.le_of_ble_eq_true rfl) (fun m_91 hr_91 => ?_)
              have l91 := hr_91.1.l
              have s91 : Sx m m_91 := ((Sx.rf.w (by omega) (by omega)).w (by omega) (by omega)).tr l91.s
              have g91 : m_91 214 10 = m 214 10 := by rw [hr_91.1.2 10 (by decide) (by decide) (by decide) (by decide) (by decide) (by decide), wr_ni (by decide), wr_ni (by decide)]
              have n91 : m_91 234 = m 234 := by rw [l91.1 234 (by decide), wr_row (by decide), wr_row (by decide)]
              have ms91 : MS m_91 (G 8 3) (o + 1) 8 nn := ⟨by rw [l91.2 45 (by omega), wr_ni (by decide), wr_self], by rw [l91.2 46 (by omega), wr_self]; rfl, by rw [l91.2 44 (by omega), wr_ni (by decide), wr_ni (by decide)]; exact hm3, by rw [n91]; exact hm4⟩
              have b91 : Bg G 8 18 (m_91 216) := by rw [s91.1 216 (by decide) (by decide)]; exact hb
              have nm91 : NmR G 8 (m_91 221) := by rw [s91.1 221 (by decide) (by decide)]; exact hnm
              have hi1 : i + 1 - 1 = i := by omega
              refine go_iconst dX12_readSaid_94 ?_
              refine go_istore_n (L' := [vr 214, vi r_3, vi w, vi 1]) dX12_readSaid_95 (by decide) rfl rfl ?_
              have cut_166 : ∀ (mx : Mem) (gd : Int) , (gd = 0 ∨ gd = 1) → (SaQ G t kw n lim m_91 mx 8 nn (oneF G 1 i o) gd) → Go 0 18 mX12_readSaid (fun r m' => SaQ G t kw n lim m m' 7 nn (oneF G 1 i o) r) 166 [vr 214, un, un, vi gd] [] mx := by
                intro mx gd hgd hsq
                refine go_aload_n dX12_readSaid_166 rfl ?_
                refine go_dup_r dX12_readSaid_167 ?_
                refine go_getf_i (ki := 46) dX12_readSaid_168 fl_12_442 ob_214 rfl rfl (fun hf_168 => ?_)
                rw [show (mx 214 46 : Int) = 8 from hsq.2.1] at hf_168 ⊢
                refine go_iconst dX12_readSaid_171 ?_
                refine go_isub dX12_readSaid_172 ?_
                refine go_putf_i (ki := 46) dX12_readSaid_173 fw_12_442 ob_214 rfl rfl ⟨by omega, by omega⟩ ?_
                refine go_iload_n dX12_readSaid_176 rfl ?_
                refine go_ret (v := gd) rfl dX12_readSaid_177 (okZ hgd) ?_
                obtain ⟨a, b, c⟩ := hsq
                refine ⟨(s91.tr a).w (by omega) (by omega), wr_self _ _ _ _, ?_⟩
                rcases c with ⟨f, e, g, t_, s, j_, p_, r_, c_⟩ | ⟨f, e, no⟩
                · refine Or.inl ⟨f, e, ?_, t_.w (by decide) (by omega), ⟨?_, wr_self _ _ _ _, ?_, ?_⟩, fun j hj => ?_, ?_, ?_, c_⟩
                  · rw [wr_ni (by decide), g]; exact g91
                  · rw [wr_ni (by decide)]; exact s.1
                  · rw [wr_ni (by decide)]; exact s.2.2.1
                  · rw [wr_row (by decide)]; exact s.2.2.2
                  · rw [wr_na (by decide), j_ j hj, n91]
                  · rw [wr_ni (by decide)]; exact p_
                  · rw [wr_ni (by decide), wr_row (by decide)]; exact r_
                · exact Or.inr ⟨f, e, by rw [wr_ni (by decide)]; exact no.1, by rw [wr_ni (by decide)]; exact no.2⟩
              refine go_iload_n dX12_readSaid_96 rfl ?_
              refine go_if_eq (tgt := 108) dX12_readSaid_97 (by decide) ⟨by omega, by omega⟩ (fun h_97 => ?_) (fun h_97 => ?_)
              · refine go_iload_n dX12_readSaid_108 rfl ?_
                refine go_bipush dX12_readSaid_109 (by decide) ?_
                refine go_icmp_ne (tgt := 122) dX12_readSaid_111 (by decide) ⟨by omega, by omega⟩ ⟨by omega, by omega⟩ (fun h_111 => ?_) (fun h_111 => ?_)
                · refine go_iload_n dX12_readSaid_122 rfl ?_
                  refine go_bipush dX12_readSaid_123 (by decide) ?_
                  refine go_icmp_ge (tgt := 146) dX12_readSaid_125 (by decide) ⟨by omega, by omega⟩ ⟨by omega, by omega⟩ (fun h_125 => ?_) (fun h_125 => ?_)
                  · refine go_iload_n dX12_readSaid_146 rfl ?_
                    refine go_bipush dX12_readSaid_147 (by decide) ?_
                    refine go_icmp_ge (tgt := 160) dX12_readSaid_149 (by decide) ⟨by omega, by omega⟩ ⟨by omega, by omega⟩ (fun h_149 => ?_) (fun h_149 => ?_)
                    · refine go_aload_n dX12_readSaid_160 rfl ?_
                      refine go_iload_n dX12_readSaid_161 rfl ?_
                      refine go_callV_z (as := [vi w]) (S := []) (b := 214) (ev_X12_readCompare (m := m_91) (w := w) (G := G) (t := t) (kw := kw) (n := n) (lim := lim) (i := (i + 1)) (o := (o + 1)) (wi := 8) (nn := nn) hr_91.2 b91 hdn ms91 (by omega) (by omega) (by omega) (by rw [hi1]; omega)) rfl dX12_readSaid_162 cv_12_454 rfl rfl ob_214 rfl (by decide) (Nat.le_of_ble_eq_true rfl) (fun r_162 m_162 hr_162 ho_162 => ?_)
                      rw [hi1] at hr_162
                      refine go_istore_n (L' := [vr 214, vi r_3, vi w, vi r_162]) dX12_readSaid_165 (by decide) rfl rfl ?_
                      refine go_drop (j := 1) (L' := [vr 214, un, vi w, vi r_162]) rfl ?_
                      refine go_drop (j := 2) (L' := [vr 214, un, un, vi r_162]) rfl ?_
                      exact cut_166 m_162 r_162 (by first | assumption | rfl | omega) (by
                            first
                            | (rw [show oneF G 1 i o = brkF (G 4) (seqF (G 4) 213 (seqF (G 4) 214 (oneF G 0))) i (o + 1) by unfold oneF; rw [if_neg (by omega), if_neg (by omega), if_neg (by omega), if_pos (by omega)]]; exact hr_101)
                            | (rw [show oneF G 1 i o = notF (oneF G 0) i (o + 1) by unfold oneF; rw [if_neg (by omega), if_neg (by omega), if_pos (by omega)]]; exact hr_115)
                            | (rw [show oneF G 1 i o = namF G i (o + 1) by unfold oneF; rw [if_neg (by omega), if_neg (by omega), if_neg (by omega), if_neg (by omega), if_pos (by omega)]]; exact hr_154)
                            | (rw [show oneF G 1 i o = cmpF G i (o + 1) by unfold oneF; rw [if_neg (by omega), if_neg (by omega), if_neg (by omega), if_neg (by omega), if_neg (by omega), if_pos (by omega)]]; exact hr_162)
                            | (have hwk : Wk (nodF (m_91 234) nn (50 + w) 0 0 0) (G 8 3) nn := (by
                                 obtain ⟨e0, e1, e2, e3⟩ := nodF_n (N := m_91 234) (n := nn) (w := 50 + w) (a := 0) (b := 0) (r := 0)
                                 unfold Wk
                                 rw [e0, e1, e2, e3]
                                 right; right; left; omega)
                               have hwn := ms91.2.2.2.add (by omega) hwk
                               rw [SaQ, show oneF G 1 i o = (0, i + 1, o + 1, [(G 4 i, 0, 0)]) by unfold oneF; rw [if_neg (by omega), if_neg (by omega), if_neg (by omega), if_neg (by omega), if_neg (by omega), if_neg (by omega)], hm_137]
                               refine ⟨nodW_s.w (by omega) (by omega), ?_, Or.inl ⟨rfl, rfl, ?_, (hr_91.2.nod).w (by decide) (by omega), ⟨?_, ?_, ?_, ?_⟩, fun j hj => ?_, ?_, ?_, CdA.k (by omega)⟩⟩
                               · rw [wr_ni (by decide), nodW_214 (by decide)]; exact ms91.2.1
                               · rw [wr_ni (by decide), nodW_214 (by decide)]
                               · rw [wr_ni (by decide), nodW_214 (by decide)]; exact ms91.1
                               · rw [wr_ni (by decide), nodW_214 (by decide)]; exact ms91.2.1
                               · rw [wr_ni (by decide), nodW_44]; rfl
                               · rw [wr_row (by decide), nodW_234]; exact hwn
                               · rw [wr_na (by decide), nodW_234, nodF_o j hj]
                               · rw [wr_self, e_137]; show nn ≤ nn ∧ nn < nn + 1; omega
                               · rw [wr_self, e_137, wr_row (by decide), nodW_234]
                                 refine Rep.leaf (by omega) (by omega) ?_
                                 rw [if_pos (by omega), show 50 + w + 150 = 200 + w by omega]
                                 rw [show G 4 i = 200 + w by omega]))
                    · refine go_aload_n dX12_readSaid_152 rfl ?_
                      refine go_iload_n dX12_readSaid_153 rfl ?_
                      refine go_callV_z (as := [vi w]) (S := []) (b := 214) (ev_X12_readOf (m := m_91) (w := w) (G := G) (t := t) (kw := kw) (n := n) (lim := lim) (i := (i + 1)) (o := (o + 1)) (wi := 8) (nn := nn) hr_91.2 b91 hdn nm91 ms91 (by omega) (by omega) (by omega) (by rw [hi1]; omega)) rfl dX12_readSaid_154 cv_12_451 rfl rfl ob_214 rfl (by decide) (Nat.le_of_ble_eq_true rfl) (fun r_154 m_154 hr_154 ho_154 => ?_)
                      rw [hi1] at hr_154
                      refine go_goto (tgt := 165) dX12_readSaid_157 (by decide) ?_
                      refine go_istore_n (L' := [vr 214, vi r_3, vi w, vi r_154]) dX12_readSaid_165 (by decide) rfl rfl ?_
                      refine go_drop (j := 1) (L' := [vr 214, un, vi w, vi r_154]) rfl ?_
                      refine go_drop (j := 2) (L' := [vr 214, un, un, vi r_154]) rfl ?_
                      exact cut_166 m_154 r_154 (by first | assumption | rfl | omega) (by
                            first
                            | (rw [show oneF G 1 i o = brkF (G 4) (seqF (G 4) 213 (seqF (G 4) 214 (oneF G 0))) i (o + 1) by unfold oneF; rw [if_neg (by omega), if_neg (by omega), if_neg (by omega), if_pos (by omega)]]; exact hr_101)
                            | (rw [show oneF G 1 i o = notF (oneF G 0) i (o + 1) by unfold oneF; rw [if_neg (by omega), if_neg (by omega), if_pos (by omega)]]; exact hr_115)
                            | (rw [show oneF G 1 i o = namF G i (o + 1) by unfold oneF; rw [if_neg (by omega), if_neg (by omega), if_neg (by omega), if_neg (by omega), if_pos (by omega)]]; exact hr_154)
                            | (rw [show oneF G 1 i o = cmpF G i (o + 1) by unfold oneF; rw [if_neg (by omega), if_neg (by omega), if_neg (by omega), if_neg (by omega), if_neg (by omega), if_pos (by omega)]]; exact hr_162)
                            | (have hwk : Wk (nodF (m_91 234) nn (50 + w) 0 0 0) (G 8 3) nn := (by
                                 obtain ⟨e0, e1, e2, e3⟩ := nodF_n (N := m_91 234) (n := nn) (w := 50 + w) (a := 0) (b := 0) (r := 0)
                                 unfold Wk
                                 rw [e0, e1, e2, e3]
                                 right; right; left; omega)
                               have hwn := ms91.2.2.2.add (by omega) hwk
                               rw [SaQ, show oneF G 1 i o = (0, i + 1, o + 1, [(G 4 i, 0, 0)]) by unfold oneF; rw [if_neg (by omega), if_neg (by omega), if_neg (by omega), if_neg (by omega), if_neg (by omega), if_neg (by omega)], hm_137]
                               refine ⟨nodW_s.w (by omega) (by omega), ?_, Or.inl ⟨rfl, rfl, ?_, (hr_91.2.nod).w (by decide) (by omega), ⟨?_, ?_, ?_, ?_⟩, fun j hj => ?_, ?_, ?_, CdA.k (by omega)⟩⟩
                               · rw [wr_ni (by decide), nodW_214 (by decide)]; exact ms91.2.1
                               · rw [wr_ni (by decide), nodW_214 (by decide)]
                               · rw [wr_ni (by decide), nodW_214 (by decide)]; exact ms91.1
                               · rw [wr_ni (by decide), nodW_214 (by decide)]; exact ms91.2.1
                               · rw [wr_ni (by decide), nodW_44]; rfl
                               · rw [wr_row (by decide), nodW_234]; exact hwn
                               · rw [wr_na (by decide), nodW_234, nodF_o j hj]
                               · rw [wr_self, e_137]; show nn ≤ nn ∧ nn < nn + 1; omega
                               · rw [wr_self, e_137, wr_row (by decide), nodW_234]
                                 refine Rep.leaf (by omega) (by omega) ?_
                                 rw [if_pos (by omega), show 50 + w + 150 = 200 + w by omega]
                                 rw [show G 4 i = 200 + w by omega]))
                  · refine go_aload_n dX12_readSaid_128 rfl ?_
                    refine go_aload_n dX12_readSaid_129 rfl ?_
                    refine go_bipush dX12_readSaid_130 (by decide) ?_
                    refine go_iload_n dX12_readSaid_132 rfl ?_
                    refine go_iadd dX12_readSaid_133 ?_
                    refine go_iconst dX12_readSaid_134 ?_
                    refine go_iconst dX12_readSaid_135 ?_
                    refine go_iconst dX12_readSaid_136 ?_
                    refine go_callV_i (as := [vi (50 + w), vi 0, vi 0, vi 0]) (S := [vr 214]) (b := 214) (ev_X12_saysOne (m := m_91) (w := (50 + w)) (a := 0) (b := 0) (s := 0) (nn := nn) ms91.2.2.1 (by omega) (by first | assumption | omega | exact ⟨by omega, by omega⟩ | (constructor <;> omega)) (by first | assumption | omega | exact ⟨by omega, by omega⟩ | (constructor <;> omega)) (by first | assumption | omega | exact ⟨by omega, by omega⟩ | (constructor <;> omega)) (by first | assumption | omega | exact ⟨by omega, by omega⟩ | (constructor <;> omega))) rfl dX12_readSaid_137 cv_12_433 rfl rfl ob_214 rfl (by decide) (Nat.le_of_ble_eq_true rfl) (fun r_137 m_137 hr_137 ho_137 => ?_)
                    obtain ⟨e_137, hm_137⟩ := hr_137
                    refine go_putf_i (ki := 47) dX12_readSaid_140 fw_12_430 ob_214 rfl rfl ⟨by omega, by omega⟩ ?_
                    refine go_goto (tgt := 166) dX12_readSaid_143 (by decide) ?_
                    refine go_drop (j := 1) (L' := [vr 214, un, vi w, vi 1]) rfl ?_
                    refine go_drop (j := 2) (L' := [vr 214, un, un, vi 1]) rfl ?_
                    exact cut_166 (wr m_137 214 47 r_137) 1 (by first | assumption | rfl | omega) (by
                          first
                          | (rw [show oneF G 1 i o = brkF (G 4) (seqF (G 4) 213 (seqF (G 4) 214 (oneF G 0))) i (o + 1) by unfold oneF; rw [if_neg (by omega), if_neg (by omega), if_neg (by omega), if_pos (by omega)]]; exact hr_101)
                          | (rw [show oneF G 1 i o = notF (oneF G 0) i (o + 1) by unfold oneF; rw [if_neg (by omega), if_neg (by omega), if_pos (by omega)]]; exact hr_115)
                          | (rw [show oneF G 1 i o = namF G i (o + 1) by unfold oneF; rw [if_neg (by omega), if_neg (by omega), if_neg (by omega), if_neg (by omega), if_pos (by omega)]]; exact hr_154)
                          | (rw [show oneF G 1 i o = cmpF G i (o + 1) by unfold oneF; rw [if_neg (by omega), if_neg (by omega), if_neg (by omega), if_neg (by omega), if_neg (by omega), if_pos (by omega)]]; exact hr_162)
                          | (have hwk : Wk (nodF (m_91 234) nn (50 + w) 0 0 0) (G 8 3) nn := (by
                               obtain ⟨e0, e1, e2, e3⟩ := nodF_n (N := m_91 234) (n := nn) (w := 50 + w) (a := 0) (b := 0) (r := 0)
                               unfold Wk
                               rw [e0, e1, e2, e3]
                               right; right; left; omega)
                             have hwn := ms91.2.2.2.add (by omega) hwk
                             rw [SaQ, show oneF G 1 i o = (0, i + 1, o + 1, [(G 4 i, 0, 0)]) by unfold oneF; rw [if_neg (by omega), if_neg (by omega), if_neg (by omega), if_neg (by omega), if_neg (by omega), if_neg (by omega)], hm_137]
                             refine ⟨nodW_s.w (by omega) (by omega), ?_, Or.inl ⟨rfl, rfl, ?_, (hr_91.2.nod).w (by decide) (by omega), ⟨?_, ?_, ?_, ?_⟩, fun j hj => ?_, ?_, ?_, CdA.k (by omega)⟩⟩
                             · rw [wr_ni (by decide), nodW_214 (by decide)]; exact ms91.2.1
                             · rw [wr_ni (by decide), nodW_214 (by decide)]
                             · rw [wr_ni (by decide), nodW_214 (by decide)]; exact ms91.1
                             · rw [wr_ni (by decide), nodW_214 (by decide)]; exact ms91.2.1
                             · rw [wr_ni (by decide), nodW_44]; rfl
                             · rw [wr_row (by decide), nodW_234]; exact hwn
                             · rw [wr_na (by decide), nodW_234, nodF_o j hj]
                             · rw [wr_self, e_137]; show nn ≤ nn ∧ nn < nn + 1; omega
                             · rw [wr_self, e_137, wr_row (by decide), nodW_234]
                               refine Rep.leaf (by omega) (by omega) ?_
                               rw [if_pos (by omega), show 50 + w + 150 = 200 + w by omega]
                               rw [show G 4 i = 200 + w by omega]))
                · refine go_aload_n dX12_readSaid_114 rfl ?_
                  refine go_callV_z (as := []) (S := []) (b := 214) (ev_X12_not1 (m := m_91) (G := G) (t := t) (kw := kw) (n := n) (lim := lim) (i := (i + 1)) (o := (o + 1)) (nn := nn) hr_91.2 b91 hdn nm91 ms91 (by omega) (by omega)) rfl dX12_readSaid_115 cv_12_448 rfl rfl ob_214 rfl (by decide) (Nat.le_of_ble_eq_true rfl) (fun r_115 m_115 hr_115 ho_115 => ?_)
                  rw [hi1] at hr_115
                  refine go_istore_n (L' := [vr 214, vi r_3, vi w, vi r_115]) dX12_readSaid_118 (by decide) rfl rfl ?_
                  refine go_goto (tgt := 166) dX12_readSaid_119 (by decide) ?_
                  refine go_drop (j := 1) (L' := [vr 214, un, vi w, vi r_115]) rfl ?_
                  refine go_drop (j := 2) (L' := [vr 214, un, un, vi r_115]) rfl ?_
                  exact cut_166 m_115 r_115 (by first | assumption | rfl | omega) (by
                        first
                        | (rw [show oneF G 1 i o = brkF (G 4) (seqF (G 4) 213 (seqF (G 4) 214 (oneF G 0))) i (o + 1) by unfold oneF; rw [if_neg (by omega), if_neg (by omega), if_neg (by omega), if_pos (by omega)]]; exact hr_101)
                        | (rw [show oneF G 1 i o = notF (oneF G 0) i (o + 1) by unfold oneF; rw [if_neg (by omega), if_neg (by omega), if_pos (by omega)]]; exact hr_115)
                        | (rw [show oneF G 1 i o = namF G i (o + 1) by unfold oneF; rw [if_neg (by omega), if_neg (by omega), if_neg (by omega), if_neg (by omega), if_pos (by omega)]]; exact hr_154)
                        | (rw [show oneF G 1 i o = cmpF G i (o + 1) by unfold oneF; rw [if_neg (by omega), if_neg (by omega), if_neg (by omega), if_neg (by omega), if_neg (by omega), if_pos (by omega)]]; exact hr_162)
                        | (have hwk : Wk (nodF (m_91 234) nn (50 + w) 0 0 0) (G 8 3) nn := (by
                             obtain ⟨e0, e1, e2, e3⟩ := nodF_n (N := m_91 234) (n := nn) (w := 50 + w) (a := 0) (b := 0) (r := 0)
                             unfold Wk
                             rw [e0, e1, e2, e3]
                             right; right; left; omega)
                           have hwn := ms91.2.2.2.add (by omega) hwk
                           rw [SaQ, show oneF G 1 i o = (0, i + 1, o + 1, [(G 4 i, 0, 0)]) by unfold oneF; rw [if_neg (by omega), if_neg (by omega), if_neg (by omega), if_neg (by omega), if_neg (by omega), if_neg (by omega)], hm_137]
                           refine ⟨nodW_s.w (by omega) (by omega), ?_, Or.inl ⟨rfl, rfl, ?_, (hr_91.2.nod).w (by decide) (by omega), ⟨?_, ?_, ?_, ?_⟩, fun j hj => ?_, ?_, ?_, CdA.k (by omega)⟩⟩
                           · rw [wr_ni (by decide), nodW_214 (by decide)]; exact ms91.2.1
                           · rw [wr_ni (by decide), nodW_214 (by decide)]
                           · rw [wr_ni (by decide), nodW_214 (by decide)]; exact ms91.1
                           · rw [wr_ni (by decide), nodW_214 (by decide)]; exact ms91.2.1
                           · rw [wr_ni (by decide), nodW_44]; rfl
                           · rw [wr_row (by decide), nodW_234]; exact hwn
                           · rw [wr_na (by decide), nodW_234, nodF_o j hj]
                           · rw [wr_self, e_137]; show nn ≤ nn ∧ nn < nn + 1; omega
                           · rw [wr_self, e_137, wr_row (by decide), nodW_234]
                             refine Rep.leaf (by omega) (by omega) ?_
                             rw [if_pos (by omega), show 50 + w + 150 = 200 + w by omega]
                             rw [show G 4 i = 200 + w by omega]))
              · refine go_aload_n dX12_readSaid_100 rfl ?_
                refine go_callV_z (as := []) (S := []) (b := 214) (ev_X12_brk1 (m := m_91) (G := G) (t := t) (kw := kw) (n := n) (lim := lim) (i := (i + 1)) (o := (o + 1)) (nn := nn) hr_91.2 b91 hdn nm91 ms91 (by omega) (by omega)) rfl dX12_readSaid_101 cv_12_445 rfl rfl ob_214 rfl (by decide) (Nat.le_of_ble_eq_true rfl) (fun r_101 m_101 hr_101 ho_101 => ?_)
                rw [hi1] at hr_101
                refine go_istore_n (L' := [vr 214, vi r_3, vi w, vi r_101]) dX12_readSaid_104 (by decide) rfl rfl ?_
                refine go_goto (tgt := 166) dX12_readSaid_105 (by decide) ?_
                refine go_drop (j := 1) (L' := [vr 214, un, vi w, vi r_101]) rfl ?_
                refine go_drop (j := 2) (L' := [vr 214, un, un, vi r_101]) rfl ?_
                exact cut_166 m_101 r_101 (by first | assumption | rfl | omega) (by
                      first
                      | (rw [show oneF G 1 i o = brkF (G 4) (seqF (G 4) 213 (seqF (G 4) 214 (oneF G 0))) i (o + 1) by unfold oneF; rw [if_neg (by omega), if_neg (by omega), if_neg (by omega), if_pos (by omega)]]; exact hr_101)
                      | (rw [show oneF G 1 i o = notF (oneF G 0) i (o + 1) by unfold oneF; rw [if_neg (by omega), if_neg (by omega), if_pos (by omega)]]; exact hr_115)
                      | (rw [show oneF G 1 i o = namF G i (o + 1) by unfold oneF; rw [if_neg (by omega), if_neg (by omega), if_neg (by omega), if_neg (by omega), if_pos (by omega)]]; exact hr_154)
                      | (rw [show oneF G 1 i o = cmpF G i (o + 1) by unfold oneF; rw [if_neg (by omega), if_neg (by omega), if_neg (by omega), if_neg (by omega), if_neg (by omega), if_pos (by omega)]]; exact hr_162)
                      | (have hwk : Wk (nodF (m_91 234) nn (50 + w) 0 0 0) (G 8 3) nn := (by
                           obtain ⟨e0, e1, e2, e3⟩ := nodF_n (N := m_91 234) (n := nn) (w := 50 + w) (a := 0) (b := 0) (r := 0)
                           unfold Wk
                           rw [e0, e1, e2, e3]
                           right; right; left; omega)
                         have hwn := ms91.2.2.2.add (by omega) hwk
                         rw [SaQ, show oneF G 1 i o = (0, i + 1, o + 1, [(G 4 i, 0, 0)]) by unfold oneF; rw [if_neg (by omega), if_neg (by omega), if_neg (by omega), if_neg (by omega), if_neg (by omega), if_neg (by omega)], hm_137]
                         refine ⟨nodW_s.w (by omega) (by omega), ?_, Or.inl ⟨rfl, rfl, ?_, (hr_91.2.nod).w (by decide) (by omega), ⟨?_, ?_, ?_, ?_⟩, fun j hj => ?_, ?_, ?_, CdA.k (by omega)⟩⟩
                         · rw [wr_ni (by decide), nodW_214 (by decide)]; exact ms91.2.1
                         · rw [wr_ni (by decide), nodW_214 (by decide)]
                         · rw [wr_ni (by decide), nodW_214 (by decide)]; exact ms91.1
                         · rw [wr_ni (by decide), nodW_214 (by decide)]; exact ms91.2.1
                         · rw [wr_ni (by decide), nodW_44]; rfl
                         · rw [wr_row (by decide), nodW_234]; exact hwn
                         · rw [wr_na (by decide), nodW_234, nodF_o j hj]
                         · rw [wr_self, e_137]; show nn ≤ nn ∧ nn < nn + 1; omega
                         · rw [wr_self, e_137, wr_row (by decide), nodW_234]
                           refine Rep.leaf (by omega) (by omega) ?_
                           rw [if_pos (by omega), show 50 + w + 150 = 200 + w by omega]
                           rw [show G 4 i = 200 + w by omega]))
            · exfalso; omega
        refine go_if_ne (tgt := 46) dX12_readSaid_31 (by decide) ⟨by omega, by omega⟩ (fun h_31 => ?_) (fun h_31 => ?_)
        · exact cut_46  (by omega)
        · refine go_iload_n dX12_readSaid_34 rfl ?_
          refine go_bipush dX12_readSaid_35 (by decide) ?_
          refine go_icmp_le (tgt := 46) dX12_readSaid_37 (by decide) ⟨by omega, by omega⟩ ⟨by omega, by omega⟩ (fun h_37 => ?_) (fun h_37 => ?_)
          · exact cut_46  (by omega)
          · refine go_aload_n dX12_readSaid_40 rfl ?_
            refine go_iconst dX12_readSaid_41 ?_
            refine go_callV_z (as := [vi 1]) (S := []) (b := 214) (ev_X12_bad (m := m) (k := 1) (G := G) (t := t) (kw := kw) (n := n) (lim := lim) (i := i) htm (by first | assumption | omega | exact ⟨by omega, by omega⟩ | (constructor <;> omega))) rfl dX12_readSaid_42 cv_12_72 rfl rfl ob_214 rfl (by decide) (Nat.le_of_ble_eq_true rfl) (fun r_42 m_42 hr_42 ho_42 => ?_)
            refine go_ret (v := r_42) rfl dX12_readSaid_45 (okZ (by first | exact Or.inl rfl | exact Or.inr rfl | assumption | omega)) ?_
            have hq : oneF G 1 i o = (1, i, o, []) := by unfold oneF; rw [if_pos (by omega)]
            have z := NoT.b (G := G) (m := m) (m' := m_42) (f := 1) (i := i) (by rw [hr_42.2]; congr 2; split <;> rfl)
            rw [SaQ, hq]
            exact ⟨z.1.s, by rw [z.1.2 46 (by omega)]; exact hm2, Or.inr ⟨(show (1 : Int) ≠ 0 by decide), hr_42.1, z.2.1, z.2.2⟩⟩
      refine go_bipush dX12_readSaid_11 (by decide) ?_
      refine go_icmp_gt (tgt := 30) dX12_readSaid_13 (by decide) ⟨by omega, by omega⟩ ⟨by omega, by omega⟩ (fun h_13 => ?_) (fun h_13 => ?_)
      · exact cut_30  (by first | (left; omega) | (right; refine ⟨by omega, fun z => hno (G 4 i - 200) (by omega) (by omega) (by omega)⟩))
      · refine go_aload_n dX12_readSaid_16 rfl ?_
        refine go_iload_n dX12_readSaid_17 rfl ?_
        refine go_callVp_z (as := [vi w]) (S := []) (b := 214) (ev_X12_isWord (m := m) (k := w) (G := G) (t := t) (kw := kw) (n := n) (lim := lim) (i := i) htm (by first | assumption | omega | exact ⟨by omega, by omega⟩ | (constructor <;> omega))) rfl dX12_readSaid_18 cv_12_202 rfl rfl ob_214 rfl (by decide) (Nat.le_of_ble_eq_true rfl) (fun r_18 hr_18 ho_18 => ?_)
        refine go_if_ne (tgt := 30) dX12_readSaid_21 (by decide) ⟨by omega, by omega⟩ (fun h_21 => ?_) (fun h_21 => ?_)
        · exact cut_30  (by first | (left; omega) | (right; refine ⟨by omega, fun z => hno (G 4 i - 200) (by omega) (by omega) (by omega)⟩))
        · refine go_iinc (L' := [vr 214, vi r_3, vi (w + 1), un]) dX12_readSaid_24 rfl (by decide) rfl rfl ?_
          refine go_goto (tgt := 10) dX12_readSaid_27 (by decide) ?_
          exact ih_10 (w + 1) (by first | assumption | omega | rfl) (by first | assumption | omega | rfl) (fun j a b => by by_cases q : j < w; exact hno j a q; (rw [show j = w by omega]; omega)) (by omega)
  exact lp_10 _ 15 (by first | assumption | omega | rfl) (by first | assumption | omega | rfl) (fun j a b => by omega) (Nat.lt_succ_self _)
set_option maxRecDepth 4000 in
theorem ev_X12_all1 {m : Mem} {G : Mem} {t : Int → Int} {kw : Int → Int} {n : Int} {lim : Int} {i : Int} {o : Int} {nn : Int} (htm : TM G t kw n lim m i) (hb : Bg G 8 18 (m 216)) (hdn : DnOk G 8) (hnm : NmR G 8 (m 221)) (hms : MS m (G 8 3) o 7 nn) (ho : 0 ≤ o ∧ o ≤ 20) (hnn : 0 ≤ nn ∧ nn ≤ 2 * o) : Ev 0 19 mX12_readAnd [vr 214] m (fun r m' => SaQ G t kw n lim m m' 7 nn (seqF (G 4) 214 (oneF G 1) i o) r) := by
  refine Ev.of (L := [vr 214, un]) (by decide +kernel) rfl (Nat.le_of_ble_eq_true rfl) rfl (fun t ht => by cases ht; first | exact Or.inl rfl | exact Or.inr (Or.inl rfl) | exact Or.inr (Or.inr rfl)) (fun hcan => ?_)
  obtain ⟨hm1, hm2, hm3, hm4⟩ := id hms
  have hPB : PB (oneF G 1) := (oneF_b G 1)
  refine go_aload_n dX12_readAnd_0 rfl ?_
  refine go_callV_z (as := []) (S := []) (b := 214) (ev_X12_one1 (m := m) (G := G) (t := t) (kw := kw) (n := n) (lim := lim) (i := i) (o := o) (nn := nn) htm hb hdn hnm hms (by first | assumption | omega | exact ⟨by omega, by omega⟩ | (constructor <;> omega)) (by first | assumption | omega | exact ⟨by omega, by omega⟩ | (constructor <;> omega))) rfl dX12_readAnd_1 cv_12_436 rfl rfl ob_214 rfl (by decide) (Nat.le_of_ble_eq_true rfl) (fun r_1 m_1 hr_1 ho_1 => ?_)
  obtain ⟨x_1, w_1, hr_1⟩ := hr_1
  rcases hr_1 with ⟨f_1, e_1, g_1, t_1, s_1, j_1, p_1, r_1e, c_1⟩ | ⟨f_1, e_1, no_1⟩
  · refine go_if_ne (tgt := 9) dX12_readAnd_4 (by decide) ⟨by omega, by omega⟩ (fun h_4 => ?_) (fun h_4 => ?_)
    · have hR1 := hPB i o (by omega) (by omega) f_1
      refine go_aload_n dX12_readAnd_9 rfl ?_
      refine go_getf_i (ki := 47) dX12_readAnd_10 fl_12_430 ob_214 rfl rfl (fun hf_10 => ?_)
      refine go_istore_n (L' := [vr 214, vi (m_1 214 47)]) dX12_readAnd_13 (by decide) rfl rfl ?_
      have lp_14 : ∀ (n_14 : Nat) (m1 : Mem) (av : Int) (a : Rs) (f : Nat), (a.1 = 0) → (Sx m m1) → (m1 214 46 = 7) → (m1 214 10 = m 214 10) → (TM G t kw n lim m1 a.2.1) → (MS m1 (G 8 3) a.2.2.1 7 (nn + (a.2.2.2.length : Int))) → (∀ j : Int, j < 4 * nn → m1 234 j = m 234 j) → (nn ≤ av ∧ av < nn + (a.2.2.2.length : Int)) → (Rep (m1 234) av a.2.2.2) → (CdA (G 8 3) a.2.2.2) → (seqL (G 4) 214 (oneF G 1) f a = seqL (G 4) 214 (oneF G 1) 21 ((oneF G 1) i o)) → ((o + 1 ≤ a.2.2.1 ∧ a.2.2.1 ≤ 20) ∧ (a.2.2.2.length : Int) + 1 ≤ 2 * (a.2.2.1 - o)) → (22 + o ≤ (f : Int) + a.2.2.1) → f < n_14 → Go 0 19 mX12_readAnd (fun r m' => SaQ G t kw n lim m m' 7 nn (seqF (G 4) 214 (oneF G 1) i o) r) 14 [vr 214, vi av] [] m1 := by
        intro n_14
        induction n_14 with
        | zero => intro m1 av a f ha0 hsx hw46 hg10 htm1 hms1 hfr hav hrp hcd hsl hab hfu hmu; exact absurd hmu (Nat.not_lt_zero _)
        | succ n_14 ih_14 =>
          intro m1 av a f ha0 hsx hw46 hg10 htm1 hms1 hfr hav hrp hcd hsl hab hfu hmu
          obtain ⟨hab1, hab2⟩ := hab
          have hsu : seqL (G 4) 214 (oneF G 1) f a = if G 4 a.2.1 = 214 then (if ((oneF G 1) (a.2.1 + 1) a.2.2.1).1 ≠ 0 then ((oneF G 1) (a.2.1 + 1) a.2.2.1) else seqL (G 4) 214 (oneF G 1) (f - 1) (0, ((oneF G 1) (a.2.1 + 1) a.2.2.1).2.1, ((oneF G 1) (a.2.1 + 1) a.2.2.1).2.2.1, a.2.2.2 ++ ((oneF G 1) (a.2.1 + 1) a.2.2.1).2.2.2 ++ [(214, 0, 0)])) else a := by
            obtain ⟨g, rfl⟩ : ∃ g, f = g + 1 := ⟨f - 1, by omega⟩
            rfl
          have hPB2 := hPB (a.2.1 + 1) a.2.2.1 (by omega) (by omega)
          refine go_aload_n dX12_readAnd_14 rfl ?_
          refine go_bipush dX12_readAnd_15 (by decide) ?_
          refine go_callVp_z (as := [vi 14]) (S := []) (b := 214) (ev_X12_isWord (m := m1) (k := 14) (G := G) (t := t) (kw := kw) (n := n) (lim := lim) (i := a.2.1) htm1 (by first | assumption | omega | exact ⟨by omega, by omega⟩ | (constructor <;> omega))) rfl dX12_readAnd_17 cv_12_202 rfl rfl ob_214 rfl (by decide) (Nat.le_of_ble_eq_true rfl) (fun r_17 hr_17 ho_17 => ?_)
          refine go_if_eq (tgt := 51) dX12_readAnd_20 (by decide) ⟨by omega, by omega⟩ (fun h_20 => ?_) (fun h_20 => ?_)
          · refine go_aload_n dX12_readAnd_51 rfl ?_
            refine go_iload_n dX12_readAnd_52 rfl ?_
            refine go_putf_i (ki := 47) dX12_readAnd_53 fw_12_430 ob_214 rfl rfl ⟨by omega, by omega⟩ ?_
            refine go_iconst dX12_readAnd_56 ?_
            refine go_ret (v := 1) rfl dX12_readAnd_57 (okZ (by first | exact Or.inl rfl | exact Or.inr rfl | assumption | omega)) ?_
            have hq : seqF (G 4) 214 (oneF G 1) i o = a := by rw [seqF_e (G 4) 214, if_neg (fun z => z f_1), ← hsl, hsu, if_neg (by omega)]
            rw [SaQ, hq]
            refine ⟨hsx.w (by omega) (by omega), by rw [wr_ni (by decide)]; exact hw46, Or.inl ⟨ha0, rfl, by rw [wr_ni (by decide)]; exact hg10, htm1.w (by decide) (by omega), ⟨by rw [wr_ni (by decide)]; exact hms1.1, by rw [wr_ni (by decide)]; exact hms1.2.1, by rw [wr_ni (by decide)]; exact hms1.2.2.1, by rw [wr_row (by decide)]; exact hms1.2.2.2⟩, fun j hj => by rw [wr_na (by decide)]; exact hfr j hj, by rw [wr_self]; exact hav, by rw [wr_self, wr_row (by decide)]; exact hrp, hcd⟩⟩
          · refine go_aload_n dX12_readAnd_23 rfl ?_
            refine go_callV_v (as := []) (S := []) (b := 214) (ev_X12_go (m := m1) (G := G) (t := t) (kw := kw) (n := n) (lim := lim) (i := (a.2.1 + 1)) (htm1.nx (by omega))) rfl dX12_readAnd_24 cv_12_82 rfl rfl ob_214 rfl (by decide) (Nat.le_of_ble_eq_true rfl) (fun m_24 hr_24 => ?_)
            have l24 := hr_24.1.l
            refine go_aload_n dX12_readAnd_27 rfl ?_
            refine go_callV_z (as := []) (S := []) (b := 214) (ev_X12_one1 (m := m_24) (G := G) (t := t) (kw := kw) (n := n) (lim := lim) (i := (a.2.1 + 1)) (o := a.2.2.1) (nn := (nn + (a.2.2.2.length : Int))) hr_24.2 (by rw [(hsx.tr l24.s).1 216 (by decide) (by decide)]; exact hb) hdn (by rw [(hsx.tr l24.s).1 221 (by decide) (by decide)]; exact hnm) (hms1.l l24) (by omega) (by omega)) rfl dX12_readAnd_28 cv_12_436 rfl rfl ob_214 rfl (by decide) (Nat.le_of_ble_eq_true rfl) (fun r_28 m_28 hr_28 ho_28 => ?_)
            obtain ⟨Q, hQe⟩ : ∃ z, z = ((oneF G 1) (a.2.1 + 1) a.2.2.1) := ⟨_, rfl⟩
            rw [← hQe] at hr_28
            obtain ⟨x_28, w_28, hr_28⟩ := hr_28
            rcases hr_28 with ⟨f_28, e_28, g_28, t_28, s_28, j_28, p_28, r_28e, c_28⟩ | ⟨f_28, e_28, no_28⟩
            · refine go_if_ne (tgt := 36) dX12_readAnd_31 (by decide) ⟨by omega, by omega⟩ (fun h_31 => ?_) (fun h_31 => ?_)
              · rw [← hQe] at hPB2
                have hQ2 := hPB2 f_28
                have hln : ((a.2.2.2 ++ Q.2.2.2 ++ [((214 : Int), (0 : Int), (0 : Int))]).length : Int) = a.2.2.2.length + Q.2.2.2.length + 1 := by rw [List.length_append, List.length_append]; rfl
                have hw2 : Wf (m_24 234) (G 8 3) (nn + (a.2.2.2.length : Int)) := by rw [l24.1 234 (by decide)]; exact hms1.2.2.2
                have hrp2 : Rep (m_28 234) av a.2.2.2 := by
                  have z : Rep (m_24 234) av a.2.2.2 := by rw [l24.1 234 (by decide)]; exact hrp
                  exact z.c j_28 hw2 (by omega) (by omega)
                have hwk : Wk (nodF (m_28 234) (nn + (a.2.2.2.length : Int) + (Q.2.2.2.length : Int)) 2 av (m_28 214 47) 0) (G 8 3) (nn + (a.2.2.2.length : Int) + (Q.2.2.2.length : Int)) := by
                  obtain ⟨e0, e1, e2, e3⟩ := nodF_n (N := m_28 234) (n := nn + (a.2.2.2.length : Int) + (Q.2.2.2.length : Int)) (w := 2) (a := av) (b := m_28 214 47) (r := 0)
                  unfold Wk
                  rw [e0, e1, e2, e3]
                  right; left; omega
                have hwn := s_28.2.2.2.add (by omega) hwk
                have hrb := hrp2.bin r_28e s_28.2.2.2 (by omega) (by omega) (by omega) (by omega) (by omega) hwn
                refine go_aload_n dX12_readAnd_36 rfl ?_
                refine go_iconst dX12_readAnd_37 ?_
                refine go_iload_n dX12_readAnd_38 rfl ?_
                refine go_aload_n dX12_readAnd_39 rfl ?_
                refine go_getf_i (ki := 47) dX12_readAnd_40 fl_12_430 ob_214 rfl rfl (fun hf_40 => ?_)
                refine go_iconst dX12_readAnd_43 ?_
                refine go_callV_i (as := [vi 2, vi av, vi (m_28 214 47), vi 0]) (S := []) (b := 214) (ev_X12_saysOne (m := m_28) (w := 2) (a := av) (b := (m_28 214 47)) (s := 0) (nn := (nn + (a.2.2.2.length : Int) + (Q.2.2.2.length : Int))) s_28.2.2.1 (by omega) (by first | assumption | omega | exact ⟨by omega, by omega⟩ | (constructor <;> omega)) (by first | assumption | omega | exact ⟨by omega, by omega⟩ | (constructor <;> omega)) hf_40 (by first | assumption | omega | exact ⟨by omega, by omega⟩ | (constructor <;> omega))) rfl dX12_readAnd_44 cv_12_433 rfl rfl ob_214 rfl (by decide) (Nat.le_of_ble_eq_true rfl) (fun r_44 m_44 hr_44 ho_44 => ?_)
                obtain ⟨e_44, hm_44⟩ := hr_44
                refine go_istore_n (L' := [vr 214, vi r_44]) dX12_readAnd_47 (by decide) rfl rfl ?_
                refine go_goto (tgt := 14) dX12_readAnd_48 (by decide) ?_
                exact ih_14 m_44 r_44 (0, ((oneF G 1) (a.2.1 + 1) a.2.2.1).2.1, ((oneF G 1) (a.2.1 + 1) a.2.2.1).2.2.1, a.2.2.2 ++ ((oneF G 1) (a.2.1 + 1) a.2.2.1).2.2.2 ++ [(214, 0, 0)]) (f - 1) rfl (by rw [hm_44]; exact ((hsx.tr l24.s).tr x_28).tr nodW_s) (by rw [hm_44, nodW_214 (by decide)]; exact w_28) (by rw [hm_44, nodW_214 (by decide), g_28, hr_24.1.2 10 (by decide) (by decide) (by decide) (by decide) (by decide) (by decide)]; exact hg10) (by rw [hm_44]; show TM G t kw n lim _ ((oneF G 1) (a.2.1 + 1) a.2.2.1).2.1; rw [← hQe]; exact t_28.nod) (by show MS m_44 (G 8 3) ((oneF G 1) (a.2.1 + 1) a.2.2.1).2.2.1 7 (nn + ((a.2.2.2 ++ ((oneF G 1) (a.2.1 + 1) a.2.2.1).2.2.2 ++ [((214 : Int), (0 : Int), (0 : Int))]).length : Int)); rw [← hQe, hln, hm_44]; refine ⟨by rw [nodW_214 (by decide)]; exact s_28.1, by rw [nodW_214 (by decide)]; exact s_28.2.1, by rw [nodW_44]; omega, ?_⟩; rw [nodW_234, show nn + ((a.2.2.2.length : Int) + Q.2.2.2.length + 1) = nn + (a.2.2.2.length : Int) + (Q.2.2.2.length : Int) + 1 by omega]; exact hwn) (fun j hj => by rw [hm_44, nodW_234, nodF_o j (by omega), j_28 j (by omega), l24.1 234 (by decide)]; exact hfr j hj) (by show nn ≤ r_44 ∧ r_44 < nn + ((a.2.2.2 ++ ((oneF G 1) (a.2.1 + 1) a.2.2.1).2.2.2 ++ [((214 : Int), (0 : Int), (0 : Int))]).length : Int); rw [← hQe, hln]; omega) (by show Rep _ _ (a.2.2.2 ++ ((oneF G 1) (a.2.1 + 1) a.2.2.1).2.2.2 ++ [((214 : Int), (0 : Int), (0 : Int))]); rw [← hQe, hm_44, nodW_234, e_44]; exact hrb) (by show CdA _ (a.2.2.2 ++ ((oneF G 1) (a.2.1 + 1) a.2.2.1).2.2.2 ++ [((214 : Int), (0 : Int), (0 : Int))]); rw [← hQe]; exact (hcd.app c_28).app (CdA.k (by decide))) (by rw [← hsl, hsu, if_pos (by omega), ← hQe, if_neg (fun z => z f_28)]) (by show (o + 1 ≤ ((oneF G 1) (a.2.1 + 1) a.2.2.1).2.2.1 ∧ ((oneF G 1) (a.2.1 + 1) a.2.2.1).2.2.1 ≤ 20) ∧ ((a.2.2.2 ++ ((oneF G 1) (a.2.1 + 1) a.2.2.1).2.2.2 ++ [((214 : Int), (0 : Int), (0 : Int))]).length : Int) + 1 ≤ 2 * (((oneF G 1) (a.2.1 + 1) a.2.2.1).2.2.1 - o); rw [← hQe, hln]; omega) (by show 22 + o ≤ ((f - 1 : Nat) : Int) + ((oneF G 1) (a.2.1 + 1) a.2.2.1).2.2.1; rw [← hQe]; omega) (by omega)
              · exfalso; omega
            · refine go_if_ne (tgt := 36) dX12_readAnd_31 (by decide) ⟨by omega, by omega⟩ (fun h_31 => ?_) (fun h_31 => ?_)
              · exfalso; omega
              · refine go_iconst dX12_readAnd_34 ?_
                refine go_ret (v := 0) rfl dX12_readAnd_35 (okZ (by first | exact Or.inl rfl | exact Or.inr rfl | assumption | omega)) ?_
                have hq : seqF (G 4) 214 (oneF G 1) i o = Q := by rw [seqF_e (G 4) 214, if_neg (fun z => z f_1), ← hsl, hsu, if_pos (by omega), ← hQe, if_pos f_28]
                rw [SaQ, hq]
                exact ⟨(hsx.tr l24.s).tr x_28, w_28, Or.inr ⟨f_28, rfl, no_28⟩⟩
      exact lp_14 _ m_1 (m_1 214 47) ((oneF G 1) i o) 21 f_1 x_1 w_1 g_1 t_1 s_1 j_1 p_1 r_1e c_1 rfl ⟨⟨hR1.1, hR1.2.1⟩, hR1.2.2⟩ (by have := hR1.1; omega) (Nat.lt_succ_self _)
    · exfalso; omega
  · refine go_if_ne (tgt := 9) dX12_readAnd_4 (by decide) ⟨by omega, by omega⟩ (fun h_4 => ?_) (fun h_4 => ?_)
    · exfalso; omega
    · refine go_iconst dX12_readAnd_7 ?_
      refine go_ret (v := 0) rfl dX12_readAnd_8 (okZ (by first | exact Or.inl rfl | exact Or.inr rfl | assumption | omega)) ?_
      rw [SaQ, seqF_e (G 4) 214, if_pos f_1]
      exact ⟨x_1, w_1, Or.inr ⟨f_1, rfl, no_1⟩⟩
set_option maxRecDepth 4000 in
theorem ev_X12_con1 {m : Mem} {G : Mem} {t : Int → Int} {kw : Int → Int} {n : Int} {lim : Int} {i : Int} {o : Int} {nn : Int} (htm : TM G t kw n lim m i) (hb : Bg G 8 18 (m 216)) (hdn : DnOk G 8) (hnm : NmR G 8 (m 221)) (hms : MS m (G 8 3) o 7 nn) (ho : 0 ≤ o ∧ o ≤ 20) (hnn : 0 ≤ nn ∧ nn ≤ 2 * o) : Ev 0 20 mX12_readOr [vr 214] m (fun r m' => SaQ G t kw n lim m m' 7 nn (seqF (G 4) 213 (seqF (G 4) 214 (oneF G 1)) i o) r) := by
  refine Ev.of (L := [vr 214, un]) (by decide +kernel) rfl (Nat.le_of_ble_eq_true rfl) rfl (fun t ht => by cases ht; first | exact Or.inl rfl | exact Or.inr (Or.inl rfl) | exact Or.inr (Or.inr rfl)) (fun hcan => ?_)
  obtain ⟨hm1, hm2, hm3, hm4⟩ := id hms
  have hPB : PB (seqF (G 4) 214 (oneF G 1)) := (seqF_b (oneF_b G 1))
  refine go_aload_n dX12_readOr_0 rfl ?_
  refine go_callV_z (as := []) (S := []) (b := 214) (ev_X12_all1 (m := m) (G := G) (t := t) (kw := kw) (n := n) (lim := lim) (i := i) (o := o) (nn := nn) htm hb hdn hnm hms (by first | assumption | omega | exact ⟨by omega, by omega⟩ | (constructor <;> omega)) (by first | assumption | omega | exact ⟨by omega, by omega⟩ | (constructor <;> omega))) rfl dX12_readOr_1 cv_12_427 rfl rfl ob_214 rfl (by decide) (Nat.le_of_ble_eq_true rfl) (fun r_1 m_1 hr_1 ho_1 => ?_)
  obtain ⟨x_1, w_1, hr_1⟩ := hr_1
  rcases hr_1 with ⟨f_1, e_1, g_1, t_1, s_1, j_1, p_1, r_1e, c_1⟩ | ⟨f_1, e_1, no_1⟩
  · refine go_if_ne (tgt := 9) dX12_readOr_4 (by decide) ⟨by omega, by omega⟩ (fun h_4 => ?_) (fun h_4 => ?_)
    · have hR1 := hPB i o (by omega) (by omega) f_1
      refine go_aload_n dX12_readOr_9 rfl ?_
      refine go_getf_i (ki := 47) dX12_readOr_10 fl_12_430 ob_214 rfl rfl (fun hf_10 => ?_)
      refine go_istore_n (L' := [vr 214, vi (m_1 214 47)]) dX12_readOr_13 (by decide) rfl rfl ?_
      have lp_14 : ∀ (n_14 : Nat) (m1 : Mem) (av : Int) (a : Rs) (f : Nat), (a.1 = 0) → (Sx m m1) → (m1 214 46 = 7) → (m1 214 10 = m 214 10) → (TM G t kw n lim m1 a.2.1) → (MS m1 (G 8 3) a.2.2.1 7 (nn + (a.2.2.2.length : Int))) → (∀ j : Int, j < 4 * nn → m1 234 j = m 234 j) → (nn ≤ av ∧ av < nn + (a.2.2.2.length : Int)) → (Rep (m1 234) av a.2.2.2) → (CdA (G 8 3) a.2.2.2) → (seqL (G 4) 213 (seqF (G 4) 214 (oneF G 1)) f a = seqL (G 4) 213 (seqF (G 4) 214 (oneF G 1)) 21 ((seqF (G 4) 214 (oneF G 1)) i o)) → ((o + 1 ≤ a.2.2.1 ∧ a.2.2.1 ≤ 20) ∧ (a.2.2.2.length : Int) + 1 ≤ 2 * (a.2.2.1 - o)) → (22 + o ≤ (f : Int) + a.2.2.1) → f < n_14 → Go 0 20 mX12_readOr (fun r m' => SaQ G t kw n lim m m' 7 nn (seqF (G 4) 213 (seqF (G 4) 214 (oneF G 1)) i o) r) 14 [vr 214, vi av] [] m1 := by
        intro n_14
        induction n_14 with
        | zero => intro m1 av a f ha0 hsx hw46 hg10 htm1 hms1 hfr hav hrp hcd hsl hab hfu hmu; exact absurd hmu (Nat.not_lt_zero _)
        | succ n_14 ih_14 =>
          intro m1 av a f ha0 hsx hw46 hg10 htm1 hms1 hfr hav hrp hcd hsl hab hfu hmu
          obtain ⟨hab1, hab2⟩ := hab
          have hsu : seqL (G 4) 213 (seqF (G 4) 214 (oneF G 1)) f a = if G 4 a.2.1 = 213 then (if ((seqF (G 4) 214 (oneF G 1)) (a.2.1 + 1) a.2.2.1).1 ≠ 0 then ((seqF (G 4) 214 (oneF G 1)) (a.2.1 + 1) a.2.2.1) else seqL (G 4) 213 (seqF (G 4) 214 (oneF G 1)) (f - 1) (0, ((seqF (G 4) 214 (oneF G 1)) (a.2.1 + 1) a.2.2.1).2.1, ((seqF (G 4) 214 (oneF G 1)) (a.2.1 + 1) a.2.2.1).2.2.1, a.2.2.2 ++ ((seqF (G 4) 214 (oneF G 1)) (a.2.1 + 1) a.2.2.1).2.2.2 ++ [(213, 0, 0)])) else a := by
            obtain ⟨g, rfl⟩ : ∃ g, f = g + 1 := ⟨f - 1, by omega⟩
            rfl
          have hPB2 := hPB (a.2.1 + 1) a.2.2.1 (by omega) (by omega)
          refine go_aload_n dX12_readOr_14 rfl ?_
          refine go_bipush dX12_readOr_15 (by decide) ?_
          refine go_callVp_z (as := [vi 13]) (S := []) (b := 214) (ev_X12_isWord (m := m1) (k := 13) (G := G) (t := t) (kw := kw) (n := n) (lim := lim) (i := a.2.1) htm1 (by first | assumption | omega | exact ⟨by omega, by omega⟩ | (constructor <;> omega))) rfl dX12_readOr_17 cv_12_202 rfl rfl ob_214 rfl (by decide) (Nat.le_of_ble_eq_true rfl) (fun r_17 hr_17 ho_17 => ?_)
          refine go_if_eq (tgt := 51) dX12_readOr_20 (by decide) ⟨by omega, by omega⟩ (fun h_20 => ?_) (fun h_20 => ?_)
          · refine go_aload_n dX12_readOr_51 rfl ?_
            refine go_iload_n dX12_readOr_52 rfl ?_
            refine go_putf_i (ki := 47) dX12_readOr_53 fw_12_430 ob_214 rfl rfl ⟨by omega, by omega⟩ ?_
            refine go_iconst dX12_readOr_56 ?_
            refine go_ret (v := 1) rfl dX12_readOr_57 (okZ (by first | exact Or.inl rfl | exact Or.inr rfl | assumption | omega)) ?_
            have hq : seqF (G 4) 213 (seqF (G 4) 214 (oneF G 1)) i o = a := by rw [seqF_e (G 4) 213, if_neg (fun z => z f_1), ← hsl, hsu, if_neg (by omega)]
            rw [SaQ, hq]
            refine ⟨hsx.w (by omega) (by omega), by rw [wr_ni (by decide)]; exact hw46, Or.inl ⟨ha0, rfl, by rw [wr_ni (by decide)]; exact hg10, htm1.w (by decide) (by omega), ⟨by rw [wr_ni (by decide)]; exact hms1.1, by rw [wr_ni (by decide)]; exact hms1.2.1, by rw [wr_ni (by decide)]; exact hms1.2.2.1, by rw [wr_row (by decide)]; exact hms1.2.2.2⟩, fun j hj => by rw [wr_na (by decide)]; exact hfr j hj, by rw [wr_self]; exact hav, by rw [wr_self, wr_row (by decide)]; exact hrp, hcd⟩⟩
          · refine go_aload_n dX12_readOr_23 rfl ?_
            refine go_callV_v (as := []) (S := []) (b := 214) (ev_X12_go (m := m1) (G := G) (t := t) (kw := kw) (n := n) (lim := lim) (i := (a.2.1 + 1)) (htm1.nx (by omega))) rfl dX12_readOr_24 cv_12_82 rfl rfl ob_214 rfl (by decide) (Nat.le_of_ble_eq_true rfl) (fun m_24 hr_24 => ?_)
            have l24 := hr_24.1.l
            refine go_aload_n dX12_readOr_27 rfl ?_
            refine go_callV_z (as := []) (S := []) (b := 214) (ev_X12_all1 (m := m_24) (G := G) (t := t) (kw := kw) (n := n) (lim := lim) (i := (a.2.1 + 1)) (o := a.2.2.1) (nn := (nn + (a.2.2.2.length : Int))) hr_24.2 (by rw [(hsx.tr l24.s).1 216 (by decide) (by decide)]; exact hb) hdn (by rw [(hsx.tr l24.s).1 221 (by decide) (by decide)]; exact hnm) (hms1.l l24) (by omega) (by omega)) rfl dX12_readOr_28 cv_12_427 rfl rfl ob_214 rfl (by decide) (Nat.le_of_ble_eq_true rfl) (fun r_28 m_28 hr_28 ho_28 => ?_)
            obtain ⟨Q, hQe⟩ : ∃ z, z = ((seqF (G 4) 214 (oneF G 1)) (a.2.1 + 1) a.2.2.1) := ⟨_, rfl⟩
            rw [← hQe] at hr_28
            obtain ⟨x_28, w_28, hr_28⟩ := hr_28
            rcases hr_28 with ⟨f_28, e_28, g_28, t_28, s_28, j_28, p_28, r_28e, c_28⟩ | ⟨f_28, e_28, no_28⟩
            · refine go_if_ne (tgt := 36) dX12_readOr_31 (by decide) ⟨by omega, by omega⟩ (fun h_31 => ?_) (fun h_31 => ?_)
              · rw [← hQe] at hPB2
                have hQ2 := hPB2 f_28
                have hln : ((a.2.2.2 ++ Q.2.2.2 ++ [((213 : Int), (0 : Int), (0 : Int))]).length : Int) = a.2.2.2.length + Q.2.2.2.length + 1 := by rw [List.length_append, List.length_append]; rfl
                have hw2 : Wf (m_24 234) (G 8 3) (nn + (a.2.2.2.length : Int)) := by rw [l24.1 234 (by decide)]; exact hms1.2.2.2
                have hrp2 : Rep (m_28 234) av a.2.2.2 := by
                  have z : Rep (m_24 234) av a.2.2.2 := by rw [l24.1 234 (by decide)]; exact hrp
                  exact z.c j_28 hw2 (by omega) (by omega)
                have hwk : Wk (nodF (m_28 234) (nn + (a.2.2.2.length : Int) + (Q.2.2.2.length : Int)) 3 av (m_28 214 47) 0) (G 8 3) (nn + (a.2.2.2.length : Int) + (Q.2.2.2.length : Int)) := by
                  obtain ⟨e0, e1, e2, e3⟩ := nodF_n (N := m_28 234) (n := nn + (a.2.2.2.length : Int) + (Q.2.2.2.length : Int)) (w := 3) (a := av) (b := m_28 214 47) (r := 0)
                  unfold Wk
                  rw [e0, e1, e2, e3]
                  right; left; omega
                have hwn := s_28.2.2.2.add (by omega) hwk
                have hrb := hrp2.bin r_28e s_28.2.2.2 (by omega) (by omega) (by omega) (by omega) (by omega) hwn
                refine go_aload_n dX12_readOr_36 rfl ?_
                refine go_iconst dX12_readOr_37 ?_
                refine go_iload_n dX12_readOr_38 rfl ?_
                refine go_aload_n dX12_readOr_39 rfl ?_
                refine go_getf_i (ki := 47) dX12_readOr_40 fl_12_430 ob_214 rfl rfl (fun hf_40 => ?_)
                refine go_iconst dX12_readOr_43 ?_
                refine go_callV_i (as := [vi 3, vi av, vi (m_28 214 47), vi 0]) (S := []) (b := 214) (ev_X12_saysOne (m := m_28) (w := 3) (a := av) (b := (m_28 214 47)) (s := 0) (nn := (nn + (a.2.2.2.length : Int) + (Q.2.2.2.length : Int))) s_28.2.2.1 (by omega) (by first | assumption | omega | exact ⟨by omega, by omega⟩ | (constructor <;> omega)) (by first | assumption | omega | exact ⟨by omega, by omega⟩ | (constructor <;> omega)) hf_40 (by first | assumption | omega | exact ⟨by omega, by omega⟩ | (constructor <;> omega))) rfl dX12_readOr_44 cv_12_433 rfl rfl ob_214 rfl (by decide) (Nat.le_of_ble_eq_true rfl) (fun r_44 m_44 hr_44 ho_44 => ?_)
                obtain ⟨e_44, hm_44⟩ := hr_44
                refine go_istore_n (L' := [vr 214, vi r_44]) dX12_readOr_47 (by decide) rfl rfl ?_
                refine go_goto (tgt := 14) dX12_readOr_48 (by decide) ?_
                exact ih_14 m_44 r_44 (0, ((seqF (G 4) 214 (oneF G 1)) (a.2.1 + 1) a.2.2.1).2.1, ((seqF (G 4) 214 (oneF G 1)) (a.2.1 + 1) a.2.2.1).2.2.1, a.2.2.2 ++ ((seqF (G 4) 214 (oneF G 1)) (a.2.1 + 1) a.2.2.1).2.2.2 ++ [(213, 0, 0)]) (f - 1) rfl (by rw [hm_44]; exact ((hsx.tr l24.s).tr x_28).tr nodW_s) (by rw [hm_44, nodW_214 (by decide)]; exact w_28) (by rw [hm_44, nodW_214 (by decide), g_28, hr_24.1.2 10 (by decide) (by decide) (by decide) (by decide) (by decide) (by decide)]; exact hg10) (by rw [hm_44]; show TM G t kw n lim _ ((seqF (G 4) 214 (oneF G 1)) (a.2.1 + 1) a.2.2.1).2.1; rw [← hQe]; exact t_28.nod) (by show MS m_44 (G 8 3) ((seqF (G 4) 214 (oneF G 1)) (a.2.1 + 1) a.2.2.1).2.2.1 7 (nn + ((a.2.2.2 ++ ((seqF (G 4) 214 (oneF G 1)) (a.2.1 + 1) a.2.2.1).2.2.2 ++ [((213 : Int), (0 : Int), (0 : Int))]).length : Int)); rw [← hQe, hln, hm_44]; refine ⟨by rw [nodW_214 (by decide)]; exact s_28.1, by rw [nodW_214 (by decide)]; exact s_28.2.1, by rw [nodW_44]; omega, ?_⟩; rw [nodW_234, show nn + ((a.2.2.2.length : Int) + Q.2.2.2.length + 1) = nn + (a.2.2.2.length : Int) + (Q.2.2.2.length : Int) + 1 by omega]; exact hwn) (fun j hj => by rw [hm_44, nodW_234, nodF_o j (by omega), j_28 j (by omega), l24.1 234 (by decide)]; exact hfr j hj) (by show nn ≤ r_44 ∧ r_44 < nn + ((a.2.2.2 ++ ((seqF (G 4) 214 (oneF G 1)) (a.2.1 + 1) a.2.2.1).2.2.2 ++ [((213 : Int), (0 : Int), (0 : Int))]).length : Int); rw [← hQe, hln]; omega) (by show Rep _ _ (a.2.2.2 ++ ((seqF (G 4) 214 (oneF G 1)) (a.2.1 + 1) a.2.2.1).2.2.2 ++ [((213 : Int), (0 : Int), (0 : Int))]); rw [← hQe, hm_44, nodW_234, e_44]; exact hrb) (by show CdA _ (a.2.2.2 ++ ((seqF (G 4) 214 (oneF G 1)) (a.2.1 + 1) a.2.2.1).2.2.2 ++ [((213 : Int), (0 : Int), (0 : Int))]); rw [← hQe]; exact (hcd.app c_28).app (CdA.k (by decide))) (by rw [← hsl, hsu, if_pos (by omega), ← hQe, if_neg (fun z => z f_28)]) (by show (o + 1 ≤ ((seqF (G 4) 214 (oneF G 1)) (a.2.1 + 1) a.2.2.1).2.2.1 ∧ ((seqF (G 4) 214 (oneF G 1)) (a.2.1 + 1) a.2.2.1).2.2.1 ≤ 20) ∧ ((a.2.2.2 ++ ((seqF (G 4) 214 (oneF G 1)) (a.2.1 + 1) a.2.2.1).2.2.2 ++ [((213 : Int), (0 : Int), (0 : Int))]).length : Int) + 1 ≤ 2 * (((seqF (G 4) 214 (oneF G 1)) (a.2.1 + 1) a.2.2.1).2.2.1 - o); rw [← hQe, hln]; omega) (by show 22 + o ≤ ((f - 1 : Nat) : Int) + ((seqF (G 4) 214 (oneF G 1)) (a.2.1 + 1) a.2.2.1).2.2.1; rw [← hQe]; omega) (by omega)
              · exfalso; omega
            · refine go_if_ne (tgt := 36) dX12_readOr_31 (by decide) ⟨by omega, by omega⟩ (fun h_31 => ?_) (fun h_31 => ?_)
              · exfalso; omega
              · refine go_iconst dX12_readOr_34 ?_
                refine go_ret (v := 0) rfl dX12_readOr_35 (okZ (by first | exact Or.inl rfl | exact Or.inr rfl | assumption | omega)) ?_
                have hq : seqF (G 4) 213 (seqF (G 4) 214 (oneF G 1)) i o = Q := by rw [seqF_e (G 4) 213, if_neg (fun z => z f_1), ← hsl, hsu, if_pos (by omega), ← hQe, if_pos f_28]
                rw [SaQ, hq]
                exact ⟨(hsx.tr l24.s).tr x_28, w_28, Or.inr ⟨f_28, rfl, no_28⟩⟩
      exact lp_14 _ m_1 (m_1 214 47) ((seqF (G 4) 214 (oneF G 1)) i o) 21 f_1 x_1 w_1 g_1 t_1 s_1 j_1 p_1 r_1e c_1 rfl ⟨⟨hR1.1, hR1.2.1⟩, hR1.2.2⟩ (by have := hR1.1; omega) (Nat.lt_succ_self _)
    · exfalso; omega
  · refine go_if_ne (tgt := 9) dX12_readOr_4 (by decide) ⟨by omega, by omega⟩ (fun h_4 => ?_) (fun h_4 => ?_)
    · exfalso; omega
    · refine go_iconst dX12_readOr_7 ?_
      refine go_ret (v := 0) rfl dX12_readOr_8 (okZ (by first | exact Or.inl rfl | exact Or.inr rfl | assumption | omega)) ?_
      rw [SaQ, seqF_e (G 4) 213, if_pos f_1]
      exact ⟨x_1, w_1, Or.inr ⟨f_1, rfl, no_1⟩⟩
set_option maxRecDepth 4000 in
theorem ev_X12_not2 {m : Mem} {G : Mem} {t : Int → Int} {kw : Int → Int} {n : Int} {lim : Int} {i : Int} {o : Int} {nn : Int} (htm : TM G t kw n lim m i) (hb : Bg G 8 18 (m 216)) (hdn : DnOk G 8) (hnm : NmR G 8 (m 221)) (hms : MS m (G 8 3) o 7 nn) (ho : 1 ≤ o ∧ o ≤ 20) (hnn : 0 ≤ nn ∧ nn + 2 ≤ 2 * o) : Ev 0 20 mX12_readNot [vr 214] m (fun r m' => SaQ G t kw n lim m m' 7 nn (notF (oneF G 1) (i - 1) o) r) := by
  refine Ev.of (L := [vr 214]) (by decide +kernel) rfl (Nat.le_of_ble_eq_true rfl) rfl (fun t ht => by cases ht; first | exact Or.inl rfl | exact Or.inr (Or.inl rfl) | exact Or.inr (Or.inr rfl)) (fun hcan => ?_)
  obtain ⟨hm1, hm2, hm3, hm4⟩ := id hms
  have hni : i - 1 + 1 = i := by omega
  have hR : RB o ((oneF G 1) i o) := oneF_b G 1 i o (by omega) (by omega)
  refine go_aload_n dX12_readNot_0 rfl ?_
  refine go_callV_z (as := []) (S := []) (b := 214) (ev_X12_one1 (m := m) (G := G) (t := t) (kw := kw) (n := n) (lim := lim) (i := i) (o := o) (nn := nn) htm hb hdn hnm hms (by omega) (by omega)) rfl dX12_readNot_1 cv_12_436 rfl rfl ob_214 rfl (by decide) (Nat.le_of_ble_eq_true rfl) (fun r_1 m_1 hr_1 ho_1 => ?_)
  obtain ⟨R, hRe⟩ : ∃ z, z = (oneF G 1) i o := ⟨_, rfl⟩
  rw [← hRe] at hr_1 hR
  obtain ⟨x_1, w_1, hr_1⟩ := hr_1
  rcases hr_1 with ⟨f_1, e_1, g_1, t_1, s_1, j_1, p_1, r_1e, c_1⟩ | ⟨f_1, e_1, no_1⟩
  · refine go_if_ne (tgt := 9) dX12_readNot_4 (by decide) ⟨by omega, by omega⟩ (fun h_4 => ?_) (fun h_4 => ?_)
    · refine go_aload_n dX12_readNot_9 rfl ?_
      refine go_aload_n dX12_readNot_10 rfl ?_
      refine go_iconst dX12_readNot_11 ?_
      refine go_aload_n dX12_readNot_12 rfl ?_
      refine go_getf_i (ki := 47) dX12_readNot_13 fl_12_430 ob_214 rfl rfl (fun hf_13 => ?_)
      refine go_iconst dX12_readNot_16 ?_
      refine go_iconst dX12_readNot_17 ?_
      refine go_callV_i (as := [vi 1, vi (m_1 214 47), vi 0, vi 0]) (S := [vr 214]) (b := 214) (ev_X12_saysOne (m := m_1) (w := 1) (a := (m_1 214 47)) (b := 0) (s := 0) (nn := (nn + (R.2.2.2.length : Int))) s_1.2.2.1 (by have := hR f_1; omega) (by first | assumption | omega | exact ⟨by omega, by omega⟩ | (constructor <;> omega)) (by first | assumption | omega | exact ⟨by omega, by omega⟩ | (constructor <;> omega)) (by first | assumption | omega | exact ⟨by omega, by omega⟩ | (constructor <;> omega)) (by first | assumption | omega | exact ⟨by omega, by omega⟩ | (constructor <;> omega))) rfl dX12_readNot_18 cv_12_433 rfl rfl ob_214 rfl (by decide) (Nat.le_of_ble_eq_true rfl) (fun r_18 m_18 hr_18 ho_18 => ?_)
      obtain ⟨e_18, hm_18⟩ := hr_18
      refine go_putf_i (ki := 47) dX12_readNot_21 fw_12_430 ob_214 rfl rfl ⟨by omega, by omega⟩ ?_
      refine go_iconst dX12_readNot_24 ?_
      refine go_ret (v := 1) rfl dX12_readNot_25 (okZ (by first | exact Or.inl rfl | exact Or.inr rfl | assumption | omega)) ?_
      have hRb := hR f_1
      have hq : notF (oneF G 1) (i - 1) o = (R.1, R.2.1, R.2.2.1, R.2.2.2 ++ [(215, 0, 0)]) := by unfold notF; rw [hni, ← hRe]
      have hwk : Wk (nodF (m_1 234) (nn + (R.2.2.2.length : Int)) 1 (m_1 214 47) 0 0) (G 8 3) (nn + (R.2.2.2.length : Int)) := by
        obtain ⟨e0, e1, e2, e3⟩ := nodF_n (N := m_1 234) (n := nn + (R.2.2.2.length : Int)) (w := 1) (a := m_1 214 47) (b := 0) (r := 0)
        unfold Wk
        rw [e0, e1, e2, e3]
        left; omega
      have hwn := s_1.2.2.2.add (by omega) hwk
      have hln : ((R.2.2.2 ++ [((215 : Int), (0 : Int), (0 : Int))]).length : Int) = R.2.2.2.length + 1 := by rw [List.length_append]; rfl
      rw [SaQ, hq, hm_18]
      refine ⟨(x_1.tr nodW_s).w (by omega) (by omega), ?_, Or.inl ⟨f_1, rfl, ?_, (t_1.nod).w (by decide) (by omega), ⟨?_, ?_, ?_, ?_⟩, fun j hj => ?_, ?_, ?_, c_1.app (CdA.k (by decide))⟩⟩
      · rw [wr_ni (by decide), nodW_214 (by decide)]; exact w_1
      · rw [wr_ni (by decide), nodW_214 (by decide)]; exact g_1
      · rw [wr_ni (by decide), nodW_214 (by decide)]; exact s_1.1
      · rw [wr_ni (by decide), nodW_214 (by decide)]; exact s_1.2.1
      · rw [wr_ni (by decide), nodW_44]; show _ = nn + ((R.2.2.2 ++ [((215 : Int), (0 : Int), (0 : Int))]).length : Int); rw [hln]; omega
      · rw [wr_row (by decide), nodW_234]; show Wf _ _ (nn + ((R.2.2.2 ++ [((215 : Int), (0 : Int), (0 : Int))]).length : Int)); rw [hln, show nn + ((R.2.2.2.length : Int) + 1) = nn + (R.2.2.2.length : Int) + 1 by omega]; exact hwn
      · rw [wr_na (by decide), nodW_234, nodF_o j (by omega)]; exact j_1 j hj
      · rw [wr_self, e_18]; show nn ≤ _ ∧ _ < nn + ((R.2.2.2 ++ [((215 : Int), (0 : Int), (0 : Int))]).length : Int); rw [hln]; omega
      · rw [wr_self, e_18, wr_row (by decide), nodW_234]
        exact r_1e.not s_1.2.2.2 (by omega) (by omega) hwn
    · exfalso; omega
  · refine go_if_ne (tgt := 9) dX12_readNot_4 (by decide) ⟨by omega, by omega⟩ (fun h_4 => ?_) (fun h_4 => ?_)
    · exfalso; omega
    · refine go_iconst dX12_readNot_7 ?_
      refine go_ret (v := 0) rfl dX12_readNot_8 (okZ (by first | exact Or.inl rfl | exact Or.inr rfl | assumption | omega)) ?_
      have hq : (notF (oneF G 1) (i - 1) o).1 = R.1 ∧ (notF (oneF G 1) (i - 1) o).2.1 = R.2.1 := by unfold notF; rw [hni, ← hRe]; exact ⟨rfl, rfl⟩
      exact ⟨x_1, w_1, Or.inr ⟨by rw [hq.1]; exact f_1, rfl, by rw [hq.1]; exact no_1.1, by rw [hq.2]; exact no_1.2⟩⟩
set_option maxRecDepth 4000 in
theorem ev_X12_brk2 {m : Mem} {G : Mem} {t : Int → Int} {kw : Int → Int} {n : Int} {lim : Int} {i : Int} {o : Int} {nn : Int} (htm : TM G t kw n lim m i) (hb : Bg G 8 18 (m 216)) (hdn : DnOk G 8) (hnm : NmR G 8 (m 221)) (hms : MS m (G 8 3) o 7 nn) (ho : 1 ≤ o ∧ o ≤ 20) (hnn : 0 ≤ nn ∧ nn + 2 ≤ 2 * o) : Ev 0 21 mX12_readBracket [vr 214] m (fun r m' => SaQ G t kw n lim m m' 7 nn (brkF (G 4) (seqF (G 4) 213 (seqF (G 4) 214 (oneF G 1))) (i - 1) o) r) := by
  refine Ev.of (L := [vr 214]) (by decide +kernel) rfl (Nat.le_of_ble_eq_true rfl) rfl (fun t ht => by cases ht; first | exact Or.inl rfl | exact Or.inr (Or.inl rfl) | exact Or.inr (Or.inr rfl)) (fun hcan => ?_)
  obtain ⟨hm1, hm2, hm3, hm4⟩ := id hms
  have hni : i - 1 + 1 = i := by omega
  refine go_aload_n dX12_readBracket_0 rfl ?_
  refine go_callV_z (as := []) (S := []) (b := 214) (ev_X12_con1 (m := m) (G := G) (t := t) (kw := kw) (n := n) (lim := lim) (i := i) (o := o) (nn := nn) htm hb hdn hnm hms (by omega) (by omega)) rfl dX12_readBracket_1 cv_12_457 rfl rfl ob_214 rfl (by decide) (Nat.le_of_ble_eq_true rfl) (fun r_1 m_1 hr_1 ho_1 => ?_)
  obtain ⟨R, hRe⟩ : ∃ z, z = (seqF (G 4) 213 (seqF (G 4) 214 (oneF G 1))) i o := ⟨_, rfl⟩
  rw [← hRe] at hr_1
  obtain ⟨x_1, w_1, hr_1⟩ := hr_1
  rcases hr_1 with ⟨f_1, e_1, g_1, t_1, s_1, j_1, p_1, r_1e, c_1⟩ | ⟨f_1, e_1, no_1⟩
  · refine go_if_ne (tgt := 9) dX12_readBracket_4 (by decide) ⟨by omega, by omega⟩ (fun h_4 => ?_) (fun h_4 => ?_)
    · refine go_aload_n dX12_readBracket_9 rfl ?_
      refine go_bipush dX12_readBracket_10 (by decide) ?_
      refine go_callVp_z (as := [vi 41]) (S := []) (b := 214) (ev_X12_isSign (m := m_1) (c := 41) (G := G) (t := t) (kw := kw) (n := n) (lim := lim) (i := R.2.1) t_1 (by unfold isS; omega)) rfl dX12_readBracket_12 cv_12_86 rfl rfl ob_214 rfl (by decide) (Nat.le_of_ble_eq_true rfl) (fun r_12 hr_12 ho_12 => ?_)
      refine go_if_ne (tgt := 24) dX12_readBracket_15 (by decide) ⟨by omega, by omega⟩ (fun h_15 => ?_) (fun h_15 => ?_)
      · refine go_aload_n dX12_readBracket_24 rfl ?_
        refine go_callV_v (as := []) (S := []) (b := 214) (ev_X12_go (m := m_1) (G := G) (t := t) (kw := kw) (n := n) (lim := lim) (i := (R.2.1 + 1)) (t_1.nx (by omega))) rfl dX12_readBracket_25 cv_12_82 rfl rfl ob_214 rfl (by decide) (Nat.le_of_ble_eq_true rfl) (fun m_25 hr_25 => ?_)
        refine go_iconst dX12_readBracket_28 ?_
        refine go_ret (v := 1) rfl dX12_readBracket_29 (okZ (by first | exact Or.inl rfl | exact Or.inr rfl | assumption | omega)) ?_
        have hq : brkF (G 4) (seqF (G 4) 213 (seqF (G 4) 214 (oneF G 1))) (i - 1) o = (0, R.2.1 + 1, R.2.2.1, R.2.2.2) := by unfold brkF; rw [hni, ← hRe, if_neg (fun z => z f_1), if_pos (by omega)]
        have hl := hr_25.1.l
        rw [SaQ, hq]
        refine ⟨x_1.tr hl.s, by rw [hl.2 46 (by omega)]; exact w_1, Or.inl ⟨rfl, rfl, ?_, hr_25.2, s_1.l hl, fun j hj => ?_, ?_, ?_, c_1⟩⟩
        · rw [hr_25.1.2 10 (by decide) (by decide) (by decide) (by decide) (by decide) (by decide)]; exact g_1
        · rw [hl.1 234 (by decide)]; exact j_1 j hj
        · rw [hl.2 47 (by omega)]; exact p_1
        · rw [hl.2 47 (by omega), hl.1 234 (by decide)]; exact r_1e
      · refine go_aload_n dX12_readBracket_18 rfl ?_
        refine go_iconst dX12_readBracket_19 ?_
        refine go_callV_z (as := [vi 1]) (S := []) (b := 214) (ev_X12_bad (m := m_1) (k := 1) (G := G) (t := t) (kw := kw) (n := n) (lim := lim) (i := R.2.1) t_1 (by first | assumption | omega | exact ⟨by omega, by omega⟩ | (constructor <;> omega))) rfl dX12_readBracket_20 cv_12_72 rfl rfl ob_214 rfl (by decide) (Nat.le_of_ble_eq_true rfl) (fun r_20 m_20 hr_20 ho_20 => ?_)
        refine go_ret (v := r_20) rfl dX12_readBracket_23 (okZ (by first | exact Or.inl rfl | exact Or.inr rfl | assumption | omega)) ?_
        have hq : brkF (G 4) (seqF (G 4) 213 (seqF (G 4) 214 (oneF G 1))) (i - 1) o = (1, R.2.1, 0, []) := by unfold brkF; rw [hni, ← hRe, if_neg (fun z => z f_1), if_neg (by omega)]
        have z := NoT.b (G := G) (m := m_1) (m' := m_20) (f := 1) (i := R.2.1) (by rw [hr_20.2]; congr 2; split <;> rfl)
        rw [SaQ, hq]
        exact ⟨x_1.tr z.1.s, by rw [z.1.2 46 (by omega)]; exact w_1, Or.inr ⟨(show (1 : Int) ≠ 0 by decide), hr_20.1, z.2.1, z.2.2⟩⟩
    · exfalso; omega
  · refine go_if_ne (tgt := 9) dX12_readBracket_4 (by decide) ⟨by omega, by omega⟩ (fun h_4 => ?_) (fun h_4 => ?_)
    · exfalso; omega
    · refine go_iconst dX12_readBracket_7 ?_
      refine go_ret (v := 0) rfl dX12_readBracket_8 (okZ (by first | exact Or.inl rfl | exact Or.inr rfl | assumption | omega)) ?_
      have hq : brkF (G 4) (seqF (G 4) 213 (seqF (G 4) 214 (oneF G 1))) (i - 1) o = R := by unfold brkF; rw [hni, ← hRe, if_pos f_1]
      rw [SaQ, hq]
      exact ⟨x_1, w_1, Or.inr ⟨f_1, rfl, no_1⟩⟩
set_option maxRecDepth 4000 in
theorem ev_X12_one2 {m : Mem} {G : Mem} {t : Int → Int} {kw : Int → Int} {n : Int} {lim : Int} {i : Int} {o : Int} {nn : Int} (htm : TM G t kw n lim m i) (hb : Bg G 8 18 (m 216)) (hdn : DnOk G 8) (hnm : NmR G 8 (m 221)) (hms : MS m (G 8 3) o 6 nn) (ho : 0 ≤ o ∧ o ≤ 20) (hnn : 0 ≤ nn ∧ nn ≤ 2 * o) : Ev 0 22 mX12_readSaid [vr 214] m (fun r m' => SaQ G t kw n lim m m' 6 nn (oneF G 2 i o) r) := by
  refine Ev.of (L := [vr 214, un, un, un]) (by decide +kernel) rfl (Nat.le_of_ble_eq_true rfl) rfl (fun t ht => by cases ht; first | exact Or.inl rfl | exact Or.inr (Or.inl rfl) | exact Or.inr (Or.inr rfl)) (fun hcan => ?_)
  obtain ⟨hm1, hm2, hm3, hm4⟩ := id hms
  have hkd := htm.kd
  refine go_aload_n dX12_readSaid_0 rfl ?_
  refine go_bipush dX12_readSaid_1 (by decide) ?_
  refine go_callVp_z (as := [vi 40]) (S := []) (b := 214) (ev_X12_isSign (m := m) (c := 40) (G := G) (t := t) (kw := kw) (n := n) (lim := lim) (i := i) htm (by unfold isS; omega)) rfl dX12_readSaid_3 cv_12_86 rfl rfl ob_214 rfl (by decide) (Nat.le_of_ble_eq_true rfl) (fun r_3 hr_3 ho_3 => ?_)
  refine go_istore_n (L' := [vr 214, vi r_3, un, un]) dX12_readSaid_6 (by decide) rfl rfl ?_
  refine go_bipush dX12_readSaid_7 (by decide) ?_
  refine go_istore_n (L' := [vr 214, vi r_3, vi 15, un]) dX12_readSaid_9 (by decide) rfl rfl ?_
  have lp_10 : ∀ (n_10 : Nat) (w : Int) , (15 ≤ w) → (w ≤ 25) → (∀ j : Int, 15 ≤ j → j < w → G 4 i ≠ 200 + j) → (25 - w).toNat < n_10 → Go 0 22 mX12_readSaid (fun r m' => SaQ G t kw n lim m m' 6 nn (oneF G 2 i o) r) 10 [vr 214, vi r_3, vi w, un] [] m := by
    intro n_10
    induction n_10 with
    | zero => intro w hw0 hw1 hno hmu; exact absurd hmu (Nat.not_lt_zero _)
    | succ n_10 ih_10 =>
      intro w hw0 hw1 hno hmu
      refine go_iload_n dX12_readSaid_10 rfl ?_
      have cut_30 :  ((w ≤ 24 ∧ G 4 i = 200 + w) ∨ (w = 25 ∧ ¬ (215 ≤ G 4 i ∧ G 4 i ≤ 224))) → Go 0 22 mX12_readSaid (fun r m' => SaQ G t kw n lim m m' 6 nn (oneF G 2 i o) r) 30 [vr 214, vi r_3, vi w, un] [] m := by
        intro hww
        refine go_iload_n dX12_readSaid_30 rfl ?_
        have cut_46 :  (G 4 i = 40 ∨ (215 ≤ G 4 i ∧ G 4 i ≤ 224)) → Go 0 22 mX12_readSaid (fun r m' => SaQ G t kw n lim m m' 6 nn (oneF G 2 i o) r) 46 [vr 214, vi r_3, vi w, un] [] m := by
          intro hst
          refine go_aload_n dX12_readSaid_46 rfl ?_
          refine go_getf_i (ki := 45) dX12_readSaid_47 fl_12_439 ob_214 rfl rfl (fun hf_47 => ?_)
          rw [show (m 214 45 : Int) = o from hm1] at hf_47 ⊢
          refine go_bipush dX12_readSaid_50 (by decide) ?_
          refine go_icmp_eq (tgt := 64) dX12_readSaid_52 (by decide) ⟨by omega, by omega⟩ ⟨by omega, by omega⟩ (fun h_52 => ?_) (fun h_52 => ?_)
          · refine go_aload_n dX12_readSaid_64 rfl ?_
            refine go_iconst dX12_readSaid_65 ?_
            refine go_callV_z (as := [vi 4]) (S := []) (b := 214) (ev_X12_bad (m := m) (k := 4) (G := G) (t := t) (kw := kw) (n := n) (lim := lim) (i := i) htm (by first | assumption | omega | exact ⟨by omega, by omega⟩ | (constructor <;> omega))) rfl dX12_readSaid_66 cv_12_72 rfl rfl ob_214 rfl (by decide) (Nat.le_of_ble_eq_true rfl) (fun r_66 m_66 hr_66 ho_66 => ?_)
            refine go_ret (v := r_66) rfl dX12_readSaid_69 (okZ (by first | exact Or.inl rfl | exact Or.inr rfl | assumption | omega)) ?_
            have hq : oneF G 2 i o = (4, i, o, []) := by unfold oneF; rw [if_neg (by omega), if_pos (by omega)]
            have z := NoT.b (G := G) (m := m) (m' := m_66) (f := 4) (i := i) (by rw [hr_66.2, if_neg (by omega)])
            rw [SaQ, hq]
            exact ⟨z.1.s, by rw [z.1.2 46 (by omega)]; exact hm2, Or.inr ⟨(show (4 : Int) ≠ 0 by decide), hr_66.1, z.2.1, z.2.2⟩⟩
          · refine go_aload_n dX12_readSaid_55 rfl ?_
            refine go_getf_i (ki := 46) dX12_readSaid_56 fl_12_442 ob_214 rfl rfl (fun hf_56 => ?_)
            rw [show (m 214 46 : Int) = 6 from hm2] at hf_56 ⊢
            refine go_bipush dX12_readSaid_59 (by decide) ?_
            refine go_icmp_ne (tgt := 70) dX12_readSaid_61 (by decide) ⟨by omega, by omega⟩ ⟨by omega, by omega⟩ (fun h_61 => ?_) (fun h_61 => ?_)
            · refine go_aload_n dX12_readSaid_70 rfl ?_
              refine go_dup_r dX12_readSaid_71 ?_
              refine go_getf_i (ki := 45) dX12_readSaid_72 fl_12_439 ob_214 rfl rfl (fun hf_72 => ?_)
              rw [show (m 214 45 : Int) = o from hm1] at hf_72 ⊢
              refine go_iconst dX12_readSaid_75 ?_
              refine go_iadd dX12_readSaid_76 ?_
              refine go_putf_i (ki := 45) dX12_readSaid_77 fw_12_439 ob_214 rfl rfl ⟨by omega, by omega⟩ ?_
              refine go_aload_n dX12_readSaid_80 rfl ?_
              refine go_dup_r dX12_readSaid_81 ?_
              refine go_getf_i (ki := 46) dX12_readSaid_82 fl_12_442 ob_214 rfl rfl (fun hf_82 => ?_)
              rw [show ((wr m 214 45 (o + 1)) 214 46 : Int) = 6 from by rw [wr_ni (by decide)]; exact hm2] at hf_82 ⊢
              refine go_iconst dX12_readSaid_85 ?_
              refine go_iadd dX12_readSaid_86 ?_
              refine go_putf_i (ki := 46) dX12_readSaid_87 fw_12_442 ob_214 rfl rfl ⟨by omega, by omega⟩ ?_
              refine go_aload_n dX12_readSaid_90 rfl ?_
              refine go_callV_v (as := []) (S := []) (b := 214) (ev_X12_go (m := (wr (wr m 214 45 (o + 1)) 214 46 (6 + 1))) (G := G) (t := t) (kw := kw) (n := n) (lim := lim) (i := (i + 1)) (((htm.nx (by omega)).w (by decide) (by omega)).w (by decide) (by omega))) rfl dX12_readSaid_91 cv_12_82 rfl rfl ob_214 rfl (by decide) (Nat.le_of_ble_eq_true rfl) (fun m_91 hr_91 => ?_)
              have l91 := hr_91.1.l
              have s91 : Sx m m_91 := ((Sx.rf.w (by omega) (by omega)).w (by omega) (by omega)).tr l91.s
              have g91 : m_91 214 10 = m 214 10 := by rw [hr_91.1.2 10 (by decide) (by decide) (by decide) (by decide) (by decide) (by decide), wr_ni (by decide), wr_ni (by decide)]
              have n91 : m_91 234 = m 234 := by rw [l91.1 234 (by decide), wr_row (by decide), wr_row (by decide)]
              have ms91 : MS m_91 (G 8 3) (o + 1) 7 nn := ⟨by rw [l91.2 45 (by omega), wr_ni (by decide), wr_self], by rw [l91.2 46 (by omega), wr_self]; rfl, by rw [l91.2 44 (by omega), wr_ni (by decide), wr_ni (by decide)]; exact hm3, by rw [n91]; exact hm4⟩
              have b91 : Bg G 8 18 (m_91 216) := by rw [s91.1 216 (by decide) (by decide)]; exact hb
              have nm91 : NmR G 8 (m_91 221) := by rw [s91.1 221 (by decide) (by decide)]; exact hnm
              have hi1 : i + 1 - 1 = i := by omega
              refine go_iconst dX12_readSaid_94 ?_
              refine go_istore_n (L' := [vr 214, vi r_3, vi w, vi 1]) dX12_readSaid_95 (by decide) rfl rfl ?_
              have cut_166 : ∀ (mx : Mem) (gd : Int) , (gd = 0 ∨ gd = 1) → (SaQ G t kw n lim m_91 mx 7 nn (oneF G 2 i o) gd) → Go 0 22 mX12_readSaid (fun r m' => SaQ G t kw n lim m m' 6 nn (oneF G 2 i o) r) 166 [vr 214, un, un, vi gd] [] mx := by
                intro mx gd hgd hsq
                refine go_aload_n dX12_readSaid_166 rfl ?_
                refine go_dup_r dX12_readSaid_167 ?_
                refine go_getf_i (ki := 46) dX12_readSaid_168 fl_12_442 ob_214 rfl rfl (fun hf_168 => ?_)
                rw [show (mx 214 46 : Int) = 7 from hsq.2.1] at hf_168 ⊢
                refine go_iconst dX12_readSaid_171 ?_
                refine go_isub dX12_readSaid_172 ?_
                refine go_putf_i (ki := 46) dX12_readSaid_173 fw_12_442 ob_214 rfl rfl ⟨by omega, by omega⟩ ?_
                refine go_iload_n dX12_readSaid_176 rfl ?_
                refine go_ret (v := gd) rfl dX12_readSaid_177 (okZ hgd) ?_
                obtain ⟨a, b, c⟩ := hsq
                refine ⟨(s91.tr a).w (by omega) (by omega), wr_self _ _ _ _, ?_⟩
                rcases c with ⟨f, e, g, t_, s, j_, p_, r_, c_⟩ | ⟨f, e, no⟩
                · refine Or.inl ⟨f, e, ?_, t_.w (by decide) (by omega), ⟨?_, wr_self _ _ _ _, ?_, ?_⟩, fun j hj => ?_, ?_, ?_, c_⟩
                  · rw [wr_ni (by decide), g]; exact g91
                  · rw [wr_ni (by decide)]; exact s.1
                  · rw [wr_ni (by decide)]; exact s.2.2.1
                  · rw [wr_row (by decide)]; exact s.2.2.2
                  · rw [wr_na (by decide), j_ j hj, n91]
                  · rw [wr_ni (by decide)]; exact p_
                  · rw [wr_ni (by decide), wr_row (by decide)]; exact r_
                · exact Or.inr ⟨f, e, by rw [wr_ni (by decide)]; exact no.1, by rw [wr_ni (by decide)]; exact no.2⟩
              refine go_iload_n dX12_readSaid_96 rfl ?_
              refine go_if_eq (tgt := 108) dX12_readSaid_97 (by decide) ⟨by omega, by omega⟩ (fun h_97 => ?_) (fun h_97 => ?_)
              · refine go_iload_n dX12_readSaid_108 rfl ?_
                refine go_bipush dX12_readSaid_109 (by decide) ?_
                refine go_icmp_ne (tgt := 122) dX12_readSaid_111 (by decide) ⟨by omega, by omega⟩ ⟨by omega, by omega⟩ (fun h_111 => ?_) (fun h_111 => ?_)
                · refine go_iload_n dX12_readSaid_122 rfl ?_
                  refine go_bipush dX12_readSaid_123 (by decide) ?_
                  refine go_icmp_ge (tgt := 146) dX12_readSaid_125 (by decide) ⟨by omega, by omega⟩ ⟨by omega, by omega⟩ (fun h_125 => ?_) (fun h_125 => ?_)
                  · refine go_iload_n dX12_readSaid_146 rfl ?_
                    refine go_bipush dX12_readSaid_147 (by decide) ?_
                    refine go_icmp_ge (tgt := 160) dX12_readSaid_149 (by decide) ⟨by omega, by omega⟩ ⟨by omega, by omega⟩ (fun h_149 => ?_) (fun h_149 => ?_)
                    · refine go_aload_n dX12_readSaid_160 rfl ?_
                      refine go_iload_n dX12_readSaid_161 rfl ?_
                      refine go_callV_z (as := [vi w]) (S := []) (b := 214) (ev_X12_readCompare (m := m_91) (w := w) (G := G) (t := t) (kw := kw) (n := n) (lim := lim) (i := (i + 1)) (o := (o + 1)) (wi := 7) (nn := nn) hr_91.2 b91 hdn ms91 (by omega) (by omega) (by omega) (by rw [hi1]; omega)) rfl dX12_readSaid_162 cv_12_454 rfl rfl ob_214 rfl (by decide) (Nat.le_of_ble_eq_true rfl) (fun r_162 m_162 hr_162 ho_162 => ?_)
                      rw [hi1] at hr_162
                      refine go_istore_n (L' := [vr 214, vi r_3, vi w, vi r_162]) dX12_readSaid_165 (by decide) rfl rfl ?_
                      refine go_drop (j := 1) (L' := [vr 214, un, vi w, vi r_162]) rfl ?_
                      refine go_drop (j := 2) (L' := [vr 214, un, un, vi r_162]) rfl ?_
                      exact cut_166 m_162 r_162 (by first | assumption | rfl | omega) (by
                            first
                            | (rw [show oneF G 2 i o = brkF (G 4) (seqF (G 4) 213 (seqF (G 4) 214 (oneF G 1))) i (o + 1) by unfold oneF; rw [if_neg (by omega), if_neg (by omega), if_neg (by omega), if_pos (by omega)]]; exact hr_101)
                            | (rw [show oneF G 2 i o = notF (oneF G 1) i (o + 1) by unfold oneF; rw [if_neg (by omega), if_neg (by omega), if_pos (by omega)]]; exact hr_115)
                            | (rw [show oneF G 2 i o = namF G i (o + 1) by unfold oneF; rw [if_neg (by omega), if_neg (by omega), if_neg (by omega), if_neg (by omega), if_pos (by omega)]]; exact hr_154)
                            | (rw [show oneF G 2 i o = cmpF G i (o + 1) by unfold oneF; rw [if_neg (by omega), if_neg (by omega), if_neg (by omega), if_neg (by omega), if_neg (by omega), if_pos (by omega)]]; exact hr_162)
                            | (have hwk : Wk (nodF (m_91 234) nn (50 + w) 0 0 0) (G 8 3) nn := (by
                                 obtain ⟨e0, e1, e2, e3⟩ := nodF_n (N := m_91 234) (n := nn) (w := 50 + w) (a := 0) (b := 0) (r := 0)
                                 unfold Wk
                                 rw [e0, e1, e2, e3]
                                 right; right; left; omega)
                               have hwn := ms91.2.2.2.add (by omega) hwk
                               rw [SaQ, show oneF G 2 i o = (0, i + 1, o + 1, [(G 4 i, 0, 0)]) by unfold oneF; rw [if_neg (by omega), if_neg (by omega), if_neg (by omega), if_neg (by omega), if_neg (by omega), if_neg (by omega)], hm_137]
                               refine ⟨nodW_s.w (by omega) (by omega), ?_, Or.inl ⟨rfl, rfl, ?_, (hr_91.2.nod).w (by decide) (by omega), ⟨?_, ?_, ?_, ?_⟩, fun j hj => ?_, ?_, ?_, CdA.k (by omega)⟩⟩
                               · rw [wr_ni (by decide), nodW_214 (by decide)]; exact ms91.2.1
                               · rw [wr_ni (by decide), nodW_214 (by decide)]
                               · rw [wr_ni (by decide), nodW_214 (by decide)]; exact ms91.1
                               · rw [wr_ni (by decide), nodW_214 (by decide)]; exact ms91.2.1
                               · rw [wr_ni (by decide), nodW_44]; rfl
                               · rw [wr_row (by decide), nodW_234]; exact hwn
                               · rw [wr_na (by decide), nodW_234, nodF_o j hj]
                               · rw [wr_self, e_137]; show nn ≤ nn ∧ nn < nn + 1; omega
                               · rw [wr_self, e_137, wr_row (by decide), nodW_234]
                                 refine Rep.leaf (by omega) (by omega) ?_
                                 rw [if_pos (by omega), show 50 + w + 150 = 200 + w by omega]
                                 rw [show G 4 i = 200 + w by omega]))
                    · refine go_aload_n dX12_readSaid_152 rfl ?_
                      refine go_iload_n dX12_readSaid_153 rfl ?_
                      refine go_callV_z (as := [vi w]) (S := []) (b := 214) (ev_X12_readOf (m := m_91) (w := w) (G := G) (t := t) (kw := kw) (n := n) (lim := lim) (i := (i + 1)) (o := (o + 1)) (wi := 7) (nn := nn) hr_91.2 b91 hdn nm91 ms91 (by omega) (by omega) (by omega) (by rw [hi1]; omega)) rfl dX12_readSaid_154 cv_12_451 rfl rfl ob_214 rfl (by decide) (Nat.le_of_ble_eq_true rfl) (fun r_154 m_154 hr_154 ho_154 => ?_)
                      rw [hi1] at hr_154
                      refine go_goto (tgt := 165) dX12_readSaid_157 (by decide) ?_
                      refine go_istore_n (L' := [vr 214, vi r_3, vi w, vi r_154]) dX12_readSaid_165 (by decide) rfl rfl ?_
                      refine go_drop (j := 1) (L' := [vr 214, un, vi w, vi r_154]) rfl ?_
                      refine go_drop (j := 2) (L' := [vr 214, un, un, vi r_154]) rfl ?_
                      exact cut_166 m_154 r_154 (by first | assumption | rfl | omega) (by
                            first
                            | (rw [show oneF G 2 i o = brkF (G 4) (seqF (G 4) 213 (seqF (G 4) 214 (oneF G 1))) i (o + 1) by unfold oneF; rw [if_neg (by omega), if_neg (by omega), if_neg (by omega), if_pos (by omega)]]; exact hr_101)
                            | (rw [show oneF G 2 i o = notF (oneF G 1) i (o + 1) by unfold oneF; rw [if_neg (by omega), if_neg (by omega), if_pos (by omega)]]; exact hr_115)
                            | (rw [show oneF G 2 i o = namF G i (o + 1) by unfold oneF; rw [if_neg (by omega), if_neg (by omega), if_neg (by omega), if_neg (by omega), if_pos (by omega)]]; exact hr_154)
                            | (rw [show oneF G 2 i o = cmpF G i (o + 1) by unfold oneF; rw [if_neg (by omega), if_neg (by omega), if_neg (by omega), if_neg (by omega), if_neg (by omega), if_pos (by omega)]]; exact hr_162)
                            | (have hwk : Wk (nodF (m_91 234) nn (50 + w) 0 0 0) (G 8 3) nn := (by
                                 obtain ⟨e0, e1, e2, e3⟩ := nodF_n (N := m_91 234) (n := nn) (w := 50 + w) (a := 0) (b := 0) (r := 0)
                                 unfold Wk
                                 rw [e0, e1, e2, e3]
                                 right; right; left; omega)
                               have hwn := ms91.2.2.2.add (by omega) hwk
                               rw [SaQ, show oneF G 2 i o = (0, i + 1, o + 1, [(G 4 i, 0, 0)]) by unfold oneF; rw [if_neg (by omega), if_neg (by omega), if_neg (by omega), if_neg (by omega), if_neg (by omega), if_neg (by omega)], hm_137]
                               refine ⟨nodW_s.w (by omega) (by omega), ?_, Or.inl ⟨rfl, rfl, ?_, (hr_91.2.nod).w (by decide) (by omega), ⟨?_, ?_, ?_, ?_⟩, fun j hj => ?_, ?_, ?_, CdA.k (by omega)⟩⟩
                               · rw [wr_ni (by decide), nodW_214 (by decide)]; exact ms91.2.1
                               · rw [wr_ni (by decide), nodW_214 (by decide)]
                               · rw [wr_ni (by decide), nodW_214 (by decide)]; exact ms91.1
                               · rw [wr_ni (by decide), nodW_214 (by decide)]; exact ms91.2.1
                               · rw [wr_ni (by decide), nodW_44]; rfl
                               · rw [wr_row (by decide), nodW_234]; exact hwn
                               · rw [wr_na (by decide), nodW_234, nodF_o j hj]
                               · rw [wr_self, e_137]; show nn ≤ nn ∧ nn < nn + 1; omega
                               · rw [wr_self, e_137, wr_row (by decide), nodW_234]
                                 refine Rep.leaf (by omega) (by omega) ?_
                                 rw [if_pos (by omega), show 50 + w + 150 = 200 + w by omega]
                                 rw [show G 4 i = 200 + w by omega]))
                  · refine go_aload_n dX12_readSaid_128 rfl ?_
                    refine go_aload_n dX12_readSaid_129 rfl ?_
                    refine go_bipush dX12_readSaid_130 (by decide) ?_
                    refine go_iload_n dX12_readSaid_132 rfl ?_
                    refine go_iadd dX12_readSaid_133 ?_
                    refine go_iconst dX12_readSaid_134 ?_
                    refine go_iconst dX12_readSaid_135 ?_
                    refine go_iconst dX12_readSaid_136 ?_
                    refine go_callV_i (as := [vi (50 + w), vi 0, vi 0, vi 0]) (S := [vr 214]) (b := 214) (ev_X12_saysOne (m := m_91) (w := (50 + w)) (a := 0) (b := 0) (s := 0) (nn := nn) ms91.2.2.1 (by omega) (by first | assumption | omega | exact ⟨by omega, by omega⟩ | (constructor <;> omega)) (by first | assumption | omega | exact ⟨by omega, by omega⟩ | (constructor <;> omega)) (by first | assumption | omega | exact ⟨by omega, by omega⟩ | (constructor <;> omega)) (by first | assumption | omega | exact ⟨by omega, by omega⟩ | (constructor <;> omega))) rfl dX12_readSaid_137 cv_12_433 rfl rfl ob_214 rfl (by decide) (Nat.le_of_ble_eq_true rfl) (fun r_137 m_137 hr_137 ho_137 => ?_)
                    obtain ⟨e_137, hm_137⟩ := hr_137
                    refine go_putf_i (ki := 47) dX12_readSaid_140 fw_12_430 ob_214 rfl rfl ⟨by omega, by omega⟩ ?_
                    refine go_goto (tgt := 166) dX12_readSaid_143 (by decide) ?_
                    refine go_drop (j := 1) (L' := [vr 214, un, vi w, vi 1]) rfl ?_
                    refine go_drop (j := 2) (L' := [vr 214, un, un, vi 1]) rfl ?_
                    exact cut_166 (wr m_137 214 47 r_137) 1 (by first | assumption | rfl | omega) (by
                          first
                          | (rw [show oneF G 2 i o = brkF (G 4) (seqF (G 4) 213 (seqF (G 4) 214 (oneF G 1))) i (o + 1) by unfold oneF; rw [if_neg (by omega), if_neg (by omega), if_neg (by omega), if_pos (by omega)]]; exact hr_101)
                          | (rw [show oneF G 2 i o = notF (oneF G 1) i (o + 1) by unfold oneF; rw [if_neg (by omega), if_neg (by omega), if_pos (by omega)]]; exact hr_115)
                          | (rw [show oneF G 2 i o = namF G i (o + 1) by unfold oneF; rw [if_neg (by omega), if_neg (by omega), if_neg (by omega), if_neg (by omega), if_pos (by omega)]]; exact hr_154)
                          | (rw [show oneF G 2 i o = cmpF G i (o + 1) by unfold oneF; rw [if_neg (by omega), if_neg (by omega), if_neg (by omega), if_neg (by omega), if_neg (by omega), if_pos (by omega)]]; exact hr_162)
                          | (have hwk : Wk (nodF (m_91 234) nn (50 + w) 0 0 0) (G 8 3) nn := (by
                               obtain ⟨e0, e1, e2, e3⟩ := nodF_n (N := m_91 234) (n := nn) (w := 50 + w) (a := 0) (b := 0) (r := 0)
                               unfold Wk
                               rw [e0, e1, e2, e3]
                               right; right; left; omega)
                             have hwn := ms91.2.2.2.add (by omega) hwk
                             rw [SaQ, show oneF G 2 i o = (0, i + 1, o + 1, [(G 4 i, 0, 0)]) by unfold oneF; rw [if_neg (by omega), if_neg (by omega), if_neg (by omega), if_neg (by omega), if_neg (by omega), if_neg (by omega)], hm_137]
                             refine ⟨nodW_s.w (by omega) (by omega), ?_, Or.inl ⟨rfl, rfl, ?_, (hr_91.2.nod).w (by decide) (by omega), ⟨?_, ?_, ?_, ?_⟩, fun j hj => ?_, ?_, ?_, CdA.k (by omega)⟩⟩
                             · rw [wr_ni (by decide), nodW_214 (by decide)]; exact ms91.2.1
                             · rw [wr_ni (by decide), nodW_214 (by decide)]
                             · rw [wr_ni (by decide), nodW_214 (by decide)]; exact ms91.1
                             · rw [wr_ni (by decide), nodW_214 (by decide)]; exact ms91.2.1
                             · rw [wr_ni (by decide), nodW_44]; rfl
                             · rw [wr_row (by decide), nodW_234]; exact hwn
                             · rw [wr_na (by decide), nodW_234, nodF_o j hj]
                             · rw [wr_self, e_137]; show nn ≤ nn ∧ nn < nn + 1; omega
                             · rw [wr_self, e_137, wr_row (by decide), nodW_234]
                               refine Rep.leaf (by omega) (by omega) ?_
                               rw [if_pos (by omega), show 50 + w + 150 = 200 + w by omega]
                               rw [show G 4 i = 200 + w by omega]))
                · refine go_aload_n dX12_readSaid_114 rfl ?_
                  refine go_callV_z (as := []) (S := []) (b := 214) (ev_X12_not2 (m := m_91) (G := G) (t := t) (kw := kw) (n := n) (lim := lim) (i := (i + 1)) (o := (o + 1)) (nn := nn) hr_91.2 b91 hdn nm91 ms91 (by omega) (by omega)) rfl dX12_readSaid_115 cv_12_448 rfl rfl ob_214 rfl (by decide) (Nat.le_of_ble_eq_true rfl) (fun r_115 m_115 hr_115 ho_115 => ?_)
                  rw [hi1] at hr_115
                  refine go_istore_n (L' := [vr 214, vi r_3, vi w, vi r_115]) dX12_readSaid_118 (by decide) rfl rfl ?_
                  refine go_goto (tgt := 166) dX12_readSaid_119 (by decide) ?_
                  refine go_drop (j := 1) (L' := [vr 214, un, vi w, vi r_115]) rfl ?_
                  refine go_drop (j := 2) (L' := [vr 214, un, un, vi r_115]) rfl ?_
                  exact cut_166 m_115 r_115 (by first | assumption | rfl | omega) (by
                        first
                        | (rw [show oneF G 2 i o = brkF (G 4) (seqF (G 4) 213 (seqF (G 4) 214 (oneF G 1))) i (o + 1) by unfold oneF; rw [if_neg (by omega), if_neg (by omega), if_neg (by omega), if_pos (by omega)]]; exact hr_101)
                        | (rw [show oneF G 2 i o = notF (oneF G 1) i (o + 1) by unfold oneF; rw [if_neg (by omega), if_neg (by omega), if_pos (by omega)]]; exact hr_115)
                        | (rw [show oneF G 2 i o = namF G i (o + 1) by unfold oneF; rw [if_neg (by omega), if_neg (by omega), if_neg (by omega), if_neg (by omega), if_pos (by omega)]]; exact hr_154)
                        | (rw [show oneF G 2 i o = cmpF G i (o + 1) by unfold oneF; rw [if_neg (by omega), if_neg (by omega), if_neg (by omega), if_neg (by omega), if_neg (by omega), if_pos (by omega)]]; exact hr_162)
                        | (have hwk : Wk (nodF (m_91 234) nn (50 + w) 0 0 0) (G 8 3) nn := (by
                             obtain ⟨e0, e1, e2, e3⟩ := nodF_n (N := m_91 234) (n := nn) (w := 50 + w) (a := 0) (b := 0) (r := 0)
                             unfold Wk
                             rw [e0, e1, e2, e3]
                             right; right; left; omega)
                           have hwn := ms91.2.2.2.add (by omega) hwk
                           rw [SaQ, show oneF G 2 i o = (0, i + 1, o + 1, [(G 4 i, 0, 0)]) by unfold oneF; rw [if_neg (by omega), if_neg (by omega), if_neg (by omega), if_neg (by omega), if_neg (by omega), if_neg (by omega)], hm_137]
                           refine ⟨nodW_s.w (by omega) (by omega), ?_, Or.inl ⟨rfl, rfl, ?_, (hr_91.2.nod).w (by decide) (by omega), ⟨?_, ?_, ?_, ?_⟩, fun j hj => ?_, ?_, ?_, CdA.k (by omega)⟩⟩
                           · rw [wr_ni (by decide), nodW_214 (by decide)]; exact ms91.2.1
                           · rw [wr_ni (by decide), nodW_214 (by decide)]
                           · rw [wr_ni (by decide), nodW_214 (by decide)]; exact ms91.1
                           · rw [wr_ni (by decide), nodW_214 (by decide)]; exact ms91.2.1
                           · rw [wr_ni (by decide), nodW_44]; rfl
                           · rw [wr_row (by decide), nodW_234]; exact hwn
                           · rw [wr_na (by decide), nodW_234, nodF_o j hj]
                           · rw [wr_self, e_137]; show nn ≤ nn ∧ nn < nn + 1; omega
                           · rw [wr_self, e_137, wr_row (by decide), nodW_234]
                             refine Rep.leaf (by omega) (by omega) ?_
                             rw [if_pos (by omega), show 50 + w + 150 = 200 + w by omega]
                             rw [show G 4 i = 200 + w by omega]))
              · refine go_aload_n dX12_readSaid_100 rfl ?_
                refine go_callV_z (as := []) (S := []) (b := 214) (ev_X12_brk2 (m := m_91) (G := G) (t := t) (kw := kw) (n := n) (lim := lim) (i := (i + 1)) (o := (o + 1)) (nn := nn) hr_91.2 b91 hdn nm91 ms91 (by omega) (by omega)) rfl dX12_readSaid_101 cv_12_445 rfl rfl ob_214 rfl (by decide) (Nat.le_of_ble_eq_true rfl) (fun r_101 m_101 hr_101 ho_101 => ?_)
                rw [hi1] at hr_101
                refine go_istore_n (L' := [vr 214, vi r_3, vi w, vi r_101]) dX12_readSaid_104 (by decide) rfl rfl ?_
                refine go_goto (tgt := 166) dX12_readSaid_105 (by decide) ?_
                refine go_drop (j := 1) (L' := [vr 214, un, vi w, vi r_101]) rfl ?_
                refine go_drop (j := 2) (L' := [vr 214, un, un, vi r_101]) rfl ?_
                exact cut_166 m_101 r_101 (by first | assumption | rfl | omega) (by
                      first
                      | (rw [show oneF G 2 i o = brkF (G 4) (seqF (G 4) 213 (seqF (G 4) 214 (oneF G 1))) i (o + 1) by unfold oneF; rw [if_neg (by omega), if_neg (by omega), if_neg (by omega), if_pos (by omega)]]; exact hr_101)
                      | (rw [show oneF G 2 i o = notF (oneF G 1) i (o + 1) by unfold oneF; rw [if_neg (by omega), if_neg (by omega), if_pos (by omega)]]; exact hr_115)
                      | (rw [show oneF G 2 i o = namF G i (o + 1) by unfold oneF; rw [if_neg (by omega), if_neg (by omega), if_neg (by omega), if_neg (by omega), if_pos (by omega)]]; exact hr_154)
                      | (rw [show oneF G 2 i o = cmpF G i (o + 1) by unfold oneF; rw [if_neg (by omega), if_neg (by omega), if_neg (by omega), if_neg (by omega), if_neg (by omega), if_pos (by omega)]]; exact hr_162)
                      | (have hwk : Wk (nodF (m_91 234) nn (50 + w) 0 0 0) (G 8 3) nn := (by
                           obtain ⟨e0, e1, e2, e3⟩ := nodF_n (N := m_91 234) (n := nn) (w := 50 + w) (a := 0) (b := 0) (r := 0)
                           unfold Wk
                           rw [e0, e1, e2, e3]
                           right; right; left; omega)
                         have hwn := ms91.2.2.2.add (by omega) hwk
                         rw [SaQ, show oneF G 2 i o = (0, i + 1, o + 1, [(G 4 i, 0, 0)]) by unfold oneF; rw [if_neg (by omega), if_neg (by omega), if_neg (by omega), if_neg (by omega), if_neg (by omega), if_neg (by omega)], hm_137]
                         refine ⟨nodW_s.w (by omega) (by omega), ?_, Or.inl ⟨rfl, rfl, ?_, (hr_91.2.nod).w (by decide) (by omega), ⟨?_, ?_, ?_, ?_⟩, fun j hj => ?_, ?_, ?_, CdA.k (by omega)⟩⟩
                         · rw [wr_ni (by decide), nodW_214 (by decide)]; exact ms91.2.1
                         · rw [wr_ni (by decide), nodW_214 (by decide)]
                         · rw [wr_ni (by decide), nodW_214 (by decide)]; exact ms91.1
                         · rw [wr_ni (by decide), nodW_214 (by decide)]; exact ms91.2.1
                         · rw [wr_ni (by decide), nodW_44]; rfl
                         · rw [wr_row (by decide), nodW_234]; exact hwn
                         · rw [wr_na (by decide), nodW_234, nodF_o j hj]
                         · rw [wr_self, e_137]; show nn ≤ nn ∧ nn < nn + 1; omega
                         · rw [wr_self, e_137, wr_row (by decide), nodW_234]
                           refine Rep.leaf (by omega) (by omega) ?_
                           rw [if_pos (by omega), show 50 + w + 150 = 200 + w by omega]
                           rw [show G 4 i = 200 + w by omega]))
            · exfalso; omega
        refine go_if_ne (tgt := 46) dX12_readSaid_31 (by decide) ⟨by omega, by omega⟩ (fun h_31 => ?_) (fun h_31 => ?_)
        · exact cut_46  (by omega)
        · refine go_iload_n dX12_readSaid_34 rfl ?_
          refine go_bipush dX12_readSaid_35 (by decide) ?_
          refine go_icmp_le (tgt := 46) dX12_readSaid_37 (by decide) ⟨by omega, by omega⟩ ⟨by omega, by omega⟩ (fun h_37 => ?_) (fun h_37 => ?_)
          · exact cut_46  (by omega)
          · refine go_aload_n dX12_readSaid_40 rfl ?_
            refine go_iconst dX12_readSaid_41 ?_
            refine go_callV_z (as := [vi 1]) (S := []) (b := 214) (ev_X12_bad (m := m) (k := 1) (G := G) (t := t) (kw := kw) (n := n) (lim := lim) (i := i) htm (by first | assumption | omega | exact ⟨by omega, by omega⟩ | (constructor <;> omega))) rfl dX12_readSaid_42 cv_12_72 rfl rfl ob_214 rfl (by decide) (Nat.le_of_ble_eq_true rfl) (fun r_42 m_42 hr_42 ho_42 => ?_)
            refine go_ret (v := r_42) rfl dX12_readSaid_45 (okZ (by first | exact Or.inl rfl | exact Or.inr rfl | assumption | omega)) ?_
            have hq : oneF G 2 i o = (1, i, o, []) := by unfold oneF; rw [if_pos (by omega)]
            have z := NoT.b (G := G) (m := m) (m' := m_42) (f := 1) (i := i) (by rw [hr_42.2]; congr 2; split <;> rfl)
            rw [SaQ, hq]
            exact ⟨z.1.s, by rw [z.1.2 46 (by omega)]; exact hm2, Or.inr ⟨(show (1 : Int) ≠ 0 by decide), hr_42.1, z.2.1, z.2.2⟩⟩
      refine go_bipush dX12_readSaid_11 (by decide) ?_
      refine go_icmp_gt (tgt := 30) dX12_readSaid_13 (by decide) ⟨by omega, by omega⟩ ⟨by omega, by omega⟩ (fun h_13 => ?_) (fun h_13 => ?_)
      · exact cut_30  (by first | (left; omega) | (right; refine ⟨by omega, fun z => hno (G 4 i - 200) (by omega) (by omega) (by omega)⟩))
      · refine go_aload_n dX12_readSaid_16 rfl ?_
        refine go_iload_n dX12_readSaid_17 rfl ?_
        refine go_callVp_z (as := [vi w]) (S := []) (b := 214) (ev_X12_isWord (m := m) (k := w) (G := G) (t := t) (kw := kw) (n := n) (lim := lim) (i := i) htm (by first | assumption | omega | exact ⟨by omega, by omega⟩ | (constructor <;> omega))) rfl dX12_readSaid_18 cv_12_202 rfl rfl ob_214 rfl (by decide) (Nat.le_of_ble_eq_true rfl) (fun r_18 hr_18 ho_18 => ?_)
        refine go_if_ne (tgt := 30) dX12_readSaid_21 (by decide) ⟨by omega, by omega⟩ (fun h_21 => ?_) (fun h_21 => ?_)
        · exact cut_30  (by first | (left; omega) | (right; refine ⟨by omega, fun z => hno (G 4 i - 200) (by omega) (by omega) (by omega)⟩))
        · refine go_iinc (L' := [vr 214, vi r_3, vi (w + 1), un]) dX12_readSaid_24 rfl (by decide) rfl rfl ?_
          refine go_goto (tgt := 10) dX12_readSaid_27 (by decide) ?_
          exact ih_10 (w + 1) (by first | assumption | omega | rfl) (by first | assumption | omega | rfl) (fun j a b => by by_cases q : j < w; exact hno j a q; (rw [show j = w by omega]; omega)) (by omega)
  exact lp_10 _ 15 (by first | assumption | omega | rfl) (by first | assumption | omega | rfl) (fun j a b => by omega) (Nat.lt_succ_self _)
set_option maxRecDepth 4000 in
theorem ev_X12_all2 {m : Mem} {G : Mem} {t : Int → Int} {kw : Int → Int} {n : Int} {lim : Int} {i : Int} {o : Int} {nn : Int} (htm : TM G t kw n lim m i) (hb : Bg G 8 18 (m 216)) (hdn : DnOk G 8) (hnm : NmR G 8 (m 221)) (hms : MS m (G 8 3) o 6 nn) (ho : 0 ≤ o ∧ o ≤ 20) (hnn : 0 ≤ nn ∧ nn ≤ 2 * o) : Ev 0 23 mX12_readAnd [vr 214] m (fun r m' => SaQ G t kw n lim m m' 6 nn (seqF (G 4) 214 (oneF G 2) i o) r) := by
  refine Ev.of (L := [vr 214, un]) (by decide +kernel) rfl (Nat.le_of_ble_eq_true rfl) rfl (fun t ht => by cases ht; first | exact Or.inl rfl | exact Or.inr (Or.inl rfl) | exact Or.inr (Or.inr rfl)) (fun hcan => ?_)
  obtain ⟨hm1, hm2, hm3, hm4⟩ := id hms
  have hPB : PB (oneF G 2) := (oneF_b G 2)
  refine go_aload_n dX12_readAnd_0 rfl ?_
  refine go_callV_z (as := []) (S := []) (b := 214) (ev_X12_one2 (m := m) (G := G) (t := t) (kw := kw) (n := n) (lim := lim) (i := i) (o := o) (nn := nn) htm hb hdn hnm hms (by first | assumption | omega | exact ⟨by omega, by omega⟩ | (constructor <;> omega)) (by first | assumption | omega | exact ⟨by omega, by omega⟩ | (constructor <;> omega))) rfl dX12_readAnd_1 cv_12_436 rfl rfl ob_214 rfl (by decide) (Nat.le_of_ble_eq_true rfl) (fun r_1 m_1 hr_1 ho_1 => ?_)
  obtain ⟨x_1, w_1, hr_1⟩ := hr_1
  rcases hr_1 with ⟨f_1, e_1, g_1, t_1, s_1, j_1, p_1, r_1e, c_1⟩ | ⟨f_1, e_1, no_1⟩
  · refine go_if_ne (tgt := 9) dX12_readAnd_4 (by decide) ⟨by omega, by omega⟩ (fun h_4 => ?_) (fun h_4 => ?_)
    · have hR1 := hPB i o (by omega) (by omega) f_1
      refine go_aload_n dX12_readAnd_9 rfl ?_
      refine go_getf_i (ki := 47) dX12_readAnd_10 fl_12_430 ob_214 rfl rfl (fun hf_10 => ?_)
      refine go_istore_n (L' := [vr 214, vi (m_1 214 47)]) dX12_readAnd_13 (by decide) rfl rfl ?_
      have lp_14 : ∀ (n_14 : Nat) (m1 : Mem) (av : Int) (a : Rs) (f : Nat), (a.1 = 0) → (Sx m m1) → (m1 214 46 = 6) → (m1 214 10 = m 214 10) → (TM G t kw n lim m1 a.2.1) → (MS m1 (G 8 3) a.2.2.1 6 (nn + (a.2.2.2.length : Int))) → (∀ j : Int, j < 4 * nn → m1 234 j = m 234 j) → (nn ≤ av ∧ av < nn + (a.2.2.2.length : Int)) → (Rep (m1 234) av a.2.2.2) → (CdA (G 8 3) a.2.2.2) → (seqL (G 4) 214 (oneF G 2) f a = seqL (G 4) 214 (oneF G 2) 21 ((oneF G 2) i o)) → ((o + 1 ≤ a.2.2.1 ∧ a.2.2.1 ≤ 20) ∧ (a.2.2.2.length : Int) + 1 ≤ 2 * (a.2.2.1 - o)) → (22 + o ≤ (f : Int) + a.2.2.1) → f < n_14 → Go 0 23 mX12_readAnd (fun r m' => SaQ G t kw n lim m m' 6 nn (seqF (G 4) 214 (oneF G 2) i o) r) 14 [vr 214, vi av] [] m1 := by
        intro n_14
        induction n_14 with
        | zero => intro m1 av a f ha0 hsx hw46 hg10 htm1 hms1 hfr hav hrp hcd hsl hab hfu hmu; exact absurd hmu (Nat.not_lt_zero _)
        | succ n_14 ih_14 =>
          intro m1 av a f ha0 hsx hw46 hg10 htm1 hms1 hfr hav hrp hcd hsl hab hfu hmu
          obtain ⟨hab1, hab2⟩ := hab
          have hsu : seqL (G 4) 214 (oneF G 2) f a = if G 4 a.2.1 = 214 then (if ((oneF G 2) (a.2.1 + 1) a.2.2.1).1 ≠ 0 then ((oneF G 2) (a.2.1 + 1) a.2.2.1) else seqL (G 4) 214 (oneF G 2) (f - 1) (0, ((oneF G 2) (a.2.1 + 1) a.2.2.1).2.1, ((oneF G 2) (a.2.1 + 1) a.2.2.1).2.2.1, a.2.2.2 ++ ((oneF G 2) (a.2.1 + 1) a.2.2.1).2.2.2 ++ [(214, 0, 0)])) else a := by
            obtain ⟨g, rfl⟩ : ∃ g, f = g + 1 := ⟨f - 1, by omega⟩
            rfl
          have hPB2 := hPB (a.2.1 + 1) a.2.2.1 (by omega) (by omega)
          refine go_aload_n dX12_readAnd_14 rfl ?_
          refine go_bipush dX12_readAnd_15 (by decide) ?_
          refine go_callVp_z (as := [vi 14]) (S := []) (b := 214) (ev_X12_isWord (m := m1) (k := 14) (G := G) (t := t) (kw := kw) (n := n) (lim := lim) (i := a.2.1) htm1 (by first | assumption | omega | exact ⟨by omega, by omega⟩ | (constructor <;> omega))) rfl dX12_readAnd_17 cv_12_202 rfl rfl ob_214 rfl (by decide) (Nat.le_of_ble_eq_true rfl) (fun r_17 hr_17 ho_17 => ?_)
          refine go_if_eq (tgt := 51) dX12_readAnd_20 (by decide) ⟨by omega, by omega⟩ (fun h_20 => ?_) (fun h_20 => ?_)
          · refine go_aload_n dX12_readAnd_51 rfl ?_
            refine go_iload_n dX12_readAnd_52 rfl ?_
            refine go_putf_i (ki := 47) dX12_readAnd_53 fw_12_430 ob_214 rfl rfl ⟨by omega, by omega⟩ ?_
            refine go_iconst dX12_readAnd_56 ?_
            refine go_ret (v := 1) rfl dX12_readAnd_57 (okZ (by first | exact Or.inl rfl | exact Or.inr rfl | assumption | omega)) ?_
            have hq : seqF (G 4) 214 (oneF G 2) i o = a := by rw [seqF_e (G 4) 214, if_neg (fun z => z f_1), ← hsl, hsu, if_neg (by omega)]
            rw [SaQ, hq]
            refine ⟨hsx.w (by omega) (by omega), by rw [wr_ni (by decide)]; exact hw46, Or.inl ⟨ha0, rfl, by rw [wr_ni (by decide)]; exact hg10, htm1.w (by decide) (by omega), ⟨by rw [wr_ni (by decide)]; exact hms1.1, by rw [wr_ni (by decide)]; exact hms1.2.1, by rw [wr_ni (by decide)]; exact hms1.2.2.1, by rw [wr_row (by decide)]; exact hms1.2.2.2⟩, fun j hj => by rw [wr_na (by decide)]; exact hfr j hj, by rw [wr_self]; exact hav, by rw [wr_self, wr_row (by decide)]; exact hrp, hcd⟩⟩
          · refine go_aload_n dX12_readAnd_23 rfl ?_
            refine go_callV_v (as := []) (S := []) (b := 214) (ev_X12_go (m := m1) (G := G) (t := t) (kw := kw) (n := n) (lim := lim) (i := (a.2.1 + 1)) (htm1.nx (by omega))) rfl dX12_readAnd_24 cv_12_82 rfl rfl ob_214 rfl (by decide) (Nat.le_of_ble_eq_true rfl) (fun m_24 hr_24 => ?_)
            have l24 := hr_24.1.l
            refine go_aload_n dX12_readAnd_27 rfl ?_
            refine go_callV_z (as := []) (S := []) (b := 214) (ev_X12_one2 (m := m_24) (G := G) (t := t) (kw := kw) (n := n) (lim := lim) (i := (a.2.1 + 1)) (o := a.2.2.1) (nn := (nn + (a.2.2.2.length : Int))) hr_24.2 (by rw [(hsx.tr l24.s).1 216 (by decide) (by decide)]; exact hb) hdn (by rw [(hsx.tr l24.s).1 221 (by decide) (by decide)]; exact hnm) (hms1.l l24) (by omega) (by omega)) rfl dX12_readAnd_28 cv_12_436 rfl rfl ob_214 rfl (by decide) (Nat.le_of_ble_eq_true rfl) (fun r_28 m_28 hr_28 ho_28 => ?_)
            obtain ⟨Q, hQe⟩ : ∃ z, z = ((oneF G 2) (a.2.1 + 1) a.2.2.1) := ⟨_, rfl⟩
            rw [← hQe] at hr_28
            obtain ⟨x_28, w_28, hr_28⟩ := hr_28
            rcases hr_28 with ⟨f_28, e_28, g_28, t_28, s_28, j_28, p_28, r_28e, c_28⟩ | ⟨f_28, e_28, no_28⟩
            · refine go_if_ne (tgt := 36) dX12_readAnd_31 (by decide) ⟨by omega, by omega⟩ (fun h_31 => ?_) (fun h_31 => ?_)
              · rw [← hQe] at hPB2
                have hQ2 := hPB2 f_28
                have hln : ((a.2.2.2 ++ Q.2.2.2 ++ [((214 : Int), (0 : Int), (0 : Int))]).length : Int) = a.2.2.2.length + Q.2.2.2.length + 1 := by rw [List.length_append, List.length_append]; rfl
                have hw2 : Wf (m_24 234) (G 8 3) (nn + (a.2.2.2.length : Int)) := by rw [l24.1 234 (by decide)]; exact hms1.2.2.2
                have hrp2 : Rep (m_28 234) av a.2.2.2 := by
                  have z : Rep (m_24 234) av a.2.2.2 := by rw [l24.1 234 (by decide)]; exact hrp
                  exact z.c j_28 hw2 (by omega) (by omega)
                have hwk : Wk (nodF (m_28 234) (nn + (a.2.2.2.length : Int) + (Q.2.2.2.length : Int)) 2 av (m_28 214 47) 0) (G 8 3) (nn + (a.2.2.2.length : Int) + (Q.2.2.2.length : Int)) := by
                  obtain ⟨e0, e1, e2, e3⟩ := nodF_n (N := m_28 234) (n := nn + (a.2.2.2.length : Int) + (Q.2.2.2.length : Int)) (w := 2) (a := av) (b := m_28 214 47) (r := 0)
                  unfold Wk
                  rw [e0, e1, e2, e3]
                  right; left; omega
                have hwn := s_28.2.2.2.add (by omega) hwk
                have hrb := hrp2.bin r_28e s_28.2.2.2 (by omega) (by omega) (by omega) (by omega) (by omega) hwn
                refine go_aload_n dX12_readAnd_36 rfl ?_
                refine go_iconst dX12_readAnd_37 ?_
                refine go_iload_n dX12_readAnd_38 rfl ?_
                refine go_aload_n dX12_readAnd_39 rfl ?_
                refine go_getf_i (ki := 47) dX12_readAnd_40 fl_12_430 ob_214 rfl rfl (fun hf_40 => ?_)
                refine go_iconst dX12_readAnd_43 ?_
                refine go_callV_i (as := [vi 2, vi av, vi (m_28 214 47), vi 0]) (S := []) (b := 214) (ev_X12_saysOne (m := m_28) (w := 2) (a := av) (b := (m_28 214 47)) (s := 0) (nn := (nn + (a.2.2.2.length : Int) + (Q.2.2.2.length : Int))) s_28.2.2.1 (by omega) (by first | assumption | omega | exact ⟨by omega, by omega⟩ | (constructor <;> omega)) (by first | assumption | omega | exact ⟨by omega, by omega⟩ | (constructor <;> omega)) hf_40 (by first | assumption | omega | exact ⟨by omega, by omega⟩ | (constructor <;> omega))) rfl dX12_readAnd_44 cv_12_433 rfl rfl ob_214 rfl (by decide) (Nat.le_of_ble_eq_true rfl) (fun r_44 m_44 hr_44 ho_44 => ?_)
                obtain ⟨e_44, hm_44⟩ := hr_44
                refine go_istore_n (L' := [vr 214, vi r_44]) dX12_readAnd_47 (by decide) rfl rfl ?_
                refine go_goto (tgt := 14) dX12_readAnd_48 (by decide) ?_
                exact ih_14 m_44 r_44 (0, ((oneF G 2) (a.2.1 + 1) a.2.2.1).2.1, ((oneF G 2) (a.2.1 + 1) a.2.2.1).2.2.1, a.2.2.2 ++ ((oneF G 2) (a.2.1 + 1) a.2.2.1).2.2.2 ++ [(214, 0, 0)]) (f - 1) rfl (by rw [hm_44]; exact ((hsx.tr l24.s).tr x_28).tr nodW_s) (by rw [hm_44, nodW_214 (by decide)]; exact w_28) (by rw [hm_44, nodW_214 (by decide), g_28, hr_24.1.2 10 (by decide) (by decide) (by decide) (by decide) (by decide) (by decide)]; exact hg10) (by rw [hm_44]; show TM G t kw n lim _ ((oneF G 2) (a.2.1 + 1) a.2.2.1).2.1; rw [← hQe]; exact t_28.nod) (by show MS m_44 (G 8 3) ((oneF G 2) (a.2.1 + 1) a.2.2.1).2.2.1 6 (nn + ((a.2.2.2 ++ ((oneF G 2) (a.2.1 + 1) a.2.2.1).2.2.2 ++ [((214 : Int), (0 : Int), (0 : Int))]).length : Int)); rw [← hQe, hln, hm_44]; refine ⟨by rw [nodW_214 (by decide)]; exact s_28.1, by rw [nodW_214 (by decide)]; exact s_28.2.1, by rw [nodW_44]; omega, ?_⟩; rw [nodW_234, show nn + ((a.2.2.2.length : Int) + Q.2.2.2.length + 1) = nn + (a.2.2.2.length : Int) + (Q.2.2.2.length : Int) + 1 by omega]; exact hwn) (fun j hj => by rw [hm_44, nodW_234, nodF_o j (by omega), j_28 j (by omega), l24.1 234 (by decide)]; exact hfr j hj) (by show nn ≤ r_44 ∧ r_44 < nn + ((a.2.2.2 ++ ((oneF G 2) (a.2.1 + 1) a.2.2.1).2.2.2 ++ [((214 : Int), (0 : Int), (0 : Int))]).length : Int); rw [← hQe, hln]; omega) (by show Rep _ _ (a.2.2.2 ++ ((oneF G 2) (a.2.1 + 1) a.2.2.1).2.2.2 ++ [((214 : Int), (0 : Int), (0 : Int))]); rw [← hQe, hm_44, nodW_234, e_44]; exact hrb) (by show CdA _ (a.2.2.2 ++ ((oneF G 2) (a.2.1 + 1) a.2.2.1).2.2.2 ++ [((214 : Int), (0 : Int), (0 : Int))]); rw [← hQe]; exact (hcd.app c_28).app (CdA.k (by decide))) (by rw [← hsl, hsu, if_pos (by omega), ← hQe, if_neg (fun z => z f_28)]) (by show (o + 1 ≤ ((oneF G 2) (a.2.1 + 1) a.2.2.1).2.2.1 ∧ ((oneF G 2) (a.2.1 + 1) a.2.2.1).2.2.1 ≤ 20) ∧ ((a.2.2.2 ++ ((oneF G 2) (a.2.1 + 1) a.2.2.1).2.2.2 ++ [((214 : Int), (0 : Int), (0 : Int))]).length : Int) + 1 ≤ 2 * (((oneF G 2) (a.2.1 + 1) a.2.2.1).2.2.1 - o); rw [← hQe, hln]; omega) (by show 22 + o ≤ ((f - 1 : Nat) : Int) + ((oneF G 2) (a.2.1 + 1) a.2.2.1).2.2.1; rw [← hQe]; omega) (by omega)
              · exfalso; omega
            · refine go_if_ne (tgt := 36) dX12_readAnd_31 (by decide) ⟨by omega, by omega⟩ (fun h_31 => ?_) (fun h_31 => ?_)
              · exfalso; omega
              · refine go_iconst dX12_readAnd_34 ?_
                refine go_ret (v := 0) rfl dX12_readAnd_35 (okZ (by first | exact Or.inl rfl | exact Or.inr rfl | assumption | omega)) ?_
                have hq : seqF (G 4) 214 (oneF G 2) i o = Q := by rw [seqF_e (G 4) 214, if_neg (fun z => z f_1), ← hsl, hsu, if_pos (by omega), ← hQe, if_pos f_28]
                rw [SaQ, hq]
                exact ⟨(hsx.tr l24.s).tr x_28, w_28, Or.inr ⟨f_28, rfl, no_28⟩⟩
      exact lp_14 _ m_1 (m_1 214 47) ((oneF G 2) i o) 21 f_1 x_1 w_1 g_1 t_1 s_1 j_1 p_1 r_1e c_1 rfl ⟨⟨hR1.1, hR1.2.1⟩, hR1.2.2⟩ (by have := hR1.1; omega) (Nat.lt_succ_self _)
    · exfalso; omega
  · refine go_if_ne (tgt := 9) dX12_readAnd_4 (by decide) ⟨by omega, by omega⟩ (fun h_4 => ?_) (fun h_4 => ?_)
    · exfalso; omega
    · refine go_iconst dX12_readAnd_7 ?_
      refine go_ret (v := 0) rfl dX12_readAnd_8 (okZ (by first | exact Or.inl rfl | exact Or.inr rfl | assumption | omega)) ?_
      rw [SaQ, seqF_e (G 4) 214, if_pos f_1]
      exact ⟨x_1, w_1, Or.inr ⟨f_1, rfl, no_1⟩⟩
set_option maxRecDepth 4000 in
theorem ev_X12_con2 {m : Mem} {G : Mem} {t : Int → Int} {kw : Int → Int} {n : Int} {lim : Int} {i : Int} {o : Int} {nn : Int} (htm : TM G t kw n lim m i) (hb : Bg G 8 18 (m 216)) (hdn : DnOk G 8) (hnm : NmR G 8 (m 221)) (hms : MS m (G 8 3) o 6 nn) (ho : 0 ≤ o ∧ o ≤ 20) (hnn : 0 ≤ nn ∧ nn ≤ 2 * o) : Ev 0 24 mX12_readOr [vr 214] m (fun r m' => SaQ G t kw n lim m m' 6 nn (seqF (G 4) 213 (seqF (G 4) 214 (oneF G 2)) i o) r) := by
  refine Ev.of (L := [vr 214, un]) (by decide +kernel) rfl (Nat.le_of_ble_eq_true rfl) rfl (fun t ht => by cases ht; first | exact Or.inl rfl | exact Or.inr (Or.inl rfl) | exact Or.inr (Or.inr rfl)) (fun hcan => ?_)
  obtain ⟨hm1, hm2, hm3, hm4⟩ := id hms
  have hPB : PB (seqF (G 4) 214 (oneF G 2)) := (seqF_b (oneF_b G 2))
  refine go_aload_n dX12_readOr_0 rfl ?_
  refine go_callV_z (as := []) (S := []) (b := 214) (ev_X12_all2 (m := m) (G := G) (t := t) (kw := kw) (n := n) (lim := lim) (i := i) (o := o) (nn := nn) htm hb hdn hnm hms (by first | assumption | omega | exact ⟨by omega, by omega⟩ | (constructor <;> omega)) (by first | assumption | omega | exact ⟨by omega, by omega⟩ | (constructor <;> omega))) rfl dX12_readOr_1 cv_12_427 rfl rfl ob_214 rfl (by decide) (Nat.le_of_ble_eq_true rfl) (fun r_1 m_1 hr_1 ho_1 => ?_)
  obtain ⟨x_1, w_1, hr_1⟩ := hr_1
  rcases hr_1 with ⟨f_1, e_1, g_1, t_1, s_1, j_1, p_1, r_1e, c_1⟩ | ⟨f_1, e_1, no_1⟩
  · refine go_if_ne (tgt := 9) dX12_readOr_4 (by decide) ⟨by omega, by omega⟩ (fun h_4 => ?_) (fun h_4 => ?_)
    · have hR1 := hPB i o (by omega) (by omega) f_1
      refine go_aload_n dX12_readOr_9 rfl ?_
      refine go_getf_i (ki := 47) dX12_readOr_10 fl_12_430 ob_214 rfl rfl (fun hf_10 => ?_)
      refine go_istore_n (L' := [vr 214, vi (m_1 214 47)]) dX12_readOr_13 (by decide) rfl rfl ?_
      have lp_14 : ∀ (n_14 : Nat) (m1 : Mem) (av : Int) (a : Rs) (f : Nat), (a.1 = 0) → (Sx m m1) → (m1 214 46 = 6) → (m1 214 10 = m 214 10) → (TM G t kw n lim m1 a.2.1) → (MS m1 (G 8 3) a.2.2.1 6 (nn + (a.2.2.2.length : Int))) → (∀ j : Int, j < 4 * nn → m1 234 j = m 234 j) → (nn ≤ av ∧ av < nn + (a.2.2.2.length : Int)) → (Rep (m1 234) av a.2.2.2) → (CdA (G 8 3) a.2.2.2) → (seqL (G 4) 213 (seqF (G 4) 214 (oneF G 2)) f a = seqL (G 4) 213 (seqF (G 4) 214 (oneF G 2)) 21 ((seqF (G 4) 214 (oneF G 2)) i o)) → ((o + 1 ≤ a.2.2.1 ∧ a.2.2.1 ≤ 20) ∧ (a.2.2.2.length : Int) + 1 ≤ 2 * (a.2.2.1 - o)) → (22 + o ≤ (f : Int) + a.2.2.1) → f < n_14 → Go 0 24 mX12_readOr (fun r m' => SaQ G t kw n lim m m' 6 nn (seqF (G 4) 213 (seqF (G 4) 214 (oneF G 2)) i o) r) 14 [vr 214, vi av] [] m1 := by
        intro n_14
        induction n_14 with
        | zero => intro m1 av a f ha0 hsx hw46 hg10 htm1 hms1 hfr hav hrp hcd hsl hab hfu hmu; exact absurd hmu (Nat.not_lt_zero _)
        | succ n_14 ih_14 =>
          intro m1 av a f ha0 hsx hw46 hg10 htm1 hms1 hfr hav hrp hcd hsl hab hfu hmu
          obtain ⟨hab1, hab2⟩ := hab
          have hsu : seqL (G 4) 213 (seqF (G 4) 214 (oneF G 2)) f a = if G 4 a.2.1 = 213 then (if ((seqF (G 4) 214 (oneF G 2)) (a.2.1 + 1) a.2.2.1).1 ≠ 0 then ((seqF (G 4) 214 (oneF G 2)) (a.2.1 + 1) a.2.2.1) else seqL (G 4) 213 (seqF (G 4) 214 (oneF G 2)) (f - 1) (0, ((seqF (G 4) 214 (oneF G 2)) (a.2.1 + 1) a.2.2.1).2.1, ((seqF (G 4) 214 (oneF G 2)) (a.2.1 + 1) a.2.2.1).2.2.1, a.2.2.2 ++ ((seqF (G 4) 214 (oneF G 2)) (a.2.1 + 1) a.2.2.1).2.2.2 ++ [(213, 0, 0)])) else a := by
            obtain ⟨g, rfl⟩ : ∃ g, f = g + 1 := ⟨f - 1, by omega⟩
            rfl
          have hPB2 := hPB (a.2.1 + 1) a.2.2.1 (by omega) (by omega)
          refine go_aload_n dX12_readOr_14 rfl ?_
          refine go_bipush dX12_readOr_15 (by decide) ?_
          refine go_callVp_z (as := [vi 13]) (S := []) (b := 214) (ev_X12_isWord (m := m1) (k := 13) (G := G) (t := t) (kw := kw) (n := n) (lim := lim) (i := a.2.1) htm1 (by first | assumption | omega | exact ⟨by omega, by omega⟩ | (constructor <;> omega))) rfl dX12_readOr_17 cv_12_202 rfl rfl ob_214 rfl (by decide) (Nat.le_of_ble_eq_true rfl) (fun r_17 hr_17 ho_17 => ?_)
          refine go_if_eq (tgt := 51) dX12_readOr_20 (by decide) ⟨by omega, by omega⟩ (fun h_20 => ?_) (fun h_20 => ?_)
          · refine go_aload_n dX12_readOr_51 rfl ?_
            refine go_iload_n dX12_readOr_52 rfl ?_
            refine go_putf_i (ki := 47) dX12_readOr_53 fw_12_430 ob_214 rfl rfl ⟨by omega, by omega⟩ ?_
            refine go_iconst dX12_readOr_56 ?_
            refine go_ret (v := 1) rfl dX12_readOr_57 (okZ (by first | exact Or.inl rfl | exact Or.inr rfl | assumption | omega)) ?_
            have hq : seqF (G 4) 213 (seqF (G 4) 214 (oneF G 2)) i o = a := by rw [seqF_e (G 4) 213, if_neg (fun z => z f_1), ← hsl, hsu, if_neg (by omega)]
            rw [SaQ, hq]
            refine ⟨hsx.w (by omega) (by omega), by rw [wr_ni (by decide)]; exact hw46, Or.inl ⟨ha0, rfl, by rw [wr_ni (by decide)]; exact hg10, htm1.w (by decide) (by omega), ⟨by rw [wr_ni (by decide)]; exact hms1.1, by rw [wr_ni (by decide)]; exact hms1.2.1, by rw [wr_ni (by decide)]; exact hms1.2.2.1, by rw [wr_row (by decide)]; exact hms1.2.2.2⟩, fun j hj => by rw [wr_na (by decide)]; exact hfr j hj, by rw [wr_self]; exact hav, by rw [wr_self, wr_row (by decide)]; exact hrp, hcd⟩⟩
          · refine go_aload_n dX12_readOr_23 rfl ?_
            refine go_callV_v (as := []) (S := []) (b := 214) (ev_X12_go (m := m1) (G := G) (t := t) (kw := kw) (n := n) (lim := lim) (i := (a.2.1 + 1)) (htm1.nx (by omega))) rfl dX12_readOr_24 cv_12_82 rfl rfl ob_214 rfl (by decide) (Nat.le_of_ble_eq_true rfl) (fun m_24 hr_24 => ?_)
            have l24 := hr_24.1.l
            refine go_aload_n dX12_readOr_27 rfl ?_
            refine go_callV_z (as := []) (S := []) (b := 214) (ev_X12_all2 (m := m_24) (G := G) (t := t) (kw := kw) (n := n) (lim := lim) (i := (a.2.1 + 1)) (o := a.2.2.1) (nn := (nn + (a.2.2.2.length : Int))) hr_24.2 (by rw [(hsx.tr l24.s).1 216 (by decide) (by decide)]; exact hb) hdn (by rw [(hsx.tr l24.s).1 221 (by decide) (by decide)]; exact hnm) (hms1.l l24) (by omega) (by omega)) rfl dX12_readOr_28 cv_12_427 rfl rfl ob_214 rfl (by decide) (Nat.le_of_ble_eq_true rfl) (fun r_28 m_28 hr_28 ho_28 => ?_)
            obtain ⟨Q, hQe⟩ : ∃ z, z = ((seqF (G 4) 214 (oneF G 2)) (a.2.1 + 1) a.2.2.1) := ⟨_, rfl⟩
            rw [← hQe] at hr_28
            obtain ⟨x_28, w_28, hr_28⟩ := hr_28
            rcases hr_28 with ⟨f_28, e_28, g_28, t_28, s_28, j_28, p_28, r_28e, c_28⟩ | ⟨f_28, e_28, no_28⟩
            · refine go_if_ne (tgt := 36) dX12_readOr_31 (by decide) ⟨by omega, by omega⟩ (fun h_31 => ?_) (fun h_31 => ?_)
              · rw [← hQe] at hPB2
                have hQ2 := hPB2 f_28
                have hln : ((a.2.2.2 ++ Q.2.2.2 ++ [((213 : Int), (0 : Int), (0 : Int))]).length : Int) = a.2.2.2.length + Q.2.2.2.length + 1 := by rw [List.length_append, List.length_append]; rfl
                have hw2 : Wf (m_24 234) (G 8 3) (nn + (a.2.2.2.length : Int)) := by rw [l24.1 234 (by decide)]; exact hms1.2.2.2
                have hrp2 : Rep (m_28 234) av a.2.2.2 := by
                  have z : Rep (m_24 234) av a.2.2.2 := by rw [l24.1 234 (by decide)]; exact hrp
                  exact z.c j_28 hw2 (by omega) (by omega)
                have hwk : Wk (nodF (m_28 234) (nn + (a.2.2.2.length : Int) + (Q.2.2.2.length : Int)) 3 av (m_28 214 47) 0) (G 8 3) (nn + (a.2.2.2.length : Int) + (Q.2.2.2.length : Int)) := by
                  obtain ⟨e0, e1, e2, e3⟩ := nodF_n (N := m_28 234) (n := nn + (a.2.2.2.length : Int) + (Q.2.2.2.length : Int)) (w := 3) (a := av) (b := m_28 214 47) (r := 0)
                  unfold Wk
                  rw [e0, e1, e2, e3]
                  right; left; omega
                have hwn := s_28.2.2.2.add (by omega) hwk
                have hrb := hrp2.bin r_28e s_28.2.2.2 (by omega) (by omega) (by omega) (by omega) (by omega) hwn
                refine go_aload_n dX12_readOr_36 rfl ?_
                refine go_iconst dX12_readOr_37 ?_
                refine go_iload_n dX12_readOr_38 rfl ?_
                refine go_aload_n dX12_readOr_39 rfl ?_
                refine go_getf_i (ki := 47) dX12_readOr_40 fl_12_430 ob_214 rfl rfl (fun hf_40 => ?_)
                refine go_iconst dX12_readOr_43 ?_
                refine go_callV_i (as := [vi 3, vi av, vi (m_28 214 47), vi 0]) (S := []) (b := 214) (ev_X12_saysOne (m := m_28) (w := 3) (a := av) (b := (m_28 214 47)) (s := 0) (nn := (nn + (a.2.2.2.length : Int) + (Q.2.2.2.length : Int))) s_28.2.2.1 (by omega) (by first | assumption | omega | exact ⟨by omega, by omega⟩ | (constructor <;> omega)) (by first | assumption | omega | exact ⟨by omega, by omega⟩ | (constructor <;> omega)) hf_40 (by first | assumption | omega | exact ⟨by omega, by omega⟩ | (constructor <;> omega))) rfl dX12_readOr_44 cv_12_433 rfl rfl ob_214 rfl (by decide) (Nat.le_of_ble_eq_true rfl) (fun r_44 m_44 hr_44 ho_44 => ?_)
                obtain ⟨e_44, hm_44⟩ := hr_44
                refine go_istore_n (L' := [vr 214, vi r_44]) dX12_readOr_47 (by decide) rfl rfl ?_
                refine go_goto (tgt := 14) dX12_readOr_48 (by decide) ?_
                exact ih_14 m_44 r_44 (0, ((seqF (G 4) 214 (oneF G 2)) (a.2.1 + 1) a.2.2.1).2.1, ((seqF (G 4) 214 (oneF G 2)) (a.2.1 + 1) a.2.2.1).2.2.1, a.2.2.2 ++ ((seqF (G 4) 214 (oneF G 2)) (a.2.1 + 1) a.2.2.1).2.2.2 ++ [(213, 0, 0)]) (f - 1) rfl (by rw [hm_44]; exact ((hsx.tr l24.s).tr x_28).tr nodW_s) (by rw [hm_44, nodW_214 (by decide)]; exact w_28) (by rw [hm_44, nodW_214 (by decide), g_28, hr_24.1.2 10 (by decide) (by decide) (by decide) (by decide) (by decide) (by decide)]; exact hg10) (by rw [hm_44]; show TM G t kw n lim _ ((seqF (G 4) 214 (oneF G 2)) (a.2.1 + 1) a.2.2.1).2.1; rw [← hQe]; exact t_28.nod) (by show MS m_44 (G 8 3) ((seqF (G 4) 214 (oneF G 2)) (a.2.1 + 1) a.2.2.1).2.2.1 6 (nn + ((a.2.2.2 ++ ((seqF (G 4) 214 (oneF G 2)) (a.2.1 + 1) a.2.2.1).2.2.2 ++ [((213 : Int), (0 : Int), (0 : Int))]).length : Int)); rw [← hQe, hln, hm_44]; refine ⟨by rw [nodW_214 (by decide)]; exact s_28.1, by rw [nodW_214 (by decide)]; exact s_28.2.1, by rw [nodW_44]; omega, ?_⟩; rw [nodW_234, show nn + ((a.2.2.2.length : Int) + Q.2.2.2.length + 1) = nn + (a.2.2.2.length : Int) + (Q.2.2.2.length : Int) + 1 by omega]; exact hwn) (fun j hj => by rw [hm_44, nodW_234, nodF_o j (by omega), j_28 j (by omega), l24.1 234 (by decide)]; exact hfr j hj) (by show nn ≤ r_44 ∧ r_44 < nn + ((a.2.2.2 ++ ((seqF (G 4) 214 (oneF G 2)) (a.2.1 + 1) a.2.2.1).2.2.2 ++ [((213 : Int), (0 : Int), (0 : Int))]).length : Int); rw [← hQe, hln]; omega) (by show Rep _ _ (a.2.2.2 ++ ((seqF (G 4) 214 (oneF G 2)) (a.2.1 + 1) a.2.2.1).2.2.2 ++ [((213 : Int), (0 : Int), (0 : Int))]); rw [← hQe, hm_44, nodW_234, e_44]; exact hrb) (by show CdA _ (a.2.2.2 ++ ((seqF (G 4) 214 (oneF G 2)) (a.2.1 + 1) a.2.2.1).2.2.2 ++ [((213 : Int), (0 : Int), (0 : Int))]); rw [← hQe]; exact (hcd.app c_28).app (CdA.k (by decide))) (by rw [← hsl, hsu, if_pos (by omega), ← hQe, if_neg (fun z => z f_28)]) (by show (o + 1 ≤ ((seqF (G 4) 214 (oneF G 2)) (a.2.1 + 1) a.2.2.1).2.2.1 ∧ ((seqF (G 4) 214 (oneF G 2)) (a.2.1 + 1) a.2.2.1).2.2.1 ≤ 20) ∧ ((a.2.2.2 ++ ((seqF (G 4) 214 (oneF G 2)) (a.2.1 + 1) a.2.2.1).2.2.2 ++ [((213 : Int), (0 : Int), (0 : Int))]).length : Int) + 1 ≤ 2 * (((seqF (G 4) 214 (oneF G 2)) (a.2.1 + 1) a.2.2.1).2.2.1 - o); rw [← hQe, hln]; omega) (by show 22 + o ≤ ((f - 1 : Nat) : Int) + ((seqF (G 4) 214 (oneF G 2)) (a.2.1 + 1) a.2.2.1).2.2.1; rw [← hQe]; omega) (by omega)
              · exfalso; omega
            · refine go_if_ne (tgt := 36) dX12_readOr_31 (by decide) ⟨by omega, by omega⟩ (fun h_31 => ?_) (fun h_31 => ?_)
              · exfalso; omega
              · refine go_iconst dX12_readOr_34 ?_
                refine go_ret (v := 0) rfl dX12_readOr_35 (okZ (by first | exact Or.inl rfl | exact Or.inr rfl | assumption | omega)) ?_
                have hq : seqF (G 4) 213 (seqF (G 4) 214 (oneF G 2)) i o = Q := by rw [seqF_e (G 4) 213, if_neg (fun z => z f_1), ← hsl, hsu, if_pos (by omega), ← hQe, if_pos f_28]
                rw [SaQ, hq]
                exact ⟨(hsx.tr l24.s).tr x_28, w_28, Or.inr ⟨f_28, rfl, no_28⟩⟩
      exact lp_14 _ m_1 (m_1 214 47) ((seqF (G 4) 214 (oneF G 2)) i o) 21 f_1 x_1 w_1 g_1 t_1 s_1 j_1 p_1 r_1e c_1 rfl ⟨⟨hR1.1, hR1.2.1⟩, hR1.2.2⟩ (by have := hR1.1; omega) (Nat.lt_succ_self _)
    · exfalso; omega
  · refine go_if_ne (tgt := 9) dX12_readOr_4 (by decide) ⟨by omega, by omega⟩ (fun h_4 => ?_) (fun h_4 => ?_)
    · exfalso; omega
    · refine go_iconst dX12_readOr_7 ?_
      refine go_ret (v := 0) rfl dX12_readOr_8 (okZ (by first | exact Or.inl rfl | exact Or.inr rfl | assumption | omega)) ?_
      rw [SaQ, seqF_e (G 4) 213, if_pos f_1]
      exact ⟨x_1, w_1, Or.inr ⟨f_1, rfl, no_1⟩⟩
set_option maxRecDepth 4000 in
theorem ev_X12_not3 {m : Mem} {G : Mem} {t : Int → Int} {kw : Int → Int} {n : Int} {lim : Int} {i : Int} {o : Int} {nn : Int} (htm : TM G t kw n lim m i) (hb : Bg G 8 18 (m 216)) (hdn : DnOk G 8) (hnm : NmR G 8 (m 221)) (hms : MS m (G 8 3) o 6 nn) (ho : 1 ≤ o ∧ o ≤ 20) (hnn : 0 ≤ nn ∧ nn + 2 ≤ 2 * o) : Ev 0 24 mX12_readNot [vr 214] m (fun r m' => SaQ G t kw n lim m m' 6 nn (notF (oneF G 2) (i - 1) o) r) := by
  refine Ev.of (L := [vr 214]) (by decide +kernel) rfl (Nat.le_of_ble_eq_true rfl) rfl (fun t ht => by cases ht; first | exact Or.inl rfl | exact Or.inr (Or.inl rfl) | exact Or.inr (Or.inr rfl)) (fun hcan => ?_)
  obtain ⟨hm1, hm2, hm3, hm4⟩ := id hms
  have hni : i - 1 + 1 = i := by omega
  have hR : RB o ((oneF G 2) i o) := oneF_b G 2 i o (by omega) (by omega)
  refine go_aload_n dX12_readNot_0 rfl ?_
  refine go_callV_z (as := []) (S := []) (b := 214) (ev_X12_one2 (m := m) (G := G) (t := t) (kw := kw) (n := n) (lim := lim) (i := i) (o := o) (nn := nn) htm hb hdn hnm hms (by omega) (by omega)) rfl dX12_readNot_1 cv_12_436 rfl rfl ob_214 rfl (by decide) (Nat.le_of_ble_eq_true rfl) (fun r_1 m_1 hr_1 ho_1 => ?_)
  obtain ⟨R, hRe⟩ : ∃ z, z = (oneF G 2) i o := ⟨_, rfl⟩
  rw [← hRe] at hr_1 hR
  obtain ⟨x_1, w_1, hr_1⟩ := hr_1
  rcases hr_1 with ⟨f_1, e_1, g_1, t_1, s_1, j_1, p_1, r_1e, c_1⟩ | ⟨f_1, e_1, no_1⟩
  · refine go_if_ne (tgt := 9) dX12_readNot_4 (by decide) ⟨by omega, by omega⟩ (fun h_4 => ?_) (fun h_4 => ?_)
    · refine go_aload_n dX12_readNot_9 rfl ?_
      refine go_aload_n dX12_readNot_10 rfl ?_
      refine go_iconst dX12_readNot_11 ?_
      refine go_aload_n dX12_readNot_12 rfl ?_
      refine go_getf_i (ki := 47) dX12_readNot_13 fl_12_430 ob_214 rfl rfl (fun hf_13 => ?_)
      refine go_iconst dX12_readNot_16 ?_
      refine go_iconst dX12_readNot_17 ?_
      refine go_callV_i (as := [vi 1, vi (m_1 214 47), vi 0, vi 0]) (S := [vr 214]) (b := 214) (ev_X12_saysOne (m := m_1) (w := 1) (a := (m_1 214 47)) (b := 0) (s := 0) (nn := (nn + (R.2.2.2.length : Int))) s_1.2.2.1 (by have := hR f_1; omega) (by first | assumption | omega | exact ⟨by omega, by omega⟩ | (constructor <;> omega)) (by first | assumption | omega | exact ⟨by omega, by omega⟩ | (constructor <;> omega)) (by first | assumption | omega | exact ⟨by omega, by omega⟩ | (constructor <;> omega)) (by first | assumption | omega | exact ⟨by omega, by omega⟩ | (constructor <;> omega))) rfl dX12_readNot_18 cv_12_433 rfl rfl ob_214 rfl (by decide) (Nat.le_of_ble_eq_true rfl) (fun r_18 m_18 hr_18 ho_18 => ?_)
      obtain ⟨e_18, hm_18⟩ := hr_18
      refine go_putf_i (ki := 47) dX12_readNot_21 fw_12_430 ob_214 rfl rfl ⟨by omega, by omega⟩ ?_
      refine go_iconst dX12_readNot_24 ?_
      refine go_ret (v := 1) rfl dX12_readNot_25 (okZ (by first | exact Or.inl rfl | exact Or.inr rfl | assumption | omega)) ?_
      have hRb := hR f_1
      have hq : notF (oneF G 2) (i - 1) o = (R.1, R.2.1, R.2.2.1, R.2.2.2 ++ [(215, 0, 0)]) := by unfold notF; rw [hni, ← hRe]
      have hwk : Wk (nodF (m_1 234) (nn + (R.2.2.2.length : Int)) 1 (m_1 214 47) 0 0) (G 8 3) (nn + (R.2.2.2.length : Int)) := by
        obtain ⟨e0, e1, e2, e3⟩ := nodF_n (N := m_1 234) (n := nn + (R.2.2.2.length : Int)) (w := 1) (a := m_1 214 47) (b := 0) (r := 0)
        unfold Wk
        rw [e0, e1, e2, e3]
        left; omega
      have hwn := s_1.2.2.2.add (by omega) hwk
      have hln : ((R.2.2.2 ++ [((215 : Int), (0 : Int), (0 : Int))]).length : Int) = R.2.2.2.length + 1 := by rw [List.length_append]; rfl
      rw [SaQ, hq, hm_18]
      refine ⟨(x_1.tr nodW_s).w (by omega) (by omega), ?_, Or.inl ⟨f_1, rfl, ?_, (t_1.nod).w (by decide) (by omega), ⟨?_, ?_, ?_, ?_⟩, fun j hj => ?_, ?_, ?_, c_1.app (CdA.k (by decide))⟩⟩
      · rw [wr_ni (by decide), nodW_214 (by decide)]; exact w_1
      · rw [wr_ni (by decide), nodW_214 (by decide)]; exact g_1
      · rw [wr_ni (by decide), nodW_214 (by decide)]; exact s_1.1
      · rw [wr_ni (by decide), nodW_214 (by decide)]; exact s_1.2.1
      · rw [wr_ni (by decide), nodW_44]; show _ = nn + ((R.2.2.2 ++ [((215 : Int), (0 : Int), (0 : Int))]).length : Int); rw [hln]; omega
      · rw [wr_row (by decide), nodW_234]; show Wf _ _ (nn + ((R.2.2.2 ++ [((215 : Int), (0 : Int), (0 : Int))]).length : Int)); rw [hln, show nn + ((R.2.2.2.length : Int) + 1) = nn + (R.2.2.2.length : Int) + 1 by omega]; exact hwn
      · rw [wr_na (by decide), nodW_234, nodF_o j (by omega)]; exact j_1 j hj
      · rw [wr_self, e_18]; show nn ≤ _ ∧ _ < nn + ((R.2.2.2 ++ [((215 : Int), (0 : Int), (0 : Int))]).length : Int); rw [hln]; omega
      · rw [wr_self, e_18, wr_row (by decide), nodW_234]
        exact r_1e.not s_1.2.2.2 (by omega) (by omega) hwn
    · exfalso; omega
  · refine go_if_ne (tgt := 9) dX12_readNot_4 (by decide) ⟨by omega, by omega⟩ (fun h_4 => ?_) (fun h_4 => ?_)
    · exfalso; omega
    · refine go_iconst dX12_readNot_7 ?_
      refine go_ret (v := 0) rfl dX12_readNot_8 (okZ (by first | exact Or.inl rfl | exact Or.inr rfl | assumption | omega)) ?_
      have hq : (notF (oneF G 2) (i - 1) o).1 = R.1 ∧ (notF (oneF G 2) (i - 1) o).2.1 = R.2.1 := by unfold notF; rw [hni, ← hRe]; exact ⟨rfl, rfl⟩
      exact ⟨x_1, w_1, Or.inr ⟨by rw [hq.1]; exact f_1, rfl, by rw [hq.1]; exact no_1.1, by rw [hq.2]; exact no_1.2⟩⟩
set_option maxRecDepth 4000 in
theorem ev_X12_brk3 {m : Mem} {G : Mem} {t : Int → Int} {kw : Int → Int} {n : Int} {lim : Int} {i : Int} {o : Int} {nn : Int} (htm : TM G t kw n lim m i) (hb : Bg G 8 18 (m 216)) (hdn : DnOk G 8) (hnm : NmR G 8 (m 221)) (hms : MS m (G 8 3) o 6 nn) (ho : 1 ≤ o ∧ o ≤ 20) (hnn : 0 ≤ nn ∧ nn + 2 ≤ 2 * o) : Ev 0 25 mX12_readBracket [vr 214] m (fun r m' => SaQ G t kw n lim m m' 6 nn (brkF (G 4) (seqF (G 4) 213 (seqF (G 4) 214 (oneF G 2))) (i - 1) o) r) := by
  refine Ev.of (L := [vr 214]) (by decide +kernel) rfl (Nat.le_of_ble_eq_true rfl) rfl (fun t ht => by cases ht; first | exact Or.inl rfl | exact Or.inr (Or.inl rfl) | exact Or.inr (Or.inr rfl)) (fun hcan => ?_)
  obtain ⟨hm1, hm2, hm3, hm4⟩ := id hms
  have hni : i - 1 + 1 = i := by omega
  refine go_aload_n dX12_readBracket_0 rfl ?_
  refine go_callV_z (as := []) (S := []) (b := 214) (ev_X12_con2 (m := m) (G := G) (t := t) (kw := kw) (n := n) (lim := lim) (i := i) (o := o) (nn := nn) htm hb hdn hnm hms (by omega) (by omega)) rfl dX12_readBracket_1 cv_12_457 rfl rfl ob_214 rfl (by decide) (Nat.le_of_ble_eq_true rfl) (fun r_1 m_1 hr_1 ho_1 => ?_)
  obtain ⟨R, hRe⟩ : ∃ z, z = (seqF (G 4) 213 (seqF (G 4) 214 (oneF G 2))) i o := ⟨_, rfl⟩
  rw [← hRe] at hr_1
  obtain ⟨x_1, w_1, hr_1⟩ := hr_1
  rcases hr_1 with ⟨f_1, e_1, g_1, t_1, s_1, j_1, p_1, r_1e, c_1⟩ | ⟨f_1, e_1, no_1⟩
  · refine go_if_ne (tgt := 9) dX12_readBracket_4 (by decide) ⟨by omega, by omega⟩ (fun h_4 => ?_) (fun h_4 => ?_)
    · refine go_aload_n dX12_readBracket_9 rfl ?_
      refine go_bipush dX12_readBracket_10 (by decide) ?_
      refine go_callVp_z (as := [vi 41]) (S := []) (b := 214) (ev_X12_isSign (m := m_1) (c := 41) (G := G) (t := t) (kw := kw) (n := n) (lim := lim) (i := R.2.1) t_1 (by unfold isS; omega)) rfl dX12_readBracket_12 cv_12_86 rfl rfl ob_214 rfl (by decide) (Nat.le_of_ble_eq_true rfl) (fun r_12 hr_12 ho_12 => ?_)
      refine go_if_ne (tgt := 24) dX12_readBracket_15 (by decide) ⟨by omega, by omega⟩ (fun h_15 => ?_) (fun h_15 => ?_)
      · refine go_aload_n dX12_readBracket_24 rfl ?_
        refine go_callV_v (as := []) (S := []) (b := 214) (ev_X12_go (m := m_1) (G := G) (t := t) (kw := kw) (n := n) (lim := lim) (i := (R.2.1 + 1)) (t_1.nx (by omega))) rfl dX12_readBracket_25 cv_12_82 rfl rfl ob_214 rfl (by decide) (Nat.le_of_ble_eq_true rfl) (fun m_25 hr_25 => ?_)
        refine go_iconst dX12_readBracket_28 ?_
        refine go_ret (v := 1) rfl dX12_readBracket_29 (okZ (by first | exact Or.inl rfl | exact Or.inr rfl | assumption | omega)) ?_
        have hq : brkF (G 4) (seqF (G 4) 213 (seqF (G 4) 214 (oneF G 2))) (i - 1) o = (0, R.2.1 + 1, R.2.2.1, R.2.2.2) := by unfold brkF; rw [hni, ← hRe, if_neg (fun z => z f_1), if_pos (by omega)]
        have hl := hr_25.1.l
        rw [SaQ, hq]
        refine ⟨x_1.tr hl.s, by rw [hl.2 46 (by omega)]; exact w_1, Or.inl ⟨rfl, rfl, ?_, hr_25.2, s_1.l hl, fun j hj => ?_, ?_, ?_, c_1⟩⟩
        · rw [hr_25.1.2 10 (by decide) (by decide) (by decide) (by decide) (by decide) (by decide)]; exact g_1
        · rw [hl.1 234 (by decide)]; exact j_1 j hj
        · rw [hl.2 47 (by omega)]; exact p_1
        · rw [hl.2 47 (by omega), hl.1 234 (by decide)]; exact r_1e
      · refine go_aload_n dX12_readBracket_18 rfl ?_
        refine go_iconst dX12_readBracket_19 ?_
        refine go_callV_z (as := [vi 1]) (S := []) (b := 214) (ev_X12_bad (m := m_1) (k := 1) (G := G) (t := t) (kw := kw) (n := n) (lim := lim) (i := R.2.1) t_1 (by first | assumption | omega | exact ⟨by omega, by omega⟩ | (constructor <;> omega))) rfl dX12_readBracket_20 cv_12_72 rfl rfl ob_214 rfl (by decide) (Nat.le_of_ble_eq_true rfl) (fun r_20 m_20 hr_20 ho_20 => ?_)
        refine go_ret (v := r_20) rfl dX12_readBracket_23 (okZ (by first | exact Or.inl rfl | exact Or.inr rfl | assumption | omega)) ?_
        have hq : brkF (G 4) (seqF (G 4) 213 (seqF (G 4) 214 (oneF G 2))) (i - 1) o = (1, R.2.1, 0, []) := by unfold brkF; rw [hni, ← hRe, if_neg (fun z => z f_1), if_neg (by omega)]
        have z := NoT.b (G := G) (m := m_1) (m' := m_20) (f := 1) (i := R.2.1) (by rw [hr_20.2]; congr 2; split <;> rfl)
        rw [SaQ, hq]
        exact ⟨x_1.tr z.1.s, by rw [z.1.2 46 (by omega)]; exact w_1, Or.inr ⟨(show (1 : Int) ≠ 0 by decide), hr_20.1, z.2.1, z.2.2⟩⟩
    · exfalso; omega
  · refine go_if_ne (tgt := 9) dX12_readBracket_4 (by decide) ⟨by omega, by omega⟩ (fun h_4 => ?_) (fun h_4 => ?_)
    · exfalso; omega
    · refine go_iconst dX12_readBracket_7 ?_
      refine go_ret (v := 0) rfl dX12_readBracket_8 (okZ (by first | exact Or.inl rfl | exact Or.inr rfl | assumption | omega)) ?_
      have hq : brkF (G 4) (seqF (G 4) 213 (seqF (G 4) 214 (oneF G 2))) (i - 1) o = R := by unfold brkF; rw [hni, ← hRe, if_pos f_1]
      rw [SaQ, hq]
      exact ⟨x_1, w_1, Or.inr ⟨f_1, rfl, no_1⟩⟩
set_option maxRecDepth 4000 in
theorem ev_X12_one3 {m : Mem} {G : Mem} {t : Int → Int} {kw : Int → Int} {n : Int} {lim : Int} {i : Int} {o : Int} {nn : Int} (htm : TM G t kw n lim m i) (hb : Bg G 8 18 (m 216)) (hdn : DnOk G 8) (hnm : NmR G 8 (m 221)) (hms : MS m (G 8 3) o 5 nn) (ho : 0 ≤ o ∧ o ≤ 20) (hnn : 0 ≤ nn ∧ nn ≤ 2 * o) : Ev 0 26 mX12_readSaid [vr 214] m (fun r m' => SaQ G t kw n lim m m' 5 nn (oneF G 3 i o) r) := by
  refine Ev.of (L := [vr 214, un, un, un]) (by decide +kernel) rfl (Nat.le_of_ble_eq_true rfl) rfl (fun t ht => by cases ht; first | exact Or.inl rfl | exact Or.inr (Or.inl rfl) | exact Or.inr (Or.inr rfl)) (fun hcan => ?_)
  obtain ⟨hm1, hm2, hm3, hm4⟩ := id hms
  have hkd := htm.kd
  refine go_aload_n dX12_readSaid_0 rfl ?_
  refine go_bipush dX12_readSaid_1 (by decide) ?_
  refine go_callVp_z (as := [vi 40]) (S := []) (b := 214) (ev_X12_isSign (m := m) (c := 40) (G := G) (t := t) (kw := kw) (n := n) (lim := lim) (i := i) htm (by unfold isS; omega)) rfl dX12_readSaid_3 cv_12_86 rfl rfl ob_214 rfl (by decide) (Nat.le_of_ble_eq_true rfl) (fun r_3 hr_3 ho_3 => ?_)
  refine go_istore_n (L' := [vr 214, vi r_3, un, un]) dX12_readSaid_6 (by decide) rfl rfl ?_
  refine go_bipush dX12_readSaid_7 (by decide) ?_
  refine go_istore_n (L' := [vr 214, vi r_3, vi 15, un]) dX12_readSaid_9 (by decide) rfl rfl ?_
  have lp_10 : ∀ (n_10 : Nat) (w : Int) , (15 ≤ w) → (w ≤ 25) → (∀ j : Int, 15 ≤ j → j < w → G 4 i ≠ 200 + j) → (25 - w).toNat < n_10 → Go 0 26 mX12_readSaid (fun r m' => SaQ G t kw n lim m m' 5 nn (oneF G 3 i o) r) 10 [vr 214, vi r_3, vi w, un] [] m := by
    intro n_10
    induction n_10 with
    | zero => intro w hw0 hw1 hno hmu; exact absurd hmu (Nat.not_lt_zero _)
    | succ n_10 ih_10 =>
      intro w hw0 hw1 hno hmu
      refine go_iload_n dX12_readSaid_10 rfl ?_
      have cut_30 :  ((w ≤ 24 ∧ G 4 i = 200 + w) ∨ (w = 25 ∧ ¬ (215 ≤ G 4 i ∧ G 4 i ≤ 224))) → Go 0 26 mX12_readSaid (fun r m' => SaQ G t kw n lim m m' 5 nn (oneF G 3 i o) r) 30 [vr 214, vi r_3, vi w, un] [] m := by
        intro hww
        refine go_iload_n dX12_readSaid_30 rfl ?_
        have cut_46 :  (G 4 i = 40 ∨ (215 ≤ G 4 i ∧ G 4 i ≤ 224)) → Go 0 26 mX12_readSaid (fun r m' => SaQ G t kw n lim m m' 5 nn (oneF G 3 i o) r) 46 [vr 214, vi r_3, vi w, un] [] m := by
          intro hst
          refine go_aload_n dX12_readSaid_46 rfl ?_
          refine go_getf_i (ki := 45) dX12_readSaid_47 fl_12_439 ob_214 rfl rfl (fun hf_47 => ?_)
          rw [show (m 214 45 : Int) = o from hm1] at hf_47 ⊢
          refine go_bipush dX12_readSaid_50 (by decide) ?_
          refine go_icmp_eq (tgt := 64) dX12_readSaid_52 (by decide) ⟨by omega, by omega⟩ ⟨by omega, by omega⟩ (fun h_52 => ?_) (fun h_52 => ?_)
          · refine go_aload_n dX12_readSaid_64 rfl ?_
            refine go_iconst dX12_readSaid_65 ?_
            refine go_callV_z (as := [vi 4]) (S := []) (b := 214) (ev_X12_bad (m := m) (k := 4) (G := G) (t := t) (kw := kw) (n := n) (lim := lim) (i := i) htm (by first | assumption | omega | exact ⟨by omega, by omega⟩ | (constructor <;> omega))) rfl dX12_readSaid_66 cv_12_72 rfl rfl ob_214 rfl (by decide) (Nat.le_of_ble_eq_true rfl) (fun r_66 m_66 hr_66 ho_66 => ?_)
            refine go_ret (v := r_66) rfl dX12_readSaid_69 (okZ (by first | exact Or.inl rfl | exact Or.inr rfl | assumption | omega)) ?_
            have hq : oneF G 3 i o = (4, i, o, []) := by unfold oneF; rw [if_neg (by omega), if_pos (by omega)]
            have z := NoT.b (G := G) (m := m) (m' := m_66) (f := 4) (i := i) (by rw [hr_66.2, if_neg (by omega)])
            rw [SaQ, hq]
            exact ⟨z.1.s, by rw [z.1.2 46 (by omega)]; exact hm2, Or.inr ⟨(show (4 : Int) ≠ 0 by decide), hr_66.1, z.2.1, z.2.2⟩⟩
          · refine go_aload_n dX12_readSaid_55 rfl ?_
            refine go_getf_i (ki := 46) dX12_readSaid_56 fl_12_442 ob_214 rfl rfl (fun hf_56 => ?_)
            rw [show (m 214 46 : Int) = 5 from hm2] at hf_56 ⊢
            refine go_bipush dX12_readSaid_59 (by decide) ?_
            refine go_icmp_ne (tgt := 70) dX12_readSaid_61 (by decide) ⟨by omega, by omega⟩ ⟨by omega, by omega⟩ (fun h_61 => ?_) (fun h_61 => ?_)
            · refine go_aload_n dX12_readSaid_70 rfl ?_
              refine go_dup_r dX12_readSaid_71 ?_
              refine go_getf_i (ki := 45) dX12_readSaid_72 fl_12_439 ob_214 rfl rfl (fun hf_72 => ?_)
              rw [show (m 214 45 : Int) = o from hm1] at hf_72 ⊢
              refine go_iconst dX12_readSaid_75 ?_
              refine go_iadd dX12_readSaid_76 ?_
              refine go_putf_i (ki := 45) dX12_readSaid_77 fw_12_439 ob_214 rfl rfl ⟨by omega, by omega⟩ ?_
              refine go_aload_n dX12_readSaid_80 rfl ?_
              refine go_dup_r dX12_readSaid_81 ?_
              refine go_getf_i (ki := 46) dX12_readSaid_82 fl_12_442 ob_214 rfl rfl (fun hf_82 => ?_)
              rw [show ((wr m 214 45 (o + 1)) 214 46 : Int) = 5 from by rw [wr_ni (by decide)]; exact hm2] at hf_82 ⊢
              refine go_iconst dX12_readSaid_85 ?_
              refine go_iadd dX12_readSaid_86 ?_
              refine go_putf_i (ki := 46) dX12_readSaid_87 fw_12_442 ob_214 rfl rfl ⟨by omega, by omega⟩ ?_
              refine go_aload_n dX12_readSaid_90 rfl ?_
              refine go_callV_v (as := []) (S := []) (b := 214) (ev_X12_go (m := (wr (wr m 214 45 (o + 1)) 214 46 (5 + 1))) (G := G) (t := t) (kw := kw) (n := n) (lim := lim) (i := (i + 1)) (((htm.nx (by omega)).w (by decide) (by omega)).w (by decide) (by omega))) rfl dX12_readSaid_91 cv_12_82 rfl rfl ob_214 rfl (by decide) (Nat.le_of_ble_eq_true rfl) (fun m_91 hr_91 => ?_)
              have l91 := hr_91.1.l
              have s91 : Sx m m_91 := ((Sx.rf.w (by omega) (by omega)).w (by omega) (by omega)).tr l91.s
              have g91 : m_91 214 10 = m 214 10 := by rw [hr_91.1.2 10 (by decide) (by decide) (by decide) (by decide) (by decide) (by decide), wr_ni (by decide), wr_ni (by decide)]
              have n91 : m_91 234 = m 234 := by rw [l91.1 234 (by decide), wr_row (by decide), wr_row (by decide)]
              have ms91 : MS m_91 (G 8 3) (o + 1) 6 nn := ⟨by rw [l91.2 45 (by omega), wr_ni (by decide), wr_self], by rw [l91.2 46 (by omega), wr_self]; rfl, by rw [l91.2 44 (by omega), wr_ni (by decide), wr_ni (by decide)]; exact hm3, by rw [n91]; exact hm4⟩
              have b91 : Bg G 8 18 (m_91 216) := by rw [s91.1 216 (by decide) (by decide)]; exact hb
              have nm91 : NmR G 8 (m_91 221) := by rw [s91.1 221 (by decide) (by decide)]; exact hnm
              have hi1 : i + 1 - 1 = i := by omega
              refine go_iconst dX12_readSaid_94 ?_
              refine go_istore_n (L' := [vr 214, vi r_3, vi w, vi 1]) dX12_readSaid_95 (by decide) rfl rfl ?_
              have cut_166 : ∀ (mx : Mem) (gd : Int) , (gd = 0 ∨ gd = 1) → (SaQ G t kw n lim m_91 mx 6 nn (oneF G 3 i o) gd) → Go 0 26 mX12_readSaid (fun r m' => SaQ G t kw n lim m m' 5 nn (oneF G 3 i o) r) 166 [vr 214, un, un, vi gd] [] mx := by
                intro mx gd hgd hsq
                refine go_aload_n dX12_readSaid_166 rfl ?_
                refine go_dup_r dX12_readSaid_167 ?_
                refine go_getf_i (ki := 46) dX12_readSaid_168 fl_12_442 ob_214 rfl rfl (fun hf_168 => ?_)
                rw [show (mx 214 46 : Int) = 6 from hsq.2.1] at hf_168 ⊢
                refine go_iconst dX12_readSaid_171 ?_
                refine go_isub dX12_readSaid_172 ?_
                refine go_putf_i (ki := 46) dX12_readSaid_173 fw_12_442 ob_214 rfl rfl ⟨by omega, by omega⟩ ?_
                refine go_iload_n dX12_readSaid_176 rfl ?_
                refine go_ret (v := gd) rfl dX12_readSaid_177 (okZ hgd) ?_
                obtain ⟨a, b, c⟩ := hsq
                refine ⟨(s91.tr a).w (by omega) (by omega), wr_self _ _ _ _, ?_⟩
                rcases c with ⟨f, e, g, t_, s, j_, p_, r_, c_⟩ | ⟨f, e, no⟩
                · refine Or.inl ⟨f, e, ?_, t_.w (by decide) (by omega), ⟨?_, wr_self _ _ _ _, ?_, ?_⟩, fun j hj => ?_, ?_, ?_, c_⟩
                  · rw [wr_ni (by decide), g]; exact g91
                  · rw [wr_ni (by decide)]; exact s.1
                  · rw [wr_ni (by decide)]; exact s.2.2.1
                  · rw [wr_row (by decide)]; exact s.2.2.2
                  · rw [wr_na (by decide), j_ j hj, n91]
                  · rw [wr_ni (by decide)]; exact p_
                  · rw [wr_ni (by decide), wr_row (by decide)]; exact r_
                · exact Or.inr ⟨f, e, by rw [wr_ni (by decide)]; exact no.1, by rw [wr_ni (by decide)]; exact no.2⟩
              refine go_iload_n dX12_readSaid_96 rfl ?_
              refine go_if_eq (tgt := 108) dX12_readSaid_97 (by decide) ⟨by omega, by omega⟩ (fun h_97 => ?_) (fun h_97 => ?_)
              · refine go_iload_n dX12_readSaid_108 rfl ?_
                refine go_bipush dX12_readSaid_109 (by decide) ?_
                refine go_icmp_ne (tgt := 122) dX12_readSaid_111 (by decide) ⟨by omega, by omega⟩ ⟨by omega, by omega⟩ (fun h_111 => ?_) (fun h_111 => ?_)
                · refine go_iload_n dX12_readSaid_122 rfl ?_
                  refine go_bipush dX12_readSaid_123 (by decide) ?_
                  refine go_icmp_ge (tgt := 146) dX12_readSaid_125 (by decide) ⟨by omega, by omega⟩ ⟨by omega, by omega⟩ (fun h_125 => ?_) (fun h_125 => ?_)
                  · refine go_iload_n dX12_readSaid_146 rfl ?_
                    refine go_bipush dX12_readSaid_147 (by decide) ?_
                    refine go_icmp_ge (tgt := 160) dX12_readSaid_149 (by decide) ⟨by omega, by omega⟩ ⟨by omega, by omega⟩ (fun h_149 => ?_) (fun h_149 => ?_)
                    · refine go_aload_n dX12_readSaid_160 rfl ?_
                      refine go_iload_n dX12_readSaid_161 rfl ?_
                      refine go_callV_z (as := [vi w]) (S := []) (b := 214) (ev_X12_readCompare (m := m_91) (w := w) (G := G) (t := t) (kw := kw) (n := n) (lim := lim) (i := (i + 1)) (o := (o + 1)) (wi := 6) (nn := nn) hr_91.2 b91 hdn ms91 (by omega) (by omega) (by omega) (by rw [hi1]; omega)) rfl dX12_readSaid_162 cv_12_454 rfl rfl ob_214 rfl (by decide) (Nat.le_of_ble_eq_true rfl) (fun r_162 m_162 hr_162 ho_162 => ?_)
                      rw [hi1] at hr_162
                      refine go_istore_n (L' := [vr 214, vi r_3, vi w, vi r_162]) dX12_readSaid_165 (by decide) rfl rfl ?_
                      refine go_drop (j := 1) (L' := [vr 214, un, vi w, vi r_162]) rfl ?_
                      refine go_drop (j := 2) (L' := [vr 214, un, un, vi r_162]) rfl ?_
                      exact cut_166 m_162 r_162 (by first | assumption | rfl | omega) (by
                            first
                            | (rw [show oneF G 3 i o = brkF (G 4) (seqF (G 4) 213 (seqF (G 4) 214 (oneF G 2))) i (o + 1) by unfold oneF; rw [if_neg (by omega), if_neg (by omega), if_neg (by omega), if_pos (by omega)]]; exact hr_101)
                            | (rw [show oneF G 3 i o = notF (oneF G 2) i (o + 1) by unfold oneF; rw [if_neg (by omega), if_neg (by omega), if_pos (by omega)]]; exact hr_115)
                            | (rw [show oneF G 3 i o = namF G i (o + 1) by unfold oneF; rw [if_neg (by omega), if_neg (by omega), if_neg (by omega), if_neg (by omega), if_pos (by omega)]]; exact hr_154)
                            | (rw [show oneF G 3 i o = cmpF G i (o + 1) by unfold oneF; rw [if_neg (by omega), if_neg (by omega), if_neg (by omega), if_neg (by omega), if_neg (by omega), if_pos (by omega)]]; exact hr_162)
                            | (have hwk : Wk (nodF (m_91 234) nn (50 + w) 0 0 0) (G 8 3) nn := (by
                                 obtain ⟨e0, e1, e2, e3⟩ := nodF_n (N := m_91 234) (n := nn) (w := 50 + w) (a := 0) (b := 0) (r := 0)
                                 unfold Wk
                                 rw [e0, e1, e2, e3]
                                 right; right; left; omega)
                               have hwn := ms91.2.2.2.add (by omega) hwk
                               rw [SaQ, show oneF G 3 i o = (0, i + 1, o + 1, [(G 4 i, 0, 0)]) by unfold oneF; rw [if_neg (by omega), if_neg (by omega), if_neg (by omega), if_neg (by omega), if_neg (by omega), if_neg (by omega)], hm_137]
                               refine ⟨nodW_s.w (by omega) (by omega), ?_, Or.inl ⟨rfl, rfl, ?_, (hr_91.2.nod).w (by decide) (by omega), ⟨?_, ?_, ?_, ?_⟩, fun j hj => ?_, ?_, ?_, CdA.k (by omega)⟩⟩
                               · rw [wr_ni (by decide), nodW_214 (by decide)]; exact ms91.2.1
                               · rw [wr_ni (by decide), nodW_214 (by decide)]
                               · rw [wr_ni (by decide), nodW_214 (by decide)]; exact ms91.1
                               · rw [wr_ni (by decide), nodW_214 (by decide)]; exact ms91.2.1
                               · rw [wr_ni (by decide), nodW_44]; rfl
                               · rw [wr_row (by decide), nodW_234]; exact hwn
                               · rw [wr_na (by decide), nodW_234, nodF_o j hj]
                               · rw [wr_self, e_137]; show nn ≤ nn ∧ nn < nn + 1; omega
                               · rw [wr_self, e_137, wr_row (by decide), nodW_234]
                                 refine Rep.leaf (by omega) (by omega) ?_
                                 rw [if_pos (by omega), show 50 + w + 150 = 200 + w by omega]
                                 rw [show G 4 i = 200 + w by omega]))
                    · refine go_aload_n dX12_readSaid_152 rfl ?_
                      refine go_iload_n dX12_readSaid_153 rfl ?_
                      refine go_callV_z (as := [vi w]) (S := []) (b := 214) (ev_X12_readOf (m := m_91) (w := w) (G := G) (t := t) (kw := kw) (n := n) (lim := lim) (i := (i + 1)) (o := (o + 1)) (wi := 6) (nn := nn) hr_91.2 b91 hdn nm91 ms91 (by omega) (by omega) (by omega) (by rw [hi1]; omega)) rfl dX12_readSaid_154 cv_12_451 rfl rfl ob_214 rfl (by decide) (Nat.le_of_ble_eq_true rfl) (fun r_154 m_154 hr_154 ho_154 => ?_)
                      rw [hi1] at hr_154
                      refine go_goto (tgt := 165) dX12_readSaid_157 (by decide) ?_
                      refine go_istore_n (L' := [vr 214, vi r_3, vi w, vi r_154]) dX12_readSaid_165 (by decide) rfl rfl ?_
                      refine go_drop (j := 1) (L' := [vr 214, un, vi w, vi r_154]) rfl ?_
                      refine go_drop (j := 2) (L' := [vr 214, un, un, vi r_154]) rfl ?_
                      exact cut_166 m_154 r_154 (by first | assumption | rfl | omega) (by
                            first
                            | (rw [show oneF G 3 i o = brkF (G 4) (seqF (G 4) 213 (seqF (G 4) 214 (oneF G 2))) i (o + 1) by unfold oneF; rw [if_neg (by omega), if_neg (by omega), if_neg (by omega), if_pos (by omega)]]; exact hr_101)
                            | (rw [show oneF G 3 i o = notF (oneF G 2) i (o + 1) by unfold oneF; rw [if_neg (by omega), if_neg (by omega), if_pos (by omega)]]; exact hr_115)
                            | (rw [show oneF G 3 i o = namF G i (o + 1) by unfold oneF; rw [if_neg (by omega), if_neg (by omega), if_neg (by omega), if_neg (by omega), if_pos (by omega)]]; exact hr_154)
                            | (rw [show oneF G 3 i o = cmpF G i (o + 1) by unfold oneF; rw [if_neg (by omega), if_neg (by omega), if_neg (by omega), if_neg (by omega), if_neg (by omega), if_pos (by omega)]]; exact hr_162)
                            | (have hwk : Wk (nodF (m_91 234) nn (50 + w) 0 0 0) (G 8 3) nn := (by
                                 obtain ⟨e0, e1, e2, e3⟩ := nodF_n (N := m_91 234) (n := nn) (w := 50 + w) (a := 0) (b := 0) (r := 0)
                                 unfold Wk
                                 rw [e0, e1, e2, e3]
                                 right; right; left; omega)
                               have hwn := ms91.2.2.2.add (by omega) hwk
                               rw [SaQ, show oneF G 3 i o = (0, i + 1, o + 1, [(G 4 i, 0, 0)]) by unfold oneF; rw [if_neg (by omega), if_neg (by omega), if_neg (by omega), if_neg (by omega), if_neg (by omega), if_neg (by omega)], hm_137]
                               refine ⟨nodW_s.w (by omega) (by omega), ?_, Or.inl ⟨rfl, rfl, ?_, (hr_91.2.nod).w (by decide) (by omega), ⟨?_, ?_, ?_, ?_⟩, fun j hj => ?_, ?_, ?_, CdA.k (by omega)⟩⟩
                               · rw [wr_ni (by decide), nodW_214 (by decide)]; exact ms91.2.1
                               · rw [wr_ni (by decide), nodW_214 (by decide)]
                               · rw [wr_ni (by decide), nodW_214 (by decide)]; exact ms91.1
                               · rw [wr_ni (by decide), nodW_214 (by decide)]; exact ms91.2.1
                               · rw [wr_ni (by decide), nodW_44]; rfl
                               · rw [wr_row (by decide), nodW_234]; exact hwn
                               · rw [wr_na (by decide), nodW_234, nodF_o j hj]
                               · rw [wr_self, e_137]; show nn ≤ nn ∧ nn < nn + 1; omega
                               · rw [wr_self, e_137, wr_row (by decide), nodW_234]
                                 refine Rep.leaf (by omega) (by omega) ?_
                                 rw [if_pos (by omega), show 50 + w + 150 = 200 + w by omega]
                                 rw [show G 4 i = 200 + w by omega]))
                  · refine go_aload_n dX12_readSaid_128 rfl ?_
                    refine go_aload_n dX12_readSaid_129 rfl ?_
                    refine go_bipush dX12_readSaid_130 (by decide) ?_
                    refine go_iload_n dX12_readSaid_132 rfl ?_
                    refine go_iadd dX12_readSaid_133 ?_
                    refine go_iconst dX12_readSaid_134 ?_
                    refine go_iconst dX12_readSaid_135 ?_
                    refine go_iconst dX12_readSaid_136 ?_
                    refine go_callV_i (as := [vi (50 + w), vi 0, vi 0, vi 0]) (S := [vr 214]) (b := 214) (ev_X12_saysOne (m := m_91) (w := (50 + w)) (a := 0) (b := 0) (s := 0) (nn := nn) ms91.2.2.1 (by omega) (by first | assumption | omega | exact ⟨by omega, by omega⟩ | (constructor <;> omega)) (by first | assumption | omega | exact ⟨by omega, by omega⟩ | (constructor <;> omega)) (by first | assumption | omega | exact ⟨by omega, by omega⟩ | (constructor <;> omega)) (by first | assumption | omega | exact ⟨by omega, by omega⟩ | (constructor <;> omega))) rfl dX12_readSaid_137 cv_12_433 rfl rfl ob_214 rfl (by decide) (Nat.le_of_ble_eq_true rfl) (fun r_137 m_137 hr_137 ho_137 => ?_)
                    obtain ⟨e_137, hm_137⟩ := hr_137
                    refine go_putf_i (ki := 47) dX12_readSaid_140 fw_12_430 ob_214 rfl rfl ⟨by omega, by omega⟩ ?_
                    refine go_goto (tgt := 166) dX12_readSaid_143 (by decide) ?_
                    refine go_drop (j := 1) (L' := [vr 214, un, vi w, vi 1]) rfl ?_
                    refine go_drop (j := 2) (L' := [vr 214, un, un, vi 1]) rfl ?_
                    exact cut_166 (wr m_137 214 47 r_137) 1 (by first | assumption | rfl | omega) (by
                          first
                          | (rw [show oneF G 3 i o = brkF (G 4) (seqF (G 4) 213 (seqF (G 4) 214 (oneF G 2))) i (o + 1) by unfold oneF; rw [if_neg (by omega), if_neg (by omega), if_neg (by omega), if_pos (by omega)]]; exact hr_101)
                          | (rw [show oneF G 3 i o = notF (oneF G 2) i (o + 1) by unfold oneF; rw [if_neg (by omega), if_neg (by omega), if_pos (by omega)]]; exact hr_115)
                          | (rw [show oneF G 3 i o = namF G i (o + 1) by unfold oneF; rw [if_neg (by omega), if_neg (by omega), if_neg (by omega), if_neg (by omega), if_pos (by omega)]]; exact hr_154)
                          | (rw [show oneF G 3 i o = cmpF G i (o + 1) by unfold oneF; rw [if_neg (by omega), if_neg (by omega), if_neg (by omega), if_neg (by omega), if_neg (by omega), if_pos (by omega)]]; exact hr_162)
                          | (have hwk : Wk (nodF (m_91 234) nn (50 + w) 0 0 0) (G 8 3) nn := (by
                               obtain ⟨e0, e1, e2, e3⟩ := nodF_n (N := m_91 234) (n := nn) (w := 50 + w) (a := 0) (b := 0) (r := 0)
                               unfold Wk
                               rw [e0, e1, e2, e3]
                               right; right; left; omega)
                             have hwn := ms91.2.2.2.add (by omega) hwk
                             rw [SaQ, show oneF G 3 i o = (0, i + 1, o + 1, [(G 4 i, 0, 0)]) by unfold oneF; rw [if_neg (by omega), if_neg (by omega), if_neg (by omega), if_neg (by omega), if_neg (by omega), if_neg (by omega)], hm_137]
                             refine ⟨nodW_s.w (by omega) (by omega), ?_, Or.inl ⟨rfl, rfl, ?_, (hr_91.2.nod).w (by decide) (by omega), ⟨?_, ?_, ?_, ?_⟩, fun j hj => ?_, ?_, ?_, CdA.k (by omega)⟩⟩
                             · rw [wr_ni (by decide), nodW_214 (by decide)]; exact ms91.2.1
                             · rw [wr_ni (by decide), nodW_214 (by decide)]
                             · rw [wr_ni (by decide), nodW_214 (by decide)]; exact ms91.1
                             · rw [wr_ni (by decide), nodW_214 (by decide)]; exact ms91.2.1
                             · rw [wr_ni (by decide), nodW_44]; rfl
                             · rw [wr_row (by decide), nodW_234]; exact hwn
                             · rw [wr_na (by decide), nodW_234, nodF_o j hj]
                             · rw [wr_self, e_137]; show nn ≤ nn ∧ nn < nn + 1; omega
                             · rw [wr_self, e_137, wr_row (by decide), nodW_234]
                               refine Rep.leaf (by omega) (by omega) ?_
                               rw [if_pos (by omega), show 50 + w + 150 = 200 + w by omega]
                               rw [show G 4 i = 200 + w by omega]))
                · refine go_aload_n dX12_readSaid_114 rfl ?_
                  refine go_callV_z (as := []) (S := []) (b := 214) (ev_X12_not3 (m := m_91) (G := G) (t := t) (kw := kw) (n := n) (lim := lim) (i := (i + 1)) (o := (o + 1)) (nn := nn) hr_91.2 b91 hdn nm91 ms91 (by omega) (by omega)) rfl dX12_readSaid_115 cv_12_448 rfl rfl ob_214 rfl (by decide) (Nat.le_of_ble_eq_true rfl) (fun r_115 m_115 hr_115 ho_115 => ?_)
                  rw [hi1] at hr_115
                  refine go_istore_n (L' := [vr 214, vi r_3, vi w, vi r_115]) dX12_readSaid_118 (by decide) rfl rfl ?_
                  refine go_goto (tgt := 166) dX12_readSaid_119 (by decide) ?_
                  refine go_drop (j := 1) (L' := [vr 214, un, vi w, vi r_115]) rfl ?_
                  refine go_drop (j := 2) (L' := [vr 214, un, un, vi r_115]) rfl ?_
                  exact cut_166 m_115 r_115 (by first | assumption | rfl | omega) (by
                        first
                        | (rw [show oneF G 3 i o = brkF (G 4) (seqF (G 4) 213 (seqF (G 4) 214 (oneF G 2))) i (o + 1) by unfold oneF; rw [if_neg (by omega), if_neg (by omega), if_neg (by omega), if_pos (by omega)]]; exact hr_101)
                        | (rw [show oneF G 3 i o = notF (oneF G 2) i (o + 1) by unfold oneF; rw [if_neg (by omega), if_neg (by omega), if_pos (by omega)]]; exact hr_115)
                        | (rw [show oneF G 3 i o = namF G i (o + 1) by unfold oneF; rw [if_neg (by omega), if_neg (by omega), if_neg (by omega), if_neg (by omega), if_pos (by omega)]]; exact hr_154)
                        | (rw [show oneF G 3 i o = cmpF G i (o + 1) by unfold oneF; rw [if_neg (by omega), if_neg (by omega), if_neg (by omega), if_neg (by omega), if_neg (by omega), if_pos (by omega)]]; exact hr_162)
                        | (have hwk : Wk (nodF (m_91 234) nn (50 + w) 0 0 0) (G 8 3) nn := (by
                             obtain ⟨e0, e1, e2, e3⟩ := nodF_n (N := m_91 234) (n := nn) (w := 50 + w) (a := 0) (b := 0) (r := 0)
                             unfold Wk
                             rw [e0, e1, e2, e3]
                             right; right; left; omega)
                           have hwn := ms91.2.2.2.add (by omega) hwk
                           rw [SaQ, show oneF G 3 i o = (0, i + 1, o + 1, [(G 4 i, 0, 0)]) by unfold oneF; rw [if_neg (by omega), if_neg (by omega), if_neg (by omega), if_neg (by omega), if_neg (by omega), if_neg (by omega)], hm_137]
                           refine ⟨nodW_s.w (by omega) (by omega), ?_, Or.inl ⟨rfl, rfl, ?_, (hr_91.2.nod).w (by decide) (by omega), ⟨?_, ?_, ?_, ?_⟩, fun j hj => ?_, ?_, ?_, CdA.k (by omega)⟩⟩
                           · rw [wr_ni (by decide), nodW_214 (by decide)]; exact ms91.2.1
                           · rw [wr_ni (by decide), nodW_214 (by decide)]
                           · rw [wr_ni (by decide), nodW_214 (by decide)]; exact ms91.1
                           · rw [wr_ni (by decide), nodW_214 (by decide)]; exact ms91.2.1
                           · rw [wr_ni (by decide), nodW_44]; rfl
                           · rw [wr_row (by decide), nodW_234]; exact hwn
                           · rw [wr_na (by decide), nodW_234, nodF_o j hj]
                           · rw [wr_self, e_137]; show nn ≤ nn ∧ nn < nn + 1; omega
                           · rw [wr_self, e_137, wr_row (by decide), nodW_234]
                             refine Rep.leaf (by omega) (by omega) ?_
                             rw [if_pos (by omega), show 50 + w + 150 = 200 + w by omega]
                             rw [show G 4 i = 200 + w by omega]))
              · refine go_aload_n dX12_readSaid_100 rfl ?_
                refine go_callV_z (as := []) (S := []) (b := 214) (ev_X12_brk3 (m := m_91) (G := G) (t := t) (kw := kw) (n := n) (lim := lim) (i := (i + 1)) (o := (o + 1)) (nn := nn) hr_91.2 b91 hdn nm91 ms91 (by omega) (by omega)) rfl dX12_readSaid_101 cv_12_445 rfl rfl ob_214 rfl (by decide) (Nat.le_of_ble_eq_true rfl) (fun r_101 m_101 hr_101 ho_101 => ?_)
                rw [hi1] at hr_101
                refine go_istore_n (L' := [vr 214, vi r_3, vi w, vi r_101]) dX12_readSaid_104 (by decide) rfl rfl ?_
                refine go_goto (tgt := 166) dX12_readSaid_105 (by decide) ?_
                refine go_drop (j := 1) (L' := [vr 214, un, vi w, vi r_101]) rfl ?_
                refine go_drop (j := 2) (L' := [vr 214, un, un, vi r_101]) rfl ?_
                exact cut_166 m_101 r_101 (by first | assumption | rfl | omega) (by
                      first
                      | (rw [show oneF G 3 i o = brkF (G 4) (seqF (G 4) 213 (seqF (G 4) 214 (oneF G 2))) i (o + 1) by unfold oneF; rw [if_neg (by omega), if_neg (by omega), if_neg (by omega), if_pos (by omega)]]; exact hr_101)
                      | (rw [show oneF G 3 i o = notF (oneF G 2) i (o + 1) by unfold oneF; rw [if_neg (by omega), if_neg (by omega), if_pos (by omega)]]; exact hr_115)
                      | (rw [show oneF G 3 i o = namF G i (o + 1) by unfold oneF; rw [if_neg (by omega), if_neg (by omega), if_neg (by omega), if_neg (by omega), if_pos (by omega)]]; exact hr_154)
                      | (rw [show oneF G 3 i o = cmpF G i (o + 1) by unfold oneF; rw [if_neg (by omega), if_neg (by omega), if_neg (by omega), if_neg (by omega), if_neg (by omega), if_pos (by omega)]]; exact hr_162)
                      | (have hwk : Wk (nodF (m_91 234) nn (50 + w) 0 0 0) (G 8 3) nn := (by
                           obtain ⟨e0, e1, e2, e3⟩ := nodF_n (N := m_91 234) (n := nn) (w := 50 + w) (a := 0) (b := 0) (r := 0)
                           unfold Wk
                           rw [e0, e1, e2, e3]
                           right; right; left; omega)
                         have hwn := ms91.2.2.2.add (by omega) hwk
                         rw [SaQ, show oneF G 3 i o = (0, i + 1, o + 1, [(G 4 i, 0, 0)]) by unfold oneF; rw [if_neg (by omega), if_neg (by omega), if_neg (by omega), if_neg (by omega), if_neg (by omega), if_neg (by omega)], hm_137]
                         refine ⟨nodW_s.w (by omega) (by omega), ?_, Or.inl ⟨rfl, rfl, ?_, (hr_91.2.nod).w (by decide) (by omega), ⟨?_, ?_, ?_, ?_⟩, fun j hj => ?_, ?_, ?_, CdA.k (by omega)⟩⟩
                         · rw [wr_ni (by decide), nodW_214 (by decide)]; exact ms91.2.1
                         · rw [wr_ni (by decide), nodW_214 (by decide)]
                         · rw [wr_ni (by decide), nodW_214 (by decide)]; exact ms91.1
                         · rw [wr_ni (by decide), nodW_214 (by decide)]; exact ms91.2.1
                         · rw [wr_ni (by decide), nodW_44]; rfl
                         · rw [wr_row (by decide), nodW_234]; exact hwn
                         · rw [wr_na (by decide), nodW_234, nodF_o j hj]
                         · rw [wr_self, e_137]; show nn ≤ nn ∧ nn < nn + 1; omega
                         · rw [wr_self, e_137, wr_row (by decide), nodW_234]
                           refine Rep.leaf (by omega) (by omega) ?_
                           rw [if_pos (by omega), show 50 + w + 150 = 200 + w by omega]
                           rw [show G 4 i = 200 + w by omega]))
            · exfalso; omega
        refine go_if_ne (tgt := 46) dX12_readSaid_31 (by decide) ⟨by omega, by omega⟩ (fun h_31 => ?_) (fun h_31 => ?_)
        · exact cut_46  (by omega)
        · refine go_iload_n dX12_readSaid_34 rfl ?_
          refine go_bipush dX12_readSaid_35 (by decide) ?_
          refine go_icmp_le (tgt := 46) dX12_readSaid_37 (by decide) ⟨by omega, by omega⟩ ⟨by omega, by omega⟩ (fun h_37 => ?_) (fun h_37 => ?_)
          · exact cut_46  (by omega)
          · refine go_aload_n dX12_readSaid_40 rfl ?_
            refine go_iconst dX12_readSaid_41 ?_
            refine go_callV_z (as := [vi 1]) (S := []) (b := 214) (ev_X12_bad (m := m) (k := 1) (G := G) (t := t) (kw := kw) (n := n) (lim := lim) (i := i) htm (by first | assumption | omega | exact ⟨by omega, by omega⟩ | (constructor <;> omega))) rfl dX12_readSaid_42 cv_12_72 rfl rfl ob_214 rfl (by decide) (Nat.le_of_ble_eq_true rfl) (fun r_42 m_42 hr_42 ho_42 => ?_)
            refine go_ret (v := r_42) rfl dX12_readSaid_45 (okZ (by first | exact Or.inl rfl | exact Or.inr rfl | assumption | omega)) ?_
            have hq : oneF G 3 i o = (1, i, o, []) := by unfold oneF; rw [if_pos (by omega)]
            have z := NoT.b (G := G) (m := m) (m' := m_42) (f := 1) (i := i) (by rw [hr_42.2]; congr 2; split <;> rfl)
            rw [SaQ, hq]
            exact ⟨z.1.s, by rw [z.1.2 46 (by omega)]; exact hm2, Or.inr ⟨(show (1 : Int) ≠ 0 by decide), hr_42.1, z.2.1, z.2.2⟩⟩
      refine go_bipush dX12_readSaid_11 (by decide) ?_
      refine go_icmp_gt (tgt := 30) dX12_readSaid_13 (by decide) ⟨by omega, by omega⟩ ⟨by omega, by omega⟩ (fun h_13 => ?_) (fun h_13 => ?_)
      · exact cut_30  (by first | (left; omega) | (right; refine ⟨by omega, fun z => hno (G 4 i - 200) (by omega) (by omega) (by omega)⟩))
      · refine go_aload_n dX12_readSaid_16 rfl ?_
        refine go_iload_n dX12_readSaid_17 rfl ?_
        refine go_callVp_z (as := [vi w]) (S := []) (b := 214) (ev_X12_isWord (m := m) (k := w) (G := G) (t := t) (kw := kw) (n := n) (lim := lim) (i := i) htm (by first | assumption | omega | exact ⟨by omega, by omega⟩ | (constructor <;> omega))) rfl dX12_readSaid_18 cv_12_202 rfl rfl ob_214 rfl (by decide) (Nat.le_of_ble_eq_true rfl) (fun r_18 hr_18 ho_18 => ?_)
        refine go_if_ne (tgt := 30) dX12_readSaid_21 (by decide) ⟨by omega, by omega⟩ (fun h_21 => ?_) (fun h_21 => ?_)
        · exact cut_30  (by first | (left; omega) | (right; refine ⟨by omega, fun z => hno (G 4 i - 200) (by omega) (by omega) (by omega)⟩))
        · refine go_iinc (L' := [vr 214, vi r_3, vi (w + 1), un]) dX12_readSaid_24 rfl (by decide) rfl rfl ?_
          refine go_goto (tgt := 10) dX12_readSaid_27 (by decide) ?_
          exact ih_10 (w + 1) (by first | assumption | omega | rfl) (by first | assumption | omega | rfl) (fun j a b => by by_cases q : j < w; exact hno j a q; (rw [show j = w by omega]; omega)) (by omega)
  exact lp_10 _ 15 (by first | assumption | omega | rfl) (by first | assumption | omega | rfl) (fun j a b => by omega) (Nat.lt_succ_self _)
set_option maxRecDepth 4000 in
theorem ev_X12_all3 {m : Mem} {G : Mem} {t : Int → Int} {kw : Int → Int} {n : Int} {lim : Int} {i : Int} {o : Int} {nn : Int} (htm : TM G t kw n lim m i) (hb : Bg G 8 18 (m 216)) (hdn : DnOk G 8) (hnm : NmR G 8 (m 221)) (hms : MS m (G 8 3) o 5 nn) (ho : 0 ≤ o ∧ o ≤ 20) (hnn : 0 ≤ nn ∧ nn ≤ 2 * o) : Ev 0 27 mX12_readAnd [vr 214] m (fun r m' => SaQ G t kw n lim m m' 5 nn (seqF (G 4) 214 (oneF G 3) i o) r) := by
  refine Ev.of (L := [vr 214, un]) (by decide +kernel) rfl (Nat.le_of_ble_eq_true rfl) rfl (fun t ht => by cases ht; first | exact Or.inl rfl | exact Or.inr (Or.inl rfl) | exact Or.inr (Or.inr rfl)) (fun hcan => ?_)
  obtain ⟨hm1, hm2, hm3, hm4⟩ := id hms
  have hPB : PB (oneF G 3) := (oneF_b G 3)
  refine go_aload_n dX12_readAnd_0 rfl ?_
  refine go_callV_z (as := []) (S := []) (b := 214) (ev_X12_one3 (m := m) (G := G) (t := t) (kw := kw) (n := n) (lim := lim) (i := i) (o := o) (nn := nn) htm hb hdn hnm hms (by first | assumption | omega | exact ⟨by omega, by omega⟩ | (constructor <;> omega)) (by first | assumption | omega | exact ⟨by omega, by omega⟩ | (constructor <;> omega))) rfl dX12_readAnd_1 cv_12_436 rfl rfl ob_214 rfl (by decide) (Nat.le_of_ble_eq_true rfl) (fun r_1 m_1 hr_1 ho_1 => ?_)
  obtain ⟨x_1, w_1, hr_1⟩ := hr_1
  rcases hr_1 with ⟨f_1, e_1, g_1, t_1, s_1, j_1, p_1, r_1e, c_1⟩ | ⟨f_1, e_1, no_1⟩
  · refine go_if_ne (tgt := 9) dX12_readAnd_4 (by decide) ⟨by omega, by omega⟩ (fun h_4 => ?_) (fun h_4 => ?_)
    · have hR1 := hPB i o (by omega) (by omega) f_1
      refine go_aload_n dX12_readAnd_9 rfl ?_
      refine go_getf_i (ki := 47) dX12_readAnd_10 fl_12_430 ob_214 rfl rfl (fun hf_10 => ?_)
      refine go_istore_n (L' := [vr 214, vi (m_1 214 47)]) dX12_readAnd_13 (by decide) rfl rfl ?_
      have lp_14 : ∀ (n_14 : Nat) (m1 : Mem) (av : Int) (a : Rs) (f : Nat), (a.1 = 0) → (Sx m m1) → (m1 214 46 = 5) → (m1 214 10 = m 214 10) → (TM G t kw n lim m1 a.2.1) → (MS m1 (G 8 3) a.2.2.1 5 (nn + (a.2.2.2.length : Int))) → (∀ j : Int, j < 4 * nn → m1 234 j = m 234 j) → (nn ≤ av ∧ av < nn + (a.2.2.2.length : Int)) → (Rep (m1 234) av a.2.2.2) → (CdA (G 8 3) a.2.2.2) → (seqL (G 4) 214 (oneF G 3) f a = seqL (G 4) 214 (oneF G 3) 21 ((oneF G 3) i o)) → ((o + 1 ≤ a.2.2.1 ∧ a.2.2.1 ≤ 20) ∧ (a.2.2.2.length : Int) + 1 ≤ 2 * (a.2.2.1 - o)) → (22 + o ≤ (f : Int) + a.2.2.1) → f < n_14 → Go 0 27 mX12_readAnd (fun r m' => SaQ G t kw n lim m m' 5 nn (seqF (G 4) 214 (oneF G 3) i o) r) 14 [vr 214, vi av] [] m1 := by
        intro n_14
        induction n_14 with
        | zero => intro m1 av a f ha0 hsx hw46 hg10 htm1 hms1 hfr hav hrp hcd hsl hab hfu hmu; exact absurd hmu (Nat.not_lt_zero _)
        | succ n_14 ih_14 =>
          intro m1 av a f ha0 hsx hw46 hg10 htm1 hms1 hfr hav hrp hcd hsl hab hfu hmu
          obtain ⟨hab1, hab2⟩ := hab
          have hsu : seqL (G 4) 214 (oneF G 3) f a = if G 4 a.2.1 = 214 then (if ((oneF G 3) (a.2.1 + 1) a.2.2.1).1 ≠ 0 then ((oneF G 3) (a.2.1 + 1) a.2.2.1) else seqL (G 4) 214 (oneF G 3) (f - 1) (0, ((oneF G 3) (a.2.1 + 1) a.2.2.1).2.1, ((oneF G 3) (a.2.1 + 1) a.2.2.1).2.2.1, a.2.2.2 ++ ((oneF G 3) (a.2.1 + 1) a.2.2.1).2.2.2 ++ [(214, 0, 0)])) else a := by
            obtain ⟨g, rfl⟩ : ∃ g, f = g + 1 := ⟨f - 1, by omega⟩
            rfl
          have hPB2 := hPB (a.2.1 + 1) a.2.2.1 (by omega) (by omega)
          refine go_aload_n dX12_readAnd_14 rfl ?_
          refine go_bipush dX12_readAnd_15 (by decide) ?_
          refine go_callVp_z (as := [vi 14]) (S := []) (b := 214) (ev_X12_isWord (m := m1) (k := 14) (G := G) (t := t) (kw := kw) (n := n) (lim := lim) (i := a.2.1) htm1 (by first | assumption | omega | exact ⟨by omega, by omega⟩ | (constructor <;> omega))) rfl dX12_readAnd_17 cv_12_202 rfl rfl ob_214 rfl (by decide) (Nat.le_of_ble_eq_true rfl) (fun r_17 hr_17 ho_17 => ?_)
          refine go_if_eq (tgt := 51) dX12_readAnd_20 (by decide) ⟨by omega, by omega⟩ (fun h_20 => ?_) (fun h_20 => ?_)
          · refine go_aload_n dX12_readAnd_51 rfl ?_
            refine go_iload_n dX12_readAnd_52 rfl ?_
            refine go_putf_i (ki := 47) dX12_readAnd_53 fw_12_430 ob_214 rfl rfl ⟨by omega, by omega⟩ ?_
            refine go_iconst dX12_readAnd_56 ?_
            refine go_ret (v := 1) rfl dX12_readAnd_57 (okZ (by first | exact Or.inl rfl | exact Or.inr rfl | assumption | omega)) ?_
            have hq : seqF (G 4) 214 (oneF G 3) i o = a := by rw [seqF_e (G 4) 214, if_neg (fun z => z f_1), ← hsl, hsu, if_neg (by omega)]
            rw [SaQ, hq]
            refine ⟨hsx.w (by omega) (by omega), by rw [wr_ni (by decide)]; exact hw46, Or.inl ⟨ha0, rfl, by rw [wr_ni (by decide)]; exact hg10, htm1.w (by decide) (by omega), ⟨by rw [wr_ni (by decide)]; exact hms1.1, by rw [wr_ni (by decide)]; exact hms1.2.1, by rw [wr_ni (by decide)]; exact hms1.2.2.1, by rw [wr_row (by decide)]; exact hms1.2.2.2⟩, fun j hj => by rw [wr_na (by decide)]; exact hfr j hj, by rw [wr_self]; exact hav, by rw [wr_self, wr_row (by decide)]; exact hrp, hcd⟩⟩
          · refine go_aload_n dX12_readAnd_23 rfl ?_
            refine go_callV_v (as := []) (S := []) (b := 214) (ev_X12_go (m := m1) (G := G) (t := t) (kw := kw) (n := n) (lim := lim) (i := (a.2.1 + 1)) (htm1.nx (by omega))) rfl dX12_readAnd_24 cv_12_82 rfl rfl ob_214 rfl (by decide) (Nat.le_of_ble_eq_true rfl) (fun m_24 hr_24 => ?_)
            have l24 := hr_24.1.l
            refine go_aload_n dX12_readAnd_27 rfl ?_
            refine go_callV_z (as := []) (S := []) (b := 214) (ev_X12_one3 (m := m_24) (G := G) (t := t) (kw := kw) (n := n) (lim := lim) (i := (a.2.1 + 1)) (o := a.2.2.1) (nn := (nn + (a.2.2.2.length : Int))) hr_24.2 (by rw [(hsx.tr l24.s).1 216 (by decide) (by decide)]; exact hb) hdn (by rw [(hsx.tr l24.s).1 221 (by decide) (by decide)]; exact hnm) (hms1.l l24) (by omega) (by omega)) rfl dX12_readAnd_28 cv_12_436 rfl rfl ob_214 rfl (by decide) (Nat.le_of_ble_eq_true rfl) (fun r_28 m_28 hr_28 ho_28 => ?_)
            obtain ⟨Q, hQe⟩ : ∃ z, z = ((oneF G 3) (a.2.1 + 1) a.2.2.1) := ⟨_, rfl⟩
            rw [← hQe] at hr_28
            obtain ⟨x_28, w_28, hr_28⟩ := hr_28
            rcases hr_28 with ⟨f_28, e_28, g_28, t_28, s_28, j_28, p_28, r_28e, c_28⟩ | ⟨f_28, e_28, no_28⟩
            · refine go_if_ne (tgt := 36) dX12_readAnd_31 (by decide) ⟨by omega, by omega⟩ (fun h_31 => ?_) (fun h_31 => ?_)
              · rw [← hQe] at hPB2
                have hQ2 := hPB2 f_28
                have hln : ((a.2.2.2 ++ Q.2.2.2 ++ [((214 : Int), (0 : Int), (0 : Int))]).length : Int) = a.2.2.2.length + Q.2.2.2.length + 1 := by rw [List.length_append, List.length_append]; rfl
                have hw2 : Wf (m_24 234) (G 8 3) (nn + (a.2.2.2.length : Int)) := by rw [l24.1 234 (by decide)]; exact hms1.2.2.2
                have hrp2 : Rep (m_28 234) av a.2.2.2 := by
                  have z : Rep (m_24 234) av a.2.2.2 := by rw [l24.1 234 (by decide)]; exact hrp
                  exact z.c j_28 hw2 (by omega) (by omega)
                have hwk : Wk (nodF (m_28 234) (nn + (a.2.2.2.length : Int) + (Q.2.2.2.length : Int)) 2 av (m_28 214 47) 0) (G 8 3) (nn + (a.2.2.2.length : Int) + (Q.2.2.2.length : Int)) := by
                  obtain ⟨e0, e1, e2, e3⟩ := nodF_n (N := m_28 234) (n := nn + (a.2.2.2.length : Int) + (Q.2.2.2.length : Int)) (w := 2) (a := av) (b := m_28 214 47) (r := 0)
                  unfold Wk
                  rw [e0, e1, e2, e3]
                  right; left; omega
                have hwn := s_28.2.2.2.add (by omega) hwk
                have hrb := hrp2.bin r_28e s_28.2.2.2 (by omega) (by omega) (by omega) (by omega) (by omega) hwn
                refine go_aload_n dX12_readAnd_36 rfl ?_
                refine go_iconst dX12_readAnd_37 ?_
                refine go_iload_n dX12_readAnd_38 rfl ?_
                refine go_aload_n dX12_readAnd_39 rfl ?_
                refine go_getf_i (ki := 47) dX12_readAnd_40 fl_12_430 ob_214 rfl rfl (fun hf_40 => ?_)
                refine go_iconst dX12_readAnd_43 ?_
                refine go_callV_i (as := [vi 2, vi av, vi (m_28 214 47), vi 0]) (S := []) (b := 214) (ev_X12_saysOne (m := m_28) (w := 2) (a := av) (b := (m_28 214 47)) (s := 0) (nn := (nn + (a.2.2.2.length : Int) + (Q.2.2.2.length : Int))) s_28.2.2.1 (by omega) (by first | assumption | omega | exact ⟨by omega, by omega⟩ | (constructor <;> omega)) (by first | assumption | omega | exact ⟨by omega, by omega⟩ | (constructor <;> omega)) hf_40 (by first | assumption | omega | exact ⟨by omega, by omega⟩ | (constructor <;> omega))) rfl dX12_readAnd_44 cv_12_433 rfl rfl ob_214 rfl (by decide) (Nat.le_of_ble_eq_true rfl) (fun r_44 m_44 hr_44 ho_44 => ?_)
                obtain ⟨e_44, hm_44⟩ := hr_44
                refine go_istore_n (L' := [vr 214, vi r_44]) dX12_readAnd_47 (by decide) rfl rfl ?_
                refine go_goto (tgt := 14) dX12_readAnd_48 (by decide) ?_
                exact ih_14 m_44 r_44 (0, ((oneF G 3) (a.2.1 + 1) a.2.2.1).2.1, ((oneF G 3) (a.2.1 + 1) a.2.2.1).2.2.1, a.2.2.2 ++ ((oneF G 3) (a.2.1 + 1) a.2.2.1).2.2.2 ++ [(214, 0, 0)]) (f - 1) rfl (by rw [hm_44]; exact ((hsx.tr l24.s).tr x_28).tr nodW_s) (by rw [hm_44, nodW_214 (by decide)]; exact w_28) (by rw [hm_44, nodW_214 (by decide), g_28, hr_24.1.2 10 (by decide) (by decide) (by decide) (by decide) (by decide) (by decide)]; exact hg10) (by rw [hm_44]; show TM G t kw n lim _ ((oneF G 3) (a.2.1 + 1) a.2.2.1).2.1; rw [← hQe]; exact t_28.nod) (by show MS m_44 (G 8 3) ((oneF G 3) (a.2.1 + 1) a.2.2.1).2.2.1 5 (nn + ((a.2.2.2 ++ ((oneF G 3) (a.2.1 + 1) a.2.2.1).2.2.2 ++ [((214 : Int), (0 : Int), (0 : Int))]).length : Int)); rw [← hQe, hln, hm_44]; refine ⟨by rw [nodW_214 (by decide)]; exact s_28.1, by rw [nodW_214 (by decide)]; exact s_28.2.1, by rw [nodW_44]; omega, ?_⟩; rw [nodW_234, show nn + ((a.2.2.2.length : Int) + Q.2.2.2.length + 1) = nn + (a.2.2.2.length : Int) + (Q.2.2.2.length : Int) + 1 by omega]; exact hwn) (fun j hj => by rw [hm_44, nodW_234, nodF_o j (by omega), j_28 j (by omega), l24.1 234 (by decide)]; exact hfr j hj) (by show nn ≤ r_44 ∧ r_44 < nn + ((a.2.2.2 ++ ((oneF G 3) (a.2.1 + 1) a.2.2.1).2.2.2 ++ [((214 : Int), (0 : Int), (0 : Int))]).length : Int); rw [← hQe, hln]; omega) (by show Rep _ _ (a.2.2.2 ++ ((oneF G 3) (a.2.1 + 1) a.2.2.1).2.2.2 ++ [((214 : Int), (0 : Int), (0 : Int))]); rw [← hQe, hm_44, nodW_234, e_44]; exact hrb) (by show CdA _ (a.2.2.2 ++ ((oneF G 3) (a.2.1 + 1) a.2.2.1).2.2.2 ++ [((214 : Int), (0 : Int), (0 : Int))]); rw [← hQe]; exact (hcd.app c_28).app (CdA.k (by decide))) (by rw [← hsl, hsu, if_pos (by omega), ← hQe, if_neg (fun z => z f_28)]) (by show (o + 1 ≤ ((oneF G 3) (a.2.1 + 1) a.2.2.1).2.2.1 ∧ ((oneF G 3) (a.2.1 + 1) a.2.2.1).2.2.1 ≤ 20) ∧ ((a.2.2.2 ++ ((oneF G 3) (a.2.1 + 1) a.2.2.1).2.2.2 ++ [((214 : Int), (0 : Int), (0 : Int))]).length : Int) + 1 ≤ 2 * (((oneF G 3) (a.2.1 + 1) a.2.2.1).2.2.1 - o); rw [← hQe, hln]; omega) (by show 22 + o ≤ ((f - 1 : Nat) : Int) + ((oneF G 3) (a.2.1 + 1) a.2.2.1).2.2.1; rw [← hQe]; omega) (by omega)
              · exfalso; omega
            · refine go_if_ne (tgt := 36) dX12_readAnd_31 (by decide) ⟨by omega, by omega⟩ (fun h_31 => ?_) (fun h_31 => ?_)
              · exfalso; omega
              · refine go_iconst dX12_readAnd_34 ?_
                refine go_ret (v := 0) rfl dX12_readAnd_35 (okZ (by first | exact Or.inl rfl | exact Or.inr rfl | assumption | omega)) ?_
                have hq : seqF (G 4) 214 (oneF G 3) i o = Q := by rw [seqF_e (G 4) 214, if_neg (fun z => z f_1), ← hsl, hsu, if_pos (by omega), ← hQe, if_pos f_28]
                rw [SaQ, hq]
                exact ⟨(hsx.tr l24.s).tr x_28, w_28, Or.inr ⟨f_28, rfl, no_28⟩⟩
      exact lp_14 _ m_1 (m_1 214 47) ((oneF G 3) i o) 21 f_1 x_1 w_1 g_1 t_1 s_1 j_1 p_1 r_1e c_1 rfl ⟨⟨hR1.1, hR1.2.1⟩, hR1.2.2⟩ (by have := hR1.1; omega) (Nat.lt_succ_self _)
    · exfalso; omega
  · refine go_if_ne (tgt := 9) dX12_readAnd_4 (by decide) ⟨by omega, by omega⟩ (fun h_4 => ?_) (fun h_4 => ?_)
    · exfalso; omega
    · refine go_iconst dX12_readAnd_7 ?_
      refine go_ret (v := 0) rfl dX12_readAnd_8 (okZ (by first | exact Or.inl rfl | exact Or.inr rfl | assumption | omega)) ?_
      rw [SaQ, seqF_e (G 4) 214, if_pos f_1]
      exact ⟨x_1, w_1, Or.inr ⟨f_1, rfl, no_1⟩⟩
set_option maxRecDepth 4000 in
theorem ev_X12_con3 {m : Mem} {G : Mem} {t : Int → Int} {kw : Int → Int} {n : Int} {lim : Int} {i : Int} {o : Int} {nn : Int} (htm : TM G t kw n lim m i) (hb : Bg G 8 18 (m 216)) (hdn : DnOk G 8) (hnm : NmR G 8 (m 221)) (hms : MS m (G 8 3) o 5 nn) (ho : 0 ≤ o ∧ o ≤ 20) (hnn : 0 ≤ nn ∧ nn ≤ 2 * o) : Ev 0 28 mX12_readOr [vr 214] m (fun r m' => SaQ G t kw n lim m m' 5 nn (seqF (G 4) 213 (seqF (G 4) 214 (oneF G 3)) i o) r) := by
  refine Ev.of (L := [vr 214, un]) (by decide +kernel) rfl (Nat.le_of_ble_eq_true rfl) rfl (fun t ht => by cases ht; first | exact Or.inl rfl | exact Or.inr (Or.inl rfl) | exact Or.inr (Or.inr rfl)) (fun hcan => ?_)
  obtain ⟨hm1, hm2, hm3, hm4⟩ := id hms
  have hPB : PB (seqF (G 4) 214 (oneF G 3)) := (seqF_b (oneF_b G 3))
  refine go_aload_n dX12_readOr_0 rfl ?_
  refine go_callV_z (as := []) (S := []) (b := 214) (ev_X12_all3 (m := m) (G := G) (t := t) (kw := kw) (n := n) (lim := lim) (i := i) (o := o) (nn := nn) htm hb hdn hnm hms (by first | assumption | omega | exact ⟨by omega, by omega⟩ | (constructor <;> omega)) (by first | assumption | omega | exact ⟨by omega, by omega⟩ | (constructor <;> omega))) rfl dX12_readOr_1 cv_12_427 rfl rfl ob_214 rfl (by decide) (Nat.le_of_ble_eq_true rfl) (fun r_1 m_1 hr_1 ho_1 => ?_)
  obtain ⟨x_1, w_1, hr_1⟩ := hr_1
  rcases hr_1 with ⟨f_1, e_1, g_1, t_1, s_1, j_1, p_1, r_1e, c_1⟩ | ⟨f_1, e_1, no_1⟩
  · refine go_if_ne (tgt := 9) dX12_readOr_4 (by decide) ⟨by omega, by omega⟩ (fun h_4 => ?_) (fun h_4 => ?_)
    · have hR1 := hPB i o (by omega) (by omega) f_1
      refine go_aload_n dX12_readOr_9 rfl ?_
      refine go_getf_i (ki := 47) dX12_readOr_10 fl_12_430 ob_214 rfl rfl (fun hf_10 => ?_)
      refine go_istore_n (L' := [vr 214, vi (m_1 214 47)]) dX12_readOr_13 (by decide) rfl rfl ?_
      have lp_14 : ∀ (n_14 : Nat) (m1 : Mem) (av : Int) (a : Rs) (f : Nat), (a.1 = 0) → (Sx m m1) → (m1 214 46 = 5) → (m1 214 10 = m 214 10) → (TM G t kw n lim m1 a.2.1) → (MS m1 (G 8 3) a.2.2.1 5 (nn + (a.2.2.2.length : Int))) → (∀ j : Int, j < 4 * nn → m1 234 j = m 234 j) → (nn ≤ av ∧ av < nn + (a.2.2.2.length : Int)) → (Rep (m1 234) av a.2.2.2) → (CdA (G 8 3) a.2.2.2) → (seqL (G 4) 213 (seqF (G 4) 214 (oneF G 3)) f a = seqL (G 4) 213 (seqF (G 4) 214 (oneF G 3)) 21 ((seqF (G 4) 214 (oneF G 3)) i o)) → ((o + 1 ≤ a.2.2.1 ∧ a.2.2.1 ≤ 20) ∧ (a.2.2.2.length : Int) + 1 ≤ 2 * (a.2.2.1 - o)) → (22 + o ≤ (f : Int) + a.2.2.1) → f < n_14 → Go 0 28 mX12_readOr (fun r m' => SaQ G t kw n lim m m' 5 nn (seqF (G 4) 213 (seqF (G 4) 214 (oneF G 3)) i o) r) 14 [vr 214, vi av] [] m1 := by
        intro n_14
        induction n_14 with
        | zero => intro m1 av a f ha0 hsx hw46 hg10 htm1 hms1 hfr hav hrp hcd hsl hab hfu hmu; exact absurd hmu (Nat.not_lt_zero _)
        | succ n_14 ih_14 =>
          intro m1 av a f ha0 hsx hw46 hg10 htm1 hms1 hfr hav hrp hcd hsl hab hfu hmu
          obtain ⟨hab1, hab2⟩ := hab
          have hsu : seqL (G 4) 213 (seqF (G 4) 214 (oneF G 3)) f a = if G 4 a.2.1 = 213 then (if ((seqF (G 4) 214 (oneF G 3)) (a.2.1 + 1) a.2.2.1).1 ≠ 0 then ((seqF (G 4) 214 (oneF G 3)) (a.2.1 + 1) a.2.2.1) else seqL (G 4) 213 (seqF (G 4) 214 (oneF G 3)) (f - 1) (0, ((seqF (G 4) 214 (oneF G 3)) (a.2.1 + 1) a.2.2.1).2.1, ((seqF (G 4) 214 (oneF G 3)) (a.2.1 + 1) a.2.2.1).2.2.1, a.2.2.2 ++ ((seqF (G 4) 214 (oneF G 3)) (a.2.1 + 1) a.2.2.1).2.2.2 ++ [(213, 0, 0)])) else a := by
            obtain ⟨g, rfl⟩ : ∃ g, f = g + 1 := ⟨f - 1, by omega⟩
            rfl
          have hPB2 := hPB (a.2.1 + 1) a.2.2.1 (by omega) (by omega)
          refine go_aload_n dX12_readOr_14 rfl ?_
          refine go_bipush dX12_readOr_15 (by decide) ?_
          refine go_callVp_z (as := [vi 13]) (S := []) (b := 214) (ev_X12_isWord (m := m1) (k := 13) (G := G) (t := t) (kw := kw) (n := n) (lim := lim) (i := a.2.1) htm1 (by first | assumption | omega | exact ⟨by omega, by omega⟩ | (constructor <;> omega))) rfl dX12_readOr_17 cv_12_202 rfl rfl ob_214 rfl (by decide) (Nat.le_of_ble_eq_true rfl) (fun r_17 hr_17 ho_17 => ?_)
          refine go_if_eq (tgt := 51) dX12_readOr_20 (by decide) ⟨by omega, by omega⟩ (fun h_20 => ?_) (fun h_20 => ?_)
          · refine go_aload_n dX12_readOr_51 rfl ?_
            refine go_iload_n dX12_readOr_52 rfl ?_
            refine go_putf_i (ki := 47) dX12_readOr_53 fw_12_430 ob_214 rfl rfl ⟨by omega, by omega⟩ ?_
            refine go_iconst dX12_readOr_56 ?_
            refine go_ret (v := 1) rfl dX12_readOr_57 (okZ (by first | exact Or.inl rfl | exact Or.inr rfl | assumption | omega)) ?_
            have hq : seqF (G 4) 213 (seqF (G 4) 214 (oneF G 3)) i o = a := by rw [seqF_e (G 4) 213, if_neg (fun z => z f_1), ← hsl, hsu, if_neg (by omega)]
            rw [SaQ, hq]
            refine ⟨hsx.w (by omega) (by omega), by rw [wr_ni (by decide)]; exact hw46, Or.inl ⟨ha0, rfl, by rw [wr_ni (by decide)]; exact hg10, htm1.w (by decide) (by omega), ⟨by rw [wr_ni (by decide)]; exact hms1.1, by rw [wr_ni (by decide)]; exact hms1.2.1, by rw [wr_ni (by decide)]; exact hms1.2.2.1, by rw [wr_row (by decide)]; exact hms1.2.2.2⟩, fun j hj => by rw [wr_na (by decide)]; exact hfr j hj, by rw [wr_self]; exact hav, by rw [wr_self, wr_row (by decide)]; exact hrp, hcd⟩⟩
          · refine go_aload_n dX12_readOr_23 rfl ?_
            refine go_callV_v (as := []) (S := []) (b := 214) (ev_X12_go (m := m1) (G := G) (t := t) (kw := kw) (n := n) (lim := lim) (i := (a.2.1 + 1)) (htm1.nx (by omega))) rfl dX12_readOr_24 cv_12_82 rfl rfl ob_214 rfl (by decide) (Nat.le_of_ble_eq_true rfl) (fun m_24 hr_24 => ?_)
            have l24 := hr_24.1.l
            refine go_aload_n dX12_readOr_27 rfl ?_
            refine go_callV_z (as := []) (S := []) (b := 214) (ev_X12_all3 (m := m_24) (G := G) (t := t) (kw := kw) (n := n) (lim := lim) (i := (a.2.1 + 1)) (o := a.2.2.1) (nn := (nn + (a.2.2.2.length : Int))) hr_24.2 (by rw [(hsx.tr l24.s).1 216 (by decide) (by decide)]; exact hb) hdn (by rw [(hsx.tr l24.s).1 221 (by decide) (by decide)]; exact hnm) (hms1.l l24) (by omega) (by omega)) rfl dX12_readOr_28 cv_12_427 rfl rfl ob_214 rfl (by decide) (Nat.le_of_ble_eq_true rfl) (fun r_28 m_28 hr_28 ho_28 => ?_)
            obtain ⟨Q, hQe⟩ : ∃ z, z = ((seqF (G 4) 214 (oneF G 3)) (a.2.1 + 1) a.2.2.1) := ⟨_, rfl⟩
            rw [← hQe] at hr_28
            obtain ⟨x_28, w_28, hr_28⟩ := hr_28
            rcases hr_28 with ⟨f_28, e_28, g_28, t_28, s_28, j_28, p_28, r_28e, c_28⟩ | ⟨f_28, e_28, no_28⟩
            · refine go_if_ne (tgt := 36) dX12_readOr_31 (by decide) ⟨by omega, by omega⟩ (fun h_31 => ?_) (fun h_31 => ?_)
              · rw [← hQe] at hPB2
                have hQ2 := hPB2 f_28
                have hln : ((a.2.2.2 ++ Q.2.2.2 ++ [((213 : Int), (0 : Int), (0 : Int))]).length : Int) = a.2.2.2.length + Q.2.2.2.length + 1 := by rw [List.length_append, List.length_append]; rfl
                have hw2 : Wf (m_24 234) (G 8 3) (nn + (a.2.2.2.length : Int)) := by rw [l24.1 234 (by decide)]; exact hms1.2.2.2
                have hrp2 : Rep (m_28 234) av a.2.2.2 := by
                  have z : Rep (m_24 234) av a.2.2.2 := by rw [l24.1 234 (by decide)]; exact hrp
                  exact z.c j_28 hw2 (by omega) (by omega)
                have hwk : Wk (nodF (m_28 234) (nn + (a.2.2.2.length : Int) + (Q.2.2.2.length : Int)) 3 av (m_28 214 47) 0) (G 8 3) (nn + (a.2.2.2.length : Int) + (Q.2.2.2.length : Int)) := by
                  obtain ⟨e0, e1, e2, e3⟩ := nodF_n (N := m_28 234) (n := nn + (a.2.2.2.length : Int) + (Q.2.2.2.length : Int)) (w := 3) (a := av) (b := m_28 214 47) (r := 0)
                  unfold Wk
                  rw [e0, e1, e2, e3]
                  right; left; omega
                have hwn := s_28.2.2.2.add (by omega) hwk
                have hrb := hrp2.bin r_28e s_28.2.2.2 (by omega) (by omega) (by omega) (by omega) (by omega) hwn
                refine go_aload_n dX12_readOr_36 rfl ?_
                refine go_iconst dX12_readOr_37 ?_
                refine go_iload_n dX12_readOr_38 rfl ?_
                refine go_aload_n dX12_readOr_39 rfl ?_
                refine go_getf_i (ki := 47) dX12_readOr_40 fl_12_430 ob_214 rfl rfl (fun hf_40 => ?_)
                refine go_iconst dX12_readOr_43 ?_
                refine go_callV_i (as := [vi 3, vi av, vi (m_28 214 47), vi 0]) (S := []) (b := 214) (ev_X12_saysOne (m := m_28) (w := 3) (a := av) (b := (m_28 214 47)) (s := 0) (nn := (nn + (a.2.2.2.length : Int) + (Q.2.2.2.length : Int))) s_28.2.2.1 (by omega) (by first | assumption | omega | exact ⟨by omega, by omega⟩ | (constructor <;> omega)) (by first | assumption | omega | exact ⟨by omega, by omega⟩ | (constructor <;> omega)) hf_40 (by first | assumption | omega | exact ⟨by omega, by omega⟩ | (constructor <;> omega))) rfl dX12_readOr_44 cv_12_433 rfl rfl ob_214 rfl (by decide) (Nat.le_of_ble_eq_true rfl) (fun r_44 m_44 hr_44 ho_44 => ?_)
                obtain ⟨e_44, hm_44⟩ := hr_44
                refine go_istore_n (L' := [vr 214, vi r_44]) dX12_readOr_47 (by decide) rfl rfl ?_
                refine go_goto (tgt := 14) dX12_readOr_48 (by decide) ?_
                exact ih_14 m_44 r_44 (0, ((seqF (G 4) 214 (oneF G 3)) (a.2.1 + 1) a.2.2.1).2.1, ((seqF (G 4) 214 (oneF G 3)) (a.2.1 + 1) a.2.2.1).2.2.1, a.2.2.2 ++ ((seqF (G 4) 214 (oneF G 3)) (a.2.1 + 1) a.2.2.1).2.2.2 ++ [(213, 0, 0)]) (f - 1) rfl (by rw [hm_44]; exact ((hsx.tr l24.s).tr x_28).tr nodW_s) (by rw [hm_44, nodW_214 (by decide)]; exact w_28) (by rw [hm_44, nodW_214 (by decide), g_28, hr_24.1.2 10 (by decide) (by decide) (by decide) (by decide) (by decide) (by decide)]; exact hg10) (by rw [hm_44]; show TM G t kw n lim _ ((seqF (G 4) 214 (oneF G 3)) (a.2.1 + 1) a.2.2.1).2.1; rw [← hQe]; exact t_28.nod) (by show MS m_44 (G 8 3) ((seqF (G 4) 214 (oneF G 3)) (a.2.1 + 1) a.2.2.1).2.2.1 5 (nn + ((a.2.2.2 ++ ((seqF (G 4) 214 (oneF G 3)) (a.2.1 + 1) a.2.2.1).2.2.2 ++ [((213 : Int), (0 : Int), (0 : Int))]).length : Int)); rw [← hQe, hln, hm_44]; refine ⟨by rw [nodW_214 (by decide)]; exact s_28.1, by rw [nodW_214 (by decide)]; exact s_28.2.1, by rw [nodW_44]; omega, ?_⟩; rw [nodW_234, show nn + ((a.2.2.2.length : Int) + Q.2.2.2.length + 1) = nn + (a.2.2.2.length : Int) + (Q.2.2.2.length : Int) + 1 by omega]; exact hwn) (fun j hj => by rw [hm_44, nodW_234, nodF_o j (by omega), j_28 j (by omega), l24.1 234 (by decide)]; exact hfr j hj) (by show nn ≤ r_44 ∧ r_44 < nn + ((a.2.2.2 ++ ((seqF (G 4) 214 (oneF G 3)) (a.2.1 + 1) a.2.2.1).2.2.2 ++ [((213 : Int), (0 : Int), (0 : Int))]).length : Int); rw [← hQe, hln]; omega) (by show Rep _ _ (a.2.2.2 ++ ((seqF (G 4) 214 (oneF G 3)) (a.2.1 + 1) a.2.2.1).2.2.2 ++ [((213 : Int), (0 : Int), (0 : Int))]); rw [← hQe, hm_44, nodW_234, e_44]; exact hrb) (by show CdA _ (a.2.2.2 ++ ((seqF (G 4) 214 (oneF G 3)) (a.2.1 + 1) a.2.2.1).2.2.2 ++ [((213 : Int), (0 : Int), (0 : Int))]); rw [← hQe]; exact (hcd.app c_28).app (CdA.k (by decide))) (by rw [← hsl, hsu, if_pos (by omega), ← hQe, if_neg (fun z => z f_28)]) (by show (o + 1 ≤ ((seqF (G 4) 214 (oneF G 3)) (a.2.1 + 1) a.2.2.1).2.2.1 ∧ ((seqF (G 4) 214 (oneF G 3)) (a.2.1 + 1) a.2.2.1).2.2.1 ≤ 20) ∧ ((a.2.2.2 ++ ((seqF (G 4) 214 (oneF G 3)) (a.2.1 + 1) a.2.2.1).2.2.2 ++ [((213 : Int), (0 : Int), (0 : Int))]).length : Int) + 1 ≤ 2 * (((seqF (G 4) 214 (oneF G 3)) (a.2.1 + 1) a.2.2.1).2.2.1 - o); rw [← hQe, hln]; omega) (by show 22 + o ≤ ((f - 1 : Nat) : Int) + ((seqF (G 4) 214 (oneF G 3)) (a.2.1 + 1) a.2.2.1).2.2.1; rw [← hQe]; omega) (by omega)
              · exfalso; omega
            · refine go_if_ne (tgt := 36) dX12_readOr_31 (by decide) ⟨by omega, by omega⟩ (fun h_31 => ?_) (fun h_31 => ?_)
              · exfalso; omega
              · refine go_iconst dX12_readOr_34 ?_
                refine go_ret (v := 0) rfl dX12_readOr_35 (okZ (by first | exact Or.inl rfl | exact Or.inr rfl | assumption | omega)) ?_
                have hq : seqF (G 4) 213 (seqF (G 4) 214 (oneF G 3)) i o = Q := by rw [seqF_e (G 4) 213, if_neg (fun z => z f_1), ← hsl, hsu, if_pos (by omega), ← hQe, if_pos f_28]
                rw [SaQ, hq]
                exact ⟨(hsx.tr l24.s).tr x_28, w_28, Or.inr ⟨f_28, rfl, no_28⟩⟩
      exact lp_14 _ m_1 (m_1 214 47) ((seqF (G 4) 214 (oneF G 3)) i o) 21 f_1 x_1 w_1 g_1 t_1 s_1 j_1 p_1 r_1e c_1 rfl ⟨⟨hR1.1, hR1.2.1⟩, hR1.2.2⟩ (by have := hR1.1; omega) (Nat.lt_succ_self _)
    · exfalso; omega
  · refine go_if_ne (tgt := 9) dX12_readOr_4 (by decide) ⟨by omega, by omega⟩ (fun h_4 => ?_) (fun h_4 => ?_)
    · exfalso; omega
    · refine go_iconst dX12_readOr_7 ?_
      refine go_ret (v := 0) rfl dX12_readOr_8 (okZ (by first | exact Or.inl rfl | exact Or.inr rfl | assumption | omega)) ?_
      rw [SaQ, seqF_e (G 4) 213, if_pos f_1]
      exact ⟨x_1, w_1, Or.inr ⟨f_1, rfl, no_1⟩⟩
set_option maxRecDepth 4000 in
theorem ev_X12_not4 {m : Mem} {G : Mem} {t : Int → Int} {kw : Int → Int} {n : Int} {lim : Int} {i : Int} {o : Int} {nn : Int} (htm : TM G t kw n lim m i) (hb : Bg G 8 18 (m 216)) (hdn : DnOk G 8) (hnm : NmR G 8 (m 221)) (hms : MS m (G 8 3) o 5 nn) (ho : 1 ≤ o ∧ o ≤ 20) (hnn : 0 ≤ nn ∧ nn + 2 ≤ 2 * o) : Ev 0 28 mX12_readNot [vr 214] m (fun r m' => SaQ G t kw n lim m m' 5 nn (notF (oneF G 3) (i - 1) o) r) := by
  refine Ev.of (L := [vr 214]) (by decide +kernel) rfl (Nat.le_of_ble_eq_true rfl) rfl (fun t ht => by cases ht; first | exact Or.inl rfl | exact Or.inr (Or.inl rfl) | exact Or.inr (Or.inr rfl)) (fun hcan => ?_)
  obtain ⟨hm1, hm2, hm3, hm4⟩ := id hms
  have hni : i - 1 + 1 = i := by omega
  have hR : RB o ((oneF G 3) i o) := oneF_b G 3 i o (by omega) (by omega)
  refine go_aload_n dX12_readNot_0 rfl ?_
  refine go_callV_z (as := []) (S := []) (b := 214) (ev_X12_one3 (m := m) (G := G) (t := t) (kw := kw) (n := n) (lim := lim) (i := i) (o := o) (nn := nn) htm hb hdn hnm hms (by omega) (by omega)) rfl dX12_readNot_1 cv_12_436 rfl rfl ob_214 rfl (by decide) (Nat.le_of_ble_eq_true rfl) (fun r_1 m_1 hr_1 ho_1 => ?_)
  obtain ⟨R, hRe⟩ : ∃ z, z = (oneF G 3) i o := ⟨_, rfl⟩
  rw [← hRe] at hr_1 hR
  obtain ⟨x_1, w_1, hr_1⟩ := hr_1
  rcases hr_1 with ⟨f_1, e_1, g_1, t_1, s_1, j_1, p_1, r_1e, c_1⟩ | ⟨f_1, e_1, no_1⟩
  · refine go_if_ne (tgt := 9) dX12_readNot_4 (by decide) ⟨by omega, by omega⟩ (fun h_4 => ?_) (fun h_4 => ?_)
    · refine go_aload_n dX12_readNot_9 rfl ?_
      refine go_aload_n dX12_readNot_10 rfl ?_
      refine go_iconst dX12_readNot_11 ?_
      refine go_aload_n dX12_readNot_12 rfl ?_
      refine go_getf_i (ki := 47) dX12_readNot_13 fl_12_430 ob_214 rfl rfl (fun hf_13 => ?_)
      refine go_iconst dX12_readNot_16 ?_
      refine go_iconst dX12_readNot_17 ?_
      refine go_callV_i (as := [vi 1, vi (m_1 214 47), vi 0, vi 0]) (S := [vr 214]) (b := 214) (ev_X12_saysOne (m := m_1) (w := 1) (a := (m_1 214 47)) (b := 0) (s := 0) (nn := (nn + (R.2.2.2.length : Int))) s_1.2.2.1 (by have := hR f_1; omega) (by first | assumption | omega | exact ⟨by omega, by omega⟩ | (constructor <;> omega)) (by first | assumption | omega | exact ⟨by omega, by omega⟩ | (constructor <;> omega)) (by first | assumption | omega | exact ⟨by omega, by omega⟩ | (constructor <;> omega)) (by first | assumption | omega | exact ⟨by omega, by omega⟩ | (constructor <;> omega))) rfl dX12_readNot_18 cv_12_433 rfl rfl ob_214 rfl (by decide) (Nat.le_of_ble_eq_true rfl) (fun r_18 m_18 hr_18 ho_18 => ?_)
      obtain ⟨e_18, hm_18⟩ := hr_18
      refine go_putf_i (ki := 47) dX12_readNot_21 fw_12_430 ob_214 rfl rfl ⟨by omega, by omega⟩ ?_
      refine go_iconst dX12_readNot_24 ?_
      refine go_ret (v := 1) rfl dX12_readNot_25 (okZ (by first | exact Or.inl rfl | exact Or.inr rfl | assumption | omega)) ?_
      have hRb := hR f_1
      have hq : notF (oneF G 3) (i - 1) o = (R.1, R.2.1, R.2.2.1, R.2.2.2 ++ [(215, 0, 0)]) := by unfold notF; rw [hni, ← hRe]
      have hwk : Wk (nodF (m_1 234) (nn + (R.2.2.2.length : Int)) 1 (m_1 214 47) 0 0) (G 8 3) (nn + (R.2.2.2.length : Int)) := by
        obtain ⟨e0, e1, e2, e3⟩ := nodF_n (N := m_1 234) (n := nn + (R.2.2.2.length : Int)) (w := 1) (a := m_1 214 47) (b := 0) (r := 0)
        unfold Wk
        rw [e0, e1, e2, e3]
        left; omega
      have hwn := s_1.2.2.2.add (by omega) hwk
      have hln : ((R.2.2.2 ++ [((215 : Int), (0 : Int), (0 : Int))]).length : Int) = R.2.2.2.length + 1 := by rw [List.length_append]; rfl
      rw [SaQ, hq, hm_18]
      refine ⟨(x_1.tr nodW_s).w (by omega) (by omega), ?_, Or.inl ⟨f_1, rfl, ?_, (t_1.nod).w (by decide) (by omega), ⟨?_, ?_, ?_, ?_⟩, fun j hj => ?_, ?_, ?_, c_1.app (CdA.k (by decide))⟩⟩
      · rw [wr_ni (by decide), nodW_214 (by decide)]; exact w_1
      · rw [wr_ni (by decide), nodW_214 (by decide)]; exact g_1
      · rw [wr_ni (by decide), nodW_214 (by decide)]; exact s_1.1
      · rw [wr_ni (by decide), nodW_214 (by decide)]; exact s_1.2.1
      · rw [wr_ni (by decide), nodW_44]; show _ = nn + ((R.2.2.2 ++ [((215 : Int), (0 : Int), (0 : Int))]).length : Int); rw [hln]; omega
      · rw [wr_row (by decide), nodW_234]; show Wf _ _ (nn + ((R.2.2.2 ++ [((215 : Int), (0 : Int), (0 : Int))]).length : Int)); rw [hln, show nn + ((R.2.2.2.length : Int) + 1) = nn + (R.2.2.2.length : Int) + 1 by omega]; exact hwn
      · rw [wr_na (by decide), nodW_234, nodF_o j (by omega)]; exact j_1 j hj
      · rw [wr_self, e_18]; show nn ≤ _ ∧ _ < nn + ((R.2.2.2 ++ [((215 : Int), (0 : Int), (0 : Int))]).length : Int); rw [hln]; omega
      · rw [wr_self, e_18, wr_row (by decide), nodW_234]
        exact r_1e.not s_1.2.2.2 (by omega) (by omega) hwn
    · exfalso; omega
  · refine go_if_ne (tgt := 9) dX12_readNot_4 (by decide) ⟨by omega, by omega⟩ (fun h_4 => ?_) (fun h_4 => ?_)
    · exfalso; omega
    · refine go_iconst dX12_readNot_7 ?_
      refine go_ret (v := 0) rfl dX12_readNot_8 (okZ (by first | exact Or.inl rfl | exact Or.inr rfl | assumption | omega)) ?_
      have hq : (notF (oneF G 3) (i - 1) o).1 = R.1 ∧ (notF (oneF G 3) (i - 1) o).2.1 = R.2.1 := by unfold notF; rw [hni, ← hRe]; exact ⟨rfl, rfl⟩
      exact ⟨x_1, w_1, Or.inr ⟨by rw [hq.1]; exact f_1, rfl, by rw [hq.1]; exact no_1.1, by rw [hq.2]; exact no_1.2⟩⟩
set_option maxRecDepth 4000 in
theorem ev_X12_brk4 {m : Mem} {G : Mem} {t : Int → Int} {kw : Int → Int} {n : Int} {lim : Int} {i : Int} {o : Int} {nn : Int} (htm : TM G t kw n lim m i) (hb : Bg G 8 18 (m 216)) (hdn : DnOk G 8) (hnm : NmR G 8 (m 221)) (hms : MS m (G 8 3) o 5 nn) (ho : 1 ≤ o ∧ o ≤ 20) (hnn : 0 ≤ nn ∧ nn + 2 ≤ 2 * o) : Ev 0 29 mX12_readBracket [vr 214] m (fun r m' => SaQ G t kw n lim m m' 5 nn (brkF (G 4) (seqF (G 4) 213 (seqF (G 4) 214 (oneF G 3))) (i - 1) o) r) := by
  refine Ev.of (L := [vr 214]) (by decide +kernel) rfl (Nat.le_of_ble_eq_true rfl) rfl (fun t ht => by cases ht; first | exact Or.inl rfl | exact Or.inr (Or.inl rfl) | exact Or.inr (Or.inr rfl)) (fun hcan => ?_)
  obtain ⟨hm1, hm2, hm3, hm4⟩ := id hms
  have hni : i - 1 + 1 = i := by omega
  refine go_aload_n dX12_readBracket_0 rfl ?_
  refine go_callV_z (as := []) (S := []) (b := 214) (ev_X12_con3 (m := m) (G := G) (t := t) (kw := kw) (n := n) (lim := lim) (i := i) (o := o) (nn := nn) htm hb hdn hnm hms (by omega) (by omega)) rfl dX12_readBracket_1 cv_12_457 rfl rfl ob_214 rfl (by decide) (Nat.le_of_ble_eq_true rfl) (fun r_1 m_1 hr_1 ho_1 => ?_)
  obtain ⟨R, hRe⟩ : ∃ z, z = (seqF (G 4) 213 (seqF (G 4) 214 (oneF G 3))) i o := ⟨_, rfl⟩
  rw [← hRe] at hr_1
  obtain ⟨x_1, w_1, hr_1⟩ := hr_1
  rcases hr_1 with ⟨f_1, e_1, g_1, t_1, s_1, j_1, p_1, r_1e, c_1⟩ | ⟨f_1, e_1, no_1⟩
  · refine go_if_ne (tgt := 9) dX12_readBracket_4 (by decide) ⟨by omega, by omega⟩ (fun h_4 => ?_) (fun h_4 => ?_)
    · refine go_aload_n dX12_readBracket_9 rfl ?_
      refine go_bipush dX12_readBracket_10 (by decide) ?_
      refine go_callVp_z (as := [vi 41]) (S := []) (b := 214) (ev_X12_isSign (m := m_1) (c := 41) (G := G) (t := t) (kw := kw) (n := n) (lim := lim) (i := R.2.1) t_1 (by unfold isS; omega)) rfl dX12_readBracket_12 cv_12_86 rfl rfl ob_214 rfl (by decide) (Nat.le_of_ble_eq_true rfl) (fun r_12 hr_12 ho_12 => ?_)
      refine go_if_ne (tgt := 24) dX12_readBracket_15 (by decide) ⟨by omega, by omega⟩ (fun h_15 => ?_) (fun h_15 => ?_)
      · refine go_aload_n dX12_readBracket_24 rfl ?_
        refine go_callV_v (as := []) (S := []) (b := 214) (ev_X12_go (m := m_1) (G := G) (t := t) (kw := kw) (n := n) (lim := lim) (i := (R.2.1 + 1)) (t_1.nx (by omega))) rfl dX12_readBracket_25 cv_12_82 rfl rfl ob_214 rfl (by decide) (Nat.le_of_ble_eq_true rfl) (fun m_25 hr_25 => ?_)
        refine go_iconst dX12_readBracket_28 ?_
        refine go_ret (v := 1) rfl dX12_readBracket_29 (okZ (by first | exact Or.inl rfl | exact Or.inr rfl | assumption | omega)) ?_
        have hq : brkF (G 4) (seqF (G 4) 213 (seqF (G 4) 214 (oneF G 3))) (i - 1) o = (0, R.2.1 + 1, R.2.2.1, R.2.2.2) := by unfold brkF; rw [hni, ← hRe, if_neg (fun z => z f_1), if_pos (by omega)]
        have hl := hr_25.1.l
        rw [SaQ, hq]
        refine ⟨x_1.tr hl.s, by rw [hl.2 46 (by omega)]; exact w_1, Or.inl ⟨rfl, rfl, ?_, hr_25.2, s_1.l hl, fun j hj => ?_, ?_, ?_, c_1⟩⟩
        · rw [hr_25.1.2 10 (by decide) (by decide) (by decide) (by decide) (by decide) (by decide)]; exact g_1
        · rw [hl.1 234 (by decide)]; exact j_1 j hj
        · rw [hl.2 47 (by omega)]; exact p_1
        · rw [hl.2 47 (by omega), hl.1 234 (by decide)]; exact r_1e
      · refine go_aload_n dX12_readBracket_18 rfl ?_
        refine go_iconst dX12_readBracket_19 ?_
        refine go_callV_z (as := [vi 1]) (S := []) (b := 214) (ev_X12_bad (m := m_1) (k := 1) (G := G) (t := t) (kw := kw) (n := n) (lim := lim) (i := R.2.1) t_1 (by first | assumption | omega | exact ⟨by omega, by omega⟩ | (constructor <;> omega))) rfl dX12_readBracket_20 cv_12_72 rfl rfl ob_214 rfl (by decide) (Nat.le_of_ble_eq_true rfl) (fun r_20 m_20 hr_20 ho_20 => ?_)
        refine go_ret (v := r_20) rfl dX12_readBracket_23 (okZ (by first | exact Or.inl rfl | exact Or.inr rfl | assumption | omega)) ?_
        have hq : brkF (G 4) (seqF (G 4) 213 (seqF (G 4) 214 (oneF G 3))) (i - 1) o = (1, R.2.1, 0, []) := by unfold brkF; rw [hni, ← hRe, if_neg (fun z => z f_1), if_neg (by omega)]
        have z := NoT.b (G := G) (m := m_1) (m' := m_20) (f := 1) (i := R.2.1) (by rw [hr_20.2]; congr 2; split <;> rfl)
        rw [SaQ, hq]
        exact ⟨x_1.tr z.1.s, by rw [z.1.2 46 (by omega)]; exact w_1, Or.inr ⟨(show (1 : Int) ≠ 0 by decide), hr_20.1, z.2.1, z.2.2⟩⟩
    · exfalso; omega
  · refine go_if_ne (tgt := 9) dX12_readBracket_4 (by decide) ⟨by omega, by omega⟩ (fun h_4 => ?_) (fun h_4 => ?_)
    · exfalso; omega
    · refine go_iconst dX12_readBracket_7 ?_
      refine go_ret (v := 0) rfl dX12_readBracket_8 (okZ (by first | exact Or.inl rfl | exact Or.inr rfl | assumption | omega)) ?_
      have hq : brkF (G 4) (seqF (G 4) 213 (seqF (G 4) 214 (oneF G 3))) (i - 1) o = R := by unfold brkF; rw [hni, ← hRe, if_pos f_1]
      rw [SaQ, hq]
      exact ⟨x_1, w_1, Or.inr ⟨f_1, rfl, no_1⟩⟩
set_option maxRecDepth 4000 in
theorem ev_X12_one4 {m : Mem} {G : Mem} {t : Int → Int} {kw : Int → Int} {n : Int} {lim : Int} {i : Int} {o : Int} {nn : Int} (htm : TM G t kw n lim m i) (hb : Bg G 8 18 (m 216)) (hdn : DnOk G 8) (hnm : NmR G 8 (m 221)) (hms : MS m (G 8 3) o 4 nn) (ho : 0 ≤ o ∧ o ≤ 20) (hnn : 0 ≤ nn ∧ nn ≤ 2 * o) : Ev 0 30 mX12_readSaid [vr 214] m (fun r m' => SaQ G t kw n lim m m' 4 nn (oneF G 4 i o) r) := by
  refine Ev.of (L := [vr 214, un, un, un]) (by decide +kernel) rfl (Nat.le_of_ble_eq_true rfl) rfl (fun t ht => by cases ht; first | exact Or.inl rfl | exact Or.inr (Or.inl rfl) | exact Or.inr (Or.inr rfl)) (fun hcan => ?_)
  obtain ⟨hm1, hm2, hm3, hm4⟩ := id hms
  have hkd := htm.kd
  refine go_aload_n dX12_readSaid_0 rfl ?_
  refine go_bipush dX12_readSaid_1 (by decide) ?_
  refine go_callVp_z (as := [vi 40]) (S := []) (b := 214) (ev_X12_isSign (m := m) (c := 40) (G := G) (t := t) (kw := kw) (n := n) (lim := lim) (i := i) htm (by unfold isS; omega)) rfl dX12_readSaid_3 cv_12_86 rfl rfl ob_214 rfl (by decide) (Nat.le_of_ble_eq_true rfl) (fun r_3 hr_3 ho_3 => ?_)
  refine go_istore_n (L' := [vr 214, vi r_3, un, un]) dX12_readSaid_6 (by decide) rfl rfl ?_
  refine go_bipush dX12_readSaid_7 (by decide) ?_
  refine go_istore_n (L' := [vr 214, vi r_3, vi 15, un]) dX12_readSaid_9 (by decide) rfl rfl ?_
  have lp_10 : ∀ (n_10 : Nat) (w : Int) , (15 ≤ w) → (w ≤ 25) → (∀ j : Int, 15 ≤ j → j < w → G 4 i ≠ 200 + j) → (25 - w).toNat < n_10 → Go 0 30 mX12_readSaid (fun r m' => SaQ G t kw n lim m m' 4 nn (oneF G 4 i o) r) 10 [vr 214, vi r_3, vi w, un] [] m := by
    intro n_10
    induction n_10 with
    | zero => intro w hw0 hw1 hno hmu; exact absurd hmu (Nat.not_lt_zero _)
    | succ n_10 ih_10 =>
      intro w hw0 hw1 hno hmu
      refine go_iload_n dX12_readSaid_10 rfl ?_
      have cut_30 :  ((w ≤ 24 ∧ G 4 i = 200 + w) ∨ (w = 25 ∧ ¬ (215 ≤ G 4 i ∧ G 4 i ≤ 224))) → Go 0 30 mX12_readSaid (fun r m' => SaQ G t kw n lim m m' 4 nn (oneF G 4 i o) r) 30 [vr 214, vi r_3, vi w, un] [] m := by
        intro hww
        refine go_iload_n dX12_readSaid_30 rfl ?_
        have cut_46 :  (G 4 i = 40 ∨ (215 ≤ G 4 i ∧ G 4 i ≤ 224)) → Go 0 30 mX12_readSaid (fun r m' => SaQ G t kw n lim m m' 4 nn (oneF G 4 i o) r) 46 [vr 214, vi r_3, vi w, un] [] m := by
          intro hst
          refine go_aload_n dX12_readSaid_46 rfl ?_
          refine go_getf_i (ki := 45) dX12_readSaid_47 fl_12_439 ob_214 rfl rfl (fun hf_47 => ?_)
          rw [show (m 214 45 : Int) = o from hm1] at hf_47 ⊢
          refine go_bipush dX12_readSaid_50 (by decide) ?_
          refine go_icmp_eq (tgt := 64) dX12_readSaid_52 (by decide) ⟨by omega, by omega⟩ ⟨by omega, by omega⟩ (fun h_52 => ?_) (fun h_52 => ?_)
          · refine go_aload_n dX12_readSaid_64 rfl ?_
            refine go_iconst dX12_readSaid_65 ?_
            refine go_callV_z (as := [vi 4]) (S := []) (b := 214) (ev_X12_bad (m := m) (k := 4) (G := G) (t := t) (kw := kw) (n := n) (lim := lim) (i := i) htm (by first | assumption | omega | exact ⟨by omega, by omega⟩ | (constructor <;> omega))) rfl dX12_readSaid_66 cv_12_72 rfl rfl ob_214 rfl (by decide) (Nat.le_of_ble_eq_true rfl) (fun r_66 m_66 hr_66 ho_66 => ?_)
            refine go_ret (v := r_66) rfl dX12_readSaid_69 (okZ (by first | exact Or.inl rfl | exact Or.inr rfl | assumption | omega)) ?_
            have hq : oneF G 4 i o = (4, i, o, []) := by unfold oneF; rw [if_neg (by omega), if_pos (by omega)]
            have z := NoT.b (G := G) (m := m) (m' := m_66) (f := 4) (i := i) (by rw [hr_66.2, if_neg (by omega)])
            rw [SaQ, hq]
            exact ⟨z.1.s, by rw [z.1.2 46 (by omega)]; exact hm2, Or.inr ⟨(show (4 : Int) ≠ 0 by decide), hr_66.1, z.2.1, z.2.2⟩⟩
          · refine go_aload_n dX12_readSaid_55 rfl ?_
            refine go_getf_i (ki := 46) dX12_readSaid_56 fl_12_442 ob_214 rfl rfl (fun hf_56 => ?_)
            rw [show (m 214 46 : Int) = 4 from hm2] at hf_56 ⊢
            refine go_bipush dX12_readSaid_59 (by decide) ?_
            refine go_icmp_ne (tgt := 70) dX12_readSaid_61 (by decide) ⟨by omega, by omega⟩ ⟨by omega, by omega⟩ (fun h_61 => ?_) (fun h_61 => ?_)
            · refine go_aload_n dX12_readSaid_70 rfl ?_
              refine go_dup_r dX12_readSaid_71 ?_
              refine go_getf_i (ki := 45) dX12_readSaid_72 fl_12_439 ob_214 rfl rfl (fun hf_72 => ?_)
              rw [show (m 214 45 : Int) = o from hm1] at hf_72 ⊢
              refine go_iconst dX12_readSaid_75 ?_
              refine go_iadd dX12_readSaid_76 ?_
              refine go_putf_i (ki := 45) dX12_readSaid_77 fw_12_439 ob_214 rfl rfl ⟨by omega, by omega⟩ ?_
              refine go_aload_n dX12_readSaid_80 rfl ?_
              refine go_dup_r dX12_readSaid_81 ?_
              refine go_getf_i (ki := 46) dX12_readSaid_82 fl_12_442 ob_214 rfl rfl (fun hf_82 => ?_)
              rw [show ((wr m 214 45 (o + 1)) 214 46 : Int) = 4 from by rw [wr_ni (by decide)]; exact hm2] at hf_82 ⊢
              refine go_iconst dX12_readSaid_85 ?_
              refine go_iadd dX12_readSaid_86 ?_
              refine go_putf_i (ki := 46) dX12_readSaid_87 fw_12_442 ob_214 rfl rfl ⟨by omega, by omega⟩ ?_
              refine go_aload_n dX12_readSaid_90 rfl ?_
              refine go_callV_v (as := []) (S := []) (b := 214) (ev_X12_go (m := (wr (wr m 214 45 (o + 1)) 214 46 (4 + 1))) (G := G) (t := t) (kw := kw) (n := n) (lim := lim) (i := (i + 1)) (((htm.nx (by omega)).w (by decide) (by omega)).w (by decide) (by omega))) rfl dX12_readSaid_91 cv_12_82 rfl rfl ob_214 rfl (by decide) (Nat.le_of_ble_eq_true rfl) (fun m_91 hr_91 => ?_)
              have l91 := hr_91.1.l
              have s91 : Sx m m_91 := ((Sx.rf.w (by omega) (by omega)).w (by omega) (by omega)).tr l91.s
              have g91 : m_91 214 10 = m 214 10 := by rw [hr_91.1.2 10 (by decide) (by decide) (by decide) (by decide) (by decide) (by decide), wr_ni (by decide), wr_ni (by decide)]
              have n91 : m_91 234 = m 234 := by rw [l91.1 234 (by decide), wr_row (by decide), wr_row (by decide)]
              have ms91 : MS m_91 (G 8 3) (o + 1) 5 nn := ⟨by rw [l91.2 45 (by omega), wr_ni (by decide), wr_self], by rw [l91.2 46 (by omega), wr_self]; rfl, by rw [l91.2 44 (by omega), wr_ni (by decide), wr_ni (by decide)]; exact hm3, by rw [n91]; exact hm4⟩
              have b91 : Bg G 8 18 (m_91 216) := by rw [s91.1 216 (by decide) (by decide)]; exact hb
              have nm91 : NmR G 8 (m_91 221) := by rw [s91.1 221 (by decide) (by decide)]; exact hnm
              have hi1 : i + 1 - 1 = i := by omega
              refine go_iconst dX12_readSaid_94 ?_
              refine go_istore_n (L' := [vr 214, vi r_3, vi w, vi 1]) dX12_readSaid_95 (by decide) rfl rfl ?_
              have cut_166 : ∀ (mx : Mem) (gd : Int) , (gd = 0 ∨ gd = 1) → (SaQ G t kw n lim m_91 mx 5 nn (oneF G 4 i o) gd) → Go 0 30 mX12_readSaid (fun r m' => SaQ G t kw n lim m m' 4 nn (oneF G 4 i o) r) 166 [vr 214, un, un, vi gd] [] mx := by
                intro mx gd hgd hsq
                refine go_aload_n dX12_readSaid_166 rfl ?_
                refine go_dup_r dX12_readSaid_167 ?_
                refine go_getf_i (ki := 46) dX12_readSaid_168 fl_12_442 ob_214 rfl rfl (fun hf_168 => ?_)
                rw [show (mx 214 46 : Int) = 5 from hsq.2.1] at hf_168 ⊢
                refine go_iconst dX12_readSaid_171 ?_
                refine go_isub dX12_readSaid_172 ?_
                refine go_putf_i (ki := 46) dX12_readSaid_173 fw_12_442 ob_214 rfl rfl ⟨by omega, by omega⟩ ?_
                refine go_iload_n dX12_readSaid_176 rfl ?_
                refine go_ret (v := gd) rfl dX12_readSaid_177 (okZ hgd) ?_
                obtain ⟨a, b, c⟩ := hsq
                refine ⟨(s91.tr a).w (by omega) (by omega), wr_self _ _ _ _, ?_⟩
                rcases c with ⟨f, e, g, t_, s, j_, p_, r_, c_⟩ | ⟨f, e, no⟩
                · refine Or.inl ⟨f, e, ?_, t_.w (by decide) (by omega), ⟨?_, wr_self _ _ _ _, ?_, ?_⟩, fun j hj => ?_, ?_, ?_, c_⟩
                  · rw [wr_ni (by decide), g]; exact g91
                  · rw [wr_ni (by decide)]; exact s.1
                  · rw [wr_ni (by decide)]; exact s.2.2.1
                  · rw [wr_row (by decide)]; exact s.2.2.2
                  · rw [wr_na (by decide), j_ j hj, n91]
                  · rw [wr_ni (by decide)]; exact p_
                  · rw [wr_ni (by decide), wr_row (by decide)]; exact r_
                · exact Or.inr ⟨f, e, by rw [wr_ni (by decide)]; exact no.1, by rw [wr_ni (by decide)]; exact no.2⟩
              refine go_iload_n dX12_readSaid_96 rfl ?_
              refine go_if_eq (tgt := 108) dX12_readSaid_97 (by decide) ⟨by omega, by omega⟩ (fun h_97 => ?_) (fun h_97 => ?_)
              · refine go_iload_n dX12_readSaid_108 rfl ?_
                refine go_bipush dX12_readSaid_109 (by decide) ?_
                refine go_icmp_ne (tgt := 122) dX12_readSaid_111 (by decide) ⟨by omega, by omega⟩ ⟨by omega, by omega⟩ (fun h_111 => ?_) (fun h_111 => ?_)
                · refine go_iload_n dX12_readSaid_122 rfl ?_
                  refine go_bipush dX12_readSaid_123 (by decide) ?_
                  refine go_icmp_ge (tgt := 146) dX12_readSaid_125 (by decide) ⟨by omega, by omega⟩ ⟨by omega, by omega⟩ (fun h_125 => ?_) (fun h_125 => ?_)
                  · refine go_iload_n dX12_readSaid_146 rfl ?_
                    refine go_bipush dX12_readSaid_147 (by decide) ?_
                    refine go_icmp_ge (tgt := 160) dX12_readSaid_149 (by decide) ⟨by omega, by omega⟩ ⟨by omega, by omega⟩ (fun h_149 => ?_) (fun h_149 => ?_)
                    · refine go_aload_n dX12_readSaid_160 rfl ?_
                      refine go_iload_n dX12_readSaid_161 rfl ?_
                      refine go_callV_z (as := [vi w]) (S := []) (b := 214) (ev_X12_readCompare (m := m_91) (w := w) (G := G) (t := t) (kw := kw) (n := n) (lim := lim) (i := (i + 1)) (o := (o + 1)) (wi := 5) (nn := nn) hr_91.2 b91 hdn ms91 (by omega) (by omega) (by omega) (by rw [hi1]; omega)) rfl dX12_readSaid_162 cv_12_454 rfl rfl ob_214 rfl (by decide) (Nat.le_of_ble_eq_true rfl) (fun r_162 m_162 hr_162 ho_162 => ?_)
                      rw [hi1] at hr_162
                      refine go_istore_n (L' := [vr 214, vi r_3, vi w, vi r_162]) dX12_readSaid_165 (by decide) rfl rfl ?_
                      refine go_drop (j := 1) (L' := [vr 214, un, vi w, vi r_162]) rfl ?_
                      refine go_drop (j := 2) (L' := [vr 214, un, un, vi r_162]) rfl ?_
                      exact cut_166 m_162 r_162 (by first | assumption | rfl | omega) (by
                            first
                            | (rw [show oneF G 4 i o = brkF (G 4) (seqF (G 4) 213 (seqF (G 4) 214 (oneF G 3))) i (o + 1) by unfold oneF; rw [if_neg (by omega), if_neg (by omega), if_neg (by omega), if_pos (by omega)]]; exact hr_101)
                            | (rw [show oneF G 4 i o = notF (oneF G 3) i (o + 1) by unfold oneF; rw [if_neg (by omega), if_neg (by omega), if_pos (by omega)]]; exact hr_115)
                            | (rw [show oneF G 4 i o = namF G i (o + 1) by unfold oneF; rw [if_neg (by omega), if_neg (by omega), if_neg (by omega), if_neg (by omega), if_pos (by omega)]]; exact hr_154)
                            | (rw [show oneF G 4 i o = cmpF G i (o + 1) by unfold oneF; rw [if_neg (by omega), if_neg (by omega), if_neg (by omega), if_neg (by omega), if_neg (by omega), if_pos (by omega)]]; exact hr_162)
                            | (have hwk : Wk (nodF (m_91 234) nn (50 + w) 0 0 0) (G 8 3) nn := (by
                                 obtain ⟨e0, e1, e2, e3⟩ := nodF_n (N := m_91 234) (n := nn) (w := 50 + w) (a := 0) (b := 0) (r := 0)
                                 unfold Wk
                                 rw [e0, e1, e2, e3]
                                 right; right; left; omega)
                               have hwn := ms91.2.2.2.add (by omega) hwk
                               rw [SaQ, show oneF G 4 i o = (0, i + 1, o + 1, [(G 4 i, 0, 0)]) by unfold oneF; rw [if_neg (by omega), if_neg (by omega), if_neg (by omega), if_neg (by omega), if_neg (by omega), if_neg (by omega)], hm_137]
                               refine ⟨nodW_s.w (by omega) (by omega), ?_, Or.inl ⟨rfl, rfl, ?_, (hr_91.2.nod).w (by decide) (by omega), ⟨?_, ?_, ?_, ?_⟩, fun j hj => ?_, ?_, ?_, CdA.k (by omega)⟩⟩
                               · rw [wr_ni (by decide), nodW_214 (by decide)]; exact ms91.2.1
                               · rw [wr_ni (by decide), nodW_214 (by decide)]
                               · rw [wr_ni (by decide), nodW_214 (by decide)]; exact ms91.1
                               · rw [wr_ni (by decide), nodW_214 (by decide)]; exact ms91.2.1
                               · rw [wr_ni (by decide), nodW_44]; rfl
                               · rw [wr_row (by decide), nodW_234]; exact hwn
                               · rw [wr_na (by decide), nodW_234, nodF_o j hj]
                               · rw [wr_self, e_137]; show nn ≤ nn ∧ nn < nn + 1; omega
                               · rw [wr_self, e_137, wr_row (by decide), nodW_234]
                                 refine Rep.leaf (by omega) (by omega) ?_
                                 rw [if_pos (by omega), show 50 + w + 150 = 200 + w by omega]
                                 rw [show G 4 i = 200 + w by omega]))
                    · refine go_aload_n dX12_readSaid_152 rfl ?_
                      refine go_iload_n dX12_readSaid_153 rfl ?_
                      refine go_callV_z (as := [vi w]) (S := []) (b := 214) (ev_X12_readOf (m := m_91) (w := w) (G := G) (t := t) (kw := kw) (n := n) (lim := lim) (i := (i + 1)) (o := (o + 1)) (wi := 5) (nn := nn) hr_91.2 b91 hdn nm91 ms91 (by omega) (by omega) (by omega) (by rw [hi1]; omega)) rfl dX12_readSaid_154 cv_12_451 rfl rfl ob_214 rfl (by decide) (Nat.le_of_ble_eq_true rfl) (fun r_154 m_154 hr_154 ho_154 => ?_)
                      rw [hi1] at hr_154
                      refine go_goto (tgt := 165) dX12_readSaid_157 (by decide) ?_
                      refine go_istore_n (L' := [vr 214, vi r_3, vi w, vi r_154]) dX12_readSaid_165 (by decide) rfl rfl ?_
                      refine go_drop (j := 1) (L' := [vr 214, un, vi w, vi r_154]) rfl ?_
                      refine go_drop (j := 2) (L' := [vr 214, un, un, vi r_154]) rfl ?_
                      exact cut_166 m_154 r_154 (by first | assumption | rfl | omega) (by
                            first
                            | (rw [show oneF G 4 i o = brkF (G 4) (seqF (G 4) 213 (seqF (G 4) 214 (oneF G 3))) i (o + 1) by unfold oneF; rw [if_neg (by omega), if_neg (by omega), if_neg (by omega), if_pos (by omega)]]; exact hr_101)
                            | (rw [show oneF G 4 i o = notF (oneF G 3) i (o + 1) by unfold oneF; rw [if_neg (by omega), if_neg (by omega), if_pos (by omega)]]; exact hr_115)
                            | (rw [show oneF G 4 i o = namF G i (o + 1) by unfold oneF; rw [if_neg (by omega), if_neg (by omega), if_neg (by omega), if_neg (by omega), if_pos (by omega)]]; exact hr_154)
                            | (rw [show oneF G 4 i o = cmpF G i (o + 1) by unfold oneF; rw [if_neg (by omega), if_neg (by omega), if_neg (by omega), if_neg (by omega), if_neg (by omega), if_pos (by omega)]]; exact hr_162)
                            | (have hwk : Wk (nodF (m_91 234) nn (50 + w) 0 0 0) (G 8 3) nn := (by
                                 obtain ⟨e0, e1, e2, e3⟩ := nodF_n (N := m_91 234) (n := nn) (w := 50 + w) (a := 0) (b := 0) (r := 0)
                                 unfold Wk
                                 rw [e0, e1, e2, e3]
                                 right; right; left; omega)
                               have hwn := ms91.2.2.2.add (by omega) hwk
                               rw [SaQ, show oneF G 4 i o = (0, i + 1, o + 1, [(G 4 i, 0, 0)]) by unfold oneF; rw [if_neg (by omega), if_neg (by omega), if_neg (by omega), if_neg (by omega), if_neg (by omega), if_neg (by omega)], hm_137]
                               refine ⟨nodW_s.w (by omega) (by omega), ?_, Or.inl ⟨rfl, rfl, ?_, (hr_91.2.nod).w (by decide) (by omega), ⟨?_, ?_, ?_, ?_⟩, fun j hj => ?_, ?_, ?_, CdA.k (by omega)⟩⟩
                               · rw [wr_ni (by decide), nodW_214 (by decide)]; exact ms91.2.1
                               · rw [wr_ni (by decide), nodW_214 (by decide)]
                               · rw [wr_ni (by decide), nodW_214 (by decide)]; exact ms91.1
                               · rw [wr_ni (by decide), nodW_214 (by decide)]; exact ms91.2.1
                               · rw [wr_ni (by decide), nodW_44]; rfl
                               · rw [wr_row (by decide), nodW_234]; exact hwn
                               · rw [wr_na (by decide), nodW_234, nodF_o j hj]
                               · rw [wr_self, e_137]; show nn ≤ nn ∧ nn < nn + 1; omega
                               · rw [wr_self, e_137, wr_row (by decide), nodW_234]
                                 refine Rep.leaf (by omega) (by omega) ?_
                                 rw [if_pos (by omega), show 50 + w + 150 = 200 + w by omega]
                                 rw [show G 4 i = 200 + w by omega]))
                  · refine go_aload_n dX12_readSaid_128 rfl ?_
                    refine go_aload_n dX12_readSaid_129 rfl ?_
                    refine go_bipush dX12_readSaid_130 (by decide) ?_
                    refine go_iload_n dX12_readSaid_132 rfl ?_
                    refine go_iadd dX12_readSaid_133 ?_
                    refine go_iconst dX12_readSaid_134 ?_
                    refine go_iconst dX12_readSaid_135 ?_
                    refine go_iconst dX12_readSaid_136 ?_
                    refine go_callV_i (as := [vi (50 + w), vi 0, vi 0, vi 0]) (S := [vr 214]) (b := 214) (ev_X12_saysOne (m := m_91) (w := (50 + w)) (a := 0) (b := 0) (s := 0) (nn := nn) ms91.2.2.1 (by omega) (by first | assumption | omega | exact ⟨by omega, by omega⟩ | (constructor <;> omega)) (by first | assumption | omega | exact ⟨by omega, by omega⟩ | (constructor <;> omega)) (by first | assumption | omega | exact ⟨by omega, by omega⟩ | (constructor <;> omega)) (by first | assumption | omega | exact ⟨by omega, by omega⟩ | (constructor <;> omega))) rfl dX12_readSaid_137 cv_12_433 rfl rfl ob_214 rfl (by decide) (Nat.le_of_ble_eq_true rfl) (fun r_137 m_137 hr_137 ho_137 => ?_)
                    obtain ⟨e_137, hm_137⟩ := hr_137
                    refine go_putf_i (ki := 47) dX12_readSaid_140 fw_12_430 ob_214 rfl rfl ⟨by omega, by omega⟩ ?_
                    refine go_goto (tgt := 166) dX12_readSaid_143 (by decide) ?_
                    refine go_drop (j := 1) (L' := [vr 214, un, vi w, vi 1]) rfl ?_
                    refine go_drop (j := 2) (L' := [vr 214, un, un, vi 1]) rfl ?_
                    exact cut_166 (wr m_137 214 47 r_137) 1 (by first | assumption | rfl | omega) (by
                          first
                          | (rw [show oneF G 4 i o = brkF (G 4) (seqF (G 4) 213 (seqF (G 4) 214 (oneF G 3))) i (o + 1) by unfold oneF; rw [if_neg (by omega), if_neg (by omega), if_neg (by omega), if_pos (by omega)]]; exact hr_101)
                          | (rw [show oneF G 4 i o = notF (oneF G 3) i (o + 1) by unfold oneF; rw [if_neg (by omega), if_neg (by omega), if_pos (by omega)]]; exact hr_115)
                          | (rw [show oneF G 4 i o = namF G i (o + 1) by unfold oneF; rw [if_neg (by omega), if_neg (by omega), if_neg (by omega), if_neg (by omega), if_pos (by omega)]]; exact hr_154)
                          | (rw [show oneF G 4 i o = cmpF G i (o + 1) by unfold oneF; rw [if_neg (by omega), if_neg (by omega), if_neg (by omega), if_neg (by omega), if_neg (by omega), if_pos (by omega)]]; exact hr_162)
                          | (have hwk : Wk (nodF (m_91 234) nn (50 + w) 0 0 0) (G 8 3) nn := (by
                               obtain ⟨e0, e1, e2, e3⟩ := nodF_n (N := m_91 234) (n := nn) (w := 50 + w) (a := 0) (b := 0) (r := 0)
                               unfold Wk
                               rw [e0, e1, e2, e3]
                               right; right; left; omega)
                             have hwn := ms91.2.2.2.add (by omega) hwk
                             rw [SaQ, show oneF G 4 i o = (0, i + 1, o + 1, [(G 4 i, 0, 0)]) by unfold oneF; rw [if_neg (by omega), if_neg (by omega), if_neg (by omega), if_neg (by omega), if_neg (by omega), if_neg (by omega)], hm_137]
                             refine ⟨nodW_s.w (by omega) (by omega), ?_, Or.inl ⟨rfl, rfl, ?_, (hr_91.2.nod).w (by decide) (by omega), ⟨?_, ?_, ?_, ?_⟩, fun j hj => ?_, ?_, ?_, CdA.k (by omega)⟩⟩
                             · rw [wr_ni (by decide), nodW_214 (by decide)]; exact ms91.2.1
                             · rw [wr_ni (by decide), nodW_214 (by decide)]
                             · rw [wr_ni (by decide), nodW_214 (by decide)]; exact ms91.1
                             · rw [wr_ni (by decide), nodW_214 (by decide)]; exact ms91.2.1
                             · rw [wr_ni (by decide), nodW_44]; rfl
                             · rw [wr_row (by decide), nodW_234]; exact hwn
                             · rw [wr_na (by decide), nodW_234, nodF_o j hj]
                             · rw [wr_self, e_137]; show nn ≤ nn ∧ nn < nn + 1; omega
                             · rw [wr_self, e_137, wr_row (by decide), nodW_234]
                               refine Rep.leaf (by omega) (by omega) ?_
                               rw [if_pos (by omega), show 50 + w + 150 = 200 + w by omega]
                               rw [show G 4 i = 200 + w by omega]))
                · refine go_aload_n dX12_readSaid_114 rfl ?_
                  refine go_callV_z (as := []) (S := []) (b := 214) (ev_X12_not4 (m := m_91) (G := G) (t := t) (kw := kw) (n := n) (lim := lim) (i := (i + 1)) (o := (o + 1)) (nn := nn) hr_91.2 b91 hdn nm91 ms91 (by omega) (by omega)) rfl dX12_readSaid_115 cv_12_448 rfl rfl ob_214 rfl (by decide) (Nat.le_of_ble_eq_true rfl) (fun r_115 m_115 hr_115 ho_115 => ?_)
                  rw [hi1] at hr_115
                  refine go_istore_n (L' := [vr 214, vi r_3, vi w, vi r_115]) dX12_readSaid_118 (by decide) rfl rfl ?_
                  refine go_goto (tgt := 166) dX12_readSaid_119 (by decide) ?_
                  refine go_drop (j := 1) (L' := [vr 214, un, vi w, vi r_115]) rfl ?_
                  refine go_drop (j := 2) (L' := [vr 214, un, un, vi r_115]) rfl ?_
                  exact cut_166 m_115 r_115 (by first | assumption | rfl | omega) (by
                        first
                        | (rw [show oneF G 4 i o = brkF (G 4) (seqF (G 4) 213 (seqF (G 4) 214 (oneF G 3))) i (o + 1) by unfold oneF; rw [if_neg (by omega), if_neg (by omega), if_neg (by omega), if_pos (by omega)]]; exact hr_101)
                        | (rw [show oneF G 4 i o = notF (oneF G 3) i (o + 1) by unfold oneF; rw [if_neg (by omega), if_neg (by omega), if_pos (by omega)]]; exact hr_115)
                        | (rw [show oneF G 4 i o = namF G i (o + 1) by unfold oneF; rw [if_neg (by omega), if_neg (by omega), if_neg (by omega), if_neg (by omega), if_pos (by omega)]]; exact hr_154)
                        | (rw [show oneF G 4 i o = cmpF G i (o + 1) by unfold oneF; rw [if_neg (by omega), if_neg (by omega), if_neg (by omega), if_neg (by omega), if_neg (by omega), if_pos (by omega)]]; exact hr_162)
                        | (have hwk : Wk (nodF (m_91 234) nn (50 + w) 0 0 0) (G 8 3) nn := (by
                             obtain ⟨e0, e1, e2, e3⟩ := nodF_n (N := m_91 234) (n := nn) (w := 50 + w) (a := 0) (b := 0) (r := 0)
                             unfold Wk
                             rw [e0, e1, e2, e3]
                             right; right; left; omega)
                           have hwn := ms91.2.2.2.add (by omega) hwk
                           rw [SaQ, show oneF G 4 i o = (0, i + 1, o + 1, [(G 4 i, 0, 0)]) by unfold oneF; rw [if_neg (by omega), if_neg (by omega), if_neg (by omega), if_neg (by omega), if_neg (by omega), if_neg (by omega)], hm_137]
                           refine ⟨nodW_s.w (by omega) (by omega), ?_, Or.inl ⟨rfl, rfl, ?_, (hr_91.2.nod).w (by decide) (by omega), ⟨?_, ?_, ?_, ?_⟩, fun j hj => ?_, ?_, ?_, CdA.k (by omega)⟩⟩
                           · rw [wr_ni (by decide), nodW_214 (by decide)]; exact ms91.2.1
                           · rw [wr_ni (by decide), nodW_214 (by decide)]
                           · rw [wr_ni (by decide), nodW_214 (by decide)]; exact ms91.1
                           · rw [wr_ni (by decide), nodW_214 (by decide)]; exact ms91.2.1
                           · rw [wr_ni (by decide), nodW_44]; rfl
                           · rw [wr_row (by decide), nodW_234]; exact hwn
                           · rw [wr_na (by decide), nodW_234, nodF_o j hj]
                           · rw [wr_self, e_137]; show nn ≤ nn ∧ nn < nn + 1; omega
                           · rw [wr_self, e_137, wr_row (by decide), nodW_234]
                             refine Rep.leaf (by omega) (by omega) ?_
                             rw [if_pos (by omega), show 50 + w + 150 = 200 + w by omega]
                             rw [show G 4 i = 200 + w by omega]))
              · refine go_aload_n dX12_readSaid_100 rfl ?_
                refine go_callV_z (as := []) (S := []) (b := 214) (ev_X12_brk4 (m := m_91) (G := G) (t := t) (kw := kw) (n := n) (lim := lim) (i := (i + 1)) (o := (o + 1)) (nn := nn) hr_91.2 b91 hdn nm91 ms91 (by omega) (by omega)) rfl dX12_readSaid_101 cv_12_445 rfl rfl ob_214 rfl (by decide) (Nat.le_of_ble_eq_true rfl) (fun r_101 m_101 hr_101 ho_101 => ?_)
                rw [hi1] at hr_101
                refine go_istore_n (L' := [vr 214, vi r_3, vi w, vi r_101]) dX12_readSaid_104 (by decide) rfl rfl ?_
                refine go_goto (tgt := 166) dX12_readSaid_105 (by decide) ?_
                refine go_drop (j := 1) (L' := [vr 214, un, vi w, vi r_101]) rfl ?_
                refine go_drop (j := 2) (L' := [vr 214, un, un, vi r_101]) rfl ?_
                exact cut_166 m_101 r_101 (by first | assumption | rfl | omega) (by
                      first
                      | (rw [show oneF G 4 i o = brkF (G 4) (seqF (G 4) 213 (seqF (G 4) 214 (oneF G 3))) i (o + 1) by unfold oneF; rw [if_neg (by omega), if_neg (by omega), if_neg (by omega), if_pos (by omega)]]; exact hr_101)
                      | (rw [show oneF G 4 i o = notF (oneF G 3) i (o + 1) by unfold oneF; rw [if_neg (by omega), if_neg (by omega), if_pos (by omega)]]; exact hr_115)
                      | (rw [show oneF G 4 i o = namF G i (o + 1) by unfold oneF; rw [if_neg (by omega), if_neg (by omega), if_neg (by omega), if_neg (by omega), if_pos (by omega)]]; exact hr_154)
                      | (rw [show oneF G 4 i o = cmpF G i (o + 1) by unfold oneF; rw [if_neg (by omega), if_neg (by omega), if_neg (by omega), if_neg (by omega), if_neg (by omega), if_pos (by omega)]]; exact hr_162)
                      | (have hwk : Wk (nodF (m_91 234) nn (50 + w) 0 0 0) (G 8 3) nn := (by
                           obtain ⟨e0, e1, e2, e3⟩ := nodF_n (N := m_91 234) (n := nn) (w := 50 + w) (a := 0) (b := 0) (r := 0)
                           unfold Wk
                           rw [e0, e1, e2, e3]
                           right; right; left; omega)
                         have hwn := ms91.2.2.2.add (by omega) hwk
                         rw [SaQ, show oneF G 4 i o = (0, i + 1, o + 1, [(G 4 i, 0, 0)]) by unfold oneF; rw [if_neg (by omega), if_neg (by omega), if_neg (by omega), if_neg (by omega), if_neg (by omega), if_neg (by omega)], hm_137]
                         refine ⟨nodW_s.w (by omega) (by omega), ?_, Or.inl ⟨rfl, rfl, ?_, (hr_91.2.nod).w (by decide) (by omega), ⟨?_, ?_, ?_, ?_⟩, fun j hj => ?_, ?_, ?_, CdA.k (by omega)⟩⟩
                         · rw [wr_ni (by decide), nodW_214 (by decide)]; exact ms91.2.1
                         · rw [wr_ni (by decide), nodW_214 (by decide)]
                         · rw [wr_ni (by decide), nodW_214 (by decide)]; exact ms91.1
                         · rw [wr_ni (by decide), nodW_214 (by decide)]; exact ms91.2.1
                         · rw [wr_ni (by decide), nodW_44]; rfl
                         · rw [wr_row (by decide), nodW_234]; exact hwn
                         · rw [wr_na (by decide), nodW_234, nodF_o j hj]
                         · rw [wr_self, e_137]; show nn ≤ nn ∧ nn < nn + 1; omega
                         · rw [wr_self, e_137, wr_row (by decide), nodW_234]
                           refine Rep.leaf (by omega) (by omega) ?_
                           rw [if_pos (by omega), show 50 + w + 150 = 200 + w by omega]
                           rw [show G 4 i = 200 + w by omega]))
            · exfalso; omega
        refine go_if_ne (tgt := 46) dX12_readSaid_31 (by decide) ⟨by omega, by omega⟩ (fun h_31 => ?_) (fun h_31 => ?_)
        · exact cut_46  (by omega)
        · refine go_iload_n dX12_readSaid_34 rfl ?_
          refine go_bipush dX12_readSaid_35 (by decide) ?_
          refine go_icmp_le (tgt := 46) dX12_readSaid_37 (by decide) ⟨by omega, by omega⟩ ⟨by omega, by omega⟩ (fun h_37 => ?_) (fun h_37 => ?_)
          · exact cut_46  (by omega)
          · refine go_aload_n dX12_readSaid_40 rfl ?_
            refine go_iconst dX12_readSaid_41 ?_
            refine go_callV_z (as := [vi 1]) (S := []) (b := 214) (ev_X12_bad (m := m) (k := 1) (G := G) (t := t) (kw := kw) (n := n) (lim := lim) (i := i) htm (by first | assumption | omega | exact ⟨by omega, by omega⟩ | (constructor <;> omega))) rfl dX12_readSaid_42 cv_12_72 rfl rfl ob_214 rfl (by decide) (Nat.le_of_ble_eq_true rfl) (fun r_42 m_42 hr_42 ho_42 => ?_)
            refine go_ret (v := r_42) rfl dX12_readSaid_45 (okZ (by first | exact Or.inl rfl | exact Or.inr rfl | assumption | omega)) ?_
            have hq : oneF G 4 i o = (1, i, o, []) := by unfold oneF; rw [if_pos (by omega)]
            have z := NoT.b (G := G) (m := m) (m' := m_42) (f := 1) (i := i) (by rw [hr_42.2]; congr 2; split <;> rfl)
            rw [SaQ, hq]
            exact ⟨z.1.s, by rw [z.1.2 46 (by omega)]; exact hm2, Or.inr ⟨(show (1 : Int) ≠ 0 by decide), hr_42.1, z.2.1, z.2.2⟩⟩
      refine go_bipush dX12_readSaid_11 (by decide) ?_
      refine go_icmp_gt (tgt := 30) dX12_readSaid_13 (by decide) ⟨by omega, by omega⟩ ⟨by omega, by omega⟩ (fun h_13 => ?_) (fun h_13 => ?_)
      · exact cut_30  (by first | (left; omega) | (right; refine ⟨by omega, fun z => hno (G 4 i - 200) (by omega) (by omega) (by omega)⟩))
      · refine go_aload_n dX12_readSaid_16 rfl ?_
        refine go_iload_n dX12_readSaid_17 rfl ?_
        refine go_callVp_z (as := [vi w]) (S := []) (b := 214) (ev_X12_isWord (m := m) (k := w) (G := G) (t := t) (kw := kw) (n := n) (lim := lim) (i := i) htm (by first | assumption | omega | exact ⟨by omega, by omega⟩ | (constructor <;> omega))) rfl dX12_readSaid_18 cv_12_202 rfl rfl ob_214 rfl (by decide) (Nat.le_of_ble_eq_true rfl) (fun r_18 hr_18 ho_18 => ?_)
        refine go_if_ne (tgt := 30) dX12_readSaid_21 (by decide) ⟨by omega, by omega⟩ (fun h_21 => ?_) (fun h_21 => ?_)
        · exact cut_30  (by first | (left; omega) | (right; refine ⟨by omega, fun z => hno (G 4 i - 200) (by omega) (by omega) (by omega)⟩))
        · refine go_iinc (L' := [vr 214, vi r_3, vi (w + 1), un]) dX12_readSaid_24 rfl (by decide) rfl rfl ?_
          refine go_goto (tgt := 10) dX12_readSaid_27 (by decide) ?_
          exact ih_10 (w + 1) (by first | assumption | omega | rfl) (by first | assumption | omega | rfl) (fun j a b => by by_cases q : j < w; exact hno j a q; (rw [show j = w by omega]; omega)) (by omega)
  exact lp_10 _ 15 (by first | assumption | omega | rfl) (by first | assumption | omega | rfl) (fun j a b => by omega) (Nat.lt_succ_self _)
set_option maxRecDepth 4000 in
theorem ev_X12_all4 {m : Mem} {G : Mem} {t : Int → Int} {kw : Int → Int} {n : Int} {lim : Int} {i : Int} {o : Int} {nn : Int} (htm : TM G t kw n lim m i) (hb : Bg G 8 18 (m 216)) (hdn : DnOk G 8) (hnm : NmR G 8 (m 221)) (hms : MS m (G 8 3) o 4 nn) (ho : 0 ≤ o ∧ o ≤ 20) (hnn : 0 ≤ nn ∧ nn ≤ 2 * o) : Ev 0 31 mX12_readAnd [vr 214] m (fun r m' => SaQ G t kw n lim m m' 4 nn (seqF (G 4) 214 (oneF G 4) i o) r) := by
  refine Ev.of (L := [vr 214, un]) (by decide +kernel) rfl (Nat.le_of_ble_eq_true rfl) rfl (fun t ht => by cases ht; first | exact Or.inl rfl | exact Or.inr (Or.inl rfl) | exact Or.inr (Or.inr rfl)) (fun hcan => ?_)
  obtain ⟨hm1, hm2, hm3, hm4⟩ := id hms
  have hPB : PB (oneF G 4) := (oneF_b G 4)
  refine go_aload_n dX12_readAnd_0 rfl ?_
  refine go_callV_z (as := []) (S := []) (b := 214) (ev_X12_one4 (m := m) (G := G) (t := t) (kw := kw) (n := n) (lim := lim) (i := i) (o := o) (nn := nn) htm hb hdn hnm hms (by first | assumption | omega | exact ⟨by omega, by omega⟩ | (constructor <;> omega)) (by first | assumption | omega | exact ⟨by omega, by omega⟩ | (constructor <;> omega))) rfl dX12_readAnd_1 cv_12_436 rfl rfl ob_214 rfl (by decide) (Nat.le_of_ble_eq_true rfl) (fun r_1 m_1 hr_1 ho_1 => ?_)
  obtain ⟨x_1, w_1, hr_1⟩ := hr_1
  rcases hr_1 with ⟨f_1, e_1, g_1, t_1, s_1, j_1, p_1, r_1e, c_1⟩ | ⟨f_1, e_1, no_1⟩
  · refine go_if_ne (tgt := 9) dX12_readAnd_4 (by decide) ⟨by omega, by omega⟩ (fun h_4 => ?_) (fun h_4 => ?_)
    · have hR1 := hPB i o (by omega) (by omega) f_1
      refine go_aload_n dX12_readAnd_9 rfl ?_
      refine go_getf_i (ki := 47) dX12_readAnd_10 fl_12_430 ob_214 rfl rfl (fun hf_10 => ?_)
      refine go_istore_n (L' := [vr 214, vi (m_1 214 47)]) dX12_readAnd_13 (by decide) rfl rfl ?_
      have lp_14 : ∀ (n_14 : Nat) (m1 : Mem) (av : Int) (a : Rs) (f : Nat), (a.1 = 0) → (Sx m m1) → (m1 214 46 = 4) → (m1 214 10 = m 214 10) → (TM G t kw n lim m1 a.2.1) → (MS m1 (G 8 3) a.2.2.1 4 (nn + (a.2.2.2.length : Int))) → (∀ j : Int, j < 4 * nn → m1 234 j = m 234 j) → (nn ≤ av ∧ av < nn + (a.2.2.2.length : Int)) → (Rep (m1 234) av a.2.2.2) → (CdA (G 8 3) a.2.2.2) → (seqL (G 4) 214 (oneF G 4) f a = seqL (G 4) 214 (oneF G 4) 21 ((oneF G 4) i o)) → ((o + 1 ≤ a.2.2.1 ∧ a.2.2.1 ≤ 20) ∧ (a.2.2.2.length : Int) + 1 ≤ 2 * (a.2.2.1 - o)) → (22 + o ≤ (f : Int) + a.2.2.1) → f < n_14 → Go 0 31 mX12_readAnd (fun r m' => SaQ G t kw n lim m m' 4 nn (seqF (G 4) 214 (oneF G 4) i o) r) 14 [vr 214, vi av] [] m1 := by
        intro n_14
        induction n_14 with
        | zero => intro m1 av a f ha0 hsx hw46 hg10 htm1 hms1 hfr hav hrp hcd hsl hab hfu hmu; exact absurd hmu (Nat.not_lt_zero _)
        | succ n_14 ih_14 =>
          intro m1 av a f ha0 hsx hw46 hg10 htm1 hms1 hfr hav hrp hcd hsl hab hfu hmu
          obtain ⟨hab1, hab2⟩ := hab
          have hsu : seqL (G 4) 214 (oneF G 4) f a = if G 4 a.2.1 = 214 then (if ((oneF G 4) (a.2.1 + 1) a.2.2.1).1 ≠ 0 then ((oneF G 4) (a.2.1 + 1) a.2.2.1) else seqL (G 4) 214 (oneF G 4) (f - 1) (0, ((oneF G 4) (a.2.1 + 1) a.2.2.1).2.1, ((oneF G 4) (a.2.1 + 1) a.2.2.1).2.2.1, a.2.2.2 ++ ((oneF G 4) (a.2.1 + 1) a.2.2.1).2.2.2 ++ [(214, 0, 0)])) else a := by
            obtain ⟨g, rfl⟩ : ∃ g, f = g + 1 := ⟨f - 1, by omega⟩
            rfl
          have hPB2 := hPB (a.2.1 + 1) a.2.2.1 (by omega) (by omega)
          refine go_aload_n dX12_readAnd_14 rfl ?_
          refine go_bipush dX12_readAnd_15 (by decide) ?_
          refine go_callVp_z (as := [vi 14]) (S := []) (b := 214) (ev_X12_isWord (m := m1) (k := 14) (G := G) (t := t) (kw := kw) (n := n) (lim := lim) (i := a.2.1) htm1 (by first | assumption | omega | exact ⟨by omega, by omega⟩ | (constructor <;> omega))) rfl dX12_readAnd_17 cv_12_202 rfl rfl ob_214 rfl (by decide) (Nat.le_of_ble_eq_true rfl) (fun r_17 hr_17 ho_17 => ?_)
          refine go_if_eq (tgt := 51) dX12_readAnd_20 (by decide) ⟨by omega, by omega⟩ (fun h_20 => ?_) (fun h_20 => ?_)
          · refine go_aload_n dX12_readAnd_51 rfl ?_
            refine go_iload_n dX12_readAnd_52 rfl ?_
            refine go_putf_i (ki := 47) dX12_readAnd_53 fw_12_430 ob_214 rfl rfl ⟨by omega, by omega⟩ ?_
            refine go_iconst dX12_readAnd_56 ?_
            refine go_ret (v := 1) rfl dX12_readAnd_57 (okZ (by first | exact Or.inl rfl | exact Or.inr rfl | assumption | omega)) ?_
            have hq : seqF (G 4) 214 (oneF G 4) i o = a := by rw [seqF_e (G 4) 214, if_neg (fun z => z f_1), ← hsl, hsu, if_neg (by omega)]
            rw [SaQ, hq]
            refine ⟨hsx.w (by omega) (by omega), by rw [wr_ni (by decide)]; exact hw46, Or.inl ⟨ha0, rfl, by rw [wr_ni (by decide)]; exact hg10, htm1.w (by decide) (by omega), ⟨by rw [wr_ni (by decide)]; exact hms1.1, by rw [wr_ni (by decide)]; exact hms1.2.1, by rw [wr_ni (by decide)]; exact hms1.2.2.1, by rw [wr_row (by decide)]; exact hms1.2.2.2⟩, fun j hj => by rw [wr_na (by decide)]; exact hfr j hj, by rw [wr_self]; exact hav, by rw [wr_self, wr_row (by decide)]; exact hrp, hcd⟩⟩
          · refine go_aload_n dX12_readAnd_23 rfl ?_
            refine go_callV_v (as := []) (S := []) (b := 214) (ev_X12_go (m := m1) (G := G) (t := t) (kw := kw) (n := n) (lim := lim) (i := (a.2.1 + 1)) (htm1.nx (by omega))) rfl dX12_readAnd_24 cv_12_82 rfl rfl ob_214 rfl (by decide) (Nat.le_of_ble_eq_true rfl) (fun m_24 hr_24 => ?_)
            have l24 := hr_24.1.l
            refine go_aload_n dX12_readAnd_27 rfl ?_
            refine go_callV_z (as := []) (S := []) (b := 214) (ev_X12_one4 (m := m_24) (G := G) (t := t) (kw := kw) (n := n) (lim := lim) (i := (a.2.1 + 1)) (o := a.2.2.1) (nn := (nn + (a.2.2.2.length : Int))) hr_24.2 (by rw [(hsx.tr l24.s).1 216 (by decide) (by decide)]; exact hb) hdn (by rw [(hsx.tr l24.s).1 221 (by decide) (by decide)]; exact hnm) (hms1.l l24) (by omega) (by omega)) rfl dX12_readAnd_28 cv_12_436 rfl rfl ob_214 rfl (by decide) (Nat.le_of_ble_eq_true rfl) (fun r_28 m_28 hr_28 ho_28 => ?_)
            obtain ⟨Q, hQe⟩ : ∃ z, z = ((oneF G 4) (a.2.1 + 1) a.2.2.1) := ⟨_, rfl⟩
            rw [← hQe] at hr_28
            obtain ⟨x_28, w_28, hr_28⟩ := hr_28
            rcases hr_28 with ⟨f_28, e_28, g_28, t_28, s_28, j_28, p_28, r_28e, c_28⟩ | ⟨f_28, e_28, no_28⟩
            · refine go_if_ne (tgt := 36) dX12_readAnd_31 (by decide) ⟨by omega, by omega⟩ (fun h_31 => ?_) (fun h_31 => ?_)
              · rw [← hQe] at hPB2
                have hQ2 := hPB2 f_28
                have hln : ((a.2.2.2 ++ Q.2.2.2 ++ [((214 : Int), (0 : Int), (0 : Int))]).length : Int) = a.2.2.2.length + Q.2.2.2.length + 1 := by rw [List.length_append, List.length_append]; rfl
                have hw2 : Wf (m_24 234) (G 8 3) (nn + (a.2.2.2.length : Int)) := by rw [l24.1 234 (by decide)]; exact hms1.2.2.2
                have hrp2 : Rep (m_28 234) av a.2.2.2 := by
                  have z : Rep (m_24 234) av a.2.2.2 := by rw [l24.1 234 (by decide)]; exact hrp
                  exact z.c j_28 hw2 (by omega) (by omega)
                have hwk : Wk (nodF (m_28 234) (nn + (a.2.2.2.length : Int) + (Q.2.2.2.length : Int)) 2 av (m_28 214 47) 0) (G 8 3) (nn + (a.2.2.2.length : Int) + (Q.2.2.2.length : Int)) := by
                  obtain ⟨e0, e1, e2, e3⟩ := nodF_n (N := m_28 234) (n := nn + (a.2.2.2.length : Int) + (Q.2.2.2.length : Int)) (w := 2) (a := av) (b := m_28 214 47) (r := 0)
                  unfold Wk
                  rw [e0, e1, e2, e3]
                  right; left; omega
                have hwn := s_28.2.2.2.add (by omega) hwk
                have hrb := hrp2.bin r_28e s_28.2.2.2 (by omega) (by omega) (by omega) (by omega) (by omega) hwn
                refine go_aload_n dX12_readAnd_36 rfl ?_
                refine go_iconst dX12_readAnd_37 ?_
                refine go_iload_n dX12_readAnd_38 rfl ?_
                refine go_aload_n dX12_readAnd_39 rfl ?_
                refine go_getf_i (ki := 47) dX12_readAnd_40 fl_12_430 ob_214 rfl rfl (fun hf_40 => ?_)
                refine go_iconst dX12_readAnd_43 ?_
                refine go_callV_i (as := [vi 2, vi av, vi (m_28 214 47), vi 0]) (S := []) (b := 214) (ev_X12_saysOne (m := m_28) (w := 2) (a := av) (b := (m_28 214 47)) (s := 0) (nn := (nn + (a.2.2.2.length : Int) + (Q.2.2.2.length : Int))) s_28.2.2.1 (by omega) (by first | assumption | omega | exact ⟨by omega, by omega⟩ | (constructor <;> omega)) (by first | assumption | omega | exact ⟨by omega, by omega⟩ | (constructor <;> omega)) hf_40 (by first | assumption | omega | exact ⟨by omega, by omega⟩ | (constructor <;> omega))) rfl dX12_readAnd_44 cv_12_433 rfl rfl ob_214 rfl (by decide) (Nat.le_of_ble_eq_true rfl) (fun r_44 m_44 hr_44 ho_44 => ?_)
                obtain ⟨e_44, hm_44⟩ := hr_44
                refine go_istore_n (L' := [vr 214, vi r_44]) dX12_readAnd_47 (by decide) rfl rfl ?_
                refine go_goto (tgt := 14) dX12_readAnd_48 (by decide) ?_
                exact ih_14 m_44 r_44 (0, ((oneF G 4) (a.2.1 + 1) a.2.2.1).2.1, ((oneF G 4) (a.2.1 + 1) a.2.2.1).2.2.1, a.2.2.2 ++ ((oneF G 4) (a.2.1 + 1) a.2.2.1).2.2.2 ++ [(214, 0, 0)]) (f - 1) rfl (by rw [hm_44]; exact ((hsx.tr l24.s).tr x_28).tr nodW_s) (by rw [hm_44, nodW_214 (by decide)]; exact w_28) (by rw [hm_44, nodW_214 (by decide), g_28, hr_24.1.2 10 (by decide) (by decide) (by decide) (by decide) (by decide) (by decide)]; exact hg10) (by rw [hm_44]; show TM G t kw n lim _ ((oneF G 4) (a.2.1 + 1) a.2.2.1).2.1; rw [← hQe]; exact t_28.nod) (by show MS m_44 (G 8 3) ((oneF G 4) (a.2.1 + 1) a.2.2.1).2.2.1 4 (nn + ((a.2.2.2 ++ ((oneF G 4) (a.2.1 + 1) a.2.2.1).2.2.2 ++ [((214 : Int), (0 : Int), (0 : Int))]).length : Int)); rw [← hQe, hln, hm_44]; refine ⟨by rw [nodW_214 (by decide)]; exact s_28.1, by rw [nodW_214 (by decide)]; exact s_28.2.1, by rw [nodW_44]; omega, ?_⟩; rw [nodW_234, show nn + ((a.2.2.2.length : Int) + Q.2.2.2.length + 1) = nn + (a.2.2.2.length : Int) + (Q.2.2.2.length : Int) + 1 by omega]; exact hwn) (fun j hj => by rw [hm_44, nodW_234, nodF_o j (by omega), j_28 j (by omega), l24.1 234 (by decide)]; exact hfr j hj) (by show nn ≤ r_44 ∧ r_44 < nn + ((a.2.2.2 ++ ((oneF G 4) (a.2.1 + 1) a.2.2.1).2.2.2 ++ [((214 : Int), (0 : Int), (0 : Int))]).length : Int); rw [← hQe, hln]; omega) (by show Rep _ _ (a.2.2.2 ++ ((oneF G 4) (a.2.1 + 1) a.2.2.1).2.2.2 ++ [((214 : Int), (0 : Int), (0 : Int))]); rw [← hQe, hm_44, nodW_234, e_44]; exact hrb) (by show CdA _ (a.2.2.2 ++ ((oneF G 4) (a.2.1 + 1) a.2.2.1).2.2.2 ++ [((214 : Int), (0 : Int), (0 : Int))]); rw [← hQe]; exact (hcd.app c_28).app (CdA.k (by decide))) (by rw [← hsl, hsu, if_pos (by omega), ← hQe, if_neg (fun z => z f_28)]) (by show (o + 1 ≤ ((oneF G 4) (a.2.1 + 1) a.2.2.1).2.2.1 ∧ ((oneF G 4) (a.2.1 + 1) a.2.2.1).2.2.1 ≤ 20) ∧ ((a.2.2.2 ++ ((oneF G 4) (a.2.1 + 1) a.2.2.1).2.2.2 ++ [((214 : Int), (0 : Int), (0 : Int))]).length : Int) + 1 ≤ 2 * (((oneF G 4) (a.2.1 + 1) a.2.2.1).2.2.1 - o); rw [← hQe, hln]; omega) (by show 22 + o ≤ ((f - 1 : Nat) : Int) + ((oneF G 4) (a.2.1 + 1) a.2.2.1).2.2.1; rw [← hQe]; omega) (by omega)
              · exfalso; omega
            · refine go_if_ne (tgt := 36) dX12_readAnd_31 (by decide) ⟨by omega, by omega⟩ (fun h_31 => ?_) (fun h_31 => ?_)
              · exfalso; omega
              · refine go_iconst dX12_readAnd_34 ?_
                refine go_ret (v := 0) rfl dX12_readAnd_35 (okZ (by first | exact Or.inl rfl | exact Or.inr rfl | assumption | omega)) ?_
                have hq : seqF (G 4) 214 (oneF G 4) i o = Q := by rw [seqF_e (G 4) 214, if_neg (fun z => z f_1), ← hsl, hsu, if_pos (by omega), ← hQe, if_pos f_28]
                rw [SaQ, hq]
                exact ⟨(hsx.tr l24.s).tr x_28, w_28, Or.inr ⟨f_28, rfl, no_28⟩⟩
      exact lp_14 _ m_1 (m_1 214 47) ((oneF G 4) i o) 21 f_1 x_1 w_1 g_1 t_1 s_1 j_1 p_1 r_1e c_1 rfl ⟨⟨hR1.1, hR1.2.1⟩, hR1.2.2⟩ (by have := hR1.1; omega) (Nat.lt_succ_self _)
    · exfalso; omega
  · refine go_if_ne (tgt := 9) dX12_readAnd_4 (by decide) ⟨by omega, by omega⟩ (fun h_4 => ?_) (fun h_4 => ?_)
    · exfalso; omega
    · refine go_iconst dX12_readAnd_7 ?_
      refine go_ret (v := 0) rfl dX12_readAnd_8 (okZ (by first | exact Or.inl rfl | exact Or.inr rfl | assumption | omega)) ?_
      rw [SaQ, seqF_e (G 4) 214, if_pos f_1]
      exact ⟨x_1, w_1, Or.inr ⟨f_1, rfl, no_1⟩⟩
set_option maxRecDepth 4000 in
theorem ev_X12_con4 {m : Mem} {G : Mem} {t : Int → Int} {kw : Int → Int} {n : Int} {lim : Int} {i : Int} {o : Int} {nn : Int} (htm : TM G t kw n lim m i) (hb : Bg G 8 18 (m 216)) (hdn : DnOk G 8) (hnm : NmR G 8 (m 221)) (hms : MS m (G 8 3) o 4 nn) (ho : 0 ≤ o ∧ o ≤ 20) (hnn : 0 ≤ nn ∧ nn ≤ 2 * o) : Ev 0 32 mX12_readOr [vr 214] m (fun r m' => SaQ G t kw n lim m m' 4 nn (seqF (G 4) 213 (seqF (G 4) 214 (oneF G 4)) i o) r) := by
  refine Ev.of (L := [vr 214, un]) (by decide +kernel) rfl (Nat.le_of_ble_eq_true rfl) rfl (fun t ht => by cases ht; first | exact Or.inl rfl | exact Or.inr (Or.inl rfl) | exact Or.inr (Or.inr rfl)) (fun hcan => ?_)
  obtain ⟨hm1, hm2, hm3, hm4⟩ := id hms
  have hPB : PB (seqF (G 4) 214 (oneF G 4)) := (seqF_b (oneF_b G 4))
  refine go_aload_n dX12_readOr_0 rfl ?_
  refine go_callV_z (as := []) (S := []) (b := 214) (ev_X12_all4 (m := m) (G := G) (t := t) (kw := kw) (n := n) (lim := lim) (i := i) (o := o) (nn := nn) htm hb hdn hnm hms (by first | assumption | omega | exact ⟨by omega, by omega⟩ | (constructor <;> omega)) (by first | assumption | omega | exact ⟨by omega, by omega⟩ | (constructor <;> omega))) rfl dX12_readOr_1 cv_12_427 rfl rfl ob_214 rfl (by decide) (Nat.le_of_ble_eq_true rfl) (fun r_1 m_1 hr_1 ho_1 => ?_)
  obtain ⟨x_1, w_1, hr_1⟩ := hr_1
  rcases hr_1 with ⟨f_1, e_1, g_1, t_1, s_1, j_1, p_1, r_1e, c_1⟩ | ⟨f_1, e_1, no_1⟩
  · refine go_if_ne (tgt := 9) dX12_readOr_4 (by decide) ⟨by omega, by omega⟩ (fun h_4 => ?_) (fun h_4 => ?_)
    · have hR1 := hPB i o (by omega) (by omega) f_1
      refine go_aload_n dX12_readOr_9 rfl ?_
      refine go_getf_i (ki := 47) dX12_readOr_10 fl_12_430 ob_214 rfl rfl (fun hf_10 => ?_)
      refine go_istore_n (L' := [vr 214, vi (m_1 214 47)]) dX12_readOr_13 (by decide) rfl rfl ?_
      have lp_14 : ∀ (n_14 : Nat) (m1 : Mem) (av : Int) (a : Rs) (f : Nat), (a.1 = 0) → (Sx m m1) → (m1 214 46 = 4) → (m1 214 10 = m 214 10) → (TM G t kw n lim m1 a.2.1) → (MS m1 (G 8 3) a.2.2.1 4 (nn + (a.2.2.2.length : Int))) → (∀ j : Int, j < 4 * nn → m1 234 j = m 234 j) → (nn ≤ av ∧ av < nn + (a.2.2.2.length : Int)) → (Rep (m1 234) av a.2.2.2) → (CdA (G 8 3) a.2.2.2) → (seqL (G 4) 213 (seqF (G 4) 214 (oneF G 4)) f a = seqL (G 4) 213 (seqF (G 4) 214 (oneF G 4)) 21 ((seqF (G 4) 214 (oneF G 4)) i o)) → ((o + 1 ≤ a.2.2.1 ∧ a.2.2.1 ≤ 20) ∧ (a.2.2.2.length : Int) + 1 ≤ 2 * (a.2.2.1 - o)) → (22 + o ≤ (f : Int) + a.2.2.1) → f < n_14 → Go 0 32 mX12_readOr (fun r m' => SaQ G t kw n lim m m' 4 nn (seqF (G 4) 213 (seqF (G 4) 214 (oneF G 4)) i o) r) 14 [vr 214, vi av] [] m1 := by
        intro n_14
        induction n_14 with
        | zero => intro m1 av a f ha0 hsx hw46 hg10 htm1 hms1 hfr hav hrp hcd hsl hab hfu hmu; exact absurd hmu (Nat.not_lt_zero _)
        | succ n_14 ih_14 =>
          intro m1 av a f ha0 hsx hw46 hg10 htm1 hms1 hfr hav hrp hcd hsl hab hfu hmu
          obtain ⟨hab1, hab2⟩ := hab
          have hsu : seqL (G 4) 213 (seqF (G 4) 214 (oneF G 4)) f a = if G 4 a.2.1 = 213 then (if ((seqF (G 4) 214 (oneF G 4)) (a.2.1 + 1) a.2.2.1).1 ≠ 0 then ((seqF (G 4) 214 (oneF G 4)) (a.2.1 + 1) a.2.2.1) else seqL (G 4) 213 (seqF (G 4) 214 (oneF G 4)) (f - 1) (0, ((seqF (G 4) 214 (oneF G 4)) (a.2.1 + 1) a.2.2.1).2.1, ((seqF (G 4) 214 (oneF G 4)) (a.2.1 + 1) a.2.2.1).2.2.1, a.2.2.2 ++ ((seqF (G 4) 214 (oneF G 4)) (a.2.1 + 1) a.2.2.1).2.2.2 ++ [(213, 0, 0)])) else a := by
            obtain ⟨g, rfl⟩ : ∃ g, f = g + 1 := ⟨f - 1, by omega⟩
            rfl
          have hPB2 := hPB (a.2.1 + 1) a.2.2.1 (by omega) (by omega)
          refine go_aload_n dX12_readOr_14 rfl ?_
          refine go_bipush dX12_readOr_15 (by decide) ?_
          refine go_callVp_z (as := [vi 13]) (S := []) (b := 214) (ev_X12_isWord (m := m1) (k := 13) (G := G) (t := t) (kw := kw) (n := n) (lim := lim) (i := a.2.1) htm1 (by first | assumption | omega | exact ⟨by omega, by omega⟩ | (constructor <;> omega))) rfl dX12_readOr_17 cv_12_202 rfl rfl ob_214 rfl (by decide) (Nat.le_of_ble_eq_true rfl) (fun r_17 hr_17 ho_17 => ?_)
          refine go_if_eq (tgt := 51) dX12_readOr_20 (by decide) ⟨by omega, by omega⟩ (fun h_20 => ?_) (fun h_20 => ?_)
          · refine go_aload_n dX12_readOr_51 rfl ?_
            refine go_iload_n dX12_readOr_52 rfl ?_
            refine go_putf_i (ki := 47) dX12_readOr_53 fw_12_430 ob_214 rfl rfl ⟨by omega, by omega⟩ ?_
            refine go_iconst dX12_readOr_56 ?_
            refine go_ret (v := 1) rfl dX12_readOr_57 (okZ (by first | exact Or.inl rfl | exact Or.inr rfl | assumption | omega)) ?_
            have hq : seqF (G 4) 213 (seqF (G 4) 214 (oneF G 4)) i o = a := by rw [seqF_e (G 4) 213, if_neg (fun z => z f_1), ← hsl, hsu, if_neg (by omega)]
            rw [SaQ, hq]
            refine ⟨hsx.w (by omega) (by omega), by rw [wr_ni (by decide)]; exact hw46, Or.inl ⟨ha0, rfl, by rw [wr_ni (by decide)]; exact hg10, htm1.w (by decide) (by omega), ⟨by rw [wr_ni (by decide)]; exact hms1.1, by rw [wr_ni (by decide)]; exact hms1.2.1, by rw [wr_ni (by decide)]; exact hms1.2.2.1, by rw [wr_row (by decide)]; exact hms1.2.2.2⟩, fun j hj => by rw [wr_na (by decide)]; exact hfr j hj, by rw [wr_self]; exact hav, by rw [wr_self, wr_row (by decide)]; exact hrp, hcd⟩⟩
          · refine go_aload_n dX12_readOr_23 rfl ?_
            refine go_callV_v (as := []) (S := []) (b := 214) (ev_X12_go (m := m1) (G := G) (t := t) (kw := kw) (n := n) (lim := lim) (i := (a.2.1 + 1)) (htm1.nx (by omega))) rfl dX12_readOr_24 cv_12_82 rfl rfl ob_214 rfl (by decide) (Nat.le_of_ble_eq_true rfl) (fun m_24 hr_24 => ?_)
            have l24 := hr_24.1.l
            refine go_aload_n dX12_readOr_27 rfl ?_
            refine go_callV_z (as := []) (S := []) (b := 214) (ev_X12_all4 (m := m_24) (G := G) (t := t) (kw := kw) (n := n) (lim := lim) (i := (a.2.1 + 1)) (o := a.2.2.1) (nn := (nn + (a.2.2.2.length : Int))) hr_24.2 (by rw [(hsx.tr l24.s).1 216 (by decide) (by decide)]; exact hb) hdn (by rw [(hsx.tr l24.s).1 221 (by decide) (by decide)]; exact hnm) (hms1.l l24) (by omega) (by omega)) rfl dX12_readOr_28 cv_12_427 rfl rfl ob_214 rfl (by decide) (Nat.le_of_ble_eq_true rfl) (fun r_28 m_28 hr_28 ho_28 => ?_)
            obtain ⟨Q, hQe⟩ : ∃ z, z = ((seqF (G 4) 214 (oneF G 4)) (a.2.1 + 1) a.2.2.1) := ⟨_, rfl⟩
            rw [← hQe] at hr_28
            obtain ⟨x_28, w_28, hr_28⟩ := hr_28
            rcases hr_28 with ⟨f_28, e_28, g_28, t_28, s_28, j_28, p_28, r_28e, c_28⟩ | ⟨f_28, e_28, no_28⟩
            · refine go_if_ne (tgt := 36) dX12_readOr_31 (by decide) ⟨by omega, by omega⟩ (fun h_31 => ?_) (fun h_31 => ?_)
              · rw [← hQe] at hPB2
                have hQ2 := hPB2 f_28
                have hln : ((a.2.2.2 ++ Q.2.2.2 ++ [((213 : Int), (0 : Int), (0 : Int))]).length : Int) = a.2.2.2.length + Q.2.2.2.length + 1 := by rw [List.length_append, List.length_append]; rfl
                have hw2 : Wf (m_24 234) (G 8 3) (nn + (a.2.2.2.length : Int)) := by rw [l24.1 234 (by decide)]; exact hms1.2.2.2
                have hrp2 : Rep (m_28 234) av a.2.2.2 := by
                  have z : Rep (m_24 234) av a.2.2.2 := by rw [l24.1 234 (by decide)]; exact hrp
                  exact z.c j_28 hw2 (by omega) (by omega)
                have hwk : Wk (nodF (m_28 234) (nn + (a.2.2.2.length : Int) + (Q.2.2.2.length : Int)) 3 av (m_28 214 47) 0) (G 8 3) (nn + (a.2.2.2.length : Int) + (Q.2.2.2.length : Int)) := by
                  obtain ⟨e0, e1, e2, e3⟩ := nodF_n (N := m_28 234) (n := nn + (a.2.2.2.length : Int) + (Q.2.2.2.length : Int)) (w := 3) (a := av) (b := m_28 214 47) (r := 0)
                  unfold Wk
                  rw [e0, e1, e2, e3]
                  right; left; omega
                have hwn := s_28.2.2.2.add (by omega) hwk
                have hrb := hrp2.bin r_28e s_28.2.2.2 (by omega) (by omega) (by omega) (by omega) (by omega) hwn
                refine go_aload_n dX12_readOr_36 rfl ?_
                refine go_iconst dX12_readOr_37 ?_
                refine go_iload_n dX12_readOr_38 rfl ?_
                refine go_aload_n dX12_readOr_39 rfl ?_
                refine go_getf_i (ki := 47) dX12_readOr_40 fl_12_430 ob_214 rfl rfl (fun hf_40 => ?_)
                refine go_iconst dX12_readOr_43 ?_
                refine go_callV_i (as := [vi 3, vi av, vi (m_28 214 47), vi 0]) (S := []) (b := 214) (ev_X12_saysOne (m := m_28) (w := 3) (a := av) (b := (m_28 214 47)) (s := 0) (nn := (nn + (a.2.2.2.length : Int) + (Q.2.2.2.length : Int))) s_28.2.2.1 (by omega) (by first | assumption | omega | exact ⟨by omega, by omega⟩ | (constructor <;> omega)) (by first | assumption | omega | exact ⟨by omega, by omega⟩ | (constructor <;> omega)) hf_40 (by first | assumption | omega | exact ⟨by omega, by omega⟩ | (constructor <;> omega))) rfl dX12_readOr_44 cv_12_433 rfl rfl ob_214 rfl (by decide) (Nat.le_of_ble_eq_true rfl) (fun r_44 m_44 hr_44 ho_44 => ?_)
                obtain ⟨e_44, hm_44⟩ := hr_44
                refine go_istore_n (L' := [vr 214, vi r_44]) dX12_readOr_47 (by decide) rfl rfl ?_
                refine go_goto (tgt := 14) dX12_readOr_48 (by decide) ?_
                exact ih_14 m_44 r_44 (0, ((seqF (G 4) 214 (oneF G 4)) (a.2.1 + 1) a.2.2.1).2.1, ((seqF (G 4) 214 (oneF G 4)) (a.2.1 + 1) a.2.2.1).2.2.1, a.2.2.2 ++ ((seqF (G 4) 214 (oneF G 4)) (a.2.1 + 1) a.2.2.1).2.2.2 ++ [(213, 0, 0)]) (f - 1) rfl (by rw [hm_44]; exact ((hsx.tr l24.s).tr x_28).tr nodW_s) (by rw [hm_44, nodW_214 (by decide)]; exact w_28) (by rw [hm_44, nodW_214 (by decide), g_28, hr_24.1.2 10 (by decide) (by decide) (by decide) (by decide) (by decide) (by decide)]; exact hg10) (by rw [hm_44]; show TM G t kw n lim _ ((seqF (G 4) 214 (oneF G 4)) (a.2.1 + 1) a.2.2.1).2.1; rw [← hQe]; exact t_28.nod) (by show MS m_44 (G 8 3) ((seqF (G 4) 214 (oneF G 4)) (a.2.1 + 1) a.2.2.1).2.2.1 4 (nn + ((a.2.2.2 ++ ((seqF (G 4) 214 (oneF G 4)) (a.2.1 + 1) a.2.2.1).2.2.2 ++ [((213 : Int), (0 : Int), (0 : Int))]).length : Int)); rw [← hQe, hln, hm_44]; refine ⟨by rw [nodW_214 (by decide)]; exact s_28.1, by rw [nodW_214 (by decide)]; exact s_28.2.1, by rw [nodW_44]; omega, ?_⟩; rw [nodW_234, show nn + ((a.2.2.2.length : Int) + Q.2.2.2.length + 1) = nn + (a.2.2.2.length : Int) + (Q.2.2.2.length : Int) + 1 by omega]; exact hwn) (fun j hj => by rw [hm_44, nodW_234, nodF_o j (by omega), j_28 j (by omega), l24.1 234 (by decide)]; exact hfr j hj) (by show nn ≤ r_44 ∧ r_44 < nn + ((a.2.2.2 ++ ((seqF (G 4) 214 (oneF G 4)) (a.2.1 + 1) a.2.2.1).2.2.2 ++ [((213 : Int), (0 : Int), (0 : Int))]).length : Int); rw [← hQe, hln]; omega) (by show Rep _ _ (a.2.2.2 ++ ((seqF (G 4) 214 (oneF G 4)) (a.2.1 + 1) a.2.2.1).2.2.2 ++ [((213 : Int), (0 : Int), (0 : Int))]); rw [← hQe, hm_44, nodW_234, e_44]; exact hrb) (by show CdA _ (a.2.2.2 ++ ((seqF (G 4) 214 (oneF G 4)) (a.2.1 + 1) a.2.2.1).2.2.2 ++ [((213 : Int), (0 : Int), (0 : Int))]); rw [← hQe]; exact (hcd.app c_28).app (CdA.k (by decide))) (by rw [← hsl, hsu, if_pos (by omega), ← hQe, if_neg (fun z => z f_28)]) (by show (o + 1 ≤ ((seqF (G 4) 214 (oneF G 4)) (a.2.1 + 1) a.2.2.1).2.2.1 ∧ ((seqF (G 4) 214 (oneF G 4)) (a.2.1 + 1) a.2.2.1).2.2.1 ≤ 20) ∧ ((a.2.2.2 ++ ((seqF (G 4) 214 (oneF G 4)) (a.2.1 + 1) a.2.2.1).2.2.2 ++ [((213 : Int), (0 : Int), (0 : Int))]).length : Int) + 1 ≤ 2 * (((seqF (G 4) 214 (oneF G 4)) (a.2.1 + 1) a.2.2.1).2.2.1 - o); rw [← hQe, hln]; omega) (by show 22 + o ≤ ((f - 1 : Nat) : Int) + ((seqF (G 4) 214 (oneF G 4)) (a.2.1 + 1) a.2.2.1).2.2.1; rw [← hQe]; omega) (by omega)
              · exfalso; omega
            · refine go_if_ne (tgt := 36) dX12_readOr_31 (by decide) ⟨by omega, by omega⟩ (fun h_31 => ?_) (fun h_31 => ?_)
              · exfalso; omega
              · refine go_iconst dX12_readOr_34 ?_
                refine go_ret (v := 0) rfl dX12_readOr_35 (okZ (by first | exact Or.inl rfl | exact Or.inr rfl | assumption | omega)) ?_
                have hq : seqF (G 4) 213 (seqF (G 4) 214 (oneF G 4)) i o = Q := by rw [seqF_e (G 4) 213, if_neg (fun z => z f_1), ← hsl, hsu, if_pos (by omega), ← hQe, if_pos f_28]
                rw [SaQ, hq]
                exact ⟨(hsx.tr l24.s).tr x_28, w_28, Or.inr ⟨f_28, rfl, no_28⟩⟩
      exact lp_14 _ m_1 (m_1 214 47) ((seqF (G 4) 214 (oneF G 4)) i o) 21 f_1 x_1 w_1 g_1 t_1 s_1 j_1 p_1 r_1e c_1 rfl ⟨⟨hR1.1, hR1.2.1⟩, hR1.2.2⟩ (by have := hR1.1; omega) (Nat.lt_succ_self _)
    · exfalso; omega
  · refine go_if_ne (tgt := 9) dX12_readOr_4 (by decide) ⟨by omega, by omega⟩ (fun h_4 => ?_) (fun h_4 => ?_)
    · exfalso; omega
    · refine go_iconst dX12_readOr_7 ?_
      refine go_ret (v := 0) rfl dX12_readOr_8 (okZ (by first | exact Or.inl rfl | exact Or.inr rfl | assumption | omega)) ?_
      rw [SaQ, seqF_e (G 4) 213, if_pos f_1]
      exact ⟨x_1, w_1, Or.inr ⟨f_1, rfl, no_1⟩⟩
set_option maxRecDepth 4000 in
theorem ev_X12_not5 {m : Mem} {G : Mem} {t : Int → Int} {kw : Int → Int} {n : Int} {lim : Int} {i : Int} {o : Int} {nn : Int} (htm : TM G t kw n lim m i) (hb : Bg G 8 18 (m 216)) (hdn : DnOk G 8) (hnm : NmR G 8 (m 221)) (hms : MS m (G 8 3) o 4 nn) (ho : 1 ≤ o ∧ o ≤ 20) (hnn : 0 ≤ nn ∧ nn + 2 ≤ 2 * o) : Ev 0 32 mX12_readNot [vr 214] m (fun r m' => SaQ G t kw n lim m m' 4 nn (notF (oneF G 4) (i - 1) o) r) := by
  refine Ev.of (L := [vr 214]) (by decide +kernel) rfl (Nat.le_of_ble_eq_true rfl) rfl (fun t ht => by cases ht; first | exact Or.inl rfl | exact Or.inr (Or.inl rfl) | exact Or.inr (Or.inr rfl)) (fun hcan => ?_)
  obtain ⟨hm1, hm2, hm3, hm4⟩ := id hms
  have hni : i - 1 + 1 = i := by omega
  have hR : RB o ((oneF G 4) i o) := oneF_b G 4 i o (by omega) (by omega)
  refine go_aload_n dX12_readNot_0 rfl ?_
  refine go_callV_z (as := []) (S := []) (b := 214) (ev_X12_one4 (m := m) (G := G) (t := t) (kw := kw) (n := n) (lim := lim) (i := i) (o := o) (nn := nn) htm hb hdn hnm hms (by omega) (by omega)) rfl dX12_readNot_1 cv_12_436 rfl rfl ob_214 rfl (by decide) (Nat.le_of_ble_eq_true rfl) (fun r_1 m_1 hr_1 ho_1 => ?_)
  obtain ⟨R, hRe⟩ : ∃ z, z = (oneF G 4) i o := ⟨_, rfl⟩
  rw [← hRe] at hr_1 hR
  obtain ⟨x_1, w_1, hr_1⟩ := hr_1
  rcases hr_1 with ⟨f_1, e_1, g_1, t_1, s_1, j_1, p_1, r_1e, c_1⟩ | ⟨f_1, e_1, no_1⟩
  · refine go_if_ne (tgt := 9) dX12_readNot_4 (by decide) ⟨by omega, by omega⟩ (fun h_4 => ?_) (fun h_4 => ?_)
    · refine go_aload_n dX12_readNot_9 rfl ?_
      refine go_aload_n dX12_readNot_10 rfl ?_
      refine go_iconst dX12_readNot_11 ?_
      refine go_aload_n dX12_readNot_12 rfl ?_
      refine go_getf_i (ki := 47) dX12_readNot_13 fl_12_430 ob_214 rfl rfl (fun hf_13 => ?_)
      refine go_iconst dX12_readNot_16 ?_
      refine go_iconst dX12_readNot_17 ?_
      refine go_callV_i (as := [vi 1, vi (m_1 214 47), vi 0, vi 0]) (S := [vr 214]) (b := 214) (ev_X12_saysOne (m := m_1) (w := 1) (a := (m_1 214 47)) (b := 0) (s := 0) (nn := (nn + (R.2.2.2.length : Int))) s_1.2.2.1 (by have := hR f_1; omega) (by first | assumption | omega | exact ⟨by omega, by omega⟩ | (constructor <;> omega)) (by first | assumption | omega | exact ⟨by omega, by omega⟩ | (constructor <;> omega)) (by first | assumption | omega | exact ⟨by omega, by omega⟩ | (constructor <;> omega)) (by first | assumption | omega | exact ⟨by omega, by omega⟩ | (constructor <;> omega))) rfl dX12_readNot_18 cv_12_433 rfl rfl ob_214 rfl (by decide) (Nat.le_of_ble_eq_true rfl) (fun r_18 m_18 hr_18 ho_18 => ?_)
      obtain ⟨e_18, hm_18⟩ := hr_18
      refine go_putf_i (ki := 47) dX12_readNot_21 fw_12_430 ob_214 rfl rfl ⟨by omega, by omega⟩ ?_
      refine go_iconst dX12_readNot_24 ?_
      refine go_ret (v := 1) rfl dX12_readNot_25 (okZ (by first | exact Or.inl rfl | exact Or.inr rfl | assumption | omega)) ?_
      have hRb := hR f_1
      have hq : notF (oneF G 4) (i - 1) o = (R.1, R.2.1, R.2.2.1, R.2.2.2 ++ [(215, 0, 0)]) := by unfold notF; rw [hni, ← hRe]
      have hwk : Wk (nodF (m_1 234) (nn + (R.2.2.2.length : Int)) 1 (m_1 214 47) 0 0) (G 8 3) (nn + (R.2.2.2.length : Int)) := by
        obtain ⟨e0, e1, e2, e3⟩ := nodF_n (N := m_1 234) (n := nn + (R.2.2.2.length : Int)) (w := 1) (a := m_1 214 47) (b := 0) (r := 0)
        unfold Wk
        rw [e0, e1, e2, e3]
        left; omega
      have hwn := s_1.2.2.2.add (by omega) hwk
      have hln : ((R.2.2.2 ++ [((215 : Int), (0 : Int), (0 : Int))]).length : Int) = R.2.2.2.length + 1 := by rw [List.length_append]; rfl
      rw [SaQ, hq, hm_18]
      refine ⟨(x_1.tr nodW_s).w (by omega) (by omega), ?_, Or.inl ⟨f_1, rfl, ?_, (t_1.nod).w (by decide) (by omega), ⟨?_, ?_, ?_, ?_⟩, fun j hj => ?_, ?_, ?_, c_1.app (CdA.k (by decide))⟩⟩
      · rw [wr_ni (by decide), nodW_214 (by decide)]; exact w_1
      · rw [wr_ni (by decide), nodW_214 (by decide)]; exact g_1
      · rw [wr_ni (by decide), nodW_214 (by decide)]; exact s_1.1
      · rw [wr_ni (by decide), nodW_214 (by decide)]; exact s_1.2.1
      · rw [wr_ni (by decide), nodW_44]; show _ = nn + ((R.2.2.2 ++ [((215 : Int), (0 : Int), (0 : Int))]).length : Int); rw [hln]; omega
      · rw [wr_row (by decide), nodW_234]; show Wf _ _ (nn + ((R.2.2.2 ++ [((215 : Int), (0 : Int), (0 : Int))]).length : Int)); rw [hln, show nn + ((R.2.2.2.length : Int) + 1) = nn + (R.2.2.2.length : Int) + 1 by omega]; exact hwn
      · rw [wr_na (by decide), nodW_234, nodF_o j (by omega)]; exact j_1 j hj
      · rw [wr_self, e_18]; show nn ≤ _ ∧ _ < nn + ((R.2.2.2 ++ [((215 : Int), (0 : Int), (0 : Int))]).length : Int); rw [hln]; omega
      · rw [wr_self, e_18, wr_row (by decide), nodW_234]
        exact r_1e.not s_1.2.2.2 (by omega) (by omega) hwn
    · exfalso; omega
  · refine go_if_ne (tgt := 9) dX12_readNot_4 (by decide) ⟨by omega, by omega⟩ (fun h_4 => ?_) (fun h_4 => ?_)
    · exfalso; omega
    · refine go_iconst dX12_readNot_7 ?_
      refine go_ret (v := 0) rfl dX12_readNot_8 (okZ (by first | exact Or.inl rfl | exact Or.inr rfl | assumption | omega)) ?_
      have hq : (notF (oneF G 4) (i - 1) o).1 = R.1 ∧ (notF (oneF G 4) (i - 1) o).2.1 = R.2.1 := by unfold notF; rw [hni, ← hRe]; exact ⟨rfl, rfl⟩
      exact ⟨x_1, w_1, Or.inr ⟨by rw [hq.1]; exact f_1, rfl, by rw [hq.1]; exact no_1.1, by rw [hq.2]; exact no_1.2⟩⟩
set_option maxRecDepth 4000 in
theorem ev_X12_brk5 {m : Mem} {G : Mem} {t : Int → Int} {kw : Int → Int} {n : Int} {lim : Int} {i : Int} {o : Int} {nn : Int} (htm : TM G t kw n lim m i) (hb : Bg G 8 18 (m 216)) (hdn : DnOk G 8) (hnm : NmR G 8 (m 221)) (hms : MS m (G 8 3) o 4 nn) (ho : 1 ≤ o ∧ o ≤ 20) (hnn : 0 ≤ nn ∧ nn + 2 ≤ 2 * o) : Ev 0 33 mX12_readBracket [vr 214] m (fun r m' => SaQ G t kw n lim m m' 4 nn (brkF (G 4) (seqF (G 4) 213 (seqF (G 4) 214 (oneF G 4))) (i - 1) o) r) := by
  refine Ev.of (L := [vr 214]) (by decide +kernel) rfl (Nat.le_of_ble_eq_true rfl) rfl (fun t ht => by cases ht; first | exact Or.inl rfl | exact Or.inr (Or.inl rfl) | exact Or.inr (Or.inr rfl)) (fun hcan => ?_)
  obtain ⟨hm1, hm2, hm3, hm4⟩ := id hms
  have hni : i - 1 + 1 = i := by omega
  refine go_aload_n dX12_readBracket_0 rfl ?_
  refine go_callV_z (as := []) (S := []) (b := 214) (ev_X12_con4 (m := m) (G := G) (t := t) (kw := kw) (n := n) (lim := lim) (i := i) (o := o) (nn := nn) htm hb hdn hnm hms (by omega) (by omega)) rfl dX12_readBracket_1 cv_12_457 rfl rfl ob_214 rfl (by decide) (Nat.le_of_ble_eq_true rfl) (fun r_1 m_1 hr_1 ho_1 => ?_)
  obtain ⟨R, hRe⟩ : ∃ z, z = (seqF (G 4) 213 (seqF (G 4) 214 (oneF G 4))) i o := ⟨_, rfl⟩
  rw [← hRe] at hr_1
  obtain ⟨x_1, w_1, hr_1⟩ := hr_1
  rcases hr_1 with ⟨f_1, e_1, g_1, t_1, s_1, j_1, p_1, r_1e, c_1⟩ | ⟨f_1, e_1, no_1⟩
  · refine go_if_ne (tgt := 9) dX12_readBracket_4 (by decide) ⟨by omega, by omega⟩ (fun h_4 => ?_) (fun h_4 => ?_)
    · refine go_aload_n dX12_readBracket_9 rfl ?_
      refine go_bipush dX12_readBracket_10 (by decide) ?_
      refine go_callVp_z (as := [vi 41]) (S := []) (b := 214) (ev_X12_isSign (m := m_1) (c := 41) (G := G) (t := t) (kw := kw) (n := n) (lim := lim) (i := R.2.1) t_1 (by unfold isS; omega)) rfl dX12_readBracket_12 cv_12_86 rfl rfl ob_214 rfl (by decide) (Nat.le_of_ble_eq_true rfl) (fun r_12 hr_12 ho_12 => ?_)
      refine go_if_ne (tgt := 24) dX12_readBracket_15 (by decide) ⟨by omega, by omega⟩ (fun h_15 => ?_) (fun h_15 => ?_)
      · refine go_aload_n dX12_readBracket_24 rfl ?_
        refine go_callV_v (as := []) (S := []) (b := 214) (ev_X12_go (m := m_1) (G := G) (t := t) (kw := kw) (n := n) (lim := lim) (i := (R.2.1 + 1)) (t_1.nx (by omega))) rfl dX12_readBracket_25 cv_12_82 rfl rfl ob_214 rfl (by decide) (Nat.le_of_ble_eq_true rfl) (fun m_25 hr_25 => ?_)
        refine go_iconst dX12_readBracket_28 ?_
        refine go_ret (v := 1) rfl dX12_readBracket_29 (okZ (by first | exact Or.inl rfl | exact Or.inr rfl | assumption | omega)) ?_
        have hq : brkF (G 4) (seqF (G 4) 213 (seqF (G 4) 214 (oneF G 4))) (i - 1) o = (0, R.2.1 + 1, R.2.2.1, R.2.2.2) := by unfold brkF; rw [hni, ← hRe, if_neg (fun z => z f_1), if_pos (by omega)]
        have hl := hr_25.1.l
        rw [SaQ, hq]
        refine ⟨x_1.tr hl.s, by rw [hl.2 46 (by omega)]; exact w_1, Or.inl ⟨rfl, rfl, ?_, hr_25.2, s_1.l hl, fun j hj => ?_, ?_, ?_, c_1⟩⟩
        · rw [hr_25.1.2 10 (by decide) (by decide) (by decide) (by decide) (by decide) (by decide)]; exact g_1
        · rw [hl.1 234 (by decide)]; exact j_1 j hj
        · rw [hl.2 47 (by omega)]; exact p_1
        · rw [hl.2 47 (by omega), hl.1 234 (by decide)]; exact r_1e
      · refine go_aload_n dX12_readBracket_18 rfl ?_
        refine go_iconst dX12_readBracket_19 ?_
        refine go_callV_z (as := [vi 1]) (S := []) (b := 214) (ev_X12_bad (m := m_1) (k := 1) (G := G) (t := t) (kw := kw) (n := n) (lim := lim) (i := R.2.1) t_1 (by first | assumption | omega | exact ⟨by omega, by omega⟩ | (constructor <;> omega))) rfl dX12_readBracket_20 cv_12_72 rfl rfl ob_214 rfl (by decide) (Nat.le_of_ble_eq_true rfl) (fun r_20 m_20 hr_20 ho_20 => ?_)
        refine go_ret (v := r_20) rfl dX12_readBracket_23 (okZ (by first | exact Or.inl rfl | exact Or.inr rfl | assumption | omega)) ?_
        have hq : brkF (G 4) (seqF (G 4) 213 (seqF (G 4) 214 (oneF G 4))) (i - 1) o = (1, R.2.1, 0, []) := by unfold brkF; rw [hni, ← hRe, if_neg (fun z => z f_1), if_neg (by omega)]
        have z := NoT.b (G := G) (m := m_1) (m' := m_20) (f := 1) (i := R.2.1) (by rw [hr_20.2]; congr 2; split <;> rfl)
        rw [SaQ, hq]
        exact ⟨x_1.tr z.1.s, by rw [z.1.2 46 (by omega)]; exact w_1, Or.inr ⟨(show (1 : Int) ≠ 0 by decide), hr_20.1, z.2.1, z.2.2⟩⟩
    · exfalso; omega
  · refine go_if_ne (tgt := 9) dX12_readBracket_4 (by decide) ⟨by omega, by omega⟩ (fun h_4 => ?_) (fun h_4 => ?_)
    · exfalso; omega
    · refine go_iconst dX12_readBracket_7 ?_
      refine go_ret (v := 0) rfl dX12_readBracket_8 (okZ (by first | exact Or.inl rfl | exact Or.inr rfl | assumption | omega)) ?_
      have hq : brkF (G 4) (seqF (G 4) 213 (seqF (G 4) 214 (oneF G 4))) (i - 1) o = R := by unfold brkF; rw [hni, ← hRe, if_pos f_1]
      rw [SaQ, hq]
      exact ⟨x_1, w_1, Or.inr ⟨f_1, rfl, no_1⟩⟩
set_option maxRecDepth 4000 in
theorem ev_X12_one5 {m : Mem} {G : Mem} {t : Int → Int} {kw : Int → Int} {n : Int} {lim : Int} {i : Int} {o : Int} {nn : Int} (htm : TM G t kw n lim m i) (hb : Bg G 8 18 (m 216)) (hdn : DnOk G 8) (hnm : NmR G 8 (m 221)) (hms : MS m (G 8 3) o 3 nn) (ho : 0 ≤ o ∧ o ≤ 20) (hnn : 0 ≤ nn ∧ nn ≤ 2 * o) : Ev 0 34 mX12_readSaid [vr 214] m (fun r m' => SaQ G t kw n lim m m' 3 nn (oneF G 5 i o) r) := by
  refine Ev.of (L := [vr 214, un, un, un]) (by decide +kernel) rfl (Nat.le_of_ble_eq_true rfl) rfl (fun t ht => by cases ht; first | exact Or.inl rfl | exact Or.inr (Or.inl rfl) | exact Or.inr (Or.inr rfl)) (fun hcan => ?_)
  obtain ⟨hm1, hm2, hm3, hm4⟩ := id hms
  have hkd := htm.kd
  refine go_aload_n dX12_readSaid_0 rfl ?_
  refine go_bipush dX12_readSaid_1 (by decide) ?_
  refine go_callVp_z (as := [vi 40]) (S := []) (b := 214) (ev_X12_isSign (m := m) (c := 40) (G := G) (t := t) (kw := kw) (n := n) (lim := lim) (i := i) htm (by unfold isS; omega)) rfl dX12_readSaid_3 cv_12_86 rfl rfl ob_214 rfl (by decide) (Nat.le_of_ble_eq_true rfl) (fun r_3 hr_3 ho_3 => ?_)
  refine go_istore_n (L' := [vr 214, vi r_3, un, un]) dX12_readSaid_6 (by decide) rfl rfl ?_
  refine go_bipush dX12_readSaid_7 (by decide) ?_
  refine go_istore_n (L' := [vr 214, vi r_3, vi 15, un]) dX12_readSaid_9 (by decide) rfl rfl ?_
  have lp_10 : ∀ (n_10 : Nat) (w : Int) , (15 ≤ w) → (w ≤ 25) → (∀ j : Int, 15 ≤ j → j < w → G 4 i ≠ 200 + j) → (25 - w).toNat < n_10 → Go 0 34 mX12_readSaid (fun r m' => SaQ G t kw n lim m m' 3 nn (oneF G 5 i o) r) 10 [vr 214, vi r_3, vi w, un] [] m := by
    intro n_10
    induction n_10 with
    | zero => intro w hw0 hw1 hno hmu; exact absurd hmu (Nat.not_lt_zero _)
    | succ n_10 ih_10 =>
      intro w hw0 hw1 hno hmu
      refine go_iload_n dX12_readSaid_10 rfl ?_
      have cut_30 :  ((w ≤ 24 ∧ G 4 i = 200 + w) ∨ (w = 25 ∧ ¬ (215 ≤ G 4 i ∧ G 4 i ≤ 224))) → Go 0 34 mX12_readSaid (fun r m' => SaQ G t kw n lim m m' 3 nn (oneF G 5 i o) r) 30 [vr 214, vi r_3, vi w, un] [] m := by
        intro hww
        refine go_iload_n dX12_readSaid_30 rfl ?_
        have cut_46 :  (G 4 i = 40 ∨ (215 ≤ G 4 i ∧ G 4 i ≤ 224)) → Go 0 34 mX12_readSaid (fun r m' => SaQ G t kw n lim m m' 3 nn (oneF G 5 i o) r) 46 [vr 214, vi r_3, vi w, un] [] m := by
          intro hst
          refine go_aload_n dX12_readSaid_46 rfl ?_
          refine go_getf_i (ki := 45) dX12_readSaid_47 fl_12_439 ob_214 rfl rfl (fun hf_47 => ?_)
          rw [show (m 214 45 : Int) = o from hm1] at hf_47 ⊢
          refine go_bipush dX12_readSaid_50 (by decide) ?_
          refine go_icmp_eq (tgt := 64) dX12_readSaid_52 (by decide) ⟨by omega, by omega⟩ ⟨by omega, by omega⟩ (fun h_52 => ?_) (fun h_52 => ?_)
          · refine go_aload_n dX12_readSaid_64 rfl ?_
            refine go_iconst dX12_readSaid_65 ?_
            refine go_callV_z (as := [vi 4]) (S := []) (b := 214) (ev_X12_bad (m := m) (k := 4) (G := G) (t := t) (kw := kw) (n := n) (lim := lim) (i := i) htm (by first | assumption | omega | exact ⟨by omega, by omega⟩ | (constructor <;> omega))) rfl dX12_readSaid_66 cv_12_72 rfl rfl ob_214 rfl (by decide) (Nat.le_of_ble_eq_true rfl) (fun r_66 m_66 hr_66 ho_66 => ?_)
            refine go_ret (v := r_66) rfl dX12_readSaid_69 (okZ (by first | exact Or.inl rfl | exact Or.inr rfl | assumption | omega)) ?_
            have hq : oneF G 5 i o = (4, i, o, []) := by unfold oneF; rw [if_neg (by omega), if_pos (by omega)]
            have z := NoT.b (G := G) (m := m) (m' := m_66) (f := 4) (i := i) (by rw [hr_66.2, if_neg (by omega)])
            rw [SaQ, hq]
            exact ⟨z.1.s, by rw [z.1.2 46 (by omega)]; exact hm2, Or.inr ⟨(show (4 : Int) ≠ 0 by decide), hr_66.1, z.2.1, z.2.2⟩⟩
          · refine go_aload_n dX12_readSaid_55 rfl ?_
            refine go_getf_i (ki := 46) dX12_readSaid_56 fl_12_442 ob_214 rfl rfl (fun hf_56 => ?_)
            rw [show (m 214 46 : Int) = 3 from hm2] at hf_56 ⊢
            refine go_bipush dX12_readSaid_59 (by decide) ?_
            refine go_icmp_ne (tgt := 70) dX12_readSaid_61 (by decide) ⟨by omega, by omega⟩ ⟨by omega, by omega⟩ (fun h_61 => ?_) (fun h_61 => ?_)
            · refine go_aload_n dX12_readSaid_70 rfl ?_
              refine go_dup_r dX12_readSaid_71 ?_
              refine go_getf_i (ki := 45) dX12_readSaid_72 fl_12_439 ob_214 rfl rfl (fun hf_72 => ?_)
              rw [show (m 214 45 : Int) = o from hm1] at hf_72 ⊢
              refine go_iconst dX12_readSaid_75 ?_
              refine go_iadd dX12_readSaid_76 ?_
              refine go_putf_i (ki := 45) dX12_readSaid_77 fw_12_439 ob_214 rfl rfl ⟨by omega, by omega⟩ ?_
              refine go_aload_n dX12_readSaid_80 rfl ?_
              refine go_dup_r dX12_readSaid_81 ?_
              refine go_getf_i (ki := 46) dX12_readSaid_82 fl_12_442 ob_214 rfl rfl (fun hf_82 => ?_)
              rw [show ((wr m 214 45 (o + 1)) 214 46 : Int) = 3 from by rw [wr_ni (by decide)]; exact hm2] at hf_82 ⊢
              refine go_iconst dX12_readSaid_85 ?_
              refine go_iadd dX12_readSaid_86 ?_
              refine go_putf_i (ki := 46) dX12_readSaid_87 fw_12_442 ob_214 rfl rfl ⟨by omega, by omega⟩ ?_
              refine go_aload_n dX12_readSaid_90 rfl ?_
              refine go_callV_v (as := []) (S := []) (b := 214) (ev_X12_go (m := (wr (wr m 214 45 (o + 1)) 214 46 (3 + 1))) (G := G) (t := t) (kw := kw) (n := n) (lim := lim) (i := (i + 1)) (((htm.nx (by omega)).w (by decide) (by omega)).w (by decide) (by omega))) rfl dX12_readSaid_91 cv_12_82 rfl rfl ob_214 rfl (by decide) (Nat.le_of_ble_eq_true rfl) (fun m_91 hr_91 => ?_)
              have l91 := hr_91.1.l
              have s91 : Sx m m_91 := ((Sx.rf.w (by omega) (by omega)).w (by omega) (by omega)).tr l91.s
              have g91 : m_91 214 10 = m 214 10 := by rw [hr_91.1.2 10 (by decide) (by decide) (by decide) (by decide) (by decide) (by decide), wr_ni (by decide), wr_ni (by decide)]
              have n91 : m_91 234 = m 234 := by rw [l91.1 234 (by decide), wr_row (by decide), wr_row (by decide)]
              have ms91 : MS m_91 (G 8 3) (o + 1) 4 nn := ⟨by rw [l91.2 45 (by omega), wr_ni (by decide), wr_self], by rw [l91.2 46 (by omega), wr_self]; rfl, by rw [l91.2 44 (by omega), wr_ni (by decide), wr_ni (by decide)]; exact hm3, by rw [n91]; exact hm4⟩
              have b91 : Bg G 8 18 (m_91 216) := by rw [s91.1 216 (by decide) (by decide)]; exact hb
              have nm91 : NmR G 8 (m_91 221) := by rw [s91.1 221 (by decide) (by decide)]; exact hnm
              have hi1 : i + 1 - 1 = i := by omega
              refine go_iconst dX12_readSaid_94 ?_
              refine go_istore_n (L' := [vr 214, vi r_3, vi w, vi 1]) dX12_readSaid_95 (by decide) rfl rfl ?_
              have cut_166 : ∀ (mx : Mem) (gd : Int) , (gd = 0 ∨ gd = 1) → (SaQ G t kw n lim m_91 mx 4 nn (oneF G 5 i o) gd) → Go 0 34 mX12_readSaid (fun r m' => SaQ G t kw n lim m m' 3 nn (oneF G 5 i o) r) 166 [vr 214, un, un, vi gd] [] mx := by
                intro mx gd hgd hsq
                refine go_aload_n dX12_readSaid_166 rfl ?_
                refine go_dup_r dX12_readSaid_167 ?_
                refine go_getf_i (ki := 46) dX12_readSaid_168 fl_12_442 ob_214 rfl rfl (fun hf_168 => ?_)
                rw [show (mx 214 46 : Int) = 4 from hsq.2.1] at hf_168 ⊢
                refine go_iconst dX12_readSaid_171 ?_
                refine go_isub dX12_readSaid_172 ?_
                refine go_putf_i (ki := 46) dX12_readSaid_173 fw_12_442 ob_214 rfl rfl ⟨by omega, by omega⟩ ?_
                refine go_iload_n dX12_readSaid_176 rfl ?_
                refine go_ret (v := gd) rfl dX12_readSaid_177 (okZ hgd) ?_
                obtain ⟨a, b, c⟩ := hsq
                refine ⟨(s91.tr a).w (by omega) (by omega), wr_self _ _ _ _, ?_⟩
                rcases c with ⟨f, e, g, t_, s, j_, p_, r_, c_⟩ | ⟨f, e, no⟩
                · refine Or.inl ⟨f, e, ?_, t_.w (by decide) (by omega), ⟨?_, wr_self _ _ _ _, ?_, ?_⟩, fun j hj => ?_, ?_, ?_, c_⟩
                  · rw [wr_ni (by decide), g]; exact g91
                  · rw [wr_ni (by decide)]; exact s.1
                  · rw [wr_ni (by decide)]; exact s.2.2.1
                  · rw [wr_row (by decide)]; exact s.2.2.2
                  · rw [wr_na (by decide), j_ j hj, n91]
                  · rw [wr_ni (by decide)]; exact p_
                  · rw [wr_ni (by decide), wr_row (by decide)]; exact r_
                · exact Or.inr ⟨f, e, by rw [wr_ni (by decide)]; exact no.1, by rw [wr_ni (by decide)]; exact no.2⟩
              refine go_iload_n dX12_readSaid_96 rfl ?_
              refine go_if_eq (tgt := 108) dX12_readSaid_97 (by decide) ⟨by omega, by omega⟩ (fun h_97 => ?_) (fun h_97 => ?_)
              · refine go_iload_n dX12_readSaid_108 rfl ?_
                refine go_bipush dX12_readSaid_109 (by decide) ?_
                refine go_icmp_ne (tgt := 122) dX12_readSaid_111 (by decide) ⟨by omega, by omega⟩ ⟨by omega, by omega⟩ (fun h_111 => ?_) (fun h_111 => ?_)
                · refine go_iload_n dX12_readSaid_122 rfl ?_
                  refine go_bipush dX12_readSaid_123 (by decide) ?_
                  refine go_icmp_ge (tgt := 146) dX12_readSaid_125 (by decide) ⟨by omega, by omega⟩ ⟨by omega, by omega⟩ (fun h_125 => ?_) (fun h_125 => ?_)
                  · refine go_iload_n dX12_readSaid_146 rfl ?_
                    refine go_bipush dX12_readSaid_147 (by decide) ?_
                    refine go_icmp_ge (tgt := 160) dX12_readSaid_149 (by decide) ⟨by omega, by omega⟩ ⟨by omega, by omega⟩ (fun h_149 => ?_) (fun h_149 => ?_)
                    · refine go_aload_n dX12_readSaid_160 rfl ?_
                      refine go_iload_n dX12_readSaid_161 rfl ?_
                      refine go_callV_z (as := [vi w]) (S := []) (b := 214) (ev_X12_readCompare (m := m_91) (w := w) (G := G) (t := t) (kw := kw) (n := n) (lim := lim) (i := (i + 1)) (o := (o + 1)) (wi := 4) (nn := nn) hr_91.2 b91 hdn ms91 (by omega) (by omega) (by omega) (by rw [hi1]; omega)) rfl dX12_readSaid_162 cv_12_454 rfl rfl ob_214 rfl (by decide) (Nat.le_of_ble_eq_true rfl) (fun r_162 m_162 hr_162 ho_162 => ?_)
                      rw [hi1] at hr_162
                      refine go_istore_n (L' := [vr 214, vi r_3, vi w, vi r_162]) dX12_readSaid_165 (by decide) rfl rfl ?_
                      refine go_drop (j := 1) (L' := [vr 214, un, vi w, vi r_162]) rfl ?_
                      refine go_drop (j := 2) (L' := [vr 214, un, un, vi r_162]) rfl ?_
                      exact cut_166 m_162 r_162 (by first | assumption | rfl | omega) (by
                            first
                            | (rw [show oneF G 5 i o = brkF (G 4) (seqF (G 4) 213 (seqF (G 4) 214 (oneF G 4))) i (o + 1) by unfold oneF; rw [if_neg (by omega), if_neg (by omega), if_neg (by omega), if_pos (by omega)]]; exact hr_101)
                            | (rw [show oneF G 5 i o = notF (oneF G 4) i (o + 1) by unfold oneF; rw [if_neg (by omega), if_neg (by omega), if_pos (by omega)]]; exact hr_115)
                            | (rw [show oneF G 5 i o = namF G i (o + 1) by unfold oneF; rw [if_neg (by omega), if_neg (by omega), if_neg (by omega), if_neg (by omega), if_pos (by omega)]]; exact hr_154)
                            | (rw [show oneF G 5 i o = cmpF G i (o + 1) by unfold oneF; rw [if_neg (by omega), if_neg (by omega), if_neg (by omega), if_neg (by omega), if_neg (by omega), if_pos (by omega)]]; exact hr_162)
                            | (have hwk : Wk (nodF (m_91 234) nn (50 + w) 0 0 0) (G 8 3) nn := (by
                                 obtain ⟨e0, e1, e2, e3⟩ := nodF_n (N := m_91 234) (n := nn) (w := 50 + w) (a := 0) (b := 0) (r := 0)
                                 unfold Wk
                                 rw [e0, e1, e2, e3]
                                 right; right; left; omega)
                               have hwn := ms91.2.2.2.add (by omega) hwk
                               rw [SaQ, show oneF G 5 i o = (0, i + 1, o + 1, [(G 4 i, 0, 0)]) by unfold oneF; rw [if_neg (by omega), if_neg (by omega), if_neg (by omega), if_neg (by omega), if_neg (by omega), if_neg (by omega)], hm_137]
                               refine ⟨nodW_s.w (by omega) (by omega), ?_, Or.inl ⟨rfl, rfl, ?_, (hr_91.2.nod).w (by decide) (by omega), ⟨?_, ?_, ?_, ?_⟩, fun j hj => ?_, ?_, ?_, CdA.k (by omega)⟩⟩
                               · rw [wr_ni (by decide), nodW_214 (by decide)]; exact ms91.2.1
                               · rw [wr_ni (by decide), nodW_214 (by decide)]
                               · rw [wr_ni (by decide), nodW_214 (by decide)]; exact ms91.1
                               · rw [wr_ni (by decide), nodW_214 (by decide)]; exact ms91.2.1
                               · rw [wr_ni (by decide), nodW_44]; rfl
                               · rw [wr_row (by decide), nodW_234]; exact hwn
                               · rw [wr_na (by decide), nodW_234, nodF_o j hj]
                               · rw [wr_self, e_137]; show nn ≤ nn ∧ nn < nn + 1; omega
                               · rw [wr_self, e_137, wr_row (by decide), nodW_234]
                                 refine Rep.leaf (by omega) (by omega) ?_
                                 rw [if_pos (by omega), show 50 + w + 150 = 200 + w by omega]
                                 rw [show G 4 i = 200 + w by omega]))
                    · refine go_aload_n dX12_readSaid_152 rfl ?_
                      refine go_iload_n dX12_readSaid_153 rfl ?_
                      refine go_callV_z (as := [vi w]) (S := []) (b := 214) (ev_X12_readOf (m := m_91) (w := w) (G := G) (t := t) (kw := kw) (n := n) (lim := lim) (i := (i + 1)) (o := (o + 1)) (wi := 4) (nn := nn) hr_91.2 b91 hdn nm91 ms91 (by omega) (by omega) (by omega) (by rw [hi1]; omega)) rfl dX12_readSaid_154 cv_12_451 rfl rfl ob_214 rfl (by decide) (Nat.le_of_ble_eq_true rfl) (fun r_154 m_154 hr_154 ho_154 => ?_)
                      rw [hi1] at hr_154
                      refine go_goto (tgt := 165) dX12_readSaid_157 (by decide) ?_
                      refine go_istore_n (L' := [vr 214, vi r_3, vi w, vi r_154]) dX12_readSaid_165 (by decide) rfl rfl ?_
                      refine go_drop (j := 1) (L' := [vr 214, un, vi w, vi r_154]) rfl ?_
                      refine go_drop (j := 2) (L' := [vr 214, un, un, vi r_154]) rfl ?_
                      exact cut_166 m_154 r_154 (by first | assumption | rfl | omega) (by
                            first
                            | (rw [show oneF G 5 i o = brkF (G 4) (seqF (G 4) 213 (seqF (G 4) 214 (oneF G 4))) i (o + 1) by unfold oneF; rw [if_neg (by omega), if_neg (by omega), if_neg (by omega), if_pos (by omega)]]; exact hr_101)
                            | (rw [show oneF G 5 i o = notF (oneF G 4) i (o + 1) by unfold oneF; rw [if_neg (by omega), if_neg (by omega), if_pos (by omega)]]; exact hr_115)
                            | (rw [show oneF G 5 i o = namF G i (o + 1) by unfold oneF; rw [if_neg (by omega), if_neg (by omega), if_neg (by omega), if_neg (by omega), if_pos (by omega)]]; exact hr_154)
                            | (rw [show oneF G 5 i o = cmpF G i (o + 1) by unfold oneF; rw [if_neg (by omega), if_neg (by omega), if_neg (by omega), if_neg (by omega), if_neg (by omega), if_pos (by omega)]]; exact hr_162)
                            | (have hwk : Wk (nodF (m_91 234) nn (50 + w) 0 0 0) (G 8 3) nn := (by
                                 obtain ⟨e0, e1, e2, e3⟩ := nodF_n (N := m_91 234) (n := nn) (w := 50 + w) (a := 0) (b := 0) (r := 0)
                                 unfold Wk
                                 rw [e0, e1, e2, e3]
                                 right; right; left; omega)
                               have hwn := ms91.2.2.2.add (by omega) hwk
                               rw [SaQ, show oneF G 5 i o = (0, i + 1, o + 1, [(G 4 i, 0, 0)]) by unfold oneF; rw [if_neg (by omega), if_neg (by omega), if_neg (by omega), if_neg (by omega), if_neg (by omega), if_neg (by omega)], hm_137]
                               refine ⟨nodW_s.w (by omega) (by omega), ?_, Or.inl ⟨rfl, rfl, ?_, (hr_91.2.nod).w (by decide) (by omega), ⟨?_, ?_, ?_, ?_⟩, fun j hj => ?_, ?_, ?_, CdA.k (by omega)⟩⟩
                               · rw [wr_ni (by decide), nodW_214 (by decide)]; exact ms91.2.1
                               · rw [wr_ni (by decide), nodW_214 (by decide)]
                               · rw [wr_ni (by decide), nodW_214 (by decide)]; exact ms91.1
                               · rw [wr_ni (by decide), nodW_214 (by decide)]; exact ms91.2.1
                               · rw [wr_ni (by decide), nodW_44]; rfl
                               · rw [wr_row (by decide), nodW_234]; exact hwn
                               · rw [wr_na (by decide), nodW_234, nodF_o j hj]
                               · rw [wr_self, e_137]; show nn ≤ nn ∧ nn < nn + 1; omega
                               · rw [wr_self, e_137, wr_row (by decide), nodW_234]
                                 refine Rep.leaf (by omega) (by omega) ?_
                                 rw [if_pos (by omega), show 50 + w + 150 = 200 + w by omega]
                                 rw [show G 4 i = 200 + w by omega]))
                  · refine go_aload_n dX12_readSaid_128 rfl ?_
                    refine go_aload_n dX12_readSaid_129 rfl ?_
                    refine go_bipush dX12_readSaid_130 (by decide) ?_
                    refine go_iload_n dX12_readSaid_132 rfl ?_
                    refine go_iadd dX12_readSaid_133 ?_
                    refine go_iconst dX12_readSaid_134 ?_
                    refine go_iconst dX12_readSaid_135 ?_
                    refine go_iconst dX12_readSaid_136 ?_
                    refine go_callV_i (as := [vi (50 + w), vi 0, vi 0, vi 0]) (S := [vr 214]) (b := 214) (ev_X12_saysOne (m := m_91) (w := (50 + w)) (a := 0) (b := 0) (s := 0) (nn := nn) ms91.2.2.1 (by omega) (by first | assumption | omega | exact ⟨by omega, by omega⟩ | (constructor <;> omega)) (by first | assumption | omega | exact ⟨by omega, by omega⟩ | (constructor <;> omega)) (by first | assumption | omega | exact ⟨by omega, by omega⟩ | (constructor <;> omega)) (by first | assumption | omega | exact ⟨by omega, by omega⟩ | (constructor <;> omega))) rfl dX12_readSaid_137 cv_12_433 rfl rfl ob_214 rfl (by decide) (Nat.le_of_ble_eq_true rfl) (fun r_137 m_137 hr_137 ho_137 => ?_)
                    obtain ⟨e_137, hm_137⟩ := hr_137
                    refine go_putf_i (ki := 47) dX12_readSaid_140 fw_12_430 ob_214 rfl rfl ⟨by omega, by omega⟩ ?_
                    refine go_goto (tgt := 166) dX12_readSaid_143 (by decide) ?_
                    refine go_drop (j := 1) (L' := [vr 214, un, vi w, vi 1]) rfl ?_
                    refine go_drop (j := 2) (L' := [vr 214, un, un, vi 1]) rfl ?_
                    exact cut_166 (wr m_137 214 47 r_137) 1 (by first | assumption | rfl | omega) (by
                          first
                          | (rw [show oneF G 5 i o = brkF (G 4) (seqF (G 4) 213 (seqF (G 4) 214 (oneF G 4))) i (o + 1) by unfold oneF; rw [if_neg (by omega), if_neg (by omega), if_neg (by omega), if_pos (by omega)]]; exact hr_101)
                          | (rw [show oneF G 5 i o = notF (oneF G 4) i (o + 1) by unfold oneF; rw [if_neg (by omega), if_neg (by omega), if_pos (by omega)]]; exact hr_115)
                          | (rw [show oneF G 5 i o = namF G i (o + 1) by unfold oneF; rw [if_neg (by omega), if_neg (by omega), if_neg (by omega), if_neg (by omega), if_pos (by omega)]]; exact hr_154)
                          | (rw [show oneF G 5 i o = cmpF G i (o + 1) by unfold oneF; rw [if_neg (by omega), if_neg (by omega), if_neg (by omega), if_neg (by omega), if_neg (by omega), if_pos (by omega)]]; exact hr_162)
                          | (have hwk : Wk (nodF (m_91 234) nn (50 + w) 0 0 0) (G 8 3) nn := (by
                               obtain ⟨e0, e1, e2, e3⟩ := nodF_n (N := m_91 234) (n := nn) (w := 50 + w) (a := 0) (b := 0) (r := 0)
                               unfold Wk
                               rw [e0, e1, e2, e3]
                               right; right; left; omega)
                             have hwn := ms91.2.2.2.add (by omega) hwk
                             rw [SaQ, show oneF G 5 i o = (0, i + 1, o + 1, [(G 4 i, 0, 0)]) by unfold oneF; rw [if_neg (by omega), if_neg (by omega), if_neg (by omega), if_neg (by omega), if_neg (by omega), if_neg (by omega)], hm_137]
                             refine ⟨nodW_s.w (by omega) (by omega), ?_, Or.inl ⟨rfl, rfl, ?_, (hr_91.2.nod).w (by decide) (by omega), ⟨?_, ?_, ?_, ?_⟩, fun j hj => ?_, ?_, ?_, CdA.k (by omega)⟩⟩
                             · rw [wr_ni (by decide), nodW_214 (by decide)]; exact ms91.2.1
                             · rw [wr_ni (by decide), nodW_214 (by decide)]
                             · rw [wr_ni (by decide), nodW_214 (by decide)]; exact ms91.1
                             · rw [wr_ni (by decide), nodW_214 (by decide)]; exact ms91.2.1
                             · rw [wr_ni (by decide), nodW_44]; rfl
                             · rw [wr_row (by decide), nodW_234]; exact hwn
                             · rw [wr_na (by decide), nodW_234, nodF_o j hj]
                             · rw [wr_self, e_137]; show nn ≤ nn ∧ nn < nn + 1; omega
                             · rw [wr_self, e_137, wr_row (by decide), nodW_234]
                               refine Rep.leaf (by omega) (by omega) ?_
                               rw [if_pos (by omega), show 50 + w + 150 = 200 + w by omega]
                               rw [show G 4 i = 200 + w by omega]))
                · refine go_aload_n dX12_readSaid_114 rfl ?_
                  refine go_callV_z (as := []) (S := []) (b := 214) (ev_X12_not5 (m := m_91) (G := G) (t := t) (kw := kw) (n := n) (lim := lim) (i := (i + 1)) (o := (o + 1)) (nn := nn) hr_91.2 b91 hdn nm91 ms91 (by omega) (by omega)) rfl dX12_readSaid_115 cv_12_448 rfl rfl ob_214 rfl (by decide) (Nat.le_of_ble_eq_true rfl) (fun r_115 m_115 hr_115 ho_115 => ?_)
                  rw [hi1] at hr_115
                  refine go_istore_n (L' := [vr 214, vi r_3, vi w, vi r_115]) dX12_readSaid_118 (by decide) rfl rfl ?_
                  refine go_goto (tgt := 166) dX12_readSaid_119 (by decide) ?_
                  refine go_drop (j := 1) (L' := [vr 214, un, vi w, vi r_115]) rfl ?_
                  refine go_drop (j := 2) (L' := [vr 214, un, un, vi r_115]) rfl ?_
                  exact cut_166 m_115 r_115 (by first | assumption | rfl | omega) (by
                        first
                        | (rw [show oneF G 5 i o = brkF (G 4) (seqF (G 4) 213 (seqF (G 4) 214 (oneF G 4))) i (o + 1) by unfold oneF; rw [if_neg (by omega), if_neg (by omega), if_neg (by omega), if_pos (by omega)]]; exact hr_101)
                        | (rw [show oneF G 5 i o = notF (oneF G 4) i (o + 1) by unfold oneF; rw [if_neg (by omega), if_neg (by omega), if_pos (by omega)]]; exact hr_115)
                        | (rw [show oneF G 5 i o = namF G i (o + 1) by unfold oneF; rw [if_neg (by omega), if_neg (by omega), if_neg (by omega), if_neg (by omega), if_pos (by omega)]]; exact hr_154)
                        | (rw [show oneF G 5 i o = cmpF G i (o + 1) by unfold oneF; rw [if_neg (by omega), if_neg (by omega), if_neg (by omega), if_neg (by omega), if_neg (by omega), if_pos (by omega)]]; exact hr_162)
                        | (have hwk : Wk (nodF (m_91 234) nn (50 + w) 0 0 0) (G 8 3) nn := (by
                             obtain ⟨e0, e1, e2, e3⟩ := nodF_n (N := m_91 234) (n := nn) (w := 50 + w) (a := 0) (b := 0) (r := 0)
                             unfold Wk
                             rw [e0, e1, e2, e3]
                             right; right; left; omega)
                           have hwn := ms91.2.2.2.add (by omega) hwk
                           rw [SaQ, show oneF G 5 i o = (0, i + 1, o + 1, [(G 4 i, 0, 0)]) by unfold oneF; rw [if_neg (by omega), if_neg (by omega), if_neg (by omega), if_neg (by omega), if_neg (by omega), if_neg (by omega)], hm_137]
                           refine ⟨nodW_s.w (by omega) (by omega), ?_, Or.inl ⟨rfl, rfl, ?_, (hr_91.2.nod).w (by decide) (by omega), ⟨?_, ?_, ?_, ?_⟩, fun j hj => ?_, ?_, ?_, CdA.k (by omega)⟩⟩
                           · rw [wr_ni (by decide), nodW_214 (by decide)]; exact ms91.2.1
                           · rw [wr_ni (by decide), nodW_214 (by decide)]
                           · rw [wr_ni (by decide), nodW_214 (by decide)]; exact ms91.1
                           · rw [wr_ni (by decide), nodW_214 (by decide)]; exact ms91.2.1
                           · rw [wr_ni (by decide), nodW_44]; rfl
                           · rw [wr_row (by decide), nodW_234]; exact hwn
                           · rw [wr_na (by decide), nodW_234, nodF_o j hj]
                           · rw [wr_self, e_137]; show nn ≤ nn ∧ nn < nn + 1; omega
                           · rw [wr_self, e_137, wr_row (by decide), nodW_234]
                             refine Rep.leaf (by omega) (by omega) ?_
                             rw [if_pos (by omega), show 50 + w + 150 = 200 + w by omega]
                             rw [show G 4 i = 200 + w by omega]))
              · refine go_aload_n dX12_readSaid_100 rfl ?_
                refine go_callV_z (as := []) (S := []) (b := 214) (ev_X12_brk5 (m := m_91) (G := G) (t := t) (kw := kw) (n := n) (lim := lim) (i := (i + 1)) (o := (o + 1)) (nn := nn) hr_91.2 b91 hdn nm91 ms91 (by omega) (by omega)) rfl dX12_readSaid_101 cv_12_445 rfl rfl ob_214 rfl (by decide) (Nat.le_of_ble_eq_true rfl) (fun r_101 m_101 hr_101 ho_101 => ?_)
                rw [hi1] at hr_101
                refine go_istore_n (L' := [vr 214, vi r_3, vi w, vi r_101]) dX12_readSaid_104 (by decide) rfl rfl ?_
                refine go_goto (tgt := 166) dX12_readSaid_105 (by decide) ?_
                refine go_drop (j := 1) (L' := [vr 214, un, vi w, vi r_101]) rfl ?_
                refine go_drop (j := 2) (L' := [vr 214, un, un, vi r_101]) rfl ?_
                exact cut_166 m_101 r_101 (by first | assumption | rfl | omega) (by
                      first
                      | (rw [show oneF G 5 i o = brkF (G 4) (seqF (G 4) 213 (seqF (G 4) 214 (oneF G 4))) i (o + 1) by unfold oneF; rw [if_neg (by omega), if_neg (by omega), if_neg (by omega), if_pos (by omega)]]; exact hr_101)
                      | (rw [show oneF G 5 i o = notF (oneF G 4) i (o + 1) by unfold oneF; rw [if_neg (by omega), if_neg (by omega), if_pos (by omega)]]; exact hr_115)
                      | (rw [show oneF G 5 i o = namF G i (o + 1) by unfold oneF; rw [if_neg (by omega), if_neg (by omega), if_neg (by omega), if_neg (by omega), if_pos (by omega)]]; exact hr_154)
                      | (rw [show oneF G 5 i o = cmpF G i (o + 1) by unfold oneF; rw [if_neg (by omega), if_neg (by omega), if_neg (by omega), if_neg (by omega), if_neg (by omega), if_pos (by omega)]]; exact hr_162)
                      | (have hwk : Wk (nodF (m_91 234) nn (50 + w) 0 0 0) (G 8 3) nn := (by
                           obtain ⟨e0, e1, e2, e3⟩ := nodF_n (N := m_91 234) (n := nn) (w := 50 + w) (a := 0) (b := 0) (r := 0)
                           unfold Wk
                           rw [e0, e1, e2, e3]
                           right; right; left; omega)
                         have hwn := ms91.2.2.2.add (by omega) hwk
                         rw [SaQ, show oneF G 5 i o = (0, i + 1, o + 1, [(G 4 i, 0, 0)]) by unfold oneF; rw [if_neg (by omega), if_neg (by omega), if_neg (by omega), if_neg (by omega), if_neg (by omega), if_neg (by omega)], hm_137]
                         refine ⟨nodW_s.w (by omega) (by omega), ?_, Or.inl ⟨rfl, rfl, ?_, (hr_91.2.nod).w (by decide) (by omega), ⟨?_, ?_, ?_, ?_⟩, fun j hj => ?_, ?_, ?_, CdA.k (by omega)⟩⟩
                         · rw [wr_ni (by decide), nodW_214 (by decide)]; exact ms91.2.1
                         · rw [wr_ni (by decide), nodW_214 (by decide)]
                         · rw [wr_ni (by decide), nodW_214 (by decide)]; exact ms91.1
                         · rw [wr_ni (by decide), nodW_214 (by decide)]; exact ms91.2.1
                         · rw [wr_ni (by decide), nodW_44]; rfl
                         · rw [wr_row (by decide), nodW_234]; exact hwn
                         · rw [wr_na (by decide), nodW_234, nodF_o j hj]
                         · rw [wr_self, e_137]; show nn ≤ nn ∧ nn < nn + 1; omega
                         · rw [wr_self, e_137, wr_row (by decide), nodW_234]
                           refine Rep.leaf (by omega) (by omega) ?_
                           rw [if_pos (by omega), show 50 + w + 150 = 200 + w by omega]
                           rw [show G 4 i = 200 + w by omega]))
            · exfalso; omega
        refine go_if_ne (tgt := 46) dX12_readSaid_31 (by decide) ⟨by omega, by omega⟩ (fun h_31 => ?_) (fun h_31 => ?_)
        · exact cut_46  (by omega)
        · refine go_iload_n dX12_readSaid_34 rfl ?_
          refine go_bipush dX12_readSaid_35 (by decide) ?_
          refine go_icmp_le (tgt := 46) dX12_readSaid_37 (by decide) ⟨by omega, by omega⟩ ⟨by omega, by omega⟩ (fun h_37 => ?_) (fun h_37 => ?_)
          · exact cut_46  (by omega)
          · refine go_aload_n dX12_readSaid_40 rfl ?_
            refine go_iconst dX12_readSaid_41 ?_
            refine go_callV_z (as := [vi 1]) (S := []) (b := 214) (ev_X12_bad (m := m) (k := 1) (G := G) (t := t) (kw := kw) (n := n) (lim := lim) (i := i) htm (by first | assumption | omega | exact ⟨by omega, by omega⟩ | (constructor <;> omega))) rfl dX12_readSaid_42 cv_12_72 rfl rfl ob_214 rfl (by decide) (Nat.le_of_ble_eq_true rfl) (fun r_42 m_42 hr_42 ho_42 => ?_)
            refine go_ret (v := r_42) rfl dX12_readSaid_45 (okZ (by first | exact Or.inl rfl | exact Or.inr rfl | assumption | omega)) ?_
            have hq : oneF G 5 i o = (1, i, o, []) := by unfold oneF; rw [if_pos (by omega)]
            have z := NoT.b (G := G) (m := m) (m' := m_42) (f := 1) (i := i) (by rw [hr_42.2]; congr 2; split <;> rfl)
            rw [SaQ, hq]
            exact ⟨z.1.s, by rw [z.1.2 46 (by omega)]; exact hm2, Or.inr ⟨(show (1 : Int) ≠ 0 by decide), hr_42.1, z.2.1, z.2.2⟩⟩
      refine go_bipush dX12_readSaid_11 (by decide) ?_
      refine go_icmp_gt (tgt := 30) dX12_readSaid_13 (by decide) ⟨by omega, by omega⟩ ⟨by omega, by omega⟩ (fun h_13 => ?_) (fun h_13 => ?_)
      · exact cut_30  (by first | (left; omega) | (right; refine ⟨by omega, fun z => hno (G 4 i - 200) (by omega) (by omega) (by omega)⟩))
      · refine go_aload_n dX12_readSaid_16 rfl ?_
        refine go_iload_n dX12_readSaid_17 rfl ?_
        refine go_callVp_z (as := [vi w]) (S := []) (b := 214) (ev_X12_isWord (m := m) (k := w) (G := G) (t := t) (kw := kw) (n := n) (lim := lim) (i := i) htm (by first | assumption | omega | exact ⟨by omega, by omega⟩ | (constructor <;> omega))) rfl dX12_readSaid_18 cv_12_202 rfl rfl ob_214 rfl (by decide) (Nat.le_of_ble_eq_true rfl) (fun r_18 hr_18 ho_18 => ?_)
        refine go_if_ne (tgt := 30) dX12_readSaid_21 (by decide) ⟨by omega, by omega⟩ (fun h_21 => ?_) (fun h_21 => ?_)
        · exact cut_30  (by first | (left; omega) | (right; refine ⟨by omega, fun z => hno (G 4 i - 200) (by omega) (by omega) (by omega)⟩))
        · refine go_iinc (L' := [vr 214, vi r_3, vi (w + 1), un]) dX12_readSaid_24 rfl (by decide) rfl rfl ?_
          refine go_goto (tgt := 10) dX12_readSaid_27 (by decide) ?_
          exact ih_10 (w + 1) (by first | assumption | omega | rfl) (by first | assumption | omega | rfl) (fun j a b => by by_cases q : j < w; exact hno j a q; (rw [show j = w by omega]; omega)) (by omega)
  exact lp_10 _ 15 (by first | assumption | omega | rfl) (by first | assumption | omega | rfl) (fun j a b => by omega) (Nat.lt_succ_self _)
set_option maxRecDepth 4000 in
theorem ev_X12_all5 {m : Mem} {G : Mem} {t : Int → Int} {kw : Int → Int} {n : Int} {lim : Int} {i : Int} {o : Int} {nn : Int} (htm : TM G t kw n lim m i) (hb : Bg G 8 18 (m 216)) (hdn : DnOk G 8) (hnm : NmR G 8 (m 221)) (hms : MS m (G 8 3) o 3 nn) (ho : 0 ≤ o ∧ o ≤ 20) (hnn : 0 ≤ nn ∧ nn ≤ 2 * o) : Ev 0 35 mX12_readAnd [vr 214] m (fun r m' => SaQ G t kw n lim m m' 3 nn (seqF (G 4) 214 (oneF G 5) i o) r) := by
  refine Ev.of (L := [vr 214, un]) (by decide +kernel) rfl (Nat.le_of_ble_eq_true rfl) rfl (fun t ht => by cases ht; first | exact Or.inl rfl | exact Or.inr (Or.inl rfl) | exact Or.inr (Or.inr rfl)) (fun hcan => ?_)
  obtain ⟨hm1, hm2, hm3, hm4⟩ := id hms
  have hPB : PB (oneF G 5) := (oneF_b G 5)
  refine go_aload_n dX12_readAnd_0 rfl ?_
  refine go_callV_z (as := []) (S := []) (b := 214) (ev_X12_one5 (m := m) (G := G) (t := t) (kw := kw) (n := n) (lim := lim) (i := i) (o := o) (nn := nn) htm hb hdn hnm hms (by first | assumption | omega | exact ⟨by omega, by omega⟩ | (constructor <;> omega)) (by first | assumption | omega | exact ⟨by omega, by omega⟩ | (constructor <;> omega))) rfl dX12_readAnd_1 cv_12_436 rfl rfl ob_214 rfl (by decide) (Nat.le_of_ble_eq_true rfl) (fun r_1 m_1 hr_1 ho_1 => ?_)
  obtain ⟨x_1, w_1, hr_1⟩ := hr_1
  rcases hr_1 with ⟨f_1, e_1, g_1, t_1, s_1, j_1, p_1, r_1e, c_1⟩ | ⟨f_1, e_1, no_1⟩
  · refine go_if_ne (tgt := 9) dX12_readAnd_4 (by decide) ⟨by omega, by omega⟩ (fun h_4 => ?_) (fun h_4 => ?_)
    · have hR1 := hPB i o (by omega) (by omega) f_1
      refine go_aload_n dX12_readAnd_9 rfl ?_
      refine go_getf_i (ki := 47) dX12_readAnd_10 fl_12_430 ob_214 rfl rfl (fun hf_10 => ?_)
      refine go_istore_n (L' := [vr 214, vi (m_1 214 47)]) dX12_readAnd_13 (by decide) rfl rfl ?_
      have lp_14 : ∀ (n_14 : Nat) (m1 : Mem) (av : Int) (a : Rs) (f : Nat), (a.1 = 0) → (Sx m m1) → (m1 214 46 = 3) → (m1 214 10 = m 214 10) → (TM G t kw n lim m1 a.2.1) → (MS m1 (G 8 3) a.2.2.1 3 (nn + (a.2.2.2.length : Int))) → (∀ j : Int, j < 4 * nn → m1 234 j = m 234 j) → (nn ≤ av ∧ av < nn + (a.2.2.2.length : Int)) → (Rep (m1 234) av a.2.2.2) → (CdA (G 8 3) a.2.2.2) → (seqL (G 4) 214 (oneF G 5) f a = seqL (G 4) 214 (oneF G 5) 21 ((oneF G 5) i o)) → ((o + 1 ≤ a.2.2.1 ∧ a.2.2.1 ≤ 20) ∧ (a.2.2.2.length : Int) + 1 ≤ 2 * (a.2.2.1 - o)) → (22 + o ≤ (f : Int) + a.2.2.1) → f < n_14 → Go 0 35 mX12_readAnd (fun r m' => SaQ G t kw n lim m m' 3 nn (seqF (G 4) 214 (oneF G 5) i o) r) 14 [vr 214, vi av] [] m1 := by
        intro n_14
        induction n_14 with
        | zero => intro m1 av a f ha0 hsx hw46 hg10 htm1 hms1 hfr hav hrp hcd hsl hab hfu hmu; exact absurd hmu (Nat.not_lt_zero _)
        | succ n_14 ih_14 =>
          intro m1 av a f ha0 hsx hw46 hg10 htm1 hms1 hfr hav hrp hcd hsl hab hfu hmu
          obtain ⟨hab1, hab2⟩ := hab
          have hsu : seqL (G 4) 214 (oneF G 5) f a = if G 4 a.2.1 = 214 then (if ((oneF G 5) (a.2.1 + 1) a.2.2.1).1 ≠ 0 then ((oneF G 5) (a.2.1 + 1) a.2.2.1) else seqL (G 4) 214 (oneF G 5) (f - 1) (0, ((oneF G 5) (a.2.1 + 1) a.2.2.1).2.1, ((oneF G 5) (a.2.1 + 1) a.2.2.1).2.2.1, a.2.2.2 ++ ((oneF G 5) (a.2.1 + 1) a.2.2.1).2.2.2 ++ [(214, 0, 0)])) else a := by
            obtain ⟨g, rfl⟩ : ∃ g, f = g + 1 := ⟨f - 1, by omega⟩
            rfl
          have hPB2 := hPB (a.2.1 + 1) a.2.2.1 (by omega) (by omega)
          refine go_aload_n dX12_readAnd_14 rfl ?_
          refine go_bipush dX12_readAnd_15 (by decide) ?_
          refine go_callVp_z (as := [vi 14]) (S := []) (b := 214) (ev_X12_isWord (m := m1) (k := 14) (G := G) (t := t) (kw := kw) (n := n) (lim := lim) (i := a.2.1) htm1 (by first | assumption | omega | exact ⟨by omega, by omega⟩ | (constructor <;> omega))) rfl dX12_readAnd_17 cv_12_202 rfl rfl ob_214 rfl (by decide) (Nat.le_of_ble_eq_true rfl) (fun r_17 hr_17 ho_17 => ?_)
          refine go_if_eq (tgt := 51) dX12_readAnd_20 (by decide) ⟨by omega, by omega⟩ (fun h_20 => ?_) (fun h_20 => ?_)
          · refine go_aload_n dX12_readAnd_51 rfl ?_
            refine go_iload_n dX12_readAnd_52 rfl ?_
            refine go_putf_i (ki := 47) dX12_readAnd_53 fw_12_430 ob_214 rfl rfl ⟨by omega, by omega⟩ ?_
            refine go_iconst dX12_readAnd_56 ?_
            refine go_ret (v := 1) rfl dX12_readAnd_57 (okZ (by first | exact Or.inl rfl | exact Or.inr rfl | assumption | omega)) ?_
            have hq : seqF (G 4) 214 (oneF G 5) i o = a := by rw [seqF_e (G 4) 214, if_neg (fun z => z f_1), ← hsl, hsu, if_neg (by omega)]
            rw [SaQ, hq]
            refine ⟨hsx.w (by omega) (by omega), by rw [wr_ni (by decide)]; exact hw46, Or.inl ⟨ha0, rfl, by rw [wr_ni (by decide)]; exact hg10, htm1.w (by decide) (by omega), ⟨by rw [wr_ni (by decide)]; exact hms1.1, by rw [wr_ni (by decide)]; exact hms1.2.1, by rw [wr_ni (by decide)]; exact hms1.2.2.1, by rw [wr_row (by decide)]; exact hms1.2.2.2⟩, fun j hj => by rw [wr_na (by decide)]; exact hfr j hj, by rw [wr_self]; exact hav, by rw [wr_self, wr_row (by decide)]; exact hrp, hcd⟩⟩
          · refine go_aload_n dX12_readAnd_23 rfl ?_
            refine go_callV_v (as := []) (S := []) (b := 214) (ev_X12_go (m := m1) (G := G) (t := t) (kw := kw) (n := n) (lim := lim) (i := (a.2.1 + 1)) (htm1.nx (by omega))) rfl dX12_readAnd_24 cv_12_82 rfl rfl ob_214 rfl (by decide) (Nat.le_of_ble_eq_true rfl) (fun m_24 hr_24 => ?_)
            have l24 := hr_24.1.l
            refine go_aload_n dX12_readAnd_27 rfl ?_
            refine go_callV_z (as := []) (S := []) (b := 214) (ev_X12_one5 (m := m_24) (G := G) (t := t) (kw := kw) (n := n) (lim := lim) (i := (a.2.1 + 1)) (o := a.2.2.1) (nn := (nn + (a.2.2.2.length : Int))) hr_24.2 (by rw [(hsx.tr l24.s).1 216 (by decide) (by decide)]; exact hb) hdn (by rw [(hsx.tr l24.s).1 221 (by decide) (by decide)]; exact hnm) (hms1.l l24) (by omega) (by omega)) rfl dX12_readAnd_28 cv_12_436 rfl rfl ob_214 rfl (by decide) (Nat.le_of_ble_eq_true rfl) (fun r_28 m_28 hr_28 ho_28 => ?_)
            obtain ⟨Q, hQe⟩ : ∃ z, z = ((oneF G 5) (a.2.1 + 1) a.2.2.1) := ⟨_, rfl⟩
            rw [← hQe] at hr_28
            obtain ⟨x_28, w_28, hr_28⟩ := hr_28
            rcases hr_28 with ⟨f_28, e_28, g_28, t_28, s_28, j_28, p_28, r_28e, c_28⟩ | ⟨f_28, e_28, no_28⟩
            · refine go_if_ne (tgt := 36) dX12_readAnd_31 (by decide) ⟨by omega, by omega⟩ (fun h_31 => ?_) (fun h_31 => ?_)
              · rw [← hQe] at hPB2
                have hQ2 := hPB2 f_28
                have hln : ((a.2.2.2 ++ Q.2.2.2 ++ [((214 : Int), (0 : Int), (0 : Int))]).length : Int) = a.2.2.2.length + Q.2.2.2.length + 1 := by rw [List.length_append, List.length_append]; rfl
                have hw2 : Wf (m_24 234) (G 8 3) (nn + (a.2.2.2.length : Int)) := by rw [l24.1 234 (by decide)]; exact hms1.2.2.2
                have hrp2 : Rep (m_28 234) av a.2.2.2 := by
                  have z : Rep (m_24 234) av a.2.2.2 := by rw [l24.1 234 (by decide)]; exact hrp
                  exact z.c j_28 hw2 (by omega) (by omega)
                have hwk : Wk (nodF (m_28 234) (nn + (a.2.2.2.length : Int) + (Q.2.2.2.length : Int)) 2 av (m_28 214 47) 0) (G 8 3) (nn + (a.2.2.2.length : Int) + (Q.2.2.2.length : Int)) := by
                  obtain ⟨e0, e1, e2, e3⟩ := nodF_n (N := m_28 234) (n := nn + (a.2.2.2.length : Int) + (Q.2.2.2.length : Int)) (w := 2) (a := av) (b := m_28 214 47) (r := 0)
                  unfold Wk
                  rw [e0, e1, e2, e3]
                  right; left; omega
                have hwn := s_28.2.2.2.add (by omega) hwk
                have hrb := hrp2.bin r_28e s_28.2.2.2 (by omega) (by omega) (by omega) (by omega) (by omega) hwn
                refine go_aload_n dX12_readAnd_36 rfl ?_
                refine go_iconst dX12_readAnd_37 ?_
                refine go_iload_n dX12_readAnd_38 rfl ?_
                refine go_aload_n dX12_readAnd_39 rfl ?_
                refine go_getf_i (ki := 47) dX12_readAnd_40 fl_12_430 ob_214 rfl rfl (fun hf_40 => ?_)
                refine go_iconst dX12_readAnd_43 ?_
                refine go_callV_i (as := [vi 2, vi av, vi (m_28 214 47), vi 0]) (S := []) (b := 214) (ev_X12_saysOne (m := m_28) (w := 2) (a := av) (b := (m_28 214 47)) (s := 0) (nn := (nn + (a.2.2.2.length : Int) + (Q.2.2.2.length : Int))) s_28.2.2.1 (by omega) (by first | assumption | omega | exact ⟨by omega, by omega⟩ | (constructor <;> omega)) (by first | assumption | omega | exact ⟨by omega, by omega⟩ | (constructor <;> omega)) hf_40 (by first | assumption | omega | exact ⟨by omega, by omega⟩ | (constructor <;> omega))) rfl dX12_readAnd_44 cv_12_433 rfl rfl ob_214 rfl (by decide) (Nat.le_of_ble_eq_true rfl) (fun r_44 m_44 hr_44 ho_44 => ?_)
                obtain ⟨e_44, hm_44⟩ := hr_44
                refine go_istore_n (L' := [vr 214, vi r_44]) dX12_readAnd_47 (by decide) rfl rfl ?_
                refine go_goto (tgt := 14) dX12_readAnd_48 (by decide) ?_
                exact ih_14 m_44 r_44 (0, ((oneF G 5) (a.2.1 + 1) a.2.2.1).2.1, ((oneF G 5) (a.2.1 + 1) a.2.2.1).2.2.1, a.2.2.2 ++ ((oneF G 5) (a.2.1 + 1) a.2.2.1).2.2.2 ++ [(214, 0, 0)]) (f - 1) rfl (by rw [hm_44]; exact ((hsx.tr l24.s).tr x_28).tr nodW_s) (by rw [hm_44, nodW_214 (by decide)]; exact w_28) (by rw [hm_44, nodW_214 (by decide), g_28, hr_24.1.2 10 (by decide) (by decide) (by decide) (by decide) (by decide) (by decide)]; exact hg10) (by rw [hm_44]; show TM G t kw n lim _ ((oneF G 5) (a.2.1 + 1) a.2.2.1).2.1; rw [← hQe]; exact t_28.nod) (by show MS m_44 (G 8 3) ((oneF G 5) (a.2.1 + 1) a.2.2.1).2.2.1 3 (nn + ((a.2.2.2 ++ ((oneF G 5) (a.2.1 + 1) a.2.2.1).2.2.2 ++ [((214 : Int), (0 : Int), (0 : Int))]).length : Int)); rw [← hQe, hln, hm_44]; refine ⟨by rw [nodW_214 (by decide)]; exact s_28.1, by rw [nodW_214 (by decide)]; exact s_28.2.1, by rw [nodW_44]; omega, ?_⟩; rw [nodW_234, show nn + ((a.2.2.2.length : Int) + Q.2.2.2.length + 1) = nn + (a.2.2.2.length : Int) + (Q.2.2.2.length : Int) + 1 by omega]; exact hwn) (fun j hj => by rw [hm_44, nodW_234, nodF_o j (by omega), j_28 j (by omega), l24.1 234 (by decide)]; exact hfr j hj) (by show nn ≤ r_44 ∧ r_44 < nn + ((a.2.2.2 ++ ((oneF G 5) (a.2.1 + 1) a.2.2.1).2.2.2 ++ [((214 : Int), (0 : Int), (0 : Int))]).length : Int); rw [← hQe, hln]; omega) (by show Rep _ _ (a.2.2.2 ++ ((oneF G 5) (a.2.1 + 1) a.2.2.1).2.2.2 ++ [((214 : Int), (0 : Int), (0 : Int))]); rw [← hQe, hm_44, nodW_234, e_44]; exact hrb) (by show CdA _ (a.2.2.2 ++ ((oneF G 5) (a.2.1 + 1) a.2.2.1).2.2.2 ++ [((214 : Int), (0 : Int), (0 : Int))]); rw [← hQe]; exact (hcd.app c_28).app (CdA.k (by decide))) (by rw [← hsl, hsu, if_pos (by omega), ← hQe, if_neg (fun z => z f_28)]) (by show (o + 1 ≤ ((oneF G 5) (a.2.1 + 1) a.2.2.1).2.2.1 ∧ ((oneF G 5) (a.2.1 + 1) a.2.2.1).2.2.1 ≤ 20) ∧ ((a.2.2.2 ++ ((oneF G 5) (a.2.1 + 1) a.2.2.1).2.2.2 ++ [((214 : Int), (0 : Int), (0 : Int))]).length : Int) + 1 ≤ 2 * (((oneF G 5) (a.2.1 + 1) a.2.2.1).2.2.1 - o); rw [← hQe, hln]; omega) (by show 22 + o ≤ ((f - 1 : Nat) : Int) + ((oneF G 5) (a.2.1 + 1) a.2.2.1).2.2.1; rw [← hQe]; omega) (by omega)
              · exfalso; omega
            · refine go_if_ne (tgt := 36) dX12_readAnd_31 (by decide) ⟨by omega, by omega⟩ (fun h_31 => ?_) (fun h_31 => ?_)
              · exfalso; omega
              · refine go_iconst dX12_readAnd_34 ?_
                refine go_ret (v := 0) rfl dX12_readAnd_35 (okZ (by first | exact Or.inl rfl | exact Or.inr rfl | assumption | omega)) ?_
                have hq : seqF (G 4) 214 (oneF G 5) i o = Q := by rw [seqF_e (G 4) 214, if_neg (fun z => z f_1), ← hsl, hsu, if_pos (by omega), ← hQe, if_pos f_28]
                rw [SaQ, hq]
                exact ⟨(hsx.tr l24.s).tr x_28, w_28, Or.inr ⟨f_28, rfl, no_28⟩⟩
      exact lp_14 _ m_1 (m_1 214 47) ((oneF G 5) i o) 21 f_1 x_1 w_1 g_1 t_1 s_1 j_1 p_1 r_1e c_1 rfl ⟨⟨hR1.1, hR1.2.1⟩, hR1.2.2⟩ (by have := hR1.1; omega) (Nat.lt_succ_self _)
    · exfalso; omega
  · refine go_if_ne (tgt := 9) dX12_readAnd_4 (by decide) ⟨by omega, by omega⟩ (fun h_4 => ?_) (fun h_4 => ?_)
    · exfalso; omega
    · refine go_iconst dX12_readAnd_7 ?_
      refine go_ret (v := 0) rfl dX12_readAnd_8 (okZ (by first | exact Or.inl rfl | exact Or.inr rfl | assumption | omega)) ?_
      rw [SaQ, seqF_e (G 4) 214, if_pos f_1]
      exact ⟨x_1, w_1, Or.inr ⟨f_1, rfl, no_1⟩⟩
set_option maxRecDepth 4000 in
theorem ev_X12_con5 {m : Mem} {G : Mem} {t : Int → Int} {kw : Int → Int} {n : Int} {lim : Int} {i : Int} {o : Int} {nn : Int} (htm : TM G t kw n lim m i) (hb : Bg G 8 18 (m 216)) (hdn : DnOk G 8) (hnm : NmR G 8 (m 221)) (hms : MS m (G 8 3) o 3 nn) (ho : 0 ≤ o ∧ o ≤ 20) (hnn : 0 ≤ nn ∧ nn ≤ 2 * o) : Ev 0 36 mX12_readOr [vr 214] m (fun r m' => SaQ G t kw n lim m m' 3 nn (seqF (G 4) 213 (seqF (G 4) 214 (oneF G 5)) i o) r) := by
  refine Ev.of (L := [vr 214, un]) (by decide +kernel) rfl (Nat.le_of_ble_eq_true rfl) rfl (fun t ht => by cases ht; first | exact Or.inl rfl | exact Or.inr (Or.inl rfl) | exact Or.inr (Or.inr rfl)) (fun hcan => ?_)
  obtain ⟨hm1, hm2, hm3, hm4⟩ := id hms
  have hPB : PB (seqF (G 4) 214 (oneF G 5)) := (seqF_b (oneF_b G 5))
  refine go_aload_n dX12_readOr_0 rfl ?_
  refine go_callV_z (as := []) (S := []) (b := 214) (ev_X12_all5 (m := m) (G := G) (t := t) (kw := kw) (n := n) (lim := lim) (i := i) (o := o) (nn := nn) htm hb hdn hnm hms (by first | assumption | omega | exact ⟨by omega, by omega⟩ | (constructor <;> omega)) (by first | assumption | omega | exact ⟨by omega, by omega⟩ | (constructor <;> omega))) rfl dX12_readOr_1 cv_12_427 rfl rfl ob_214 rfl (by decide) (Nat.le_of_ble_eq_true rfl) (fun r_1 m_1 hr_1 ho_1 => ?_)
  obtain ⟨x_1, w_1, hr_1⟩ := hr_1
  rcases hr_1 with ⟨f_1, e_1, g_1, t_1, s_1, j_1, p_1, r_1e, c_1⟩ | ⟨f_1, e_1, no_1⟩
  · refine go_if_ne (tgt := 9) dX12_readOr_4 (by decide) ⟨by omega, by omega⟩ (fun h_4 => ?_) (fun h_4 => ?_)
    · have hR1 := hPB i o (by omega) (by omega) f_1
      refine go_aload_n dX12_readOr_9 rfl ?_
      refine go_getf_i (ki := 47) dX12_readOr_10 fl_12_430 ob_214 rfl rfl (fun hf_10 => ?_)
      refine go_istore_n (L' := [vr 214, vi (m_1 214 47)]) dX12_readOr_13 (by decide) rfl rfl ?_
      have lp_14 : ∀ (n_14 : Nat) (m1 : Mem) (av : Int) (a : Rs) (f : Nat), (a.1 = 0) → (Sx m m1) → (m1 214 46 = 3) → (m1 214 10 = m 214 10) → (TM G t kw n lim m1 a.2.1) → (MS m1 (G 8 3) a.2.2.1 3 (nn + (a.2.2.2.length : Int))) → (∀ j : Int, j < 4 * nn → m1 234 j = m 234 j) → (nn ≤ av ∧ av < nn + (a.2.2.2.length : Int)) → (Rep (m1 234) av a.2.2.2) → (CdA (G 8 3) a.2.2.2) → (seqL (G 4) 213 (seqF (G 4) 214 (oneF G 5)) f a = seqL (G 4) 213 (seqF (G 4) 214 (oneF G 5)) 21 ((seqF (G 4) 214 (oneF G 5)) i o)) → ((o + 1 ≤ a.2.2.1 ∧ a.2.2.1 ≤ 20) ∧ (a.2.2.2.length : Int) + 1 ≤ 2 * (a.2.2.1 - o)) → (22 + o ≤ (f : Int) + a.2.2.1) → f < n_14 → Go 0 36 mX12_readOr (fun r m' => SaQ G t kw n lim m m' 3 nn (seqF (G 4) 213 (seqF (G 4) 214 (oneF G 5)) i o) r) 14 [vr 214, vi av] [] m1 := by
        intro n_14
        induction n_14 with
        | zero => intro m1 av a f ha0 hsx hw46 hg10 htm1 hms1 hfr hav hrp hcd hsl hab hfu hmu; exact absurd hmu (Nat.not_lt_zero _)
        | succ n_14 ih_14 =>
          intro m1 av a f ha0 hsx hw46 hg10 htm1 hms1 hfr hav hrp hcd hsl hab hfu hmu
          obtain ⟨hab1, hab2⟩ := hab
          have hsu : seqL (G 4) 213 (seqF (G 4) 214 (oneF G 5)) f a = if G 4 a.2.1 = 213 then (if ((seqF (G 4) 214 (oneF G 5)) (a.2.1 + 1) a.2.2.1).1 ≠ 0 then ((seqF (G 4) 214 (oneF G 5)) (a.2.1 + 1) a.2.2.1) else seqL (G 4) 213 (seqF (G 4) 214 (oneF G 5)) (f - 1) (0, ((seqF (G 4) 214 (oneF G 5)) (a.2.1 + 1) a.2.2.1).2.1, ((seqF (G 4) 214 (oneF G 5)) (a.2.1 + 1) a.2.2.1).2.2.1, a.2.2.2 ++ ((seqF (G 4) 214 (oneF G 5)) (a.2.1 + 1) a.2.2.1).2.2.2 ++ [(213, 0, 0)])) else a := by
            obtain ⟨g, rfl⟩ : ∃ g, f = g + 1 := ⟨f - 1, by omega⟩
            rfl
          have hPB2 := hPB (a.2.1 + 1) a.2.2.1 (by omega) (by omega)
          refine go_aload_n dX12_readOr_14 rfl ?_
          refine go_bipush dX12_readOr_15 (by decide) ?_
          refine go_callVp_z (as := [vi 13]) (S := []) (b := 214) (ev_X12_isWord (m := m1) (k := 13) (G := G) (t := t) (kw := kw) (n := n) (lim := lim) (i := a.2.1) htm1 (by first | assumption | omega | exact ⟨by omega, by omega⟩ | (constructor <;> omega))) rfl dX12_readOr_17 cv_12_202 rfl rfl ob_214 rfl (by decide) (Nat.le_of_ble_eq_true rfl) (fun r_17 hr_17 ho_17 => ?_)
          refine go_if_eq (tgt := 51) dX12_readOr_20 (by decide) ⟨by omega, by omega⟩ (fun h_20 => ?_) (fun h_20 => ?_)
          · refine go_aload_n dX12_readOr_51 rfl ?_
            refine go_iload_n dX12_readOr_52 rfl ?_
            refine go_putf_i (ki := 47) dX12_readOr_53 fw_12_430 ob_214 rfl rfl ⟨by omega, by omega⟩ ?_
            refine go_iconst dX12_readOr_56 ?_
            refine go_ret (v := 1) rfl dX12_readOr_57 (okZ (by first | exact Or.inl rfl | exact Or.inr rfl | assumption | omega)) ?_
            have hq : seqF (G 4) 213 (seqF (G 4) 214 (oneF G 5)) i o = a := by rw [seqF_e (G 4) 213, if_neg (fun z => z f_1), ← hsl, hsu, if_neg (by omega)]
            rw [SaQ, hq]
            refine ⟨hsx.w (by omega) (by omega), by rw [wr_ni (by decide)]; exact hw46, Or.inl ⟨ha0, rfl, by rw [wr_ni (by decide)]; exact hg10, htm1.w (by decide) (by omega), ⟨by rw [wr_ni (by decide)]; exact hms1.1, by rw [wr_ni (by decide)]; exact hms1.2.1, by rw [wr_ni (by decide)]; exact hms1.2.2.1, by rw [wr_row (by decide)]; exact hms1.2.2.2⟩, fun j hj => by rw [wr_na (by decide)]; exact hfr j hj, by rw [wr_self]; exact hav, by rw [wr_self, wr_row (by decide)]; exact hrp, hcd⟩⟩
          · refine go_aload_n dX12_readOr_23 rfl ?_
            refine go_callV_v (as := []) (S := []) (b := 214) (ev_X12_go (m := m1) (G := G) (t := t) (kw := kw) (n := n) (lim := lim) (i := (a.2.1 + 1)) (htm1.nx (by omega))) rfl dX12_readOr_24 cv_12_82 rfl rfl ob_214 rfl (by decide) (Nat.le_of_ble_eq_true rfl) (fun m_24 hr_24 => ?_)
            have l24 := hr_24.1.l
            refine go_aload_n dX12_readOr_27 rfl ?_
            refine go_callV_z (as := []) (S := []) (b := 214) (ev_X12_all5 (m := m_24) (G := G) (t := t) (kw := kw) (n := n) (lim := lim) (i := (a.2.1 + 1)) (o := a.2.2.1) (nn := (nn + (a.2.2.2.length : Int))) hr_24.2 (by rw [(hsx.tr l24.s).1 216 (by decide) (by decide)]; exact hb) hdn (by rw [(hsx.tr l24.s).1 221 (by decide) (by decide)]; exact hnm) (hms1.l l24) (by omega) (by omega)) rfl dX12_readOr_28 cv_12_427 rfl rfl ob_214 rfl (by decide) (Nat.le_of_ble_eq_true rfl) (fun r_28 m_28 hr_28 ho_28 => ?_)
            obtain ⟨Q, hQe⟩ : ∃ z, z = ((seqF (G 4) 214 (oneF G 5)) (a.2.1 + 1) a.2.2.1) := ⟨_, rfl⟩
            rw [← hQe] at hr_28
            obtain ⟨x_28, w_28, hr_28⟩ := hr_28
            rcases hr_28 with ⟨f_28, e_28, g_28, t_28, s_28, j_28, p_28, r_28e, c_28⟩ | ⟨f_28, e_28, no_28⟩
            · refine go_if_ne (tgt := 36) dX12_readOr_31 (by decide) ⟨by omega, by omega⟩ (fun h_31 => ?_) (fun h_31 => ?_)
              · rw [← hQe] at hPB2
                have hQ2 := hPB2 f_28
                have hln : ((a.2.2.2 ++ Q.2.2.2 ++ [((213 : Int), (0 : Int), (0 : Int))]).length : Int) = a.2.2.2.length + Q.2.2.2.length + 1 := by rw [List.length_append, List.length_append]; rfl
                have hw2 : Wf (m_24 234) (G 8 3) (nn + (a.2.2.2.length : Int)) := by rw [l24.1 234 (by decide)]; exact hms1.2.2.2
                have hrp2 : Rep (m_28 234) av a.2.2.2 := by
                  have z : Rep (m_24 234) av a.2.2.2 := by rw [l24.1 234 (by decide)]; exact hrp
                  exact z.c j_28 hw2 (by omega) (by omega)
                have hwk : Wk (nodF (m_28 234) (nn + (a.2.2.2.length : Int) + (Q.2.2.2.length : Int)) 3 av (m_28 214 47) 0) (G 8 3) (nn + (a.2.2.2.length : Int) + (Q.2.2.2.length : Int)) := by
                  obtain ⟨e0, e1, e2, e3⟩ := nodF_n (N := m_28 234) (n := nn + (a.2.2.2.length : Int) + (Q.2.2.2.length : Int)) (w := 3) (a := av) (b := m_28 214 47) (r := 0)
                  unfold Wk
                  rw [e0, e1, e2, e3]
                  right; left; omega
                have hwn := s_28.2.2.2.add (by omega) hwk
                have hrb := hrp2.bin r_28e s_28.2.2.2 (by omega) (by omega) (by omega) (by omega) (by omega) hwn
                refine go_aload_n dX12_readOr_36 rfl ?_
                refine go_iconst dX12_readOr_37 ?_
                refine go_iload_n dX12_readOr_38 rfl ?_
                refine go_aload_n dX12_readOr_39 rfl ?_
                refine go_getf_i (ki := 47) dX12_readOr_40 fl_12_430 ob_214 rfl rfl (fun hf_40 => ?_)
                refine go_iconst dX12_readOr_43 ?_
                refine go_callV_i (as := [vi 3, vi av, vi (m_28 214 47), vi 0]) (S := []) (b := 214) (ev_X12_saysOne (m := m_28) (w := 3) (a := av) (b := (m_28 214 47)) (s := 0) (nn := (nn + (a.2.2.2.length : Int) + (Q.2.2.2.length : Int))) s_28.2.2.1 (by omega) (by first | assumption | omega | exact ⟨by omega, by omega⟩ | (constructor <;> omega)) (by first | assumption | omega | exact ⟨by omega, by omega⟩ | (constructor <;> omega)) hf_40 (by first | assumption | omega | exact ⟨by omega, by omega⟩ | (constructor <;> omega))) rfl dX12_readOr_44 cv_12_433 rfl rfl ob_214 rfl (by decide) (Nat.le_of_ble_eq_true rfl) (fun r_44 m_44 hr_44 ho_44 => ?_)
                obtain ⟨e_44, hm_44⟩ := hr_44
                refine go_istore_n (L' := [vr 214, vi r_44]) dX12_readOr_47 (by decide) rfl rfl ?_
                refine go_goto (tgt := 14) dX12_readOr_48 (by decide) ?_
                exact ih_14 m_44 r_44 (0, ((seqF (G 4) 214 (oneF G 5)) (a.2.1 + 1) a.2.2.1).2.1, ((seqF (G 4) 214 (oneF G 5)) (a.2.1 + 1) a.2.2.1).2.2.1, a.2.2.2 ++ ((seqF (G 4) 214 (oneF G 5)) (a.2.1 + 1) a.2.2.1).2.2.2 ++ [(213, 0, 0)]) (f - 1) rfl (by rw [hm_44]; exact ((hsx.tr l24.s).tr x_28).tr nodW_s) (by rw [hm_44, nodW_214 (by decide)]; exact w_28) (by rw [hm_44, nodW_214 (by decide), g_28, hr_24.1.2 10 (by decide) (by decide) (by decide) (by decide) (by decide) (by decide)]; exact hg10) (by rw [hm_44]; show TM G t kw n lim _ ((seqF (G 4) 214 (oneF G 5)) (a.2.1 + 1) a.2.2.1).2.1; rw [← hQe]; exact t_28.nod) (by show MS m_44 (G 8 3) ((seqF (G 4) 214 (oneF G 5)) (a.2.1 + 1) a.2.2.1).2.2.1 3 (nn + ((a.2.2.2 ++ ((seqF (G 4) 214 (oneF G 5)) (a.2.1 + 1) a.2.2.1).2.2.2 ++ [((213 : Int), (0 : Int), (0 : Int))]).length : Int)); rw [← hQe, hln, hm_44]; refine ⟨by rw [nodW_214 (by decide)]; exact s_28.1, by rw [nodW_214 (by decide)]; exact s_28.2.1, by rw [nodW_44]; omega, ?_⟩; rw [nodW_234, show nn + ((a.2.2.2.length : Int) + Q.2.2.2.length + 1) = nn + (a.2.2.2.length : Int) + (Q.2.2.2.length : Int) + 1 by omega]; exact hwn) (fun j hj => by rw [hm_44, nodW_234, nodF_o j (by omega), j_28 j (by omega), l24.1 234 (by decide)]; exact hfr j hj) (by show nn ≤ r_44 ∧ r_44 < nn + ((a.2.2.2 ++ ((seqF (G 4) 214 (oneF G 5)) (a.2.1 + 1) a.2.2.1).2.2.2 ++ [((213 : Int), (0 : Int), (0 : Int))]).length : Int); rw [← hQe, hln]; omega) (by show Rep _ _ (a.2.2.2 ++ ((seqF (G 4) 214 (oneF G 5)) (a.2.1 + 1) a.2.2.1).2.2.2 ++ [((213 : Int), (0 : Int), (0 : Int))]); rw [← hQe, hm_44, nodW_234, e_44]; exact hrb) (by show CdA _ (a.2.2.2 ++ ((seqF (G 4) 214 (oneF G 5)) (a.2.1 + 1) a.2.2.1).2.2.2 ++ [((213 : Int), (0 : Int), (0 : Int))]); rw [← hQe]; exact (hcd.app c_28).app (CdA.k (by decide))) (by rw [← hsl, hsu, if_pos (by omega), ← hQe, if_neg (fun z => z f_28)]) (by show (o + 1 ≤ ((seqF (G 4) 214 (oneF G 5)) (a.2.1 + 1) a.2.2.1).2.2.1 ∧ ((seqF (G 4) 214 (oneF G 5)) (a.2.1 + 1) a.2.2.1).2.2.1 ≤ 20) ∧ ((a.2.2.2 ++ ((seqF (G 4) 214 (oneF G 5)) (a.2.1 + 1) a.2.2.1).2.2.2 ++ [((213 : Int), (0 : Int), (0 : Int))]).length : Int) + 1 ≤ 2 * (((seqF (G 4) 214 (oneF G 5)) (a.2.1 + 1) a.2.2.1).2.2.1 - o); rw [← hQe, hln]; omega) (by show 22 + o ≤ ((f - 1 : Nat) : Int) + ((seqF (G 4) 214 (oneF G 5)) (a.2.1 + 1) a.2.2.1).2.2.1; rw [← hQe]; omega) (by omega)
              · exfalso; omega
            · refine go_if_ne (tgt := 36) dX12_readOr_31 (by decide) ⟨by omega, by omega⟩ (fun h_31 => ?_) (fun h_31 => ?_)
              · exfalso; omega
              · refine go_iconst dX12_readOr_34 ?_
                refine go_ret (v := 0) rfl dX12_readOr_35 (okZ (by first | exact Or.inl rfl | exact Or.inr rfl | assumption | omega)) ?_
                have hq : seqF (G 4) 213 (seqF (G 4) 214 (oneF G 5)) i o = Q := by rw [seqF_e (G 4) 213, if_neg (fun z => z f_1), ← hsl, hsu, if_pos (by omega), ← hQe, if_pos f_28]
                rw [SaQ, hq]
                exact ⟨(hsx.tr l24.s).tr x_28, w_28, Or.inr ⟨f_28, rfl, no_28⟩⟩
      exact lp_14 _ m_1 (m_1 214 47) ((seqF (G 4) 214 (oneF G 5)) i o) 21 f_1 x_1 w_1 g_1 t_1 s_1 j_1 p_1 r_1e c_1 rfl ⟨⟨hR1.1, hR1.2.1⟩, hR1.2.2⟩ (by have := hR1.1; omega) (Nat.lt_succ_self _)
    · exfalso; omega
  · refine go_if_ne (tgt := 9) dX12_readOr_4 (by decide) ⟨by omega, by omega⟩ (fun h_4 => ?_) (fun h_4 => ?_)
    · exfalso; omega
    · refine go_iconst dX12_readOr_7 ?_
      refine go_ret (v := 0) rfl dX12_readOr_8 (okZ (by first | exact Or.inl rfl | exact Or.inr rfl | assumption | omega)) ?_
      rw [SaQ, seqF_e (G 4) 213, if_pos f_1]
      exact ⟨x_1, w_1, Or.inr ⟨f_1, rfl, no_1⟩⟩
set_option maxRecDepth 4000 in
theorem ev_X12_not6 {m : Mem} {G : Mem} {t : Int → Int} {kw : Int → Int} {n : Int} {lim : Int} {i : Int} {o : Int} {nn : Int} (htm : TM G t kw n lim m i) (hb : Bg G 8 18 (m 216)) (hdn : DnOk G 8) (hnm : NmR G 8 (m 221)) (hms : MS m (G 8 3) o 3 nn) (ho : 1 ≤ o ∧ o ≤ 20) (hnn : 0 ≤ nn ∧ nn + 2 ≤ 2 * o) : Ev 0 36 mX12_readNot [vr 214] m (fun r m' => SaQ G t kw n lim m m' 3 nn (notF (oneF G 5) (i - 1) o) r) := by
  refine Ev.of (L := [vr 214]) (by decide +kernel) rfl (Nat.le_of_ble_eq_true rfl) rfl (fun t ht => by cases ht; first | exact Or.inl rfl | exact Or.inr (Or.inl rfl) | exact Or.inr (Or.inr rfl)) (fun hcan => ?_)
  obtain ⟨hm1, hm2, hm3, hm4⟩ := id hms
  have hni : i - 1 + 1 = i := by omega
  have hR : RB o ((oneF G 5) i o) := oneF_b G 5 i o (by omega) (by omega)
  refine go_aload_n dX12_readNot_0 rfl ?_
  refine go_callV_z (as := []) (S := []) (b := 214) (ev_X12_one5 (m := m) (G := G) (t := t) (kw := kw) (n := n) (lim := lim) (i := i) (o := o) (nn := nn) htm hb hdn hnm hms (by omega) (by omega)) rfl dX12_readNot_1 cv_12_436 rfl rfl ob_214 rfl (by decide) (Nat.le_of_ble_eq_true rfl) (fun r_1 m_1 hr_1 ho_1 => ?_)
  obtain ⟨R, hRe⟩ : ∃ z, z = (oneF G 5) i o := ⟨_, rfl⟩
  rw [← hRe] at hr_1 hR
  obtain ⟨x_1, w_1, hr_1⟩ := hr_1
  rcases hr_1 with ⟨f_1, e_1, g_1, t_1, s_1, j_1, p_1, r_1e, c_1⟩ | ⟨f_1, e_1, no_1⟩
  · refine go_if_ne (tgt := 9) dX12_readNot_4 (by decide) ⟨by omega, by omega⟩ (fun h_4 => ?_) (fun h_4 => ?_)
    · refine go_aload_n dX12_readNot_9 rfl ?_
      refine go_aload_n dX12_readNot_10 rfl ?_
      refine go_iconst dX12_readNot_11 ?_
      refine go_aload_n dX12_readNot_12 rfl ?_
      refine go_getf_i (ki := 47) dX12_readNot_13 fl_12_430 ob_214 rfl rfl (fun hf_13 => ?_)
      refine go_iconst dX12_readNot_16 ?_
      refine go_iconst dX12_readNot_17 ?_
      refine go_callV_i (as := [vi 1, vi (m_1 214 47), vi 0, vi 0]) (S := [vr 214]) (b := 214) (ev_X12_saysOne (m := m_1) (w := 1) (a := (m_1 214 47)) (b := 0) (s := 0) (nn := (nn + (R.2.2.2.length : Int))) s_1.2.2.1 (by have := hR f_1; omega) (by first | assumption | omega | exact ⟨by omega, by omega⟩ | (constructor <;> omega)) (by first | assumption | omega | exact ⟨by omega, by omega⟩ | (constructor <;> omega)) (by first | assumption | omega | exact ⟨by omega, by omega⟩ | (constructor <;> omega)) (by first | assumption | omega | exact ⟨by omega, by omega⟩ | (constructor <;> omega))) rfl dX12_readNot_18 cv_12_433 rfl rfl ob_214 rfl (by decide) (Nat.le_of_ble_eq_true rfl) (fun r_18 m_18 hr_18 ho_18 => ?_)
      obtain ⟨e_18, hm_18⟩ := hr_18
      refine go_putf_i (ki := 47) dX12_readNot_21 fw_12_430 ob_214 rfl rfl ⟨by omega, by omega⟩ ?_
      refine go_iconst dX12_readNot_24 ?_
      refine go_ret (v := 1) rfl dX12_readNot_25 (okZ (by first | exact Or.inl rfl | exact Or.inr rfl | assumption | omega)) ?_
      have hRb := hR f_1
      have hq : notF (oneF G 5) (i - 1) o = (R.1, R.2.1, R.2.2.1, R.2.2.2 ++ [(215, 0, 0)]) := by unfold notF; rw [hni, ← hRe]
      have hwk : Wk (nodF (m_1 234) (nn + (R.2.2.2.length : Int)) 1 (m_1 214 47) 0 0) (G 8 3) (nn + (R.2.2.2.length : Int)) := by
        obtain ⟨e0, e1, e2, e3⟩ := nodF_n (N := m_1 234) (n := nn + (R.2.2.2.length : Int)) (w := 1) (a := m_1 214 47) (b := 0) (r := 0)
        unfold Wk
        rw [e0, e1, e2, e3]
        left; omega
      have hwn := s_1.2.2.2.add (by omega) hwk
      have hln : ((R.2.2.2 ++ [((215 : Int), (0 : Int), (0 : Int))]).length : Int) = R.2.2.2.length + 1 := by rw [List.length_append]; rfl
      rw [SaQ, hq, hm_18]
      refine ⟨(x_1.tr nodW_s).w (by omega) (by omega), ?_, Or.inl ⟨f_1, rfl, ?_, (t_1.nod).w (by decide) (by omega), ⟨?_, ?_, ?_, ?_⟩, fun j hj => ?_, ?_, ?_, c_1.app (CdA.k (by decide))⟩⟩
      · rw [wr_ni (by decide), nodW_214 (by decide)]; exact w_1
      · rw [wr_ni (by decide), nodW_214 (by decide)]; exact g_1
      · rw [wr_ni (by decide), nodW_214 (by decide)]; exact s_1.1
      · rw [wr_ni (by decide), nodW_214 (by decide)]; exact s_1.2.1
      · rw [wr_ni (by decide), nodW_44]; show _ = nn + ((R.2.2.2 ++ [((215 : Int), (0 : Int), (0 : Int))]).length : Int); rw [hln]; omega
      · rw [wr_row (by decide), nodW_234]; show Wf _ _ (nn + ((R.2.2.2 ++ [((215 : Int), (0 : Int), (0 : Int))]).length : Int)); rw [hln, show nn + ((R.2.2.2.length : Int) + 1) = nn + (R.2.2.2.length : Int) + 1 by omega]; exact hwn
      · rw [wr_na (by decide), nodW_234, nodF_o j (by omega)]; exact j_1 j hj
      · rw [wr_self, e_18]; show nn ≤ _ ∧ _ < nn + ((R.2.2.2 ++ [((215 : Int), (0 : Int), (0 : Int))]).length : Int); rw [hln]; omega
      · rw [wr_self, e_18, wr_row (by decide), nodW_234]
        exact r_1e.not s_1.2.2.2 (by omega) (by omega) hwn
    · exfalso; omega
  · refine go_if_ne (tgt := 9) dX12_readNot_4 (by decide) ⟨by omega, by omega⟩ (fun h_4 => ?_) (fun h_4 => ?_)
    · exfalso; omega
    · refine go_iconst dX12_readNot_7 ?_
      refine go_ret (v := 0) rfl dX12_readNot_8 (okZ (by first | exact Or.inl rfl | exact Or.inr rfl | assumption | omega)) ?_
      have hq : (notF (oneF G 5) (i - 1) o).1 = R.1 ∧ (notF (oneF G 5) (i - 1) o).2.1 = R.2.1 := by unfold notF; rw [hni, ← hRe]; exact ⟨rfl, rfl⟩
      exact ⟨x_1, w_1, Or.inr ⟨by rw [hq.1]; exact f_1, rfl, by rw [hq.1]; exact no_1.1, by rw [hq.2]; exact no_1.2⟩⟩
set_option maxRecDepth 4000 in
theorem ev_X12_brk6 {m : Mem} {G : Mem} {t : Int → Int} {kw : Int → Int} {n : Int} {lim : Int} {i : Int} {o : Int} {nn : Int} (htm : TM G t kw n lim m i) (hb : Bg G 8 18 (m 216)) (hdn : DnOk G 8) (hnm : NmR G 8 (m 221)) (hms : MS m (G 8 3) o 3 nn) (ho : 1 ≤ o ∧ o ≤ 20) (hnn : 0 ≤ nn ∧ nn + 2 ≤ 2 * o) : Ev 0 37 mX12_readBracket [vr 214] m (fun r m' => SaQ G t kw n lim m m' 3 nn (brkF (G 4) (seqF (G 4) 213 (seqF (G 4) 214 (oneF G 5))) (i - 1) o) r) := by
  refine Ev.of (L := [vr 214]) (by decide +kernel) rfl (Nat.le_of_ble_eq_true rfl) rfl (fun t ht => by cases ht; first | exact Or.inl rfl | exact Or.inr (Or.inl rfl) | exact Or.inr (Or.inr rfl)) (fun hcan => ?_)
  obtain ⟨hm1, hm2, hm3, hm4⟩ := id hms
  have hni : i - 1 + 1 = i := by omega
  refine go_aload_n dX12_readBracket_0 rfl ?_
  refine go_callV_z (as := []) (S := []) (b := 214) (ev_X12_con5 (m := m) (G := G) (t := t) (kw := kw) (n := n) (lim := lim) (i := i) (o := o) (nn := nn) htm hb hdn hnm hms (by omega) (by omega)) rfl dX12_readBracket_1 cv_12_457 rfl rfl ob_214 rfl (by decide) (Nat.le_of_ble_eq_true rfl) (fun r_1 m_1 hr_1 ho_1 => ?_)
  obtain ⟨R, hRe⟩ : ∃ z, z = (seqF (G 4) 213 (seqF (G 4) 214 (oneF G 5))) i o := ⟨_, rfl⟩
  rw [← hRe] at hr_1
  obtain ⟨x_1, w_1, hr_1⟩ := hr_1
  rcases hr_1 with ⟨f_1, e_1, g_1, t_1, s_1, j_1, p_1, r_1e, c_1⟩ | ⟨f_1, e_1, no_1⟩
  · refine go_if_ne (tgt := 9) dX12_readBracket_4 (by decide) ⟨by omega, by omega⟩ (fun h_4 => ?_) (fun h_4 => ?_)
    · refine go_aload_n dX12_readBracket_9 rfl ?_
      refine go_bipush dX12_readBracket_10 (by decide) ?_
      refine go_callVp_z (as := [vi 41]) (S := []) (b := 214) (ev_X12_isSign (m := m_1) (c := 41) (G := G) (t := t) (kw := kw) (n := n) (lim := lim) (i := R.2.1) t_1 (by unfold isS; omega)) rfl dX12_readBracket_12 cv_12_86 rfl rfl ob_214 rfl (by decide) (Nat.le_of_ble_eq_true rfl) (fun r_12 hr_12 ho_12 => ?_)
      refine go_if_ne (tgt := 24) dX12_readBracket_15 (by decide) ⟨by omega, by omega⟩ (fun h_15 => ?_) (fun h_15 => ?_)
      · refine go_aload_n dX12_readBracket_24 rfl ?_
        refine go_callV_v (as := []) (S := []) (b := 214) (ev_X12_go (m := m_1) (G := G) (t := t) (kw := kw) (n := n) (lim := lim) (i := (R.2.1 + 1)) (t_1.nx (by omega))) rfl dX12_readBracket_25 cv_12_82 rfl rfl ob_214 rfl (by decide) (Nat.le_of_ble_eq_true rfl) (fun m_25 hr_25 => ?_)
        refine go_iconst dX12_readBracket_28 ?_
        refine go_ret (v := 1) rfl dX12_readBracket_29 (okZ (by first | exact Or.inl rfl | exact Or.inr rfl | assumption | omega)) ?_
        have hq : brkF (G 4) (seqF (G 4) 213 (seqF (G 4) 214 (oneF G 5))) (i - 1) o = (0, R.2.1 + 1, R.2.2.1, R.2.2.2) := by unfold brkF; rw [hni, ← hRe, if_neg (fun z => z f_1), if_pos (by omega)]
        have hl := hr_25.1.l
        rw [SaQ, hq]
        refine ⟨x_1.tr hl.s, by rw [hl.2 46 (by omega)]; exact w_1, Or.inl ⟨rfl, rfl, ?_, hr_25.2, s_1.l hl, fun j hj => ?_, ?_, ?_, c_1⟩⟩
        · rw [hr_25.1.2 10 (by decide) (by decide) (by decide) (by decide) (by decide) (by decide)]; exact g_1
        · rw [hl.1 234 (by decide)]; exact j_1 j hj
        · rw [hl.2 47 (by omega)]; exact p_1
        · rw [hl.2 47 (by omega), hl.1 234 (by decide)]; exact r_1e
      · refine go_aload_n dX12_readBracket_18 rfl ?_
        refine go_iconst dX12_readBracket_19 ?_
        refine go_callV_z (as := [vi 1]) (S := []) (b := 214) (ev_X12_bad (m := m_1) (k := 1) (G := G) (t := t) (kw := kw) (n := n) (lim := lim) (i := R.2.1) t_1 (by first | assumption | omega | exact ⟨by omega, by omega⟩ | (constructor <;> omega))) rfl dX12_readBracket_20 cv_12_72 rfl rfl ob_214 rfl (by decide) (Nat.le_of_ble_eq_true rfl) (fun r_20 m_20 hr_20 ho_20 => ?_)
        refine go_ret (v := r_20) rfl dX12_readBracket_23 (okZ (by first | exact Or.inl rfl | exact Or.inr rfl | assumption | omega)) ?_
        have hq : brkF (G 4) (seqF (G 4) 213 (seqF (G 4) 214 (oneF G 5))) (i - 1) o = (1, R.2.1, 0, []) := by unfold brkF; rw [hni, ← hRe, if_neg (fun z => z f_1), if_neg (by omega)]
        have z := NoT.b (G := G) (m := m_1) (m' := m_20) (f := 1) (i := R.2.1) (by rw [hr_20.2]; congr 2; split <;> rfl)
        rw [SaQ, hq]
        exact ⟨x_1.tr z.1.s, by rw [z.1.2 46 (by omega)]; exact w_1, Or.inr ⟨(show (1 : Int) ≠ 0 by decide), hr_20.1, z.2.1, z.2.2⟩⟩
    · exfalso; omega
  · refine go_if_ne (tgt := 9) dX12_readBracket_4 (by decide) ⟨by omega, by omega⟩ (fun h_4 => ?_) (fun h_4 => ?_)
    · exfalso; omega
    · refine go_iconst dX12_readBracket_7 ?_
      refine go_ret (v := 0) rfl dX12_readBracket_8 (okZ (by first | exact Or.inl rfl | exact Or.inr rfl | assumption | omega)) ?_
      have hq : brkF (G 4) (seqF (G 4) 213 (seqF (G 4) 214 (oneF G 5))) (i - 1) o = R := by unfold brkF; rw [hni, ← hRe, if_pos f_1]
      rw [SaQ, hq]
      exact ⟨x_1, w_1, Or.inr ⟨f_1, rfl, no_1⟩⟩
set_option maxRecDepth 4000 in
theorem ev_X12_one6 {m : Mem} {G : Mem} {t : Int → Int} {kw : Int → Int} {n : Int} {lim : Int} {i : Int} {o : Int} {nn : Int} (htm : TM G t kw n lim m i) (hb : Bg G 8 18 (m 216)) (hdn : DnOk G 8) (hnm : NmR G 8 (m 221)) (hms : MS m (G 8 3) o 2 nn) (ho : 0 ≤ o ∧ o ≤ 20) (hnn : 0 ≤ nn ∧ nn ≤ 2 * o) : Ev 0 38 mX12_readSaid [vr 214] m (fun r m' => SaQ G t kw n lim m m' 2 nn (oneF G 6 i o) r) := by
  refine Ev.of (L := [vr 214, un, un, un]) (by decide +kernel) rfl (Nat.le_of_ble_eq_true rfl) rfl (fun t ht => by cases ht; first | exact Or.inl rfl | exact Or.inr (Or.inl rfl) | exact Or.inr (Or.inr rfl)) (fun hcan => ?_)
  obtain ⟨hm1, hm2, hm3, hm4⟩ := id hms
  have hkd := htm.kd
  refine go_aload_n dX12_readSaid_0 rfl ?_
  refine go_bipush dX12_readSaid_1 (by decide) ?_
  refine go_callVp_z (as := [vi 40]) (S := []) (b := 214) (ev_X12_isSign (m := m) (c := 40) (G := G) (t := t) (kw := kw) (n := n) (lim := lim) (i := i) htm (by unfold isS; omega)) rfl dX12_readSaid_3 cv_12_86 rfl rfl ob_214 rfl (by decide) (Nat.le_of_ble_eq_true rfl) (fun r_3 hr_3 ho_3 => ?_)
  refine go_istore_n (L' := [vr 214, vi r_3, un, un]) dX12_readSaid_6 (by decide) rfl rfl ?_
  refine go_bipush dX12_readSaid_7 (by decide) ?_
  refine go_istore_n (L' := [vr 214, vi r_3, vi 15, un]) dX12_readSaid_9 (by decide) rfl rfl ?_
  have lp_10 : ∀ (n_10 : Nat) (w : Int) , (15 ≤ w) → (w ≤ 25) → (∀ j : Int, 15 ≤ j → j < w → G 4 i ≠ 200 + j) → (25 - w).toNat < n_10 → Go 0 38 mX12_readSaid (fun r m' => SaQ G t kw n lim m m' 2 nn (oneF G 6 i o) r) 10 [vr 214, vi r_3, vi w, un] [] m := by
    intro n_10
    induction n_10 with
    | zero => intro w hw0 hw1 hno hmu; exact absurd hmu (Nat.not_lt_zero _)
    | succ n_10 ih_10 =>
      intro w hw0 hw1 hno hmu
      refine go_iload_n dX12_readSaid_10 rfl ?_
      have cut_30 :  ((w ≤ 24 ∧ G 4 i = 200 + w) ∨ (w = 25 ∧ ¬ (215 ≤ G 4 i ∧ G 4 i ≤ 224))) → Go 0 38 mX12_readSaid (fun r m' => SaQ G t kw n lim m m' 2 nn (oneF G 6 i o) r) 30 [vr 214, vi r_3, vi w, un] [] m := by
        intro hww
        refine go_iload_n dX12_readSaid_30 rfl ?_
        have cut_46 :  (G 4 i = 40 ∨ (215 ≤ G 4 i ∧ G 4 i ≤ 224)) → Go 0 38 mX12_readSaid (fun r m' => SaQ G t kw n lim m m' 2 nn (oneF G 6 i o) r) 46 [vr 214, vi r_3, vi w, un] [] m := by
          intro hst
          refine go_aload_n dX12_readSaid_46 rfl ?_
          refine go_getf_i (ki := 45) dX12_readSaid_47 fl_12_439 ob_214 rfl rfl (fun hf_47 => ?_)
          rw [show (m 214 45 : Int) = o from hm1] at hf_47 ⊢
          refine go_bipush dX12_readSaid_50 (by decide) ?_
          refine go_icmp_eq (tgt := 64) dX12_readSaid_52 (by decide) ⟨by omega, by omega⟩ ⟨by omega, by omega⟩ (fun h_52 => ?_) (fun h_52 => ?_)
          · refine go_aload_n dX12_readSaid_64 rfl ?_
            refine go_iconst dX12_readSaid_65 ?_
            refine go_callV_z (as := [vi 4]) (S := []) (b := 214) (ev_X12_bad (m := m) (k := 4) (G := G) (t := t) (kw := kw) (n := n) (lim := lim) (i := i) htm (by first | assumption | omega | exact ⟨by omega, by omega⟩ | (constructor <;> omega))) rfl dX12_readSaid_66 cv_12_72 rfl rfl ob_214 rfl (by decide) (Nat.le_of_ble_eq_true rfl) (fun r_66 m_66 hr_66 ho_66 => ?_)
            refine go_ret (v := r_66) rfl dX12_readSaid_69 (okZ (by first | exact Or.inl rfl | exact Or.inr rfl | assumption | omega)) ?_
            have hq : oneF G 6 i o = (4, i, o, []) := by unfold oneF; rw [if_neg (by omega), if_pos (by omega)]
            have z := NoT.b (G := G) (m := m) (m' := m_66) (f := 4) (i := i) (by rw [hr_66.2, if_neg (by omega)])
            rw [SaQ, hq]
            exact ⟨z.1.s, by rw [z.1.2 46 (by omega)]; exact hm2, Or.inr ⟨(show (4 : Int) ≠ 0 by decide), hr_66.1, z.2.1, z.2.2⟩⟩
          · refine go_aload_n dX12_readSaid_55 rfl ?_
            refine go_getf_i (ki := 46) dX12_readSaid_56 fl_12_442 ob_214 rfl rfl (fun hf_56 => ?_)
            rw [show (m 214 46 : Int) = 2 from hm2] at hf_56 ⊢
            refine go_bipush dX12_readSaid_59 (by decide) ?_
            refine go_icmp_ne (tgt := 70) dX12_readSaid_61 (by decide) ⟨by omega, by omega⟩ ⟨by omega, by omega⟩ (fun h_61 => ?_) (fun h_61 => ?_)
            · refine go_aload_n dX12_readSaid_70 rfl ?_
              refine go_dup_r dX12_readSaid_71 ?_
              refine go_getf_i (ki := 45) dX12_readSaid_72 fl_12_439 ob_214 rfl rfl (fun hf_72 => ?_)
              rw [show (m 214 45 : Int) = o from hm1] at hf_72 ⊢
              refine go_iconst dX12_readSaid_75 ?_
              refine go_iadd dX12_readSaid_76 ?_
              refine go_putf_i (ki := 45) dX12_readSaid_77 fw_12_439 ob_214 rfl rfl ⟨by omega, by omega⟩ ?_
              refine go_aload_n dX12_readSaid_80 rfl ?_
              refine go_dup_r dX12_readSaid_81 ?_
              refine go_getf_i (ki := 46) dX12_readSaid_82 fl_12_442 ob_214 rfl rfl (fun hf_82 => ?_)
              rw [show ((wr m 214 45 (o + 1)) 214 46 : Int) = 2 from by rw [wr_ni (by decide)]; exact hm2] at hf_82 ⊢
              refine go_iconst dX12_readSaid_85 ?_
              refine go_iadd dX12_readSaid_86 ?_
              refine go_putf_i (ki := 46) dX12_readSaid_87 fw_12_442 ob_214 rfl rfl ⟨by omega, by omega⟩ ?_
              refine go_aload_n dX12_readSaid_90 rfl ?_
              refine go_callV_v (as := []) (S := []) (b := 214) (ev_X12_go (m := (wr (wr m 214 45 (o + 1)) 214 46 (2 + 1))) (G := G) (t := t) (kw := kw) (n := n) (lim := lim) (i := (i + 1)) (((htm.nx (by omega)).w (by decide) (by omega)).w (by decide) (by omega))) rfl dX12_readSaid_91 cv_12_82 rfl rfl ob_214 rfl (by decide) (Nat.le_of_ble_eq_true rfl) (fun m_91 hr_91 => ?_)
              have l91 := hr_91.1.l
              have s91 : Sx m m_91 := ((Sx.rf.w (by omega) (by omega)).w (by omega) (by omega)).tr l91.s
              have g91 : m_91 214 10 = m 214 10 := by rw [hr_91.1.2 10 (by decide) (by decide) (by decide) (by decide) (by decide) (by decide), wr_ni (by decide), wr_ni (by decide)]
              have n91 : m_91 234 = m 234 := by rw [l91.1 234 (by decide), wr_row (by decide), wr_row (by decide)]
              have ms91 : MS m_91 (G 8 3) (o + 1) 3 nn := ⟨by rw [l91.2 45 (by omega), wr_ni (by decide), wr_self], by rw [l91.2 46 (by omega), wr_self]; rfl, by rw [l91.2 44 (by omega), wr_ni (by decide), wr_ni (by decide)]; exact hm3, by rw [n91]; exact hm4⟩
              have b91 : Bg G 8 18 (m_91 216) := by rw [s91.1 216 (by decide) (by decide)]; exact hb
              have nm91 : NmR G 8 (m_91 221) := by rw [s91.1 221 (by decide) (by decide)]; exact hnm
              have hi1 : i + 1 - 1 = i := by omega
              refine go_iconst dX12_readSaid_94 ?_
              refine go_istore_n (L' := [vr 214, vi r_3, vi w, vi 1]) dX12_readSaid_95 (by decide) rfl rfl ?_
              have cut_166 : ∀ (mx : Mem) (gd : Int) , (gd = 0 ∨ gd = 1) → (SaQ G t kw n lim m_91 mx 3 nn (oneF G 6 i o) gd) → Go 0 38 mX12_readSaid (fun r m' => SaQ G t kw n lim m m' 2 nn (oneF G 6 i o) r) 166 [vr 214, un, un, vi gd] [] mx := by
                intro mx gd hgd hsq
                refine go_aload_n dX12_readSaid_166 rfl ?_
                refine go_dup_r dX12_readSaid_167 ?_
                refine go_getf_i (ki := 46) dX12_readSaid_168 fl_12_442 ob_214 rfl rfl (fun hf_168 => ?_)
                rw [show (mx 214 46 : Int) = 3 from hsq.2.1] at hf_168 ⊢
                refine go_iconst dX12_readSaid_171 ?_
                refine go_isub dX12_readSaid_172 ?_
                refine go_putf_i (ki := 46) dX12_readSaid_173 fw_12_442 ob_214 rfl rfl ⟨by omega, by omega⟩ ?_
                refine go_iload_n dX12_readSaid_176 rfl ?_
                refine go_ret (v := gd) rfl dX12_readSaid_177 (okZ hgd) ?_
                obtain ⟨a, b, c⟩ := hsq
                refine ⟨(s91.tr a).w (by omega) (by omega), wr_self _ _ _ _, ?_⟩
                rcases c with ⟨f, e, g, t_, s, j_, p_, r_, c_⟩ | ⟨f, e, no⟩
                · refine Or.inl ⟨f, e, ?_, t_.w (by decide) (by omega), ⟨?_, wr_self _ _ _ _, ?_, ?_⟩, fun j hj => ?_, ?_, ?_, c_⟩
                  · rw [wr_ni (by decide), g]; exact g91
                  · rw [wr_ni (by decide)]; exact s.1
                  · rw [wr_ni (by decide)]; exact s.2.2.1
                  · rw [wr_row (by decide)]; exact s.2.2.2
                  · rw [wr_na (by decide), j_ j hj, n91]
                  · rw [wr_ni (by decide)]; exact p_
                  · rw [wr_ni (by decide), wr_row (by decide)]; exact r_
                · exact Or.inr ⟨f, e, by rw [wr_ni (by decide)]; exact no.1, by rw [wr_ni (by decide)]; exact no.2⟩
              refine go_iload_n dX12_readSaid_96 rfl ?_
              refine go_if_eq (tgt := 108) dX12_readSaid_97 (by decide) ⟨by omega, by omega⟩ (fun h_97 => ?_) (fun h_97 => ?_)
              · refine go_iload_n dX12_readSaid_108 rfl ?_
                refine go_bipush dX12_readSaid_109 (by decide) ?_
                refine go_icmp_ne (tgt := 122) dX12_readSaid_111 (by decide) ⟨by omega, by omega⟩ ⟨by omega, by omega⟩ (fun h_111 => ?_) (fun h_111 => ?_)
                · refine go_iload_n dX12_readSaid_122 rfl ?_
                  refine go_bipush dX12_readSaid_123 (by decide) ?_
                  refine go_icmp_ge (tgt := 146) dX12_readSaid_125 (by decide) ⟨by omega, by omega⟩ ⟨by omega, by omega⟩ (fun h_125 => ?_) (fun h_125 => ?_)
                  · refine go_iload_n dX12_readSaid_146 rfl ?_
                    refine go_bipush dX12_readSaid_147 (by decide) ?_
                    refine go_icmp_ge (tgt := 160) dX12_readSaid_149 (by decide) ⟨by omega, by omega⟩ ⟨by omega, by omega⟩ (fun h_149 => ?_) (fun h_149 => ?_)
                    · refine go_aload_n dX12_readSaid_160 rfl ?_
                      refine go_iload_n dX12_readSaid_161 rfl ?_
                      refine go_callV_z (as := [vi w]) (S := []) (b := 214) (ev_X12_readCompare (m := m_91) (w := w) (G := G) (t := t) (kw := kw) (n := n) (lim := lim) (i := (i + 1)) (o := (o + 1)) (wi := 3) (nn := nn) hr_91.2 b91 hdn ms91 (by omega) (by omega) (by omega) (by rw [hi1]; omega)) rfl dX12_readSaid_162 cv_12_454 rfl rfl ob_214 rfl (by decide) (Nat.le_of_ble_eq_true rfl) (fun r_162 m_162 hr_162 ho_162 => ?_)
                      rw [hi1] at hr_162
                      refine go_istore_n (L' := [vr 214, vi r_3, vi w, vi r_162]) dX12_readSaid_165 (by decide) rfl rfl ?_
                      refine go_drop (j := 1) (L' := [vr 214, un, vi w, vi r_162]) rfl ?_
                      refine go_drop (j := 2) (L' := [vr 214, un, un, vi r_162]) rfl ?_
                      exact cut_166 m_162 r_162 (by first | assumption | rfl | omega) (by
                            first
                            | (rw [show oneF G 6 i o = brkF (G 4) (seqF (G 4) 213 (seqF (G 4) 214 (oneF G 5))) i (o + 1) by unfold oneF; rw [if_neg (by omega), if_neg (by omega), if_neg (by omega), if_pos (by omega)]]; exact hr_101)
                            | (rw [show oneF G 6 i o = notF (oneF G 5) i (o + 1) by unfold oneF; rw [if_neg (by omega), if_neg (by omega), if_pos (by omega)]]; exact hr_115)
                            | (rw [show oneF G 6 i o = namF G i (o + 1) by unfold oneF; rw [if_neg (by omega), if_neg (by omega), if_neg (by omega), if_neg (by omega), if_pos (by omega)]]; exact hr_154)
                            | (rw [show oneF G 6 i o = cmpF G i (o + 1) by unfold oneF; rw [if_neg (by omega), if_neg (by omega), if_neg (by omega), if_neg (by omega), if_neg (by omega), if_pos (by omega)]]; exact hr_162)
                            | (have hwk : Wk (nodF (m_91 234) nn (50 + w) 0 0 0) (G 8 3) nn := (by
                                 obtain ⟨e0, e1, e2, e3⟩ := nodF_n (N := m_91 234) (n := nn) (w := 50 + w) (a := 0) (b := 0) (r := 0)
                                 unfold Wk
                                 rw [e0, e1, e2, e3]
                                 right; right; left; omega)
                               have hwn := ms91.2.2.2.add (by omega) hwk
                               rw [SaQ, show oneF G 6 i o = (0, i + 1, o + 1, [(G 4 i, 0, 0)]) by unfold oneF; rw [if_neg (by omega), if_neg (by omega), if_neg (by omega), if_neg (by omega), if_neg (by omega), if_neg (by omega)], hm_137]
                               refine ⟨nodW_s.w (by omega) (by omega), ?_, Or.inl ⟨rfl, rfl, ?_, (hr_91.2.nod).w (by decide) (by omega), ⟨?_, ?_, ?_, ?_⟩, fun j hj => ?_, ?_, ?_, CdA.k (by omega)⟩⟩
                               · rw [wr_ni (by decide), nodW_214 (by decide)]; exact ms91.2.1
                               · rw [wr_ni (by decide), nodW_214 (by decide)]
                               · rw [wr_ni (by decide), nodW_214 (by decide)]; exact ms91.1
                               · rw [wr_ni (by decide), nodW_214 (by decide)]; exact ms91.2.1
                               · rw [wr_ni (by decide), nodW_44]; rfl
                               · rw [wr_row (by decide), nodW_234]; exact hwn
                               · rw [wr_na (by decide), nodW_234, nodF_o j hj]
                               · rw [wr_self, e_137]; show nn ≤ nn ∧ nn < nn + 1; omega
                               · rw [wr_self, e_137, wr_row (by decide), nodW_234]
                                 refine Rep.leaf (by omega) (by omega) ?_
                                 rw [if_pos (by omega), show 50 + w + 150 = 200 + w by omega]
                                 rw [show G 4 i = 200 + w by omega]))
                    · refine go_aload_n dX12_readSaid_152 rfl ?_
                      refine go_iload_n dX12_readSaid_153 rfl ?_
                      refine go_callV_z (as := [vi w]) (S := []) (b := 214) (ev_X12_readOf (m := m_91) (w := w) (G := G) (t := t) (kw := kw) (n := n) (lim := lim) (i := (i + 1)) (o := (o + 1)) (wi := 3) (nn := nn) hr_91.2 b91 hdn nm91 ms91 (by omega) (by omega) (by omega) (by rw [hi1]; omega)) rfl dX12_readSaid_154 cv_12_451 rfl rfl ob_214 rfl (by decide) (Nat.le_of_ble_eq_true rfl) (fun r_154 m_154 hr_154 ho_154 => ?_)
                      rw [hi1] at hr_154
                      refine go_goto (tgt := 165) dX12_readSaid_157 (by decide) ?_
                      refine go_istore_n (L' := [vr 214, vi r_3, vi w, vi r_154]) dX12_readSaid_165 (by decide) rfl rfl ?_
                      refine go_drop (j := 1) (L' := [vr 214, un, vi w, vi r_154]) rfl ?_
                      refine go_drop (j := 2) (L' := [vr 214, un, un, vi r_154]) rfl ?_
                      exact cut_166 m_154 r_154 (by first | assumption | rfl | omega) (by
                            first
                            | (rw [show oneF G 6 i o = brkF (G 4) (seqF (G 4) 213 (seqF (G 4) 214 (oneF G 5))) i (o + 1) by unfold oneF; rw [if_neg (by omega), if_neg (by omega), if_neg (by omega), if_pos (by omega)]]; exact hr_101)
                            | (rw [show oneF G 6 i o = notF (oneF G 5) i (o + 1) by unfold oneF; rw [if_neg (by omega), if_neg (by omega), if_pos (by omega)]]; exact hr_115)
                            | (rw [show oneF G 6 i o = namF G i (o + 1) by unfold oneF; rw [if_neg (by omega), if_neg (by omega), if_neg (by omega), if_neg (by omega), if_pos (by omega)]]; exact hr_154)
                            | (rw [show oneF G 6 i o = cmpF G i (o + 1) by unfold oneF; rw [if_neg (by omega), if_neg (by omega), if_neg (by omega), if_neg (by omega), if_neg (by omega), if_pos (by omega)]]; exact hr_162)
                            | (have hwk : Wk (nodF (m_91 234) nn (50 + w) 0 0 0) (G 8 3) nn := (by
                                 obtain ⟨e0, e1, e2, e3⟩ := nodF_n (N := m_91 234) (n := nn) (w := 50 + w) (a := 0) (b := 0) (r := 0)
                                 unfold Wk
                                 rw [e0, e1, e2, e3]
                                 right; right; left; omega)
                               have hwn := ms91.2.2.2.add (by omega) hwk
                               rw [SaQ, show oneF G 6 i o = (0, i + 1, o + 1, [(G 4 i, 0, 0)]) by unfold oneF; rw [if_neg (by omega), if_neg (by omega), if_neg (by omega), if_neg (by omega), if_neg (by omega), if_neg (by omega)], hm_137]
                               refine ⟨nodW_s.w (by omega) (by omega), ?_, Or.inl ⟨rfl, rfl, ?_, (hr_91.2.nod).w (by decide) (by omega), ⟨?_, ?_, ?_, ?_⟩, fun j hj => ?_, ?_, ?_, CdA.k (by omega)⟩⟩
                               · rw [wr_ni (by decide), nodW_214 (by decide)]; exact ms91.2.1
                               · rw [wr_ni (by decide), nodW_214 (by decide)]
                               · rw [wr_ni (by decide), nodW_214 (by decide)]; exact ms91.1
                               · rw [wr_ni (by decide), nodW_214 (by decide)]; exact ms91.2.1
                               · rw [wr_ni (by decide), nodW_44]; rfl
                               · rw [wr_row (by decide), nodW_234]; exact hwn
                               · rw [wr_na (by decide), nodW_234, nodF_o j hj]
                               · rw [wr_self, e_137]; show nn ≤ nn ∧ nn < nn + 1; omega
                               · rw [wr_self, e_137, wr_row (by decide), nodW_234]
                                 refine Rep.leaf (by omega) (by omega) ?_
                                 rw [if_pos (by omega), show 50 + w + 150 = 200 + w by omega]
                                 rw [show G 4 i = 200 + w by omega]))
                  · refine go_aload_n dX12_readSaid_128 rfl ?_
                    refine go_aload_n dX12_readSaid_129 rfl ?_
                    refine go_bipush dX12_readSaid_130 (by decide) ?_
                    refine go_iload_n dX12_readSaid_132 rfl ?_
                    refine go_iadd dX12_readSaid_133 ?_
                    refine go_iconst dX12_readSaid_134 ?_
                    refine go_iconst dX12_readSaid_135 ?_
                    refine go_iconst dX12_readSaid_136 ?_
                    refine go_callV_i (as := [vi (50 + w), vi 0, vi 0, vi 0]) (S := [vr 214]) (b := 214) (ev_X12_saysOne (m := m_91) (w := (50 + w)) (a := 0) (b := 0) (s := 0) (nn := nn) ms91.2.2.1 (by omega) (by first | assumption | omega | exact ⟨by omega, by omega⟩ | (constructor <;> omega)) (by first | assumption | omega | exact ⟨by omega, by omega⟩ | (constructor <;> omega)) (by first | assumption | omega | exact ⟨by omega, by omega⟩ | (constructor <;> omega)) (by first | assumption | omega | exact ⟨by omega, by omega⟩ | (constructor <;> omega))) rfl dX12_readSaid_137 cv_12_433 rfl rfl ob_214 rfl (by decide) (Nat.le_of_ble_eq_true rfl) (fun r_137 m_137 hr_137 ho_137 => ?_)
                    obtain ⟨e_137, hm_137⟩ := hr_137
                    refine go_putf_i (ki := 47) dX12_readSaid_140 fw_12_430 ob_214 rfl rfl ⟨by omega, by omega⟩ ?_
                    refine go_goto (tgt := 166) dX12_readSaid_143 (by decide) ?_
                    refine go_drop (j := 1) (L' := [vr 214, un, vi w, vi 1]) rfl ?_
                    refine go_drop (j := 2) (L' := [vr 214, un, un, vi 1]) rfl ?_
                    exact cut_166 (wr m_137 214 47 r_137) 1 (by first | assumption | rfl | omega) (by
                          first
                          | (rw [show oneF G 6 i o = brkF (G 4) (seqF (G 4) 213 (seqF (G 4) 214 (oneF G 5))) i (o + 1) by unfold oneF; rw [if_neg (by omega), if_neg (by omega), if_neg (by omega), if_pos (by omega)]]; exact hr_101)
                          | (rw [show oneF G 6 i o = notF (oneF G 5) i (o + 1) by unfold oneF; rw [if_neg (by omega), if_neg (by omega), if_pos (by omega)]]; exact hr_115)
                          | (rw [show oneF G 6 i o = namF G i (o + 1) by unfold oneF; rw [if_neg (by omega), if_neg (by omega), if_neg (by omega), if_neg (by omega), if_pos (by omega)]]; exact hr_154)
                          | (rw [show oneF G 6 i o = cmpF G i (o + 1) by unfold oneF; rw [if_neg (by omega), if_neg (by omega), if_neg (by omega), if_neg (by omega), if_neg (by omega), if_pos (by omega)]]; exact hr_162)
                          | (have hwk : Wk (nodF (m_91 234) nn (50 + w) 0 0 0) (G 8 3) nn := (by
                               obtain ⟨e0, e1, e2, e3⟩ := nodF_n (N := m_91 234) (n := nn) (w := 50 + w) (a := 0) (b := 0) (r := 0)
                               unfold Wk
                               rw [e0, e1, e2, e3]
                               right; right; left; omega)
                             have hwn := ms91.2.2.2.add (by omega) hwk
                             rw [SaQ, show oneF G 6 i o = (0, i + 1, o + 1, [(G 4 i, 0, 0)]) by unfold oneF; rw [if_neg (by omega), if_neg (by omega), if_neg (by omega), if_neg (by omega), if_neg (by omega), if_neg (by omega)], hm_137]
                             refine ⟨nodW_s.w (by omega) (by omega), ?_, Or.inl ⟨rfl, rfl, ?_, (hr_91.2.nod).w (by decide) (by omega), ⟨?_, ?_, ?_, ?_⟩, fun j hj => ?_, ?_, ?_, CdA.k (by omega)⟩⟩
                             · rw [wr_ni (by decide), nodW_214 (by decide)]; exact ms91.2.1
                             · rw [wr_ni (by decide), nodW_214 (by decide)]
                             · rw [wr_ni (by decide), nodW_214 (by decide)]; exact ms91.1
                             · rw [wr_ni (by decide), nodW_214 (by decide)]; exact ms91.2.1
                             · rw [wr_ni (by decide), nodW_44]; rfl
                             · rw [wr_row (by decide), nodW_234]; exact hwn
                             · rw [wr_na (by decide), nodW_234, nodF_o j hj]
                             · rw [wr_self, e_137]; show nn ≤ nn ∧ nn < nn + 1; omega
                             · rw [wr_self, e_137, wr_row (by decide), nodW_234]
                               refine Rep.leaf (by omega) (by omega) ?_
                               rw [if_pos (by omega), show 50 + w + 150 = 200 + w by omega]
                               rw [show G 4 i = 200 + w by omega]))
                · refine go_aload_n dX12_readSaid_114 rfl ?_
                  refine go_callV_z (as := []) (S := []) (b := 214) (ev_X12_not6 (m := m_91) (G := G) (t := t) (kw := kw) (n := n) (lim := lim) (i := (i + 1)) (o := (o + 1)) (nn := nn) hr_91.2 b91 hdn nm91 ms91 (by omega) (by omega)) rfl dX12_readSaid_115 cv_12_448 rfl rfl ob_214 rfl (by decide) (Nat.le_of_ble_eq_true rfl) (fun r_115 m_115 hr_115 ho_115 => ?_)
                  rw [hi1] at hr_115
                  refine go_istore_n (L' := [vr 214, vi r_3, vi w, vi r_115]) dX12_readSaid_118 (by decide) rfl rfl ?_
                  refine go_goto (tgt := 166) dX12_readSaid_119 (by decide) ?_
                  refine go_drop (j := 1) (L' := [vr 214, un, vi w, vi r_115]) rfl ?_
                  refine go_drop (j := 2) (L' := [vr 214, un, un, vi r_115]) rfl ?_
                  exact cut_166 m_115 r_115 (by first | assumption | rfl | omega) (by
                        first
                        | (rw [show oneF G 6 i o = brkF (G 4) (seqF (G 4) 213 (seqF (G 4) 214 (oneF G 5))) i (o + 1) by unfold oneF; rw [if_neg (by omega), if_neg (by omega), if_neg (by omega), if_pos (by omega)]]; exact hr_101)
                        | (rw [show oneF G 6 i o = notF (oneF G 5) i (o + 1) by unfold oneF; rw [if_neg (by omega), if_neg (by omega), if_pos (by omega)]]; exact hr_115)
                        | (rw [show oneF G 6 i o = namF G i (o + 1) by unfold oneF; rw [if_neg (by omega), if_neg (by omega), if_neg (by omega), if_neg (by omega), if_pos (by omega)]]; exact hr_154)
                        | (rw [show oneF G 6 i o = cmpF G i (o + 1) by unfold oneF; rw [if_neg (by omega), if_neg (by omega), if_neg (by omega), if_neg (by omega), if_neg (by omega), if_pos (by omega)]]; exact hr_162)
                        | (have hwk : Wk (nodF (m_91 234) nn (50 + w) 0 0 0) (G 8 3) nn := (by
                             obtain ⟨e0, e1, e2, e3⟩ := nodF_n (N := m_91 234) (n := nn) (w := 50 + w) (a := 0) (b := 0) (r := 0)
                             unfold Wk
                             rw [e0, e1, e2, e3]
                             right; right; left; omega)
                           have hwn := ms91.2.2.2.add (by omega) hwk
                           rw [SaQ, show oneF G 6 i o = (0, i + 1, o + 1, [(G 4 i, 0, 0)]) by unfold oneF; rw [if_neg (by omega), if_neg (by omega), if_neg (by omega), if_neg (by omega), if_neg (by omega), if_neg (by omega)], hm_137]
                           refine ⟨nodW_s.w (by omega) (by omega), ?_, Or.inl ⟨rfl, rfl, ?_, (hr_91.2.nod).w (by decide) (by omega), ⟨?_, ?_, ?_, ?_⟩, fun j hj => ?_, ?_, ?_, CdA.k (by omega)⟩⟩
                           · rw [wr_ni (by decide), nodW_214 (by decide)]; exact ms91.2.1
                           · rw [wr_ni (by decide), nodW_214 (by decide)]
                           · rw [wr_ni (by decide), nodW_214 (by decide)]; exact ms91.1
                           · rw [wr_ni (by decide), nodW_214 (by decide)]; exact ms91.2.1
                           · rw [wr_ni (by decide), nodW_44]; rfl
                           · rw [wr_row (by decide), nodW_234]; exact hwn
                           · rw [wr_na (by decide), nodW_234, nodF_o j hj]
                           · rw [wr_self, e_137]; show nn ≤ nn ∧ nn < nn + 1; omega
                           · rw [wr_self, e_137, wr_row (by decide), nodW_234]
                             refine Rep.leaf (by omega) (by omega) ?_
                             rw [if_pos (by omega), show 50 + w + 150 = 200 + w by omega]
                             rw [show G 4 i = 200 + w by omega]))
              · refine go_aload_n dX12_readSaid_100 rfl ?_
                refine go_callV_z (as := []) (S := []) (b := 214) (ev_X12_brk6 (m := m_91) (G := G) (t := t) (kw := kw) (n := n) (lim := lim) (i := (i + 1)) (o := (o + 1)) (nn := nn) hr_91.2 b91 hdn nm91 ms91 (by omega) (by omega)) rfl dX12_readSaid_101 cv_12_445 rfl rfl ob_214 rfl (by decide) (Nat.le_of_ble_eq_true rfl) (fun r_101 m_101 hr_101 ho_101 => ?_)
                rw [hi1] at hr_101
                refine go_istore_n (L' := [vr 214, vi r_3, vi w, vi r_101]) dX12_readSaid_104 (by decide) rfl rfl ?_
                refine go_goto (tgt := 166) dX12_readSaid_105 (by decide) ?_
                refine go_drop (j := 1) (L' := [vr 214, un, vi w, vi r_101]) rfl ?_
                refine go_drop (j := 2) (L' := [vr 214, un, un, vi r_101]) rfl ?_
                exact cut_166 m_101 r_101 (by first | assumption | rfl | omega) (by
                      first
                      | (rw [show oneF G 6 i o = brkF (G 4) (seqF (G 4) 213 (seqF (G 4) 214 (oneF G 5))) i (o + 1) by unfold oneF; rw [if_neg (by omega), if_neg (by omega), if_neg (by omega), if_pos (by omega)]]; exact hr_101)
                      | (rw [show oneF G 6 i o = notF (oneF G 5) i (o + 1) by unfold oneF; rw [if_neg (by omega), if_neg (by omega), if_pos (by omega)]]; exact hr_115)
                      | (rw [show oneF G 6 i o = namF G i (o + 1) by unfold oneF; rw [if_neg (by omega), if_neg (by omega), if_neg (by omega), if_neg (by omega), if_pos (by omega)]]; exact hr_154)
                      | (rw [show oneF G 6 i o = cmpF G i (o + 1) by unfold oneF; rw [if_neg (by omega), if_neg (by omega), if_neg (by omega), if_neg (by omega), if_neg (by omega), if_pos (by omega)]]; exact hr_162)
                      | (have hwk : Wk (nodF (m_91 234) nn (50 + w) 0 0 0) (G 8 3) nn := (by
                           obtain ⟨e0, e1, e2, e3⟩ := nodF_n (N := m_91 234) (n := nn) (w := 50 + w) (a := 0) (b := 0) (r := 0)
                           unfold Wk
                           rw [e0, e1, e2, e3]
                           right; right; left; omega)
                         have hwn := ms91.2.2.2.add (by omega) hwk
                         rw [SaQ, show oneF G 6 i o = (0, i + 1, o + 1, [(G 4 i, 0, 0)]) by unfold oneF; rw [if_neg (by omega), if_neg (by omega), if_neg (by omega), if_neg (by omega), if_neg (by omega), if_neg (by omega)], hm_137]
                         refine ⟨nodW_s.w (by omega) (by omega), ?_, Or.inl ⟨rfl, rfl, ?_, (hr_91.2.nod).w (by decide) (by omega), ⟨?_, ?_, ?_, ?_⟩, fun j hj => ?_, ?_, ?_, CdA.k (by omega)⟩⟩
                         · rw [wr_ni (by decide), nodW_214 (by decide)]; exact ms91.2.1
                         · rw [wr_ni (by decide), nodW_214 (by decide)]
                         · rw [wr_ni (by decide), nodW_214 (by decide)]; exact ms91.1
                         · rw [wr_ni (by decide), nodW_214 (by decide)]; exact ms91.2.1
                         · rw [wr_ni (by decide), nodW_44]; rfl
                         · rw [wr_row (by decide), nodW_234]; exact hwn
                         · rw [wr_na (by decide), nodW_234, nodF_o j hj]
                         · rw [wr_self, e_137]; show nn ≤ nn ∧ nn < nn + 1; omega
                         · rw [wr_self, e_137, wr_row (by decide), nodW_234]
                           refine Rep.leaf (by omega) (by omega) ?_
                           rw [if_pos (by omega), show 50 + w + 150 = 200 + w by omega]
                           rw [show G 4 i = 200 + w by omega]))
            · exfalso; omega
        refine go_if_ne (tgt := 46) dX12_readSaid_31 (by decide) ⟨by omega, by omega⟩ (fun h_31 => ?_) (fun h_31 => ?_)
        · exact cut_46  (by omega)
        · refine go_iload_n dX12_readSaid_34 rfl ?_
          refine go_bipush dX12_readSaid_35 (by decide) ?_
          refine go_icmp_le (tgt := 46) dX12_readSaid_37 (by decide) ⟨by omega, by omega⟩ ⟨by omega, by omega⟩ (fun h_37 => ?_) (fun h_37 => ?_)
          · exact cut_46  (by omega)
          · refine go_aload_n dX12_readSaid_40 rfl ?_
            refine go_iconst dX12_readSaid_41 ?_
            refine go_callV_z (as := [vi 1]) (S := []) (b := 214) (ev_X12_bad (m := m) (k := 1) (G := G) (t := t) (kw := kw) (n := n) (lim := lim) (i := i) htm (by first | assumption | omega | exact ⟨by omega, by omega⟩ | (constructor <;> omega))) rfl dX12_readSaid_42 cv_12_72 rfl rfl ob_214 rfl (by decide) (Nat.le_of_ble_eq_true rfl) (fun r_42 m_42 hr_42 ho_42 => ?_)
            refine go_ret (v := r_42) rfl dX12_readSaid_45 (okZ (by first | exact Or.inl rfl | exact Or.inr rfl | assumption | omega)) ?_
            have hq : oneF G 6 i o = (1, i, o, []) := by unfold oneF; rw [if_pos (by omega)]
            have z := NoT.b (G := G) (m := m) (m' := m_42) (f := 1) (i := i) (by rw [hr_42.2]; congr 2; split <;> rfl)
            rw [SaQ, hq]
            exact ⟨z.1.s, by rw [z.1.2 46 (by omega)]; exact hm2, Or.inr ⟨(show (1 : Int) ≠ 0 by decide), hr_42.1, z.2.1, z.2.2⟩⟩
      refine go_bipush dX12_readSaid_11 (by decide) ?_
      refine go_icmp_gt (tgt := 30) dX12_readSaid_13 (by decide) ⟨by omega, by omega⟩ ⟨by omega, by omega⟩ (fun h_13 => ?_) (fun h_13 => ?_)
      · exact cut_30  (by first | (left; omega) | (right; refine ⟨by omega, fun z => hno (G 4 i - 200) (by omega) (by omega) (by omega)⟩))
      · refine go_aload_n dX12_readSaid_16 rfl ?_
        refine go_iload_n dX12_readSaid_17 rfl ?_
        refine go_callVp_z (as := [vi w]) (S := []) (b := 214) (ev_X12_isWord (m := m) (k := w) (G := G) (t := t) (kw := kw) (n := n) (lim := lim) (i := i) htm (by first | assumption | omega | exact ⟨by omega, by omega⟩ | (constructor <;> omega))) rfl dX12_readSaid_18 cv_12_202 rfl rfl ob_214 rfl (by decide) (Nat.le_of_ble_eq_true rfl) (fun r_18 hr_18 ho_18 => ?_)
        refine go_if_ne (tgt := 30) dX12_readSaid_21 (by decide) ⟨by omega, by omega⟩ (fun h_21 => ?_) (fun h_21 => ?_)
        · exact cut_30  (by first | (left; omega) | (right; refine ⟨by omega, fun z => hno (G 4 i - 200) (by omega) (by omega) (by omega)⟩))
        · refine go_iinc (L' := [vr 214, vi r_3, vi (w + 1), un]) dX12_readSaid_24 rfl (by decide) rfl rfl ?_
          refine go_goto (tgt := 10) dX12_readSaid_27 (by decide) ?_
          exact ih_10 (w + 1) (by first | assumption | omega | rfl) (by first | assumption | omega | rfl) (fun j a b => by by_cases q : j < w; exact hno j a q; (rw [show j = w by omega]; omega)) (by omega)
  exact lp_10 _ 15 (by first | assumption | omega | rfl) (by first | assumption | omega | rfl) (fun j a b => by omega) (Nat.lt_succ_self _)
set_option maxRecDepth 4000 in
theorem ev_X12_all6 {m : Mem} {G : Mem} {t : Int → Int} {kw : Int → Int} {n : Int} {lim : Int} {i : Int} {o : Int} {nn : Int} (htm : TM G t kw n lim m i) (hb : Bg G 8 18 (m 216)) (hdn : DnOk G 8) (hnm : NmR G 8 (m 221)) (hms : MS m (G 8 3) o 2 nn) (ho : 0 ≤ o ∧ o ≤ 20) (hnn : 0 ≤ nn ∧ nn ≤ 2 * o) : Ev 0 39 mX12_readAnd [vr 214] m (fun r m' => SaQ G t kw n lim m m' 2 nn (seqF (G 4) 214 (oneF G 6) i o) r) := by
  refine Ev.of (L := [vr 214, un]) (by decide +kernel) rfl (Nat.le_of_ble_eq_true rfl) rfl (fun t ht => by cases ht; first | exact Or.inl rfl | exact Or.inr (Or.inl rfl) | exact Or.inr (Or.inr rfl)) (fun hcan => ?_)
  obtain ⟨hm1, hm2, hm3, hm4⟩ := id hms
  have hPB : PB (oneF G 6) := (oneF_b G 6)
  refine go_aload_n dX12_readAnd_0 rfl ?_
  refine go_callV_z (as := []) (S := []) (b := 214) (ev_X12_one6 (m := m) (G := G) (t := t) (kw := kw) (n := n) (lim := lim) (i := i) (o := o) (nn := nn) htm hb hdn hnm hms (by first | assumption | omega | exact ⟨by omega, by omega⟩ | (constructor <;> omega)) (by first | assumption | omega | exact ⟨by omega, by omega⟩ | (constructor <;> omega))) rfl dX12_readAnd_1 cv_12_436 rfl rfl ob_214 rfl (by decide) (Nat.le_of_ble_eq_true rfl) (fun r_1 m_1 hr_1 ho_1 => ?_)
  obtain ⟨x_1, w_1, hr_1⟩ := hr_1
  rcases hr_1 with ⟨f_1, e_1, g_1, t_1, s_1, j_1, p_1, r_1e, c_1⟩ | ⟨f_1, e_1, no_1⟩
  · refine go_if_ne (tgt := 9) dX12_readAnd_4 (by decide) ⟨by omega, by omega⟩ (fun h_4 => ?_) (fun h_4 => ?_)
    · have hR1 := hPB i o (by omega) (by omega) f_1
      refine go_aload_n dX12_readAnd_9 rfl ?_
      refine go_getf_i (ki := 47) dX12_readAnd_10 fl_12_430 ob_214 rfl rfl (fun hf_10 => ?_)
      refine go_istore_n (L' := [vr 214, vi (m_1 214 47)]) dX12_readAnd_13 (by decide) rfl rfl ?_
      have lp_14 : ∀ (n_14 : Nat) (m1 : Mem) (av : Int) (a : Rs) (f : Nat), (a.1 = 0) → (Sx m m1) → (m1 214 46 = 2) → (m1 214 10 = m 214 10) → (TM G t kw n lim m1 a.2.1) → (MS m1 (G 8 3) a.2.2.1 2 (nn + (a.2.2.2.length : Int))) → (∀ j : Int, j < 4 * nn → m1 234 j = m 234 j) → (nn ≤ av ∧ av < nn + (a.2.2.2.length : Int)) → (Rep (m1 234) av a.2.2.2) → (CdA (G 8 3) a.2.2.2) → (seqL (G 4) 214 (oneF G 6) f a = seqL (G 4) 214 (oneF G 6) 21 ((oneF G 6) i o)) → ((o + 1 ≤ a.2.2.1 ∧ a.2.2.1 ≤ 20) ∧ (a.2.2.2.length : Int) + 1 ≤ 2 * (a.2.2.1 - o)) → (22 + o ≤ (f : Int) + a.2.2.1) → f < n_14 → Go 0 39 mX12_readAnd (fun r m' => SaQ G t kw n lim m m' 2 nn (seqF (G 4) 214 (oneF G 6) i o) r) 14 [vr 214, vi av] [] m1 := by
        intro n_14
        induction n_14 with
        | zero => intro m1 av a f ha0 hsx hw46 hg10 htm1 hms1 hfr hav hrp hcd hsl hab hfu hmu; exact absurd hmu (Nat.not_lt_zero _)
        | succ n_14 ih_14 =>
          intro m1 av a f ha0 hsx hw46 hg10 htm1 hms1 hfr hav hrp hcd hsl hab hfu hmu
          obtain ⟨hab1, hab2⟩ := hab
          have hsu : seqL (G 4) 214 (oneF G 6) f a = if G 4 a.2.1 = 214 then (if ((oneF G 6) (a.2.1 + 1) a.2.2.1).1 ≠ 0 then ((oneF G 6) (a.2.1 + 1) a.2.2.1) else seqL (G 4) 214 (oneF G 6) (f - 1) (0, ((oneF G 6) (a.2.1 + 1) a.2.2.1).2.1, ((oneF G 6) (a.2.1 + 1) a.2.2.1).2.2.1, a.2.2.2 ++ ((oneF G 6) (a.2.1 + 1) a.2.2.1).2.2.2 ++ [(214, 0, 0)])) else a := by
            obtain ⟨g, rfl⟩ : ∃ g, f = g + 1 := ⟨f - 1, by omega⟩
            rfl
          have hPB2 := hPB (a.2.1 + 1) a.2.2.1 (by omega) (by omega)
          refine go_aload_n dX12_readAnd_14 rfl ?_
          refine go_bipush dX12_readAnd_15 (by decide) ?_
          refine go_callVp_z (as := [vi 14]) (S := []) (b := 214) (ev_X12_isWord (m := m1) (k := 14) (G := G) (t := t) (kw := kw) (n := n) (lim := lim) (i := a.2.1) htm1 (by first | assumption | omega | exact ⟨by omega, by omega⟩ | (constructor <;> omega))) rfl dX12_readAnd_17 cv_12_202 rfl rfl ob_214 rfl (by decide) (Nat.le_of_ble_eq_true rfl) (fun r_17 hr_17 ho_17 => ?_)
          refine go_if_eq (tgt := 51) dX12_readAnd_20 (by decide) ⟨by omega, by omega⟩ (fun h_20 => ?_) (fun h_20 => ?_)
          · refine go_aload_n dX12_readAnd_51 rfl ?_
            refine go_iload_n dX12_readAnd_52 rfl ?_
            refine go_putf_i (ki := 47) dX12_readAnd_53 fw_12_430 ob_214 rfl rfl ⟨by omega, by omega⟩ ?_
            refine go_iconst dX12_readAnd_56 ?_
            refine go_ret (v := 1) rfl dX12_readAnd_57 (okZ (by first | exact Or.inl rfl | exact Or.inr rfl | assumption | omega)) ?_
            have hq : seqF (G 4) 214 (oneF G 6) i o = a := by rw [seqF_e (G 4) 214, if_neg (fun z => z f_1), ← hsl, hsu, if_neg (by omega)]
            rw [SaQ, hq]
            refine ⟨hsx.w (by omega) (by omega), by rw [wr_ni (by decide)]; exact hw46, Or.inl ⟨ha0, rfl, by rw [wr_ni (by decide)]; exact hg10, htm1.w (by decide) (by omega), ⟨by rw [wr_ni (by decide)]; exact hms1.1, by rw [wr_ni (by decide)]; exact hms1.2.1, by rw [wr_ni (by decide)]; exact hms1.2.2.1, by rw [wr_row (by decide)]; exact hms1.2.2.2⟩, fun j hj => by rw [wr_na (by decide)]; exact hfr j hj, by rw [wr_self]; exact hav, by rw [wr_self, wr_row (by decide)]; exact hrp, hcd⟩⟩
          · refine go_aload_n dX12_readAnd_23 rfl ?_
            refine go_callV_v (as := []) (S := []) (b := 214) (ev_X12_go (m := m1) (G := G) (t := t) (kw := kw) (n := n) (lim := lim) (i := (a.2.1 + 1)) (htm1.nx (by omega))) rfl dX12_readAnd_24 cv_12_82 rfl rfl ob_214 rfl (by decide) (Nat.le_of_ble_eq_true rfl) (fun m_24 hr_24 => ?_)
            have l24 := hr_24.1.l
            refine go_aload_n dX12_readAnd_27 rfl ?_
            refine go_callV_z (as := []) (S := []) (b := 214) (ev_X12_one6 (m := m_24) (G := G) (t := t) (kw := kw) (n := n) (lim := lim) (i := (a.2.1 + 1)) (o := a.2.2.1) (nn := (nn + (a.2.2.2.length : Int))) hr_24.2 (by rw [(hsx.tr l24.s).1 216 (by decide) (by decide)]; exact hb) hdn (by rw [(hsx.tr l24.s).1 221 (by decide) (by decide)]; exact hnm) (hms1.l l24) (by omega) (by omega)) rfl dX12_readAnd_28 cv_12_436 rfl rfl ob_214 rfl (by decide) (Nat.le_of_ble_eq_true rfl) (fun r_28 m_28 hr_28 ho_28 => ?_)
            obtain ⟨Q, hQe⟩ : ∃ z, z = ((oneF G 6) (a.2.1 + 1) a.2.2.1) := ⟨_, rfl⟩
            rw [← hQe] at hr_28
            obtain ⟨x_28, w_28, hr_28⟩ := hr_28
            rcases hr_28 with ⟨f_28, e_28, g_28, t_28, s_28, j_28, p_28, r_28e, c_28⟩ | ⟨f_28, e_28, no_28⟩
            · refine go_if_ne (tgt := 36) dX12_readAnd_31 (by decide) ⟨by omega, by omega⟩ (fun h_31 => ?_) (fun h_31 => ?_)
              · rw [← hQe] at hPB2
                have hQ2 := hPB2 f_28
                have hln : ((a.2.2.2 ++ Q.2.2.2 ++ [((214 : Int), (0 : Int), (0 : Int))]).length : Int) = a.2.2.2.length + Q.2.2.2.length + 1 := by rw [List.length_append, List.length_append]; rfl
                have hw2 : Wf (m_24 234) (G 8 3) (nn + (a.2.2.2.length : Int)) := by rw [l24.1 234 (by decide)]; exact hms1.2.2.2
                have hrp2 : Rep (m_28 234) av a.2.2.2 := by
                  have z : Rep (m_24 234) av a.2.2.2 := by rw [l24.1 234 (by decide)]; exact hrp
                  exact z.c j_28 hw2 (by omega) (by omega)
                have hwk : Wk (nodF (m_28 234) (nn + (a.2.2.2.length : Int) + (Q.2.2.2.length : Int)) 2 av (m_28 214 47) 0) (G 8 3) (nn + (a.2.2.2.length : Int) + (Q.2.2.2.length : Int)) := by
                  obtain ⟨e0, e1, e2, e3⟩ := nodF_n (N := m_28 234) (n := nn + (a.2.2.2.length : Int) + (Q.2.2.2.length : Int)) (w := 2) (a := av) (b := m_28 214 47) (r := 0)
                  unfold Wk
                  rw [e0, e1, e2, e3]
                  right; left; omega
                have hwn := s_28.2.2.2.add (by omega) hwk
                have hrb := hrp2.bin r_28e s_28.2.2.2 (by omega) (by omega) (by omega) (by omega) (by omega) hwn
                refine go_aload_n dX12_readAnd_36 rfl ?_
                refine go_iconst dX12_readAnd_37 ?_
                refine go_iload_n dX12_readAnd_38 rfl ?_
                refine go_aload_n dX12_readAnd_39 rfl ?_
                refine go_getf_i (ki := 47) dX12_readAnd_40 fl_12_430 ob_214 rfl rfl (fun hf_40 => ?_)
                refine go_iconst dX12_readAnd_43 ?_
                refine go_callV_i (as := [vi 2, vi av, vi (m_28 214 47), vi 0]) (S := []) (b := 214) (ev_X12_saysOne (m := m_28) (w := 2) (a := av) (b := (m_28 214 47)) (s := 0) (nn := (nn + (a.2.2.2.length : Int) + (Q.2.2.2.length : Int))) s_28.2.2.1 (by omega) (by first | assumption | omega | exact ⟨by omega, by omega⟩ | (constructor <;> omega)) (by first | assumption | omega | exact ⟨by omega, by omega⟩ | (constructor <;> omega)) hf_40 (by first | assumption | omega | exact ⟨by omega, by omega⟩ | (constructor <;> omega))) rfl dX12_readAnd_44 cv_12_433 rfl rfl ob_214 rfl (by decide) (Nat.le_of_ble_eq_true rfl) (fun r_44 m_44 hr_44 ho_44 => ?_)
                obtain ⟨e_44, hm_44⟩ := hr_44
                refine go_istore_n (L' := [vr 214, vi r_44]) dX12_readAnd_47 (by decide) rfl rfl ?_
                refine go_goto (tgt := 14) dX12_readAnd_48 (by decide) ?_
                exact ih_14 m_44 r_44 (0, ((oneF G 6) (a.2.1 + 1) a.2.2.1).2.1, ((oneF G 6) (a.2.1 + 1) a.2.2.1).2.2.1, a.2.2.2 ++ ((oneF G 6) (a.2.1 + 1) a.2.2.1).2.2.2 ++ [(214, 0, 0)]) (f - 1) rfl (by rw [hm_44]; exact ((hsx.tr l24.s).tr x_28).tr nodW_s) (by rw [hm_44, nodW_214 (by decide)]; exact w_28) (by rw [hm_44, nodW_214 (by decide), g_28, hr_24.1.2 10 (by decide) (by decide) (by decide) (by decide) (by decide) (by decide)]; exact hg10) (by rw [hm_44]; show TM G t kw n lim _ ((oneF G 6) (a.2.1 + 1) a.2.2.1).2.1; rw [← hQe]; exact t_28.nod) (by show MS m_44 (G 8 3) ((oneF G 6) (a.2.1 + 1) a.2.2.1).2.2.1 2 (nn + ((a.2.2.2 ++ ((oneF G 6) (a.2.1 + 1) a.2.2.1).2.2.2 ++ [((214 : Int), (0 : Int), (0 : Int))]).length : Int)); rw [← hQe, hln, hm_44]; refine ⟨by rw [nodW_214 (by decide)]; exact s_28.1, by rw [nodW_214 (by decide)]; exact s_28.2.1, by rw [nodW_44]; omega, ?_⟩; rw [nodW_234, show nn + ((a.2.2.2.length : Int) + Q.2.2.2.length + 1) = nn + (a.2.2.2.length : Int) + (Q.2.2.2.length : Int) + 1 by omega]; exact hwn) (fun j hj => by rw [hm_44, nodW_234, nodF_o j (by omega), j_28 j (by omega), l24.1 234 (by decide)]; exact hfr j hj) (by show nn ≤ r_44 ∧ r_44 < nn + ((a.2.2.2 ++ ((oneF G 6) (a.2.1 + 1) a.2.2.1).2.2.2 ++ [((214 : Int), (0 : Int), (0 : Int))]).length : Int); rw [← hQe, hln]; omega) (by show Rep _ _ (a.2.2.2 ++ ((oneF G 6) (a.2.1 + 1) a.2.2.1).2.2.2 ++ [((214 : Int), (0 : Int), (0 : Int))]); rw [← hQe, hm_44, nodW_234, e_44]; exact hrb) (by show CdA _ (a.2.2.2 ++ ((oneF G 6) (a.2.1 + 1) a.2.2.1).2.2.2 ++ [((214 : Int), (0 : Int), (0 : Int))]); rw [← hQe]; exact (hcd.app c_28).app (CdA.k (by decide))) (by rw [← hsl, hsu, if_pos (by omega), ← hQe, if_neg (fun z => z f_28)]) (by show (o + 1 ≤ ((oneF G 6) (a.2.1 + 1) a.2.2.1).2.2.1 ∧ ((oneF G 6) (a.2.1 + 1) a.2.2.1).2.2.1 ≤ 20) ∧ ((a.2.2.2 ++ ((oneF G 6) (a.2.1 + 1) a.2.2.1).2.2.2 ++ [((214 : Int), (0 : Int), (0 : Int))]).length : Int) + 1 ≤ 2 * (((oneF G 6) (a.2.1 + 1) a.2.2.1).2.2.1 - o); rw [← hQe, hln]; omega) (by show 22 + o ≤ ((f - 1 : Nat) : Int) + ((oneF G 6) (a.2.1 + 1) a.2.2.1).2.2.1; rw [← hQe]; omega) (by omega)
              · exfalso; omega
            · refine go_if_ne (tgt := 36) dX12_readAnd_31 (by decide) ⟨by omega, by omega⟩ (fun h_31 => ?_) (fun h_31 => ?_)
              · exfalso; omega
              · refine go_iconst dX12_readAnd_34 ?_
                refine go_ret (v := 0) rfl dX12_readAnd_35 (okZ (by first | exact Or.inl rfl | exact Or.inr rfl | assumption | omega)) ?_
                have hq : seqF (G 4) 214 (oneF G 6) i o = Q := by rw [seqF_e (G 4) 214, if_neg (fun z => z f_1), ← hsl, hsu, if_pos (by omega), ← hQe, if_pos f_28]
                rw [SaQ, hq]
                exact ⟨(hsx.tr l24.s).tr x_28, w_28, Or.inr ⟨f_28, rfl, no_28⟩⟩
      exact lp_14 _ m_1 (m_1 214 47) ((oneF G 6) i o) 21 f_1 x_1 w_1 g_1 t_1 s_1 j_1 p_1 r_1e c_1 rfl ⟨⟨hR1.1, hR1.2.1⟩, hR1.2.2⟩ (by have := hR1.1; omega) (Nat.lt_succ_self _)
    · exfalso; omega
  · refine go_if_ne (tgt := 9) dX12_readAnd_4 (by decide) ⟨by omega, by omega⟩ (fun h_4 => ?_) (fun h_4 => ?_)
    · exfalso; omega
    · refine go_iconst dX12_readAnd_7 ?_
      refine go_ret (v := 0) rfl dX12_readAnd_8 (okZ (by first | exact Or.inl rfl | exact Or.inr rfl | assumption | omega)) ?_
      rw [SaQ, seqF_e (G 4) 214, if_pos f_1]
      exact ⟨x_1, w_1, Or.inr ⟨f_1, rfl, no_1⟩⟩
set_option maxRecDepth 4000 in
theorem ev_X12_con6 {m : Mem} {G : Mem} {t : Int → Int} {kw : Int → Int} {n : Int} {lim : Int} {i : Int} {o : Int} {nn : Int} (htm : TM G t kw n lim m i) (hb : Bg G 8 18 (m 216)) (hdn : DnOk G 8) (hnm : NmR G 8 (m 221)) (hms : MS m (G 8 3) o 2 nn) (ho : 0 ≤ o ∧ o ≤ 20) (hnn : 0 ≤ nn ∧ nn ≤ 2 * o) : Ev 0 40 mX12_readOr [vr 214] m (fun r m' => SaQ G t kw n lim m m' 2 nn (seqF (G 4) 213 (seqF (G 4) 214 (oneF G 6)) i o) r) := by
  refine Ev.of (L := [vr 214, un]) (by decide +kernel) rfl (Nat.le_of_ble_eq_true rfl) rfl (fun t ht => by cases ht; first | exact Or.inl rfl | exact Or.inr (Or.inl rfl) | exact Or.inr (Or.inr rfl)) (fun hcan => ?_)
  obtain ⟨hm1, hm2, hm3, hm4⟩ := id hms
  have hPB : PB (seqF (G 4) 214 (oneF G 6)) := (seqF_b (oneF_b G 6))
  refine go_aload_n dX12_readOr_0 rfl ?_
  refine go_callV_z (as := []) (S := []) (b := 214) (ev_X12_all6 (m := m) (G := G) (t := t) (kw := kw) (n := n) (lim := lim) (i := i) (o := o) (nn := nn) htm hb hdn hnm hms (by first | assumption | omega | exact ⟨by omega, by omega⟩ | (constructor <;> omega)) (by first | assumption | omega | exact ⟨by omega, by omega⟩ | (constructor <;> omega))) rfl dX12_readOr_1 cv_12_427 rfl rfl ob_214 rfl (by decide) (Nat.le_of_ble_eq_true rfl) (fun r_1 m_1 hr_1 ho_1 => ?_)
  obtain ⟨x_1, w_1, hr_1⟩ := hr_1
  rcases hr_1 with ⟨f_1, e_1, g_1, t_1, s_1, j_1, p_1, r_1e, c_1⟩ | ⟨f_1, e_1, no_1⟩
  · refine go_if_ne (tgt := 9) dX12_readOr_4 (by decide) ⟨by omega, by omega⟩ (fun h_4 => ?_) (fun h_4 => ?_)
    · have hR1 := hPB i o (by omega) (by omega) f_1
      refine go_aload_n dX12_readOr_9 rfl ?_
      refine go_getf_i (ki := 47) dX12_readOr_10 fl_12_430 ob_214 rfl rfl (fun hf_10 => ?_)
      refine go_istore_n (L' := [vr 214, vi (m_1 214 47)]) dX12_readOr_13 (by decide) rfl rfl ?_
      have lp_14 : ∀ (n_14 : Nat) (m1 : Mem) (av : Int) (a : Rs) (f : Nat), (a.1 = 0) → (Sx m m1) → (m1 214 46 = 2) → (m1 214 10 = m 214 10) → (TM G t kw n lim m1 a.2.1) → (MS m1 (G 8 3) a.2.2.1 2 (nn + (a.2.2.2.length : Int))) → (∀ j : Int, j < 4 * nn → m1 234 j = m 234 j) → (nn ≤ av ∧ av < nn + (a.2.2.2.length : Int)) → (Rep (m1 234) av a.2.2.2) → (CdA (G 8 3) a.2.2.2) → (seqL (G 4) 213 (seqF (G 4) 214 (oneF G 6)) f a = seqL (G 4) 213 (seqF (G 4) 214 (oneF G 6)) 21 ((seqF (G 4) 214 (oneF G 6)) i o)) → ((o + 1 ≤ a.2.2.1 ∧ a.2.2.1 ≤ 20) ∧ (a.2.2.2.length : Int) + 1 ≤ 2 * (a.2.2.1 - o)) → (22 + o ≤ (f : Int) + a.2.2.1) → f < n_14 → Go 0 40 mX12_readOr (fun r m' => SaQ G t kw n lim m m' 2 nn (seqF (G 4) 213 (seqF (G 4) 214 (oneF G 6)) i o) r) 14 [vr 214, vi av] [] m1 := by
        intro n_14
        induction n_14 with
        | zero => intro m1 av a f ha0 hsx hw46 hg10 htm1 hms1 hfr hav hrp hcd hsl hab hfu hmu; exact absurd hmu (Nat.not_lt_zero _)
        | succ n_14 ih_14 =>
          intro m1 av a f ha0 hsx hw46 hg10 htm1 hms1 hfr hav hrp hcd hsl hab hfu hmu
          obtain ⟨hab1, hab2⟩ := hab
          have hsu : seqL (G 4) 213 (seqF (G 4) 214 (oneF G 6)) f a = if G 4 a.2.1 = 213 then (if ((seqF (G 4) 214 (oneF G 6)) (a.2.1 + 1) a.2.2.1).1 ≠ 0 then ((seqF (G 4) 214 (oneF G 6)) (a.2.1 + 1) a.2.2.1) else seqL (G 4) 213 (seqF (G 4) 214 (oneF G 6)) (f - 1) (0, ((seqF (G 4) 214 (oneF G 6)) (a.2.1 + 1) a.2.2.1).2.1, ((seqF (G 4) 214 (oneF G 6)) (a.2.1 + 1) a.2.2.1).2.2.1, a.2.2.2 ++ ((seqF (G 4) 214 (oneF G 6)) (a.2.1 + 1) a.2.2.1).2.2.2 ++ [(213, 0, 0)])) else a := by
            obtain ⟨g, rfl⟩ : ∃ g, f = g + 1 := ⟨f - 1, by omega⟩
            rfl
          have hPB2 := hPB (a.2.1 + 1) a.2.2.1 (by omega) (by omega)
          refine go_aload_n dX12_readOr_14 rfl ?_
          refine go_bipush dX12_readOr_15 (by decide) ?_
          refine go_callVp_z (as := [vi 13]) (S := []) (b := 214) (ev_X12_isWord (m := m1) (k := 13) (G := G) (t := t) (kw := kw) (n := n) (lim := lim) (i := a.2.1) htm1 (by first | assumption | omega | exact ⟨by omega, by omega⟩ | (constructor <;> omega))) rfl dX12_readOr_17 cv_12_202 rfl rfl ob_214 rfl (by decide) (Nat.le_of_ble_eq_true rfl) (fun r_17 hr_17 ho_17 => ?_)
          refine go_if_eq (tgt := 51) dX12_readOr_20 (by decide) ⟨by omega, by omega⟩ (fun h_20 => ?_) (fun h_20 => ?_)
          · refine go_aload_n dX12_readOr_51 rfl ?_
            refine go_iload_n dX12_readOr_52 rfl ?_
            refine go_putf_i (ki := 47) dX12_readOr_53 fw_12_430 ob_214 rfl rfl ⟨by omega, by omega⟩ ?_
            refine go_iconst dX12_readOr_56 ?_
            refine go_ret (v := 1) rfl dX12_readOr_57 (okZ (by first | exact Or.inl rfl | exact Or.inr rfl | assumption | omega)) ?_
            have hq : seqF (G 4) 213 (seqF (G 4) 214 (oneF G 6)) i o = a := by rw [seqF_e (G 4) 213, if_neg (fun z => z f_1), ← hsl, hsu, if_neg (by omega)]
            rw [SaQ, hq]
            refine ⟨hsx.w (by omega) (by omega), by rw [wr_ni (by decide)]; exact hw46, Or.inl ⟨ha0, rfl, by rw [wr_ni (by decide)]; exact hg10, htm1.w (by decide) (by omega), ⟨by rw [wr_ni (by decide)]; exact hms1.1, by rw [wr_ni (by decide)]; exact hms1.2.1, by rw [wr_ni (by decide)]; exact hms1.2.2.1, by rw [wr_row (by decide)]; exact hms1.2.2.2⟩, fun j hj => by rw [wr_na (by decide)]; exact hfr j hj, by rw [wr_self]; exact hav, by rw [wr_self, wr_row (by decide)]; exact hrp, hcd⟩⟩
          · refine go_aload_n dX12_readOr_23 rfl ?_
            refine go_callV_v (as := []) (S := []) (b := 214) (ev_X12_go (m := m1) (G := G) (t := t) (kw := kw) (n := n) (lim := lim) (i := (a.2.1 + 1)) (htm1.nx (by omega))) rfl dX12_readOr_24 cv_12_82 rfl rfl ob_214 rfl (by decide) (Nat.le_of_ble_eq_true rfl) (fun m_24 hr_24 => ?_)
            have l24 := hr_24.1.l
            refine go_aload_n dX12_readOr_27 rfl ?_
            refine go_callV_z (as := []) (S := []) (b := 214) (ev_X12_all6 (m := m_24) (G := G) (t := t) (kw := kw) (n := n) (lim := lim) (i := (a.2.1 + 1)) (o := a.2.2.1) (nn := (nn + (a.2.2.2.length : Int))) hr_24.2 (by rw [(hsx.tr l24.s).1 216 (by decide) (by decide)]; exact hb) hdn (by rw [(hsx.tr l24.s).1 221 (by decide) (by decide)]; exact hnm) (hms1.l l24) (by omega) (by omega)) rfl dX12_readOr_28 cv_12_427 rfl rfl ob_214 rfl (by decide) (Nat.le_of_ble_eq_true rfl) (fun r_28 m_28 hr_28 ho_28 => ?_)
            obtain ⟨Q, hQe⟩ : ∃ z, z = ((seqF (G 4) 214 (oneF G 6)) (a.2.1 + 1) a.2.2.1) := ⟨_, rfl⟩
            rw [← hQe] at hr_28
            obtain ⟨x_28, w_28, hr_28⟩ := hr_28
            rcases hr_28 with ⟨f_28, e_28, g_28, t_28, s_28, j_28, p_28, r_28e, c_28⟩ | ⟨f_28, e_28, no_28⟩
            · refine go_if_ne (tgt := 36) dX12_readOr_31 (by decide) ⟨by omega, by omega⟩ (fun h_31 => ?_) (fun h_31 => ?_)
              · rw [← hQe] at hPB2
                have hQ2 := hPB2 f_28
                have hln : ((a.2.2.2 ++ Q.2.2.2 ++ [((213 : Int), (0 : Int), (0 : Int))]).length : Int) = a.2.2.2.length + Q.2.2.2.length + 1 := by rw [List.length_append, List.length_append]; rfl
                have hw2 : Wf (m_24 234) (G 8 3) (nn + (a.2.2.2.length : Int)) := by rw [l24.1 234 (by decide)]; exact hms1.2.2.2
                have hrp2 : Rep (m_28 234) av a.2.2.2 := by
                  have z : Rep (m_24 234) av a.2.2.2 := by rw [l24.1 234 (by decide)]; exact hrp
                  exact z.c j_28 hw2 (by omega) (by omega)
                have hwk : Wk (nodF (m_28 234) (nn + (a.2.2.2.length : Int) + (Q.2.2.2.length : Int)) 3 av (m_28 214 47) 0) (G 8 3) (nn + (a.2.2.2.length : Int) + (Q.2.2.2.length : Int)) := by
                  obtain ⟨e0, e1, e2, e3⟩ := nodF_n (N := m_28 234) (n := nn + (a.2.2.2.length : Int) + (Q.2.2.2.length : Int)) (w := 3) (a := av) (b := m_28 214 47) (r := 0)
                  unfold Wk
                  rw [e0, e1, e2, e3]
                  right; left; omega
                have hwn := s_28.2.2.2.add (by omega) hwk
                have hrb := hrp2.bin r_28e s_28.2.2.2 (by omega) (by omega) (by omega) (by omega) (by omega) hwn
                refine go_aload_n dX12_readOr_36 rfl ?_
                refine go_iconst dX12_readOr_37 ?_
                refine go_iload_n dX12_readOr_38 rfl ?_
                refine go_aload_n dX12_readOr_39 rfl ?_
                refine go_getf_i (ki := 47) dX12_readOr_40 fl_12_430 ob_214 rfl rfl (fun hf_40 => ?_)
                refine go_iconst dX12_readOr_43 ?_
                refine go_callV_i (as := [vi 3, vi av, vi (m_28 214 47), vi 0]) (S := []) (b := 214) (ev_X12_saysOne (m := m_28) (w := 3) (a := av) (b := (m_28 214 47)) (s := 0) (nn := (nn + (a.2.2.2.length : Int) + (Q.2.2.2.length : Int))) s_28.2.2.1 (by omega) (by first | assumption | omega | exact ⟨by omega, by omega⟩ | (constructor <;> omega)) (by first | assumption | omega | exact ⟨by omega, by omega⟩ | (constructor <;> omega)) hf_40 (by first | assumption | omega | exact ⟨by omega, by omega⟩ | (constructor <;> omega))) rfl dX12_readOr_44 cv_12_433 rfl rfl ob_214 rfl (by decide) (Nat.le_of_ble_eq_true rfl) (fun r_44 m_44 hr_44 ho_44 => ?_)
                obtain ⟨e_44, hm_44⟩ := hr_44
                refine go_istore_n (L' := [vr 214, vi r_44]) dX12_readOr_47 (by decide) rfl rfl ?_
                refine go_goto (tgt := 14) dX12_readOr_48 (by decide) ?_
                exact ih_14 m_44 r_44 (0, ((seqF (G 4) 214 (oneF G 6)) (a.2.1 + 1) a.2.2.1).2.1, ((seqF (G 4) 214 (oneF G 6)) (a.2.1 + 1) a.2.2.1).2.2.1, a.2.2.2 ++ ((seqF (G 4) 214 (oneF G 6)) (a.2.1 + 1) a.2.2.1).2.2.2 ++ [(213, 0, 0)]) (f - 1) rfl (by rw [hm_44]; exact ((hsx.tr l24.s).tr x_28).tr nodW_s) (by rw [hm_44, nodW_214 (by decide)]; exact w_28) (by rw [hm_44, nodW_214 (by decide), g_28, hr_24.1.2 10 (by decide) (by decide) (by decide) (by decide) (by decide) (by decide)]; exact hg10) (by rw [hm_44]; show TM G t kw n lim _ ((seqF (G 4) 214 (oneF G 6)) (a.2.1 + 1) a.2.2.1).2.1; rw [← hQe]; exact t_28.nod) (by show MS m_44 (G 8 3) ((seqF (G 4) 214 (oneF G 6)) (a.2.1 + 1) a.2.2.1).2.2.1 2 (nn + ((a.2.2.2 ++ ((seqF (G 4) 214 (oneF G 6)) (a.2.1 + 1) a.2.2.1).2.2.2 ++ [((213 : Int), (0 : Int), (0 : Int))]).length : Int)); rw [← hQe, hln, hm_44]; refine ⟨by rw [nodW_214 (by decide)]; exact s_28.1, by rw [nodW_214 (by decide)]; exact s_28.2.1, by rw [nodW_44]; omega, ?_⟩; rw [nodW_234, show nn + ((a.2.2.2.length : Int) + Q.2.2.2.length + 1) = nn + (a.2.2.2.length : Int) + (Q.2.2.2.length : Int) + 1 by omega]; exact hwn) (fun j hj => by rw [hm_44, nodW_234, nodF_o j (by omega), j_28 j (by omega), l24.1 234 (by decide)]; exact hfr j hj) (by show nn ≤ r_44 ∧ r_44 < nn + ((a.2.2.2 ++ ((seqF (G 4) 214 (oneF G 6)) (a.2.1 + 1) a.2.2.1).2.2.2 ++ [((213 : Int), (0 : Int), (0 : Int))]).length : Int); rw [← hQe, hln]; omega) (by show Rep _ _ (a.2.2.2 ++ ((seqF (G 4) 214 (oneF G 6)) (a.2.1 + 1) a.2.2.1).2.2.2 ++ [((213 : Int), (0 : Int), (0 : Int))]); rw [← hQe, hm_44, nodW_234, e_44]; exact hrb) (by show CdA _ (a.2.2.2 ++ ((seqF (G 4) 214 (oneF G 6)) (a.2.1 + 1) a.2.2.1).2.2.2 ++ [((213 : Int), (0 : Int), (0 : Int))]); rw [← hQe]; exact (hcd.app c_28).app (CdA.k (by decide))) (by rw [← hsl, hsu, if_pos (by omega), ← hQe, if_neg (fun z => z f_28)]) (by show (o + 1 ≤ ((seqF (G 4) 214 (oneF G 6)) (a.2.1 + 1) a.2.2.1).2.2.1 ∧ ((seqF (G 4) 214 (oneF G 6)) (a.2.1 + 1) a.2.2.1).2.2.1 ≤ 20) ∧ ((a.2.2.2 ++ ((seqF (G 4) 214 (oneF G 6)) (a.2.1 + 1) a.2.2.1).2.2.2 ++ [((213 : Int), (0 : Int), (0 : Int))]).length : Int) + 1 ≤ 2 * (((seqF (G 4) 214 (oneF G 6)) (a.2.1 + 1) a.2.2.1).2.2.1 - o); rw [← hQe, hln]; omega) (by show 22 + o ≤ ((f - 1 : Nat) : Int) + ((seqF (G 4) 214 (oneF G 6)) (a.2.1 + 1) a.2.2.1).2.2.1; rw [← hQe]; omega) (by omega)
              · exfalso; omega
            · refine go_if_ne (tgt := 36) dX12_readOr_31 (by decide) ⟨by omega, by omega⟩ (fun h_31 => ?_) (fun h_31 => ?_)
              · exfalso; omega
              · refine go_iconst dX12_readOr_34 ?_
                refine go_ret (v := 0) rfl dX12_readOr_35 (okZ (by first | exact Or.inl rfl | exact Or.inr rfl | assumption | omega)) ?_
                have hq : seqF (G 4) 213 (seqF (G 4) 214 (oneF G 6)) i o = Q := by rw [seqF_e (G 4) 213, if_neg (fun z => z f_1), ← hsl, hsu, if_pos (by omega), ← hQe, if_pos f_28]
                rw [SaQ, hq]
                exact ⟨(hsx.tr l24.s).tr x_28, w_28, Or.inr ⟨f_28, rfl, no_28⟩⟩
      exact lp_14 _ m_1 (m_1 214 47) ((seqF (G 4) 214 (oneF G 6)) i o) 21 f_1 x_1 w_1 g_1 t_1 s_1 j_1 p_1 r_1e c_1 rfl ⟨⟨hR1.1, hR1.2.1⟩, hR1.2.2⟩ (by have := hR1.1; omega) (Nat.lt_succ_self _)
    · exfalso; omega
  · refine go_if_ne (tgt := 9) dX12_readOr_4 (by decide) ⟨by omega, by omega⟩ (fun h_4 => ?_) (fun h_4 => ?_)
    · exfalso; omega
    · refine go_iconst dX12_readOr_7 ?_
      refine go_ret (v := 0) rfl dX12_readOr_8 (okZ (by first | exact Or.inl rfl | exact Or.inr rfl | assumption | omega)) ?_
      rw [SaQ, seqF_e (G 4) 213, if_pos f_1]
      exact ⟨x_1, w_1, Or.inr ⟨f_1, rfl, no_1⟩⟩
set_option maxRecDepth 4000 in
theorem ev_X12_not7 {m : Mem} {G : Mem} {t : Int → Int} {kw : Int → Int} {n : Int} {lim : Int} {i : Int} {o : Int} {nn : Int} (htm : TM G t kw n lim m i) (hb : Bg G 8 18 (m 216)) (hdn : DnOk G 8) (hnm : NmR G 8 (m 221)) (hms : MS m (G 8 3) o 2 nn) (ho : 1 ≤ o ∧ o ≤ 20) (hnn : 0 ≤ nn ∧ nn + 2 ≤ 2 * o) : Ev 0 40 mX12_readNot [vr 214] m (fun r m' => SaQ G t kw n lim m m' 2 nn (notF (oneF G 6) (i - 1) o) r) := by
  refine Ev.of (L := [vr 214]) (by decide +kernel) rfl (Nat.le_of_ble_eq_true rfl) rfl (fun t ht => by cases ht; first | exact Or.inl rfl | exact Or.inr (Or.inl rfl) | exact Or.inr (Or.inr rfl)) (fun hcan => ?_)
  obtain ⟨hm1, hm2, hm3, hm4⟩ := id hms
  have hni : i - 1 + 1 = i := by omega
  have hR : RB o ((oneF G 6) i o) := oneF_b G 6 i o (by omega) (by omega)
  refine go_aload_n dX12_readNot_0 rfl ?_
  refine go_callV_z (as := []) (S := []) (b := 214) (ev_X12_one6 (m := m) (G := G) (t := t) (kw := kw) (n := n) (lim := lim) (i := i) (o := o) (nn := nn) htm hb hdn hnm hms (by omega) (by omega)) rfl dX12_readNot_1 cv_12_436 rfl rfl ob_214 rfl (by decide) (Nat.le_of_ble_eq_true rfl) (fun r_1 m_1 hr_1 ho_1 => ?_)
  obtain ⟨R, hRe⟩ : ∃ z, z = (oneF G 6) i o := ⟨_, rfl⟩
  rw [← hRe] at hr_1 hR
  obtain ⟨x_1, w_1, hr_1⟩ := hr_1
  rcases hr_1 with ⟨f_1, e_1, g_1, t_1, s_1, j_1, p_1, r_1e, c_1⟩ | ⟨f_1, e_1, no_1⟩
  · refine go_if_ne (tgt := 9) dX12_readNot_4 (by decide) ⟨by omega, by omega⟩ (fun h_4 => ?_) (fun h_4 => ?_)
    · refine go_aload_n dX12_readNot_9 rfl ?_
      refine go_aload_n dX12_readNot_10 rfl ?_
      refine go_iconst dX12_readNot_11 ?_
      refine go_aload_n dX12_readNot_12 rfl ?_
      refine go_getf_i (ki := 47) dX12_readNot_13 fl_12_430 ob_214 rfl rfl (fun hf_13 => ?_)
      refine go_iconst dX12_readNot_16 ?_
      refine go_iconst dX12_readNot_17 ?_
      refine go_callV_i (as := [vi 1, vi (m_1 214 47), vi 0, vi 0]) (S := [vr 214]) (b := 214) (ev_X12_saysOne (m := m_1) (w := 1) (a := (m_1 214 47)) (b := 0) (s := 0) (nn := (nn + (R.2.2.2.length : Int))) s_1.2.2.1 (by have := hR f_1; omega) (by first | assumption | omega | exact ⟨by omega, by omega⟩ | (constructor <;> omega)) (by first | assumption | omega | exact ⟨by omega, by omega⟩ | (constructor <;> omega)) (by first | assumption | omega | exact ⟨by omega, by omega⟩ | (constructor <;> omega)) (by first | assumption | omega | exact ⟨by omega, by omega⟩ | (constructor <;> omega))) rfl dX12_readNot_18 cv_12_433 rfl rfl ob_214 rfl (by decide) (Nat.le_of_ble_eq_true rfl) (fun r_18 m_18 hr_18 ho_18 => ?_)
      obtain ⟨e_18, hm_18⟩ := hr_18
      refine go_putf_i (ki := 47) dX12_readNot_21 fw_12_430 ob_214 rfl rfl ⟨by omega, by omega⟩ ?_
      refine go_iconst dX12_readNot_24 ?_
      refine go_ret (v := 1) rfl dX12_readNot_25 (okZ (by first | exact Or.inl rfl | exact Or.inr rfl | assumption | omega)) ?_
      have hRb := hR f_1
      have hq : notF (oneF G 6) (i - 1) o = (R.1, R.2.1, R.2.2.1, R.2.2.2 ++ [(215, 0, 0)]) := by unfold notF; rw [hni, ← hRe]
      have hwk : Wk (nodF (m_1 234) (nn + (R.2.2.2.length : Int)) 1 (m_1 214 47) 0 0) (G 8 3) (nn + (R.2.2.2.length : Int)) := by
        obtain ⟨e0, e1, e2, e3⟩ := nodF_n (N := m_1 234) (n := nn + (R.2.2.2.length : Int)) (w := 1) (a := m_1 214 47) (b := 0) (r := 0)
        unfold Wk
        rw [e0, e1, e2, e3]
        left; omega
      have hwn := s_1.2.2.2.add (by omega) hwk
      have hln : ((R.2.2.2 ++ [((215 : Int), (0 : Int), (0 : Int))]).length : Int) = R.2.2.2.length + 1 := by rw [List.length_append]; rfl
      rw [SaQ, hq, hm_18]
      refine ⟨(x_1.tr nodW_s).w (by omega) (by omega), ?_, Or.inl ⟨f_1, rfl, ?_, (t_1.nod).w (by decide) (by omega), ⟨?_, ?_, ?_, ?_⟩, fun j hj => ?_, ?_, ?_, c_1.app (CdA.k (by decide))⟩⟩
      · rw [wr_ni (by decide), nodW_214 (by decide)]; exact w_1
      · rw [wr_ni (by decide), nodW_214 (by decide)]; exact g_1
      · rw [wr_ni (by decide), nodW_214 (by decide)]; exact s_1.1
      · rw [wr_ni (by decide), nodW_214 (by decide)]; exact s_1.2.1
      · rw [wr_ni (by decide), nodW_44]; show _ = nn + ((R.2.2.2 ++ [((215 : Int), (0 : Int), (0 : Int))]).length : Int); rw [hln]; omega
      · rw [wr_row (by decide), nodW_234]; show Wf _ _ (nn + ((R.2.2.2 ++ [((215 : Int), (0 : Int), (0 : Int))]).length : Int)); rw [hln, show nn + ((R.2.2.2.length : Int) + 1) = nn + (R.2.2.2.length : Int) + 1 by omega]; exact hwn
      · rw [wr_na (by decide), nodW_234, nodF_o j (by omega)]; exact j_1 j hj
      · rw [wr_self, e_18]; show nn ≤ _ ∧ _ < nn + ((R.2.2.2 ++ [((215 : Int), (0 : Int), (0 : Int))]).length : Int); rw [hln]; omega
      · rw [wr_self, e_18, wr_row (by decide), nodW_234]
        exact r_1e.not s_1.2.2.2 (by omega) (by omega) hwn
    · exfalso; omega
  · refine go_if_ne (tgt := 9) dX12_readNot_4 (by decide) ⟨by omega, by omega⟩ (fun h_4 => ?_) (fun h_4 => ?_)
    · exfalso; omega
    · refine go_iconst dX12_readNot_7 ?_
      refine go_ret (v := 0) rfl dX12_readNot_8 (okZ (by first | exact Or.inl rfl | exact Or.inr rfl | assumption | omega)) ?_
      have hq : (notF (oneF G 6) (i - 1) o).1 = R.1 ∧ (notF (oneF G 6) (i - 1) o).2.1 = R.2.1 := by unfold notF; rw [hni, ← hRe]; exact ⟨rfl, rfl⟩
      exact ⟨x_1, w_1, Or.inr ⟨by rw [hq.1]; exact f_1, rfl, by rw [hq.1]; exact no_1.1, by rw [hq.2]; exact no_1.2⟩⟩
set_option maxRecDepth 4000 in
theorem ev_X12_brk7 {m : Mem} {G : Mem} {t : Int → Int} {kw : Int → Int} {n : Int} {lim : Int} {i : Int} {o : Int} {nn : Int} (htm : TM G t kw n lim m i) (hb : Bg G 8 18 (m 216)) (hdn : DnOk G 8) (hnm : NmR G 8 (m 221)) (hms : MS m (G 8 3) o 2 nn) (ho : 1 ≤ o ∧ o ≤ 20) (hnn : 0 ≤ nn ∧ nn + 2 ≤ 2 * o) : Ev 0 41 mX12_readBracket [vr 214] m (fun r m' => SaQ G t kw n lim m m' 2 nn (brkF (G 4) (seqF (G 4) 213 (seqF (G 4) 214 (oneF G 6))) (i - 1) o) r) := by
  refine Ev.of (L := [vr 214]) (by decide +kernel) rfl (Nat.le_of_ble_eq_true rfl) rfl (fun t ht => by cases ht; first | exact Or.inl rfl | exact Or.inr (Or.inl rfl) | exact Or.inr (Or.inr rfl)) (fun hcan => ?_)
  obtain ⟨hm1, hm2, hm3, hm4⟩ := id hms
  have hni : i - 1 + 1 = i := by omega
  refine go_aload_n dX12_readBracket_0 rfl ?_
  refine go_callV_z (as := []) (S := []) (b := 214) (ev_X12_con6 (m := m) (G := G) (t := t) (kw := kw) (n := n) (lim := lim) (i := i) (o := o) (nn := nn) htm hb hdn hnm hms (by omega) (by omega)) rfl dX12_readBracket_1 cv_12_457 rfl rfl ob_214 rfl (by decide) (Nat.le_of_ble_eq_true rfl) (fun r_1 m_1 hr_1 ho_1 => ?_)
  obtain ⟨R, hRe⟩ : ∃ z, z = (seqF (G 4) 213 (seqF (G 4) 214 (oneF G 6))) i o := ⟨_, rfl⟩
  rw [← hRe] at hr_1
  obtain ⟨x_1, w_1, hr_1⟩ := hr_1
  rcases hr_1 with ⟨f_1, e_1, g_1, t_1, s_1, j_1, p_1, r_1e, c_1⟩ | ⟨f_1, e_1, no_1⟩
  · refine go_if_ne (tgt := 9) dX12_readBracket_4 (by decide) ⟨by omega, by omega⟩ (fun h_4 => ?_) (fun h_4 => ?_)
    · refine go_aload_n dX12_readBracket_9 rfl ?_
      refine go_bipush dX12_readBracket_10 (by decide) ?_
      refine go_callVp_z (as := [vi 41]) (S := []) (b := 214) (ev_X12_isSign (m := m_1) (c := 41) (G := G) (t := t) (kw := kw) (n := n) (lim := lim) (i := R.2.1) t_1 (by unfold isS; omega)) rfl dX12_readBracket_12 cv_12_86 rfl rfl ob_214 rfl (by decide) (Nat.le_of_ble_eq_true rfl) (fun r_12 hr_12 ho_12 => ?_)
      refine go_if_ne (tgt := 24) dX12_readBracket_15 (by decide) ⟨by omega, by omega⟩ (fun h_15 => ?_) (fun h_15 => ?_)
      · refine go_aload_n dX12_readBracket_24 rfl ?_
        refine go_callV_v (as := []) (S := []) (b := 214) (ev_X12_go (m := m_1) (G := G) (t := t) (kw := kw) (n := n) (lim := lim) (i := (R.2.1 + 1)) (t_1.nx (by omega))) rfl dX12_readBracket_25 cv_12_82 rfl rfl ob_214 rfl (by decide) (Nat.le_of_ble_eq_true rfl) (fun m_25 hr_25 => ?_)
        refine go_iconst dX12_readBracket_28 ?_
        refine go_ret (v := 1) rfl dX12_readBracket_29 (okZ (by first | exact Or.inl rfl | exact Or.inr rfl | assumption | omega)) ?_
        have hq : brkF (G 4) (seqF (G 4) 213 (seqF (G 4) 214 (oneF G 6))) (i - 1) o = (0, R.2.1 + 1, R.2.2.1, R.2.2.2) := by unfold brkF; rw [hni, ← hRe, if_neg (fun z => z f_1), if_pos (by omega)]
        have hl := hr_25.1.l
        rw [SaQ, hq]
        refine ⟨x_1.tr hl.s, by rw [hl.2 46 (by omega)]; exact w_1, Or.inl ⟨rfl, rfl, ?_, hr_25.2, s_1.l hl, fun j hj => ?_, ?_, ?_, c_1⟩⟩
        · rw [hr_25.1.2 10 (by decide) (by decide) (by decide) (by decide) (by decide) (by decide)]; exact g_1
        · rw [hl.1 234 (by decide)]; exact j_1 j hj
        · rw [hl.2 47 (by omega)]; exact p_1
        · rw [hl.2 47 (by omega), hl.1 234 (by decide)]; exact r_1e
      · refine go_aload_n dX12_readBracket_18 rfl ?_
        refine go_iconst dX12_readBracket_19 ?_
        refine go_callV_z (as := [vi 1]) (S := []) (b := 214) (ev_X12_bad (m := m_1) (k := 1) (G := G) (t := t) (kw := kw) (n := n) (lim := lim) (i := R.2.1) t_1 (by first | assumption | omega | exact ⟨by omega, by omega⟩ | (constructor <;> omega))) rfl dX12_readBracket_20 cv_12_72 rfl rfl ob_214 rfl (by decide) (Nat.le_of_ble_eq_true rfl) (fun r_20 m_20 hr_20 ho_20 => ?_)
        refine go_ret (v := r_20) rfl dX12_readBracket_23 (okZ (by first | exact Or.inl rfl | exact Or.inr rfl | assumption | omega)) ?_
        have hq : brkF (G 4) (seqF (G 4) 213 (seqF (G 4) 214 (oneF G 6))) (i - 1) o = (1, R.2.1, 0, []) := by unfold brkF; rw [hni, ← hRe, if_neg (fun z => z f_1), if_neg (by omega)]
        have z := NoT.b (G := G) (m := m_1) (m' := m_20) (f := 1) (i := R.2.1) (by rw [hr_20.2]; congr 2; split <;> rfl)
        rw [SaQ, hq]
        exact ⟨x_1.tr z.1.s, by rw [z.1.2 46 (by omega)]; exact w_1, Or.inr ⟨(show (1 : Int) ≠ 0 by decide), hr_20.1, z.2.1, z.2.2⟩⟩
    · exfalso; omega
  · refine go_if_ne (tgt := 9) dX12_readBracket_4 (by decide) ⟨by omega, by omega⟩ (fun h_4 => ?_) (fun h_4 => ?_)
    · exfalso; omega
    · refine go_iconst dX12_readBracket_7 ?_
      refine go_ret (v := 0) rfl dX12_readBracket_8 (okZ (by first | exact Or.inl rfl | exact Or.inr rfl | assumption | omega)) ?_
      have hq : brkF (G 4) (seqF (G 4) 213 (seqF (G 4) 214 (oneF G 6))) (i - 1) o = R := by unfold brkF; rw [hni, ← hRe, if_pos f_1]
      rw [SaQ, hq]
      exact ⟨x_1, w_1, Or.inr ⟨f_1, rfl, no_1⟩⟩
set_option maxRecDepth 4000 in
theorem ev_X12_one7 {m : Mem} {G : Mem} {t : Int → Int} {kw : Int → Int} {n : Int} {lim : Int} {i : Int} {o : Int} {nn : Int} (htm : TM G t kw n lim m i) (hb : Bg G 8 18 (m 216)) (hdn : DnOk G 8) (hnm : NmR G 8 (m 221)) (hms : MS m (G 8 3) o 1 nn) (ho : 0 ≤ o ∧ o ≤ 20) (hnn : 0 ≤ nn ∧ nn ≤ 2 * o) : Ev 0 42 mX12_readSaid [vr 214] m (fun r m' => SaQ G t kw n lim m m' 1 nn (oneF G 7 i o) r) := by
  refine Ev.of (L := [vr 214, un, un, un]) (by decide +kernel) rfl (Nat.le_of_ble_eq_true rfl) rfl (fun t ht => by cases ht; first | exact Or.inl rfl | exact Or.inr (Or.inl rfl) | exact Or.inr (Or.inr rfl)) (fun hcan => ?_)
  obtain ⟨hm1, hm2, hm3, hm4⟩ := id hms
  have hkd := htm.kd
  refine go_aload_n dX12_readSaid_0 rfl ?_
  refine go_bipush dX12_readSaid_1 (by decide) ?_
  refine go_callVp_z (as := [vi 40]) (S := []) (b := 214) (ev_X12_isSign (m := m) (c := 40) (G := G) (t := t) (kw := kw) (n := n) (lim := lim) (i := i) htm (by unfold isS; omega)) rfl dX12_readSaid_3 cv_12_86 rfl rfl ob_214 rfl (by decide) (Nat.le_of_ble_eq_true rfl) (fun r_3 hr_3 ho_3 => ?_)
  refine go_istore_n (L' := [vr 214, vi r_3, un, un]) dX12_readSaid_6 (by decide) rfl rfl ?_
  refine go_bipush dX12_readSaid_7 (by decide) ?_
  refine go_istore_n (L' := [vr 214, vi r_3, vi 15, un]) dX12_readSaid_9 (by decide) rfl rfl ?_
  have lp_10 : ∀ (n_10 : Nat) (w : Int) , (15 ≤ w) → (w ≤ 25) → (∀ j : Int, 15 ≤ j → j < w → G 4 i ≠ 200 + j) → (25 - w).toNat < n_10 → Go 0 42 mX12_readSaid (fun r m' => SaQ G t kw n lim m m' 1 nn (oneF G 7 i o) r) 10 [vr 214, vi r_3, vi w, un] [] m := by
    intro n_10
    induction n_10 with
    | zero => intro w hw0 hw1 hno hmu; exact absurd hmu (Nat.not_lt_zero _)
    | succ n_10 ih_10 =>
      intro w hw0 hw1 hno hmu
      refine go_iload_n dX12_readSaid_10 rfl ?_
      have cut_30 :  ((w ≤ 24 ∧ G 4 i = 200 + w) ∨ (w = 25 ∧ ¬ (215 ≤ G 4 i ∧ G 4 i ≤ 224))) → Go 0 42 mX12_readSaid (fun r m' => SaQ G t kw n lim m m' 1 nn (oneF G 7 i o) r) 30 [vr 214, vi r_3, vi w, un] [] m := by
        intro hww
        refine go_iload_n dX12_readSaid_30 rfl ?_
        have cut_46 :  (G 4 i = 40 ∨ (215 ≤ G 4 i ∧ G 4 i ≤ 224)) → Go 0 42 mX12_readSaid (fun r m' => SaQ G t kw n lim m m' 1 nn (oneF G 7 i o) r) 46 [vr 214, vi r_3, vi w, un] [] m := by
          intro hst
          refine go_aload_n dX12_readSaid_46 rfl ?_
          refine go_getf_i (ki := 45) dX12_readSaid_47 fl_12_439 ob_214 rfl rfl (fun hf_47 => ?_)
          rw [show (m 214 45 : Int) = o from hm1] at hf_47 ⊢
          refine go_bipush dX12_readSaid_50 (by decide) ?_
          refine go_icmp_eq (tgt := 64) dX12_readSaid_52 (by decide) ⟨by omega, by omega⟩ ⟨by omega, by omega⟩ (fun h_52 => ?_) (fun h_52 => ?_)
          · refine go_aload_n dX12_readSaid_64 rfl ?_
            refine go_iconst dX12_readSaid_65 ?_
            refine go_callV_z (as := [vi 4]) (S := []) (b := 214) (ev_X12_bad (m := m) (k := 4) (G := G) (t := t) (kw := kw) (n := n) (lim := lim) (i := i) htm (by first | assumption | omega | exact ⟨by omega, by omega⟩ | (constructor <;> omega))) rfl dX12_readSaid_66 cv_12_72 rfl rfl ob_214 rfl (by decide) (Nat.le_of_ble_eq_true rfl) (fun r_66 m_66 hr_66 ho_66 => ?_)
            refine go_ret (v := r_66) rfl dX12_readSaid_69 (okZ (by first | exact Or.inl rfl | exact Or.inr rfl | assumption | omega)) ?_
            have hq : oneF G 7 i o = (4, i, o, []) := by unfold oneF; rw [if_neg (by omega), if_pos (by omega)]
            have z := NoT.b (G := G) (m := m) (m' := m_66) (f := 4) (i := i) (by rw [hr_66.2, if_neg (by omega)])
            rw [SaQ, hq]
            exact ⟨z.1.s, by rw [z.1.2 46 (by omega)]; exact hm2, Or.inr ⟨(show (4 : Int) ≠ 0 by decide), hr_66.1, z.2.1, z.2.2⟩⟩
          · refine go_aload_n dX12_readSaid_55 rfl ?_
            refine go_getf_i (ki := 46) dX12_readSaid_56 fl_12_442 ob_214 rfl rfl (fun hf_56 => ?_)
            rw [show (m 214 46 : Int) = 1 from hm2] at hf_56 ⊢
            refine go_bipush dX12_readSaid_59 (by decide) ?_
            refine go_icmp_ne (tgt := 70) dX12_readSaid_61 (by decide) ⟨by omega, by omega⟩ ⟨by omega, by omega⟩ (fun h_61 => ?_) (fun h_61 => ?_)
            · refine go_aload_n dX12_readSaid_70 rfl ?_
              refine go_dup_r dX12_readSaid_71 ?_
              refine go_getf_i (ki := 45) dX12_readSaid_72 fl_12_439 ob_214 rfl rfl (fun hf_72 => ?_)
              rw [show (m 214 45 : Int) = o from hm1] at hf_72 ⊢
              refine go_iconst dX12_readSaid_75 ?_
              refine go_iadd dX12_readSaid_76 ?_
              refine go_putf_i (ki := 45) dX12_readSaid_77 fw_12_439 ob_214 rfl rfl ⟨by omega, by omega⟩ ?_
              refine go_aload_n dX12_readSaid_80 rfl ?_
              refine go_dup_r dX12_readSaid_81 ?_
              refine go_getf_i (ki := 46) dX12_readSaid_82 fl_12_442 ob_214 rfl rfl (fun hf_82 => ?_)
              rw [show ((wr m 214 45 (o + 1)) 214 46 : Int) = 1 from by rw [wr_ni (by decide)]; exact hm2] at hf_82 ⊢
              refine go_iconst dX12_readSaid_85 ?_
              refine go_iadd dX12_readSaid_86 ?_
              refine go_putf_i (ki := 46) dX12_readSaid_87 fw_12_442 ob_214 rfl rfl ⟨by omega, by omega⟩ ?_
              refine go_aload_n dX12_readSaid_90 rfl ?_
              refine go_callV_v (as := []) (S := []) (b := 214) (ev_X12_go (m := (wr (wr m 214 45 (o + 1)) 214 46 (1 + 1))) (G := G) (t := t) (kw := kw) (n := n) (lim := lim) (i := (i + 1)) (((htm.nx (by omega)).w (by decide) (by omega)).w (by decide) (by omega))) rfl dX12_readSaid_91 cv_12_82 rfl rfl ob_214 rfl (by decide) (Nat.le_of_ble_eq_true rfl) (fun m_91 hr_91 => ?_)
              have l91 := hr_91.1.l
              have s91 : Sx m m_91 := ((Sx.rf.w (by omega) (by omega)).w (by omega) (by omega)).tr l91.s
              have g91 : m_91 214 10 = m 214 10 := by rw [hr_91.1.2 10 (by decide) (by decide) (by decide) (by decide) (by decide) (by decide), wr_ni (by decide), wr_ni (by decide)]
              have n91 : m_91 234 = m 234 := by rw [l91.1 234 (by decide), wr_row (by decide), wr_row (by decide)]
              have ms91 : MS m_91 (G 8 3) (o + 1) 2 nn := ⟨by rw [l91.2 45 (by omega), wr_ni (by decide), wr_self], by rw [l91.2 46 (by omega), wr_self]; rfl, by rw [l91.2 44 (by omega), wr_ni (by decide), wr_ni (by decide)]; exact hm3, by rw [n91]; exact hm4⟩
              have b91 : Bg G 8 18 (m_91 216) := by rw [s91.1 216 (by decide) (by decide)]; exact hb
              have nm91 : NmR G 8 (m_91 221) := by rw [s91.1 221 (by decide) (by decide)]; exact hnm
              have hi1 : i + 1 - 1 = i := by omega
              refine go_iconst dX12_readSaid_94 ?_
              refine go_istore_n (L' := [vr 214, vi r_3, vi w, vi 1]) dX12_readSaid_95 (by decide) rfl rfl ?_
              have cut_166 : ∀ (mx : Mem) (gd : Int) , (gd = 0 ∨ gd = 1) → (SaQ G t kw n lim m_91 mx 2 nn (oneF G 7 i o) gd) → Go 0 42 mX12_readSaid (fun r m' => SaQ G t kw n lim m m' 1 nn (oneF G 7 i o) r) 166 [vr 214, un, un, vi gd] [] mx := by
                intro mx gd hgd hsq
                refine go_aload_n dX12_readSaid_166 rfl ?_
                refine go_dup_r dX12_readSaid_167 ?_
                refine go_getf_i (ki := 46) dX12_readSaid_168 fl_12_442 ob_214 rfl rfl (fun hf_168 => ?_)
                rw [show (mx 214 46 : Int) = 2 from hsq.2.1] at hf_168 ⊢
                refine go_iconst dX12_readSaid_171 ?_
                refine go_isub dX12_readSaid_172 ?_
                refine go_putf_i (ki := 46) dX12_readSaid_173 fw_12_442 ob_214 rfl rfl ⟨by omega, by omega⟩ ?_
                refine go_iload_n dX12_readSaid_176 rfl ?_
                refine go_ret (v := gd) rfl dX12_readSaid_177 (okZ hgd) ?_
                obtain ⟨a, b, c⟩ := hsq
                refine ⟨(s91.tr a).w (by omega) (by omega), wr_self _ _ _ _, ?_⟩
                rcases c with ⟨f, e, g, t_, s, j_, p_, r_, c_⟩ | ⟨f, e, no⟩
                · refine Or.inl ⟨f, e, ?_, t_.w (by decide) (by omega), ⟨?_, wr_self _ _ _ _, ?_, ?_⟩, fun j hj => ?_, ?_, ?_, c_⟩
                  · rw [wr_ni (by decide), g]; exact g91
                  · rw [wr_ni (by decide)]; exact s.1
                  · rw [wr_ni (by decide)]; exact s.2.2.1
                  · rw [wr_row (by decide)]; exact s.2.2.2
                  · rw [wr_na (by decide), j_ j hj, n91]
                  · rw [wr_ni (by decide)]; exact p_
                  · rw [wr_ni (by decide), wr_row (by decide)]; exact r_
                · exact Or.inr ⟨f, e, by rw [wr_ni (by decide)]; exact no.1, by rw [wr_ni (by decide)]; exact no.2⟩
              refine go_iload_n dX12_readSaid_96 rfl ?_
              refine go_if_eq (tgt := 108) dX12_readSaid_97 (by decide) ⟨by omega, by omega⟩ (fun h_97 => ?_) (fun h_97 => ?_)
              · refine go_iload_n dX12_readSaid_108 rfl ?_
                refine go_bipush dX12_readSaid_109 (by decide) ?_
                refine go_icmp_ne (tgt := 122) dX12_readSaid_111 (by decide) ⟨by omega, by omega⟩ ⟨by omega, by omega⟩ (fun h_111 => ?_) (fun h_111 => ?_)
                · refine go_iload_n dX12_readSaid_122 rfl ?_
                  refine go_bipush dX12_readSaid_123 (by decide) ?_
                  refine go_icmp_ge (tgt := 146) dX12_readSaid_125 (by decide) ⟨by omega, by omega⟩ ⟨by omega, by omega⟩ (fun h_125 => ?_) (fun h_125 => ?_)
                  · refine go_iload_n dX12_readSaid_146 rfl ?_
                    refine go_bipush dX12_readSaid_147 (by decide) ?_
                    refine go_icmp_ge (tgt := 160) dX12_readSaid_149 (by decide) ⟨by omega, by omega⟩ ⟨by omega, by omega⟩ (fun h_149 => ?_) (fun h_149 => ?_)
                    · refine go_aload_n dX12_readSaid_160 rfl ?_
                      refine go_iload_n dX12_readSaid_161 rfl ?_
                      refine go_callV_z (as := [vi w]) (S := []) (b := 214) (ev_X12_readCompare (m := m_91) (w := w) (G := G) (t := t) (kw := kw) (n := n) (lim := lim) (i := (i + 1)) (o := (o + 1)) (wi := 2) (nn := nn) hr_91.2 b91 hdn ms91 (by omega) (by omega) (by omega) (by rw [hi1]; omega)) rfl dX12_readSaid_162 cv_12_454 rfl rfl ob_214 rfl (by decide) (Nat.le_of_ble_eq_true rfl) (fun r_162 m_162 hr_162 ho_162 => ?_)
                      rw [hi1] at hr_162
                      refine go_istore_n (L' := [vr 214, vi r_3, vi w, vi r_162]) dX12_readSaid_165 (by decide) rfl rfl ?_
                      refine go_drop (j := 1) (L' := [vr 214, un, vi w, vi r_162]) rfl ?_
                      refine go_drop (j := 2) (L' := [vr 214, un, un, vi r_162]) rfl ?_
                      exact cut_166 m_162 r_162 (by first | assumption | rfl | omega) (by
                            first
                            | (rw [show oneF G 7 i o = brkF (G 4) (seqF (G 4) 213 (seqF (G 4) 214 (oneF G 6))) i (o + 1) by unfold oneF; rw [if_neg (by omega), if_neg (by omega), if_neg (by omega), if_pos (by omega)]]; exact hr_101)
                            | (rw [show oneF G 7 i o = notF (oneF G 6) i (o + 1) by unfold oneF; rw [if_neg (by omega), if_neg (by omega), if_pos (by omega)]]; exact hr_115)
                            | (rw [show oneF G 7 i o = namF G i (o + 1) by unfold oneF; rw [if_neg (by omega), if_neg (by omega), if_neg (by omega), if_neg (by omega), if_pos (by omega)]]; exact hr_154)
                            | (rw [show oneF G 7 i o = cmpF G i (o + 1) by unfold oneF; rw [if_neg (by omega), if_neg (by omega), if_neg (by omega), if_neg (by omega), if_neg (by omega), if_pos (by omega)]]; exact hr_162)
                            | (have hwk : Wk (nodF (m_91 234) nn (50 + w) 0 0 0) (G 8 3) nn := (by
                                 obtain ⟨e0, e1, e2, e3⟩ := nodF_n (N := m_91 234) (n := nn) (w := 50 + w) (a := 0) (b := 0) (r := 0)
                                 unfold Wk
                                 rw [e0, e1, e2, e3]
                                 right; right; left; omega)
                               have hwn := ms91.2.2.2.add (by omega) hwk
                               rw [SaQ, show oneF G 7 i o = (0, i + 1, o + 1, [(G 4 i, 0, 0)]) by unfold oneF; rw [if_neg (by omega), if_neg (by omega), if_neg (by omega), if_neg (by omega), if_neg (by omega), if_neg (by omega)], hm_137]
                               refine ⟨nodW_s.w (by omega) (by omega), ?_, Or.inl ⟨rfl, rfl, ?_, (hr_91.2.nod).w (by decide) (by omega), ⟨?_, ?_, ?_, ?_⟩, fun j hj => ?_, ?_, ?_, CdA.k (by omega)⟩⟩
                               · rw [wr_ni (by decide), nodW_214 (by decide)]; exact ms91.2.1
                               · rw [wr_ni (by decide), nodW_214 (by decide)]
                               · rw [wr_ni (by decide), nodW_214 (by decide)]; exact ms91.1
                               · rw [wr_ni (by decide), nodW_214 (by decide)]; exact ms91.2.1
                               · rw [wr_ni (by decide), nodW_44]; rfl
                               · rw [wr_row (by decide), nodW_234]; exact hwn
                               · rw [wr_na (by decide), nodW_234, nodF_o j hj]
                               · rw [wr_self, e_137]; show nn ≤ nn ∧ nn < nn + 1; omega
                               · rw [wr_self, e_137, wr_row (by decide), nodW_234]
                                 refine Rep.leaf (by omega) (by omega) ?_
                                 rw [if_pos (by omega), show 50 + w + 150 = 200 + w by omega]
                                 rw [show G 4 i = 200 + w by omega]))
                    · refine go_aload_n dX12_readSaid_152 rfl ?_
                      refine go_iload_n dX12_readSaid_153 rfl ?_
                      refine go_callV_z (as := [vi w]) (S := []) (b := 214) (ev_X12_readOf (m := m_91) (w := w) (G := G) (t := t) (kw := kw) (n := n) (lim := lim) (i := (i + 1)) (o := (o + 1)) (wi := 2) (nn := nn) hr_91.2 b91 hdn nm91 ms91 (by omega) (by omega) (by omega) (by rw [hi1]; omega)) rfl dX12_readSaid_154 cv_12_451 rfl rfl ob_214 rfl (by decide) (Nat.le_of_ble_eq_true rfl) (fun r_154 m_154 hr_154 ho_154 => ?_)
                      rw [hi1] at hr_154
                      refine go_goto (tgt := 165) dX12_readSaid_157 (by decide) ?_
                      refine go_istore_n (L' := [vr 214, vi r_3, vi w, vi r_154]) dX12_readSaid_165 (by decide) rfl rfl ?_
                      refine go_drop (j := 1) (L' := [vr 214, un, vi w, vi r_154]) rfl ?_
                      refine go_drop (j := 2) (L' := [vr 214, un, un, vi r_154]) rfl ?_
                      exact cut_166 m_154 r_154 (by first | assumption | rfl | omega) (by
                            first
                            | (rw [show oneF G 7 i o = brkF (G 4) (seqF (G 4) 213 (seqF (G 4) 214 (oneF G 6))) i (o + 1) by unfold oneF; rw [if_neg (by omega), if_neg (by omega), if_neg (by omega), if_pos (by omega)]]; exact hr_101)
                            | (rw [show oneF G 7 i o = notF (oneF G 6) i (o + 1) by unfold oneF; rw [if_neg (by omega), if_neg (by omega), if_pos (by omega)]]; exact hr_115)
                            | (rw [show oneF G 7 i o = namF G i (o + 1) by unfold oneF; rw [if_neg (by omega), if_neg (by omega), if_neg (by omega), if_neg (by omega), if_pos (by omega)]]; exact hr_154)
                            | (rw [show oneF G 7 i o = cmpF G i (o + 1) by unfold oneF; rw [if_neg (by omega), if_neg (by omega), if_neg (by omega), if_neg (by omega), if_neg (by omega), if_pos (by omega)]]; exact hr_162)
                            | (have hwk : Wk (nodF (m_91 234) nn (50 + w) 0 0 0) (G 8 3) nn := (by
                                 obtain ⟨e0, e1, e2, e3⟩ := nodF_n (N := m_91 234) (n := nn) (w := 50 + w) (a := 0) (b := 0) (r := 0)
                                 unfold Wk
                                 rw [e0, e1, e2, e3]
                                 right; right; left; omega)
                               have hwn := ms91.2.2.2.add (by omega) hwk
                               rw [SaQ, show oneF G 7 i o = (0, i + 1, o + 1, [(G 4 i, 0, 0)]) by unfold oneF; rw [if_neg (by omega), if_neg (by omega), if_neg (by omega), if_neg (by omega), if_neg (by omega), if_neg (by omega)], hm_137]
                               refine ⟨nodW_s.w (by omega) (by omega), ?_, Or.inl ⟨rfl, rfl, ?_, (hr_91.2.nod).w (by decide) (by omega), ⟨?_, ?_, ?_, ?_⟩, fun j hj => ?_, ?_, ?_, CdA.k (by omega)⟩⟩
                               · rw [wr_ni (by decide), nodW_214 (by decide)]; exact ms91.2.1
                               · rw [wr_ni (by decide), nodW_214 (by decide)]
                               · rw [wr_ni (by decide), nodW_214 (by decide)]; exact ms91.1
                               · rw [wr_ni (by decide), nodW_214 (by decide)]; exact ms91.2.1
                               · rw [wr_ni (by decide), nodW_44]; rfl
                               · rw [wr_row (by decide), nodW_234]; exact hwn
                               · rw [wr_na (by decide), nodW_234, nodF_o j hj]
                               · rw [wr_self, e_137]; show nn ≤ nn ∧ nn < nn + 1; omega
                               · rw [wr_self, e_137, wr_row (by decide), nodW_234]
                                 refine Rep.leaf (by omega) (by omega) ?_
                                 rw [if_pos (by omega), show 50 + w + 150 = 200 + w by omega]
                                 rw [show G 4 i = 200 + w by omega]))
                  · refine go_aload_n dX12_readSaid_128 rfl ?_
                    refine go_aload_n dX12_readSaid_129 rfl ?_
                    refine go_bipush dX12_readSaid_130 (by decide) ?_
                    refine go_iload_n dX12_readSaid_132 rfl ?_
                    refine go_iadd dX12_readSaid_133 ?_
                    refine go_iconst dX12_readSaid_134 ?_
                    refine go_iconst dX12_readSaid_135 ?_
                    refine go_iconst dX12_readSaid_136 ?_
                    refine go_callV_i (as := [vi (50 + w), vi 0, vi 0, vi 0]) (S := [vr 214]) (b := 214) (ev_X12_saysOne (m := m_91) (w := (50 + w)) (a := 0) (b := 0) (s := 0) (nn := nn) ms91.2.2.1 (by omega) (by first | assumption | omega | exact ⟨by omega, by omega⟩ | (constructor <;> omega)) (by first | assumption | omega | exact ⟨by omega, by omega⟩ | (constructor <;> omega)) (by first | assumption | omega | exact ⟨by omega, by omega⟩ | (constructor <;> omega)) (by first | assumption | omega | exact ⟨by omega, by omega⟩ | (constructor <;> omega))) rfl dX12_readSaid_137 cv_12_433 rfl rfl ob_214 rfl (by decide) (Nat.le_of_ble_eq_true rfl) (fun r_137 m_137 hr_137 ho_137 => ?_)
                    obtain ⟨e_137, hm_137⟩ := hr_137
                    refine go_putf_i (ki := 47) dX12_readSaid_140 fw_12_430 ob_214 rfl rfl ⟨by omega, by omega⟩ ?_
                    refine go_goto (tgt := 166) dX12_readSaid_143 (by decide) ?_
                    refine go_drop (j := 1) (L' := [vr 214, un, vi w, vi 1]) rfl ?_
                    refine go_drop (j := 2) (L' := [vr 214, un, un, vi 1]) rfl ?_
                    exact cut_166 (wr m_137 214 47 r_137) 1 (by first | assumption | rfl | omega) (by
                          first
                          | (rw [show oneF G 7 i o = brkF (G 4) (seqF (G 4) 213 (seqF (G 4) 214 (oneF G 6))) i (o + 1) by unfold oneF; rw [if_neg (by omega), if_neg (by omega), if_neg (by omega), if_pos (by omega)]]; exact hr_101)
                          | (rw [show oneF G 7 i o = notF (oneF G 6) i (o + 1) by unfold oneF; rw [if_neg (by omega), if_neg (by omega), if_pos (by omega)]]; exact hr_115)
                          | (rw [show oneF G 7 i o = namF G i (o + 1) by unfold oneF; rw [if_neg (by omega), if_neg (by omega), if_neg (by omega), if_neg (by omega), if_pos (by omega)]]; exact hr_154)
                          | (rw [show oneF G 7 i o = cmpF G i (o + 1) by unfold oneF; rw [if_neg (by omega), if_neg (by omega), if_neg (by omega), if_neg (by omega), if_neg (by omega), if_pos (by omega)]]; exact hr_162)
                          | (have hwk : Wk (nodF (m_91 234) nn (50 + w) 0 0 0) (G 8 3) nn := (by
                               obtain ⟨e0, e1, e2, e3⟩ := nodF_n (N := m_91 234) (n := nn) (w := 50 + w) (a := 0) (b := 0) (r := 0)
                               unfold Wk
                               rw [e0, e1, e2, e3]
                               right; right; left; omega)
                             have hwn := ms91.2.2.2.add (by omega) hwk
                             rw [SaQ, show oneF G 7 i o = (0, i + 1, o + 1, [(G 4 i, 0, 0)]) by unfold oneF; rw [if_neg (by omega), if_neg (by omega), if_neg (by omega), if_neg (by omega), if_neg (by omega), if_neg (by omega)], hm_137]
                             refine ⟨nodW_s.w (by omega) (by omega), ?_, Or.inl ⟨rfl, rfl, ?_, (hr_91.2.nod).w (by decide) (by omega), ⟨?_, ?_, ?_, ?_⟩, fun j hj => ?_, ?_, ?_, CdA.k (by omega)⟩⟩
                             · rw [wr_ni (by decide), nodW_214 (by decide)]; exact ms91.2.1
                             · rw [wr_ni (by decide), nodW_214 (by decide)]
                             · rw [wr_ni (by decide), nodW_214 (by decide)]; exact ms91.1
                             · rw [wr_ni (by decide), nodW_214 (by decide)]; exact ms91.2.1
                             · rw [wr_ni (by decide), nodW_44]; rfl
                             · rw [wr_row (by decide), nodW_234]; exact hwn
                             · rw [wr_na (by decide), nodW_234, nodF_o j hj]
                             · rw [wr_self, e_137]; show nn ≤ nn ∧ nn < nn + 1; omega
                             · rw [wr_self, e_137, wr_row (by decide), nodW_234]
                               refine Rep.leaf (by omega) (by omega) ?_
                               rw [if_pos (by omega), show 50 + w + 150 = 200 + w by omega]
                               rw [show G 4 i = 200 + w by omega]))
                · refine go_aload_n dX12_readSaid_114 rfl ?_
                  refine go_callV_z (as := []) (S := []) (b := 214) (ev_X12_not7 (m := m_91) (G := G) (t := t) (kw := kw) (n := n) (lim := lim) (i := (i + 1)) (o := (o + 1)) (nn := nn) hr_91.2 b91 hdn nm91 ms91 (by omega) (by omega)) rfl dX12_readSaid_115 cv_12_448 rfl rfl ob_214 rfl (by decide) (Nat.le_of_ble_eq_true rfl) (fun r_115 m_115 hr_115 ho_115 => ?_)
                  rw [hi1] at hr_115
                  refine go_istore_n (L' := [vr 214, vi r_3, vi w, vi r_115]) dX12_readSaid_118 (by decide) rfl rfl ?_
                  refine go_goto (tgt := 166) dX12_readSaid_119 (by decide) ?_
                  refine go_drop (j := 1) (L' := [vr 214, un, vi w, vi r_115]) rfl ?_
                  refine go_drop (j := 2) (L' := [vr 214, un, un, vi r_115]) rfl ?_
                  exact cut_166 m_115 r_115 (by first | assumption | rfl | omega) (by
                        first
                        | (rw [show oneF G 7 i o = brkF (G 4) (seqF (G 4) 213 (seqF (G 4) 214 (oneF G 6))) i (o + 1) by unfold oneF; rw [if_neg (by omega), if_neg (by omega), if_neg (by omega), if_pos (by omega)]]; exact hr_101)
                        | (rw [show oneF G 7 i o = notF (oneF G 6) i (o + 1) by unfold oneF; rw [if_neg (by omega), if_neg (by omega), if_pos (by omega)]]; exact hr_115)
                        | (rw [show oneF G 7 i o = namF G i (o + 1) by unfold oneF; rw [if_neg (by omega), if_neg (by omega), if_neg (by omega), if_neg (by omega), if_pos (by omega)]]; exact hr_154)
                        | (rw [show oneF G 7 i o = cmpF G i (o + 1) by unfold oneF; rw [if_neg (by omega), if_neg (by omega), if_neg (by omega), if_neg (by omega), if_neg (by omega), if_pos (by omega)]]; exact hr_162)
                        | (have hwk : Wk (nodF (m_91 234) nn (50 + w) 0 0 0) (G 8 3) nn := (by
                             obtain ⟨e0, e1, e2, e3⟩ := nodF_n (N := m_91 234) (n := nn) (w := 50 + w) (a := 0) (b := 0) (r := 0)
                             unfold Wk
                             rw [e0, e1, e2, e3]
                             right; right; left; omega)
                           have hwn := ms91.2.2.2.add (by omega) hwk
                           rw [SaQ, show oneF G 7 i o = (0, i + 1, o + 1, [(G 4 i, 0, 0)]) by unfold oneF; rw [if_neg (by omega), if_neg (by omega), if_neg (by omega), if_neg (by omega), if_neg (by omega), if_neg (by omega)], hm_137]
                           refine ⟨nodW_s.w (by omega) (by omega), ?_, Or.inl ⟨rfl, rfl, ?_, (hr_91.2.nod).w (by decide) (by omega), ⟨?_, ?_, ?_, ?_⟩, fun j hj => ?_, ?_, ?_, CdA.k (by omega)⟩⟩
                           · rw [wr_ni (by decide), nodW_214 (by decide)]; exact ms91.2.1
                           · rw [wr_ni (by decide), nodW_214 (by decide)]
                           · rw [wr_ni (by decide), nodW_214 (by decide)]; exact ms91.1
                           · rw [wr_ni (by decide), nodW_214 (by decide)]; exact ms91.2.1
                           · rw [wr_ni (by decide), nodW_44]; rfl
                           · rw [wr_row (by decide), nodW_234]; exact hwn
                           · rw [wr_na (by decide), nodW_234, nodF_o j hj]
                           · rw [wr_self, e_137]; show nn ≤ nn ∧ nn < nn + 1; omega
                           · rw [wr_self, e_137, wr_row (by decide), nodW_234]
                             refine Rep.leaf (by omega) (by omega) ?_
                             rw [if_pos (by omega), show 50 + w + 150 = 200 + w by omega]
                             rw [show G 4 i = 200 + w by omega]))
              · refine go_aload_n dX12_readSaid_100 rfl ?_
                refine go_callV_z (as := []) (S := []) (b := 214) (ev_X12_brk7 (m := m_91) (G := G) (t := t) (kw := kw) (n := n) (lim := lim) (i := (i + 1)) (o := (o + 1)) (nn := nn) hr_91.2 b91 hdn nm91 ms91 (by omega) (by omega)) rfl dX12_readSaid_101 cv_12_445 rfl rfl ob_214 rfl (by decide) (Nat.le_of_ble_eq_true rfl) (fun r_101 m_101 hr_101 ho_101 => ?_)
                rw [hi1] at hr_101
                refine go_istore_n (L' := [vr 214, vi r_3, vi w, vi r_101]) dX12_readSaid_104 (by decide) rfl rfl ?_
                refine go_goto (tgt := 166) dX12_readSaid_105 (by decide) ?_
                refine go_drop (j := 1) (L' := [vr 214, un, vi w, vi r_101]) rfl ?_
                refine go_drop (j := 2) (L' := [vr 214, un, un, vi r_101]) rfl ?_
                exact cut_166 m_101 r_101 (by first | assumption | rfl | omega) (by
                      first
                      | (rw [show oneF G 7 i o = brkF (G 4) (seqF (G 4) 213 (seqF (G 4) 214 (oneF G 6))) i (o + 1) by unfold oneF; rw [if_neg (by omega), if_neg (by omega), if_neg (by omega), if_pos (by omega)]]; exact hr_101)
                      | (rw [show oneF G 7 i o = notF (oneF G 6) i (o + 1) by unfold oneF; rw [if_neg (by omega), if_neg (by omega), if_pos (by omega)]]; exact hr_115)
                      | (rw [show oneF G 7 i o = namF G i (o + 1) by unfold oneF; rw [if_neg (by omega), if_neg (by omega), if_neg (by omega), if_neg (by omega), if_pos (by omega)]]; exact hr_154)
                      | (rw [show oneF G 7 i o = cmpF G i (o + 1) by unfold oneF; rw [if_neg (by omega), if_neg (by omega), if_neg (by omega), if_neg (by omega), if_neg (by omega), if_pos (by omega)]]; exact hr_162)
                      | (have hwk : Wk (nodF (m_91 234) nn (50 + w) 0 0 0) (G 8 3) nn := (by
                           obtain ⟨e0, e1, e2, e3⟩ := nodF_n (N := m_91 234) (n := nn) (w := 50 + w) (a := 0) (b := 0) (r := 0)
                           unfold Wk
                           rw [e0, e1, e2, e3]
                           right; right; left; omega)
                         have hwn := ms91.2.2.2.add (by omega) hwk
                         rw [SaQ, show oneF G 7 i o = (0, i + 1, o + 1, [(G 4 i, 0, 0)]) by unfold oneF; rw [if_neg (by omega), if_neg (by omega), if_neg (by omega), if_neg (by omega), if_neg (by omega), if_neg (by omega)], hm_137]
                         refine ⟨nodW_s.w (by omega) (by omega), ?_, Or.inl ⟨rfl, rfl, ?_, (hr_91.2.nod).w (by decide) (by omega), ⟨?_, ?_, ?_, ?_⟩, fun j hj => ?_, ?_, ?_, CdA.k (by omega)⟩⟩
                         · rw [wr_ni (by decide), nodW_214 (by decide)]; exact ms91.2.1
                         · rw [wr_ni (by decide), nodW_214 (by decide)]
                         · rw [wr_ni (by decide), nodW_214 (by decide)]; exact ms91.1
                         · rw [wr_ni (by decide), nodW_214 (by decide)]; exact ms91.2.1
                         · rw [wr_ni (by decide), nodW_44]; rfl
                         · rw [wr_row (by decide), nodW_234]; exact hwn
                         · rw [wr_na (by decide), nodW_234, nodF_o j hj]
                         · rw [wr_self, e_137]; show nn ≤ nn ∧ nn < nn + 1; omega
                         · rw [wr_self, e_137, wr_row (by decide), nodW_234]
                           refine Rep.leaf (by omega) (by omega) ?_
                           rw [if_pos (by omega), show 50 + w + 150 = 200 + w by omega]
                           rw [show G 4 i = 200 + w by omega]))
            · exfalso; omega
        refine go_if_ne (tgt := 46) dX12_readSaid_31 (by decide) ⟨by omega, by omega⟩ (fun h_31 => ?_) (fun h_31 => ?_)
        · exact cut_46  (by omega)
        · refine go_iload_n dX12_readSaid_34 rfl ?_
          refine go_bipush dX12_readSaid_35 (by decide) ?_
          refine go_icmp_le (tgt := 46) dX12_readSaid_37 (by decide) ⟨by omega, by omega⟩ ⟨by omega, by omega⟩ (fun h_37 => ?_) (fun h_37 => ?_)
          · exact cut_46  (by omega)
          · refine go_aload_n dX12_readSaid_40 rfl ?_
            refine go_iconst dX12_readSaid_41 ?_
            refine go_callV_z (as := [vi 1]) (S := []) (b := 214) (ev_X12_bad (m := m) (k := 1) (G := G) (t := t) (kw := kw) (n := n) (lim := lim) (i := i) htm (by first | assumption | omega | exact ⟨by omega, by omega⟩ | (constructor <;> omega))) rfl dX12_readSaid_42 cv_12_72 rfl rfl ob_214 rfl (by decide) (Nat.le_of_ble_eq_true rfl) (fun r_42 m_42 hr_42 ho_42 => ?_)
            refine go_ret (v := r_42) rfl dX12_readSaid_45 (okZ (by first | exact Or.inl rfl | exact Or.inr rfl | assumption | omega)) ?_
            have hq : oneF G 7 i o = (1, i, o, []) := by unfold oneF; rw [if_pos (by omega)]
            have z := NoT.b (G := G) (m := m) (m' := m_42) (f := 1) (i := i) (by rw [hr_42.2]; congr 2; split <;> rfl)
            rw [SaQ, hq]
            exact ⟨z.1.s, by rw [z.1.2 46 (by omega)]; exact hm2, Or.inr ⟨(show (1 : Int) ≠ 0 by decide), hr_42.1, z.2.1, z.2.2⟩⟩
      refine go_bipush dX12_readSaid_11 (by decide) ?_
      refine go_icmp_gt (tgt := 30) dX12_readSaid_13 (by decide) ⟨by omega, by omega⟩ ⟨by omega, by omega⟩ (fun h_13 => ?_) (fun h_13 => ?_)
      · exact cut_30  (by first | (left; omega) | (right; refine ⟨by omega, fun z => hno (G 4 i - 200) (by omega) (by omega) (by omega)⟩))
      · refine go_aload_n dX12_readSaid_16 rfl ?_
        refine go_iload_n dX12_readSaid_17 rfl ?_
        refine go_callVp_z (as := [vi w]) (S := []) (b := 214) (ev_X12_isWord (m := m) (k := w) (G := G) (t := t) (kw := kw) (n := n) (lim := lim) (i := i) htm (by first | assumption | omega | exact ⟨by omega, by omega⟩ | (constructor <;> omega))) rfl dX12_readSaid_18 cv_12_202 rfl rfl ob_214 rfl (by decide) (Nat.le_of_ble_eq_true rfl) (fun r_18 hr_18 ho_18 => ?_)
        refine go_if_ne (tgt := 30) dX12_readSaid_21 (by decide) ⟨by omega, by omega⟩ (fun h_21 => ?_) (fun h_21 => ?_)
        · exact cut_30  (by first | (left; omega) | (right; refine ⟨by omega, fun z => hno (G 4 i - 200) (by omega) (by omega) (by omega)⟩))
        · refine go_iinc (L' := [vr 214, vi r_3, vi (w + 1), un]) dX12_readSaid_24 rfl (by decide) rfl rfl ?_
          refine go_goto (tgt := 10) dX12_readSaid_27 (by decide) ?_
          exact ih_10 (w + 1) (by first | assumption | omega | rfl) (by first | assumption | omega | rfl) (fun j a b => by by_cases q : j < w; exact hno j a q; (rw [show j = w by omega]; omega)) (by omega)
  exact lp_10 _ 15 (by first | assumption | omega | rfl) (by first | assumption | omega | rfl) (fun j a b => by omega) (Nat.lt_succ_self _)
set_option maxRecDepth 4000 in
theorem ev_X12_all7 {m : Mem} {G : Mem} {t : Int → Int} {kw : Int → Int} {n : Int} {lim : Int} {i : Int} {o : Int} {nn : Int} (htm : TM G t kw n lim m i) (hb : Bg G 8 18 (m 216)) (hdn : DnOk G 8) (hnm : NmR G 8 (m 221)) (hms : MS m (G 8 3) o 1 nn) (ho : 0 ≤ o ∧ o ≤ 20) (hnn : 0 ≤ nn ∧ nn ≤ 2 * o) : Ev 0 43 mX12_readAnd [vr 214] m (fun r m' => SaQ G t kw n lim m m' 1 nn (seqF (G 4) 214 (oneF G 7) i o) r) := by
  refine Ev.of (L := [vr 214, un]) (by decide +kernel) rfl (Nat.le_of_ble_eq_true rfl) rfl (fun t ht => by cases ht; first | exact Or.inl rfl | exact Or.inr (Or.inl rfl) | exact Or.inr (Or.inr rfl)) (fun hcan => ?_)
  obtain ⟨hm1, hm2, hm3, hm4⟩ := id hms
  have hPB : PB (oneF G 7) := (oneF_b G 7)
  refine go_aload_n dX12_readAnd_0 rfl ?_
  refine go_callV_z (as := []) (S := []) (b := 214) (ev_X12_one7 (m := m) (G := G) (t := t) (kw := kw) (n := n) (lim := lim) (i := i) (o := o) (nn := nn) htm hb hdn hnm hms (by first | assumption | omega | exact ⟨by omega, by omega⟩ | (constructor <;> omega)) (by first | assumption | omega | exact ⟨by omega, by omega⟩ | (constructor <;> omega))) rfl dX12_readAnd_1 cv_12_436 rfl rfl ob_214 rfl (by decide) (Nat.le_of_ble_eq_true rfl) (fun r_1 m_1 hr_1 ho_1 => ?_)
  obtain ⟨x_1, w_1, hr_1⟩ := hr_1
  rcases hr_1 with ⟨f_1, e_1, g_1, t_1, s_1, j_1, p_1, r_1e, c_1⟩ | ⟨f_1, e_1, no_1⟩
  · refine go_if_ne (tgt := 9) dX12_readAnd_4 (by decide) ⟨by omega, by omega⟩ (fun h_4 => ?_) (fun h_4 => ?_)
    · have hR1 := hPB i o (by omega) (by omega) f_1
      refine go_aload_n dX12_readAnd_9 rfl ?_
      refine go_getf_i (ki := 47) dX12_readAnd_10 fl_12_430 ob_214 rfl rfl (fun hf_10 => ?_)
      refine go_istore_n (L' := [vr 214, vi (m_1 214 47)]) dX12_readAnd_13 (by decide) rfl rfl ?_
      have lp_14 : ∀ (n_14 : Nat) (m1 : Mem) (av : Int) (a : Rs) (f : Nat), (a.1 = 0) → (Sx m m1) → (m1 214 46 = 1) → (m1 214 10 = m 214 10) → (TM G t kw n lim m1 a.2.1) → (MS m1 (G 8 3) a.2.2.1 1 (nn + (a.2.2.2.length : Int))) → (∀ j : Int, j < 4 * nn → m1 234 j = m 234 j) → (nn ≤ av ∧ av < nn + (a.2.2.2.length : Int)) → (Rep (m1 234) av a.2.2.2) → (CdA (G 8 3) a.2.2.2) → (seqL (G 4) 214 (oneF G 7) f a = seqL (G 4) 214 (oneF G 7) 21 ((oneF G 7) i o)) → ((o + 1 ≤ a.2.2.1 ∧ a.2.2.1 ≤ 20) ∧ (a.2.2.2.length : Int) + 1 ≤ 2 * (a.2.2.1 - o)) → (22 + o ≤ (f : Int) + a.2.2.1) → f < n_14 → Go 0 43 mX12_readAnd (fun r m' => SaQ G t kw n lim m m' 1 nn (seqF (G 4) 214 (oneF G 7) i o) r) 14 [vr 214, vi av] [] m1 := by
        intro n_14
        induction n_14 with
        | zero => intro m1 av a f ha0 hsx hw46 hg10 htm1 hms1 hfr hav hrp hcd hsl hab hfu hmu; exact absurd hmu (Nat.not_lt_zero _)
        | succ n_14 ih_14 =>
          intro m1 av a f ha0 hsx hw46 hg10 htm1 hms1 hfr hav hrp hcd hsl hab hfu hmu
          obtain ⟨hab1, hab2⟩ := hab
          have hsu : seqL (G 4) 214 (oneF G 7) f a = if G 4 a.2.1 = 214 then (if ((oneF G 7) (a.2.1 + 1) a.2.2.1).1 ≠ 0 then ((oneF G 7) (a.2.1 + 1) a.2.2.1) else seqL (G 4) 214 (oneF G 7) (f - 1) (0, ((oneF G 7) (a.2.1 + 1) a.2.2.1).2.1, ((oneF G 7) (a.2.1 + 1) a.2.2.1).2.2.1, a.2.2.2 ++ ((oneF G 7) (a.2.1 + 1) a.2.2.1).2.2.2 ++ [(214, 0, 0)])) else a := by
            obtain ⟨g, rfl⟩ : ∃ g, f = g + 1 := ⟨f - 1, by omega⟩
            rfl
          have hPB2 := hPB (a.2.1 + 1) a.2.2.1 (by omega) (by omega)
          refine go_aload_n dX12_readAnd_14 rfl ?_
          refine go_bipush dX12_readAnd_15 (by decide) ?_
          refine go_callVp_z (as := [vi 14]) (S := []) (b := 214) (ev_X12_isWord (m := m1) (k := 14) (G := G) (t := t) (kw := kw) (n := n) (lim := lim) (i := a.2.1) htm1 (by first | assumption | omega | exact ⟨by omega, by omega⟩ | (constructor <;> omega))) rfl dX12_readAnd_17 cv_12_202 rfl rfl ob_214 rfl (by decide) (Nat.le_of_ble_eq_true rfl) (fun r_17 hr_17 ho_17 => ?_)
          refine go_if_eq (tgt := 51) dX12_readAnd_20 (by decide) ⟨by omega, by omega⟩ (fun h_20 => ?_) (fun h_20 => ?_)
          · refine go_aload_n dX12_readAnd_51 rfl ?_
            refine go_iload_n dX12_readAnd_52 rfl ?_
            refine go_putf_i (ki := 47) dX12_readAnd_53 fw_12_430 ob_214 rfl rfl ⟨by omega, by omega⟩ ?_
            refine go_iconst dX12_readAnd_56 ?_
            refine go_ret (v := 1) rfl dX12_readAnd_57 (okZ (by first | exact Or.inl rfl | exact Or.inr rfl | assumption | omega)) ?_
            have hq : seqF (G 4) 214 (oneF G 7) i o = a := by rw [seqF_e (G 4) 214, if_neg (fun z => z f_1), ← hsl, hsu, if_neg (by omega)]
            rw [SaQ, hq]
            refine ⟨hsx.w (by omega) (by omega), by rw [wr_ni (by decide)]; exact hw46, Or.inl ⟨ha0, rfl, by rw [wr_ni (by decide)]; exact hg10, htm1.w (by decide) (by omega), ⟨by rw [wr_ni (by decide)]; exact hms1.1, by rw [wr_ni (by decide)]; exact hms1.2.1, by rw [wr_ni (by decide)]; exact hms1.2.2.1, by rw [wr_row (by decide)]; exact hms1.2.2.2⟩, fun j hj => by rw [wr_na (by decide)]; exact hfr j hj, by rw [wr_self]; exact hav, by rw [wr_self, wr_row (by decide)]; exact hrp, hcd⟩⟩
          · refine go_aload_n dX12_readAnd_23 rfl ?_
            refine go_callV_v (as := []) (S := []) (b := 214) (ev_X12_go (m := m1) (G := G) (t := t) (kw := kw) (n := n) (lim := lim) (i := (a.2.1 + 1)) (htm1.nx (by omega))) rfl dX12_readAnd_24 cv_12_82 rfl rfl ob_214 rfl (by decide) (Nat.le_of_ble_eq_true rfl) (fun m_24 hr_24 => ?_)
            have l24 := hr_24.1.l
            refine go_aload_n dX12_readAnd_27 rfl ?_
            refine go_callV_z (as := []) (S := []) (b := 214) (ev_X12_one7 (m := m_24) (G := G) (t := t) (kw := kw) (n := n) (lim := lim) (i := (a.2.1 + 1)) (o := a.2.2.1) (nn := (nn + (a.2.2.2.length : Int))) hr_24.2 (by rw [(hsx.tr l24.s).1 216 (by decide) (by decide)]; exact hb) hdn (by rw [(hsx.tr l24.s).1 221 (by decide) (by decide)]; exact hnm) (hms1.l l24) (by omega) (by omega)) rfl dX12_readAnd_28 cv_12_436 rfl rfl ob_214 rfl (by decide) (Nat.le_of_ble_eq_true rfl) (fun r_28 m_28 hr_28 ho_28 => ?_)
            obtain ⟨Q, hQe⟩ : ∃ z, z = ((oneF G 7) (a.2.1 + 1) a.2.2.1) := ⟨_, rfl⟩
            rw [← hQe] at hr_28
            obtain ⟨x_28, w_28, hr_28⟩ := hr_28
            rcases hr_28 with ⟨f_28, e_28, g_28, t_28, s_28, j_28, p_28, r_28e, c_28⟩ | ⟨f_28, e_28, no_28⟩
            · refine go_if_ne (tgt := 36) dX12_readAnd_31 (by decide) ⟨by omega, by omega⟩ (fun h_31 => ?_) (fun h_31 => ?_)
              · rw [← hQe] at hPB2
                have hQ2 := hPB2 f_28
                have hln : ((a.2.2.2 ++ Q.2.2.2 ++ [((214 : Int), (0 : Int), (0 : Int))]).length : Int) = a.2.2.2.length + Q.2.2.2.length + 1 := by rw [List.length_append, List.length_append]; rfl
                have hw2 : Wf (m_24 234) (G 8 3) (nn + (a.2.2.2.length : Int)) := by rw [l24.1 234 (by decide)]; exact hms1.2.2.2
                have hrp2 : Rep (m_28 234) av a.2.2.2 := by
                  have z : Rep (m_24 234) av a.2.2.2 := by rw [l24.1 234 (by decide)]; exact hrp
                  exact z.c j_28 hw2 (by omega) (by omega)
                have hwk : Wk (nodF (m_28 234) (nn + (a.2.2.2.length : Int) + (Q.2.2.2.length : Int)) 2 av (m_28 214 47) 0) (G 8 3) (nn + (a.2.2.2.length : Int) + (Q.2.2.2.length : Int)) := by
                  obtain ⟨e0, e1, e2, e3⟩ := nodF_n (N := m_28 234) (n := nn + (a.2.2.2.length : Int) + (Q.2.2.2.length : Int)) (w := 2) (a := av) (b := m_28 214 47) (r := 0)
                  unfold Wk
                  rw [e0, e1, e2, e3]
                  right; left; omega
                have hwn := s_28.2.2.2.add (by omega) hwk
                have hrb := hrp2.bin r_28e s_28.2.2.2 (by omega) (by omega) (by omega) (by omega) (by omega) hwn
                refine go_aload_n dX12_readAnd_36 rfl ?_
                refine go_iconst dX12_readAnd_37 ?_
                refine go_iload_n dX12_readAnd_38 rfl ?_
                refine go_aload_n dX12_readAnd_39 rfl ?_
                refine go_getf_i (ki := 47) dX12_readAnd_40 fl_12_430 ob_214 rfl rfl (fun hf_40 => ?_)
                refine go_iconst dX12_readAnd_43 ?_
                refine go_callV_i (as := [vi 2, vi av, vi (m_28 214 47), vi 0]) (S := []) (b := 214) (ev_X12_saysOne (m := m_28) (w := 2) (a := av) (b := (m_28 214 47)) (s := 0) (nn := (nn + (a.2.2.2.length : Int) + (Q.2.2.2.length : Int))) s_28.2.2.1 (by omega) (by first | assumption | omega | exact ⟨by omega, by omega⟩ | (constructor <;> omega)) (by first | assumption | omega | exact ⟨by omega, by omega⟩ | (constructor <;> omega)) hf_40 (by first | assumption | omega | exact ⟨by omega, by omega⟩ | (constructor <;> omega))) rfl dX12_readAnd_44 cv_12_433 rfl rfl ob_214 rfl (by decide) (Nat.le_of_ble_eq_true rfl) (fun r_44 m_44 hr_44 ho_44 => ?_)
                obtain ⟨e_44, hm_44⟩ := hr_44
                refine go_istore_n (L' := [vr 214, vi r_44]) dX12_readAnd_47 (by decide) rfl rfl ?_
                refine go_goto (tgt := 14) dX12_readAnd_48 (by decide) ?_
                exact ih_14 m_44 r_44 (0, ((oneF G 7) (a.2.1 + 1) a.2.2.1).2.1, ((oneF G 7) (a.2.1 + 1) a.2.2.1).2.2.1, a.2.2.2 ++ ((oneF G 7) (a.2.1 + 1) a.2.2.1).2.2.2 ++ [(214, 0, 0)]) (f - 1) rfl (by rw [hm_44]; exact ((hsx.tr l24.s).tr x_28).tr nodW_s) (by rw [hm_44, nodW_214 (by decide)]; exact w_28) (by rw [hm_44, nodW_214 (by decide), g_28, hr_24.1.2 10 (by decide) (by decide) (by decide) (by decide) (by decide) (by decide)]; exact hg10) (by rw [hm_44]; show TM G t kw n lim _ ((oneF G 7) (a.2.1 + 1) a.2.2.1).2.1; rw [← hQe]; exact t_28.nod) (by show MS m_44 (G 8 3) ((oneF G 7) (a.2.1 + 1) a.2.2.1).2.2.1 1 (nn + ((a.2.2.2 ++ ((oneF G 7) (a.2.1 + 1) a.2.2.1).2.2.2 ++ [((214 : Int), (0 : Int), (0 : Int))]).length : Int)); rw [← hQe, hln, hm_44]; refine ⟨by rw [nodW_214 (by decide)]; exact s_28.1, by rw [nodW_214 (by decide)]; exact s_28.2.1, by rw [nodW_44]; omega, ?_⟩; rw [nodW_234, show nn + ((a.2.2.2.length : Int) + Q.2.2.2.length + 1) = nn + (a.2.2.2.length : Int) + (Q.2.2.2.length : Int) + 1 by omega]; exact hwn) (fun j hj => by rw [hm_44, nodW_234, nodF_o j (by omega), j_28 j (by omega), l24.1 234 (by decide)]; exact hfr j hj) (by show nn ≤ r_44 ∧ r_44 < nn + ((a.2.2.2 ++ ((oneF G 7) (a.2.1 + 1) a.2.2.1).2.2.2 ++ [((214 : Int), (0 : Int), (0 : Int))]).length : Int); rw [← hQe, hln]; omega) (by show Rep _ _ (a.2.2.2 ++ ((oneF G 7) (a.2.1 + 1) a.2.2.1).2.2.2 ++ [((214 : Int), (0 : Int), (0 : Int))]); rw [← hQe, hm_44, nodW_234, e_44]; exact hrb) (by show CdA _ (a.2.2.2 ++ ((oneF G 7) (a.2.1 + 1) a.2.2.1).2.2.2 ++ [((214 : Int), (0 : Int), (0 : Int))]); rw [← hQe]; exact (hcd.app c_28).app (CdA.k (by decide))) (by rw [← hsl, hsu, if_pos (by omega), ← hQe, if_neg (fun z => z f_28)]) (by show (o + 1 ≤ ((oneF G 7) (a.2.1 + 1) a.2.2.1).2.2.1 ∧ ((oneF G 7) (a.2.1 + 1) a.2.2.1).2.2.1 ≤ 20) ∧ ((a.2.2.2 ++ ((oneF G 7) (a.2.1 + 1) a.2.2.1).2.2.2 ++ [((214 : Int), (0 : Int), (0 : Int))]).length : Int) + 1 ≤ 2 * (((oneF G 7) (a.2.1 + 1) a.2.2.1).2.2.1 - o); rw [← hQe, hln]; omega) (by show 22 + o ≤ ((f - 1 : Nat) : Int) + ((oneF G 7) (a.2.1 + 1) a.2.2.1).2.2.1; rw [← hQe]; omega) (by omega)
              · exfalso; omega
            · refine go_if_ne (tgt := 36) dX12_readAnd_31 (by decide) ⟨by omega, by omega⟩ (fun h_31 => ?_) (fun h_31 => ?_)
              · exfalso; omega
              · refine go_iconst dX12_readAnd_34 ?_
                refine go_ret (v := 0) rfl dX12_readAnd_35 (okZ (by first | exact Or.inl rfl | exact Or.inr rfl | assumption | omega)) ?_
                have hq : seqF (G 4) 214 (oneF G 7) i o = Q := by rw [seqF_e (G 4) 214, if_neg (fun z => z f_1), ← hsl, hsu, if_pos (by omega), ← hQe, if_pos f_28]
                rw [SaQ, hq]
                exact ⟨(hsx.tr l24.s).tr x_28, w_28, Or.inr ⟨f_28, rfl, no_28⟩⟩
      exact lp_14 _ m_1 (m_1 214 47) ((oneF G 7) i o) 21 f_1 x_1 w_1 g_1 t_1 s_1 j_1 p_1 r_1e c_1 rfl ⟨⟨hR1.1, hR1.2.1⟩, hR1.2.2⟩ (by have := hR1.1; omega) (Nat.lt_succ_self _)
    · exfalso; omega
  · refine go_if_ne (tgt := 9) dX12_readAnd_4 (by decide) ⟨by omega, by omega⟩ (fun h_4 => ?_) (fun h_4 => ?_)
    · exfalso; omega
    · refine go_iconst dX12_readAnd_7 ?_
      refine go_ret (v := 0) rfl dX12_readAnd_8 (okZ (by first | exact Or.inl rfl | exact Or.inr rfl | assumption | omega)) ?_
      rw [SaQ, seqF_e (G 4) 214, if_pos f_1]
      exact ⟨x_1, w_1, Or.inr ⟨f_1, rfl, no_1⟩⟩
set_option maxRecDepth 4000 in
theorem ev_X12_con7 {m : Mem} {G : Mem} {t : Int → Int} {kw : Int → Int} {n : Int} {lim : Int} {i : Int} {o : Int} {nn : Int} (htm : TM G t kw n lim m i) (hb : Bg G 8 18 (m 216)) (hdn : DnOk G 8) (hnm : NmR G 8 (m 221)) (hms : MS m (G 8 3) o 1 nn) (ho : 0 ≤ o ∧ o ≤ 20) (hnn : 0 ≤ nn ∧ nn ≤ 2 * o) : Ev 0 44 mX12_readOr [vr 214] m (fun r m' => SaQ G t kw n lim m m' 1 nn (seqF (G 4) 213 (seqF (G 4) 214 (oneF G 7)) i o) r) := by
  refine Ev.of (L := [vr 214, un]) (by decide +kernel) rfl (Nat.le_of_ble_eq_true rfl) rfl (fun t ht => by cases ht; first | exact Or.inl rfl | exact Or.inr (Or.inl rfl) | exact Or.inr (Or.inr rfl)) (fun hcan => ?_)
  obtain ⟨hm1, hm2, hm3, hm4⟩ := id hms
  have hPB : PB (seqF (G 4) 214 (oneF G 7)) := (seqF_b (oneF_b G 7))
  refine go_aload_n dX12_readOr_0 rfl ?_
  refine go_callV_z (as := []) (S := []) (b := 214) (ev_X12_all7 (m := m) (G := G) (t := t) (kw := kw) (n := n) (lim := lim) (i := i) (o := o) (nn := nn) htm hb hdn hnm hms (by first | assumption | omega | exact ⟨by omega, by omega⟩ | (constructor <;> omega)) (by first | assumption | omega | exact ⟨by omega, by omega⟩ | (constructor <;> omega))) rfl dX12_readOr_1 cv_12_427 rfl rfl ob_214 rfl (by decide) (Nat.le_of_ble_eq_true rfl) (fun r_1 m_1 hr_1 ho_1 => ?_)
  obtain ⟨x_1, w_1, hr_1⟩ := hr_1
  rcases hr_1 with ⟨f_1, e_1, g_1, t_1, s_1, j_1, p_1, r_1e, c_1⟩ | ⟨f_1, e_1, no_1⟩
  · refine go_if_ne (tgt := 9) dX12_readOr_4 (by decide) ⟨by omega, by omega⟩ (fun h_4 => ?_) (fun h_4 => ?_)
    · have hR1 := hPB i o (by omega) (by omega) f_1
      refine go_aload_n dX12_readOr_9 rfl ?_
      refine go_getf_i (ki := 47) dX12_readOr_10 fl_12_430 ob_214 rfl rfl (fun hf_10 => ?_)
      refine go_istore_n (L' := [vr 214, vi (m_1 214 47)]) dX12_readOr_13 (by decide) rfl rfl ?_
      have lp_14 : ∀ (n_14 : Nat) (m1 : Mem) (av : Int) (a : Rs) (f : Nat), (a.1 = 0) → (Sx m m1) → (m1 214 46 = 1) → (m1 214 10 = m 214 10) → (TM G t kw n lim m1 a.2.1) → (MS m1 (G 8 3) a.2.2.1 1 (nn + (a.2.2.2.length : Int))) → (∀ j : Int, j < 4 * nn → m1 234 j = m 234 j) → (nn ≤ av ∧ av < nn + (a.2.2.2.length : Int)) → (Rep (m1 234) av a.2.2.2) → (CdA (G 8 3) a.2.2.2) → (seqL (G 4) 213 (seqF (G 4) 214 (oneF G 7)) f a = seqL (G 4) 213 (seqF (G 4) 214 (oneF G 7)) 21 ((seqF (G 4) 214 (oneF G 7)) i o)) → ((o + 1 ≤ a.2.2.1 ∧ a.2.2.1 ≤ 20) ∧ (a.2.2.2.length : Int) + 1 ≤ 2 * (a.2.2.1 - o)) → (22 + o ≤ (f : Int) + a.2.2.1) → f < n_14 → Go 0 44 mX12_readOr (fun r m' => SaQ G t kw n lim m m' 1 nn (seqF (G 4) 213 (seqF (G 4) 214 (oneF G 7)) i o) r) 14 [vr 214, vi av] [] m1 := by
        intro n_14
        induction n_14 with
        | zero => intro m1 av a f ha0 hsx hw46 hg10 htm1 hms1 hfr hav hrp hcd hsl hab hfu hmu; exact absurd hmu (Nat.not_lt_zero _)
        | succ n_14 ih_14 =>
          intro m1 av a f ha0 hsx hw46 hg10 htm1 hms1 hfr hav hrp hcd hsl hab hfu hmu
          obtain ⟨hab1, hab2⟩ := hab
          have hsu : seqL (G 4) 213 (seqF (G 4) 214 (oneF G 7)) f a = if G 4 a.2.1 = 213 then (if ((seqF (G 4) 214 (oneF G 7)) (a.2.1 + 1) a.2.2.1).1 ≠ 0 then ((seqF (G 4) 214 (oneF G 7)) (a.2.1 + 1) a.2.2.1) else seqL (G 4) 213 (seqF (G 4) 214 (oneF G 7)) (f - 1) (0, ((seqF (G 4) 214 (oneF G 7)) (a.2.1 + 1) a.2.2.1).2.1, ((seqF (G 4) 214 (oneF G 7)) (a.2.1 + 1) a.2.2.1).2.2.1, a.2.2.2 ++ ((seqF (G 4) 214 (oneF G 7)) (a.2.1 + 1) a.2.2.1).2.2.2 ++ [(213, 0, 0)])) else a := by
            obtain ⟨g, rfl⟩ : ∃ g, f = g + 1 := ⟨f - 1, by omega⟩
            rfl
          have hPB2 := hPB (a.2.1 + 1) a.2.2.1 (by omega) (by omega)
          refine go_aload_n dX12_readOr_14 rfl ?_
          refine go_bipush dX12_readOr_15 (by decide) ?_
          refine go_callVp_z (as := [vi 13]) (S := []) (b := 214) (ev_X12_isWord (m := m1) (k := 13) (G := G) (t := t) (kw := kw) (n := n) (lim := lim) (i := a.2.1) htm1 (by first | assumption | omega | exact ⟨by omega, by omega⟩ | (constructor <;> omega))) rfl dX12_readOr_17 cv_12_202 rfl rfl ob_214 rfl (by decide) (Nat.le_of_ble_eq_true rfl) (fun r_17 hr_17 ho_17 => ?_)
          refine go_if_eq (tgt := 51) dX12_readOr_20 (by decide) ⟨by omega, by omega⟩ (fun h_20 => ?_) (fun h_20 => ?_)
          · refine go_aload_n dX12_readOr_51 rfl ?_
            refine go_iload_n dX12_readOr_52 rfl ?_
            refine go_putf_i (ki := 47) dX12_readOr_53 fw_12_430 ob_214 rfl rfl ⟨by omega, by omega⟩ ?_
            refine go_iconst dX12_readOr_56 ?_
            refine go_ret (v := 1) rfl dX12_readOr_57 (okZ (by first | exact Or.inl rfl | exact Or.inr rfl | assumption | omega)) ?_
            have hq : seqF (G 4) 213 (seqF (G 4) 214 (oneF G 7)) i o = a := by rw [seqF_e (G 4) 213, if_neg (fun z => z f_1), ← hsl, hsu, if_neg (by omega)]
            rw [SaQ, hq]
            refine ⟨hsx.w (by omega) (by omega), by rw [wr_ni (by decide)]; exact hw46, Or.inl ⟨ha0, rfl, by rw [wr_ni (by decide)]; exact hg10, htm1.w (by decide) (by omega), ⟨by rw [wr_ni (by decide)]; exact hms1.1, by rw [wr_ni (by decide)]; exact hms1.2.1, by rw [wr_ni (by decide)]; exact hms1.2.2.1, by rw [wr_row (by decide)]; exact hms1.2.2.2⟩, fun j hj => by rw [wr_na (by decide)]; exact hfr j hj, by rw [wr_self]; exact hav, by rw [wr_self, wr_row (by decide)]; exact hrp, hcd⟩⟩
          · refine go_aload_n dX12_readOr_23 rfl ?_
            refine go_callV_v (as := []) (S := []) (b := 214) (ev_X12_go (m := m1) (G := G) (t := t) (kw := kw) (n := n) (lim := lim) (i := (a.2.1 + 1)) (htm1.nx (by omega))) rfl dX12_readOr_24 cv_12_82 rfl rfl ob_214 rfl (by decide) (Nat.le_of_ble_eq_true rfl) (fun m_24 hr_24 => ?_)
            have l24 := hr_24.1.l
            refine go_aload_n dX12_readOr_27 rfl ?_
            refine go_callV_z (as := []) (S := []) (b := 214) (ev_X12_all7 (m := m_24) (G := G) (t := t) (kw := kw) (n := n) (lim := lim) (i := (a.2.1 + 1)) (o := a.2.2.1) (nn := (nn + (a.2.2.2.length : Int))) hr_24.2 (by rw [(hsx.tr l24.s).1 216 (by decide) (by decide)]; exact hb) hdn (by rw [(hsx.tr l24.s).1 221 (by decide) (by decide)]; exact hnm) (hms1.l l24) (by omega) (by omega)) rfl dX12_readOr_28 cv_12_427 rfl rfl ob_214 rfl (by decide) (Nat.le_of_ble_eq_true rfl) (fun r_28 m_28 hr_28 ho_28 => ?_)
            obtain ⟨Q, hQe⟩ : ∃ z, z = ((seqF (G 4) 214 (oneF G 7)) (a.2.1 + 1) a.2.2.1) := ⟨_, rfl⟩
            rw [← hQe] at hr_28
            obtain ⟨x_28, w_28, hr_28⟩ := hr_28
            rcases hr_28 with ⟨f_28, e_28, g_28, t_28, s_28, j_28, p_28, r_28e, c_28⟩ | ⟨f_28, e_28, no_28⟩
            · refine go_if_ne (tgt := 36) dX12_readOr_31 (by decide) ⟨by omega, by omega⟩ (fun h_31 => ?_) (fun h_31 => ?_)
              · rw [← hQe] at hPB2
                have hQ2 := hPB2 f_28
                have hln : ((a.2.2.2 ++ Q.2.2.2 ++ [((213 : Int), (0 : Int), (0 : Int))]).length : Int) = a.2.2.2.length + Q.2.2.2.length + 1 := by rw [List.length_append, List.length_append]; rfl
                have hw2 : Wf (m_24 234) (G 8 3) (nn + (a.2.2.2.length : Int)) := by rw [l24.1 234 (by decide)]; exact hms1.2.2.2
                have hrp2 : Rep (m_28 234) av a.2.2.2 := by
                  have z : Rep (m_24 234) av a.2.2.2 := by rw [l24.1 234 (by decide)]; exact hrp
                  exact z.c j_28 hw2 (by omega) (by omega)
                have hwk : Wk (nodF (m_28 234) (nn + (a.2.2.2.length : Int) + (Q.2.2.2.length : Int)) 3 av (m_28 214 47) 0) (G 8 3) (nn + (a.2.2.2.length : Int) + (Q.2.2.2.length : Int)) := by
                  obtain ⟨e0, e1, e2, e3⟩ := nodF_n (N := m_28 234) (n := nn + (a.2.2.2.length : Int) + (Q.2.2.2.length : Int)) (w := 3) (a := av) (b := m_28 214 47) (r := 0)
                  unfold Wk
                  rw [e0, e1, e2, e3]
                  right; left; omega
                have hwn := s_28.2.2.2.add (by omega) hwk
                have hrb := hrp2.bin r_28e s_28.2.2.2 (by omega) (by omega) (by omega) (by omega) (by omega) hwn
                refine go_aload_n dX12_readOr_36 rfl ?_
                refine go_iconst dX12_readOr_37 ?_
                refine go_iload_n dX12_readOr_38 rfl ?_
                refine go_aload_n dX12_readOr_39 rfl ?_
                refine go_getf_i (ki := 47) dX12_readOr_40 fl_12_430 ob_214 rfl rfl (fun hf_40 => ?_)
                refine go_iconst dX12_readOr_43 ?_
                refine go_callV_i (as := [vi 3, vi av, vi (m_28 214 47), vi 0]) (S := []) (b := 214) (ev_X12_saysOne (m := m_28) (w := 3) (a := av) (b := (m_28 214 47)) (s := 0) (nn := (nn + (a.2.2.2.length : Int) + (Q.2.2.2.length : Int))) s_28.2.2.1 (by omega) (by first | assumption | omega | exact ⟨by omega, by omega⟩ | (constructor <;> omega)) (by first | assumption | omega | exact ⟨by omega, by omega⟩ | (constructor <;> omega)) hf_40 (by first | assumption | omega | exact ⟨by omega, by omega⟩ | (constructor <;> omega))) rfl dX12_readOr_44 cv_12_433 rfl rfl ob_214 rfl (by decide) (Nat.le_of_ble_eq_true rfl) (fun r_44 m_44 hr_44 ho_44 => ?_)
                obtain ⟨e_44, hm_44⟩ := hr_44
                refine go_istore_n (L' := [vr 214, vi r_44]) dX12_readOr_47 (by decide) rfl rfl ?_
                refine go_goto (tgt := 14) dX12_readOr_48 (by decide) ?_
                exact ih_14 m_44 r_44 (0, ((seqF (G 4) 214 (oneF G 7)) (a.2.1 + 1) a.2.2.1).2.1, ((seqF (G 4) 214 (oneF G 7)) (a.2.1 + 1) a.2.2.1).2.2.1, a.2.2.2 ++ ((seqF (G 4) 214 (oneF G 7)) (a.2.1 + 1) a.2.2.1).2.2.2 ++ [(213, 0, 0)]) (f - 1) rfl (by rw [hm_44]; exact ((hsx.tr l24.s).tr x_28).tr nodW_s) (by rw [hm_44, nodW_214 (by decide)]; exact w_28) (by rw [hm_44, nodW_214 (by decide), g_28, hr_24.1.2 10 (by decide) (by decide) (by decide) (by decide) (by decide) (by decide)]; exact hg10) (by rw [hm_44]; show TM G t kw n lim _ ((seqF (G 4) 214 (oneF G 7)) (a.2.1 + 1) a.2.2.1).2.1; rw [← hQe]; exact t_28.nod) (by show MS m_44 (G 8 3) ((seqF (G 4) 214 (oneF G 7)) (a.2.1 + 1) a.2.2.1).2.2.1 1 (nn + ((a.2.2.2 ++ ((seqF (G 4) 214 (oneF G 7)) (a.2.1 + 1) a.2.2.1).2.2.2 ++ [((213 : Int), (0 : Int), (0 : Int))]).length : Int)); rw [← hQe, hln, hm_44]; refine ⟨by rw [nodW_214 (by decide)]; exact s_28.1, by rw [nodW_214 (by decide)]; exact s_28.2.1, by rw [nodW_44]; omega, ?_⟩; rw [nodW_234, show nn + ((a.2.2.2.length : Int) + Q.2.2.2.length + 1) = nn + (a.2.2.2.length : Int) + (Q.2.2.2.length : Int) + 1 by omega]; exact hwn) (fun j hj => by rw [hm_44, nodW_234, nodF_o j (by omega), j_28 j (by omega), l24.1 234 (by decide)]; exact hfr j hj) (by show nn ≤ r_44 ∧ r_44 < nn + ((a.2.2.2 ++ ((seqF (G 4) 214 (oneF G 7)) (a.2.1 + 1) a.2.2.1).2.2.2 ++ [((213 : Int), (0 : Int), (0 : Int))]).length : Int); rw [← hQe, hln]; omega) (by show Rep _ _ (a.2.2.2 ++ ((seqF (G 4) 214 (oneF G 7)) (a.2.1 + 1) a.2.2.1).2.2.2 ++ [((213 : Int), (0 : Int), (0 : Int))]); rw [← hQe, hm_44, nodW_234, e_44]; exact hrb) (by show CdA _ (a.2.2.2 ++ ((seqF (G 4) 214 (oneF G 7)) (a.2.1 + 1) a.2.2.1).2.2.2 ++ [((213 : Int), (0 : Int), (0 : Int))]); rw [← hQe]; exact (hcd.app c_28).app (CdA.k (by decide))) (by rw [← hsl, hsu, if_pos (by omega), ← hQe, if_neg (fun z => z f_28)]) (by show (o + 1 ≤ ((seqF (G 4) 214 (oneF G 7)) (a.2.1 + 1) a.2.2.1).2.2.1 ∧ ((seqF (G 4) 214 (oneF G 7)) (a.2.1 + 1) a.2.2.1).2.2.1 ≤ 20) ∧ ((a.2.2.2 ++ ((seqF (G 4) 214 (oneF G 7)) (a.2.1 + 1) a.2.2.1).2.2.2 ++ [((213 : Int), (0 : Int), (0 : Int))]).length : Int) + 1 ≤ 2 * (((seqF (G 4) 214 (oneF G 7)) (a.2.1 + 1) a.2.2.1).2.2.1 - o); rw [← hQe, hln]; omega) (by show 22 + o ≤ ((f - 1 : Nat) : Int) + ((seqF (G 4) 214 (oneF G 7)) (a.2.1 + 1) a.2.2.1).2.2.1; rw [← hQe]; omega) (by omega)
              · exfalso; omega
            · refine go_if_ne (tgt := 36) dX12_readOr_31 (by decide) ⟨by omega, by omega⟩ (fun h_31 => ?_) (fun h_31 => ?_)
              · exfalso; omega
              · refine go_iconst dX12_readOr_34 ?_
                refine go_ret (v := 0) rfl dX12_readOr_35 (okZ (by first | exact Or.inl rfl | exact Or.inr rfl | assumption | omega)) ?_
                have hq : seqF (G 4) 213 (seqF (G 4) 214 (oneF G 7)) i o = Q := by rw [seqF_e (G 4) 213, if_neg (fun z => z f_1), ← hsl, hsu, if_pos (by omega), ← hQe, if_pos f_28]
                rw [SaQ, hq]
                exact ⟨(hsx.tr l24.s).tr x_28, w_28, Or.inr ⟨f_28, rfl, no_28⟩⟩
      exact lp_14 _ m_1 (m_1 214 47) ((seqF (G 4) 214 (oneF G 7)) i o) 21 f_1 x_1 w_1 g_1 t_1 s_1 j_1 p_1 r_1e c_1 rfl ⟨⟨hR1.1, hR1.2.1⟩, hR1.2.2⟩ (by have := hR1.1; omega) (Nat.lt_succ_self _)
    · exfalso; omega
  · refine go_if_ne (tgt := 9) dX12_readOr_4 (by decide) ⟨by omega, by omega⟩ (fun h_4 => ?_) (fun h_4 => ?_)
    · exfalso; omega
    · refine go_iconst dX12_readOr_7 ?_
      refine go_ret (v := 0) rfl dX12_readOr_8 (okZ (by first | exact Or.inl rfl | exact Or.inr rfl | assumption | omega)) ?_
      rw [SaQ, seqF_e (G 4) 213, if_pos f_1]
      exact ⟨x_1, w_1, Or.inr ⟨f_1, rfl, no_1⟩⟩
set_option maxRecDepth 4000 in
theorem ev_X12_not8 {m : Mem} {G : Mem} {t : Int → Int} {kw : Int → Int} {n : Int} {lim : Int} {i : Int} {o : Int} {nn : Int} (htm : TM G t kw n lim m i) (hb : Bg G 8 18 (m 216)) (hdn : DnOk G 8) (hnm : NmR G 8 (m 221)) (hms : MS m (G 8 3) o 1 nn) (ho : 1 ≤ o ∧ o ≤ 20) (hnn : 0 ≤ nn ∧ nn + 2 ≤ 2 * o) : Ev 0 44 mX12_readNot [vr 214] m (fun r m' => SaQ G t kw n lim m m' 1 nn (notF (oneF G 7) (i - 1) o) r) := by
  refine Ev.of (L := [vr 214]) (by decide +kernel) rfl (Nat.le_of_ble_eq_true rfl) rfl (fun t ht => by cases ht; first | exact Or.inl rfl | exact Or.inr (Or.inl rfl) | exact Or.inr (Or.inr rfl)) (fun hcan => ?_)
  obtain ⟨hm1, hm2, hm3, hm4⟩ := id hms
  have hni : i - 1 + 1 = i := by omega
  have hR : RB o ((oneF G 7) i o) := oneF_b G 7 i o (by omega) (by omega)
  refine go_aload_n dX12_readNot_0 rfl ?_
  refine go_callV_z (as := []) (S := []) (b := 214) (ev_X12_one7 (m := m) (G := G) (t := t) (kw := kw) (n := n) (lim := lim) (i := i) (o := o) (nn := nn) htm hb hdn hnm hms (by omega) (by omega)) rfl dX12_readNot_1 cv_12_436 rfl rfl ob_214 rfl (by decide) (Nat.le_of_ble_eq_true rfl) (fun r_1 m_1 hr_1 ho_1 => ?_)
  obtain ⟨R, hRe⟩ : ∃ z, z = (oneF G 7) i o := ⟨_, rfl⟩
  rw [← hRe] at hr_1 hR
  obtain ⟨x_1, w_1, hr_1⟩ := hr_1
  rcases hr_1 with ⟨f_1, e_1, g_1, t_1, s_1, j_1, p_1, r_1e, c_1⟩ | ⟨f_1, e_1, no_1⟩
  · refine go_if_ne (tgt := 9) dX12_readNot_4 (by decide) ⟨by omega, by omega⟩ (fun h_4 => ?_) (fun h_4 => ?_)
    · refine go_aload_n dX12_readNot_9 rfl ?_
      refine go_aload_n dX12_readNot_10 rfl ?_
      refine go_iconst dX12_readNot_11 ?_
      refine go_aload_n dX12_readNot_12 rfl ?_
      refine go_getf_i (ki := 47) dX12_readNot_13 fl_12_430 ob_214 rfl rfl (fun hf_13 => ?_)
      refine go_iconst dX12_readNot_16 ?_
      refine go_iconst dX12_readNot_17 ?_
      refine go_callV_i (as := [vi 1, vi (m_1 214 47), vi 0, vi 0]) (S := [vr 214]) (b := 214) (ev_X12_saysOne (m := m_1) (w := 1) (a := (m_1 214 47)) (b := 0) (s := 0) (nn := (nn + (R.2.2.2.length : Int))) s_1.2.2.1 (by have := hR f_1; omega) (by first | assumption | omega | exact ⟨by omega, by omega⟩ | (constructor <;> omega)) (by first | assumption | omega | exact ⟨by omega, by omega⟩ | (constructor <;> omega)) (by first | assumption | omega | exact ⟨by omega, by omega⟩ | (constructor <;> omega)) (by first | assumption | omega | exact ⟨by omega, by omega⟩ | (constructor <;> omega))) rfl dX12_readNot_18 cv_12_433 rfl rfl ob_214 rfl (by decide) (Nat.le_of_ble_eq_true rfl) (fun r_18 m_18 hr_18 ho_18 => ?_)
      obtain ⟨e_18, hm_18⟩ := hr_18
      refine go_putf_i (ki := 47) dX12_readNot_21 fw_12_430 ob_214 rfl rfl ⟨by omega, by omega⟩ ?_
      refine go_iconst dX12_readNot_24 ?_
      refine go_ret (v := 1) rfl dX12_readNot_25 (okZ (by first | exact Or.inl rfl | exact Or.inr rfl | assumption | omega)) ?_
      have hRb := hR f_1
      have hq : notF (oneF G 7) (i - 1) o = (R.1, R.2.1, R.2.2.1, R.2.2.2 ++ [(215, 0, 0)]) := by unfold notF; rw [hni, ← hRe]
      have hwk : Wk (nodF (m_1 234) (nn + (R.2.2.2.length : Int)) 1 (m_1 214 47) 0 0) (G 8 3) (nn + (R.2.2.2.length : Int)) := by
        obtain ⟨e0, e1, e2, e3⟩ := nodF_n (N := m_1 234) (n := nn + (R.2.2.2.length : Int)) (w := 1) (a := m_1 214 47) (b := 0) (r := 0)
        unfold Wk
        rw [e0, e1, e2, e3]
        left; omega
      have hwn := s_1.2.2.2.add (by omega) hwk
      have hln : ((R.2.2.2 ++ [((215 : Int), (0 : Int), (0 : Int))]).length : Int) = R.2.2.2.length + 1 := by rw [List.length_append]; rfl
      rw [SaQ, hq, hm_18]
      refine ⟨(x_1.tr nodW_s).w (by omega) (by omega), ?_, Or.inl ⟨f_1, rfl, ?_, (t_1.nod).w (by decide) (by omega), ⟨?_, ?_, ?_, ?_⟩, fun j hj => ?_, ?_, ?_, c_1.app (CdA.k (by decide))⟩⟩
      · rw [wr_ni (by decide), nodW_214 (by decide)]; exact w_1
      · rw [wr_ni (by decide), nodW_214 (by decide)]; exact g_1
      · rw [wr_ni (by decide), nodW_214 (by decide)]; exact s_1.1
      · rw [wr_ni (by decide), nodW_214 (by decide)]; exact s_1.2.1
      · rw [wr_ni (by decide), nodW_44]; show _ = nn + ((R.2.2.2 ++ [((215 : Int), (0 : Int), (0 : Int))]).length : Int); rw [hln]; omega
      · rw [wr_row (by decide), nodW_234]; show Wf _ _ (nn + ((R.2.2.2 ++ [((215 : Int), (0 : Int), (0 : Int))]).length : Int)); rw [hln, show nn + ((R.2.2.2.length : Int) + 1) = nn + (R.2.2.2.length : Int) + 1 by omega]; exact hwn
      · rw [wr_na (by decide), nodW_234, nodF_o j (by omega)]; exact j_1 j hj
      · rw [wr_self, e_18]; show nn ≤ _ ∧ _ < nn + ((R.2.2.2 ++ [((215 : Int), (0 : Int), (0 : Int))]).length : Int); rw [hln]; omega
      · rw [wr_self, e_18, wr_row (by decide), nodW_234]
        exact r_1e.not s_1.2.2.2 (by omega) (by omega) hwn
    · exfalso; omega
  · refine go_if_ne (tgt := 9) dX12_readNot_4 (by decide) ⟨by omega, by omega⟩ (fun h_4 => ?_) (fun h_4 => ?_)
    · exfalso; omega
    · refine go_iconst dX12_readNot_7 ?_
      refine go_ret (v := 0) rfl dX12_readNot_8 (okZ (by first | exact Or.inl rfl | exact Or.inr rfl | assumption | omega)) ?_
      have hq : (notF (oneF G 7) (i - 1) o).1 = R.1 ∧ (notF (oneF G 7) (i - 1) o).2.1 = R.2.1 := by unfold notF; rw [hni, ← hRe]; exact ⟨rfl, rfl⟩
      exact ⟨x_1, w_1, Or.inr ⟨by rw [hq.1]; exact f_1, rfl, by rw [hq.1]; exact no_1.1, by rw [hq.2]; exact no_1.2⟩⟩
set_option maxRecDepth 4000 in
theorem ev_X12_brk8 {m : Mem} {G : Mem} {t : Int → Int} {kw : Int → Int} {n : Int} {lim : Int} {i : Int} {o : Int} {nn : Int} (htm : TM G t kw n lim m i) (hb : Bg G 8 18 (m 216)) (hdn : DnOk G 8) (hnm : NmR G 8 (m 221)) (hms : MS m (G 8 3) o 1 nn) (ho : 1 ≤ o ∧ o ≤ 20) (hnn : 0 ≤ nn ∧ nn + 2 ≤ 2 * o) : Ev 0 45 mX12_readBracket [vr 214] m (fun r m' => SaQ G t kw n lim m m' 1 nn (brkF (G 4) (seqF (G 4) 213 (seqF (G 4) 214 (oneF G 7))) (i - 1) o) r) := by
  refine Ev.of (L := [vr 214]) (by decide +kernel) rfl (Nat.le_of_ble_eq_true rfl) rfl (fun t ht => by cases ht; first | exact Or.inl rfl | exact Or.inr (Or.inl rfl) | exact Or.inr (Or.inr rfl)) (fun hcan => ?_)
  obtain ⟨hm1, hm2, hm3, hm4⟩ := id hms
  have hni : i - 1 + 1 = i := by omega
  refine go_aload_n dX12_readBracket_0 rfl ?_
  refine go_callV_z (as := []) (S := []) (b := 214) (ev_X12_con7 (m := m) (G := G) (t := t) (kw := kw) (n := n) (lim := lim) (i := i) (o := o) (nn := nn) htm hb hdn hnm hms (by omega) (by omega)) rfl dX12_readBracket_1 cv_12_457 rfl rfl ob_214 rfl (by decide) (Nat.le_of_ble_eq_true rfl) (fun r_1 m_1 hr_1 ho_1 => ?_)
  obtain ⟨R, hRe⟩ : ∃ z, z = (seqF (G 4) 213 (seqF (G 4) 214 (oneF G 7))) i o := ⟨_, rfl⟩
  rw [← hRe] at hr_1
  obtain ⟨x_1, w_1, hr_1⟩ := hr_1
  rcases hr_1 with ⟨f_1, e_1, g_1, t_1, s_1, j_1, p_1, r_1e, c_1⟩ | ⟨f_1, e_1, no_1⟩
  · refine go_if_ne (tgt := 9) dX12_readBracket_4 (by decide) ⟨by omega, by omega⟩ (fun h_4 => ?_) (fun h_4 => ?_)
    · refine go_aload_n dX12_readBracket_9 rfl ?_
      refine go_bipush dX12_readBracket_10 (by decide) ?_
      refine go_callVp_z (as := [vi 41]) (S := []) (b := 214) (ev_X12_isSign (m := m_1) (c := 41) (G := G) (t := t) (kw := kw) (n := n) (lim := lim) (i := R.2.1) t_1 (by unfold isS; omega)) rfl dX12_readBracket_12 cv_12_86 rfl rfl ob_214 rfl (by decide) (Nat.le_of_ble_eq_true rfl) (fun r_12 hr_12 ho_12 => ?_)
      refine go_if_ne (tgt := 24) dX12_readBracket_15 (by decide) ⟨by omega, by omega⟩ (fun h_15 => ?_) (fun h_15 => ?_)
      · refine go_aload_n dX12_readBracket_24 rfl ?_
        refine go_callV_v (as := []) (S := []) (b := 214) (ev_X12_go (m := m_1) (G := G) (t := t) (kw := kw) (n := n) (lim := lim) (i := (R.2.1 + 1)) (t_1.nx (by omega))) rfl dX12_readBracket_25 cv_12_82 rfl rfl ob_214 rfl (by decide) (Nat.le_of_ble_eq_true rfl) (fun m_25 hr_25 => ?_)
        refine go_iconst dX12_readBracket_28 ?_
        refine go_ret (v := 1) rfl dX12_readBracket_29 (okZ (by first | exact Or.inl rfl | exact Or.inr rfl | assumption | omega)) ?_
        have hq : brkF (G 4) (seqF (G 4) 213 (seqF (G 4) 214 (oneF G 7))) (i - 1) o = (0, R.2.1 + 1, R.2.2.1, R.2.2.2) := by unfold brkF; rw [hni, ← hRe, if_neg (fun z => z f_1), if_pos (by omega)]
        have hl := hr_25.1.l
        rw [SaQ, hq]
        refine ⟨x_1.tr hl.s, by rw [hl.2 46 (by omega)]; exact w_1, Or.inl ⟨rfl, rfl, ?_, hr_25.2, s_1.l hl, fun j hj => ?_, ?_, ?_, c_1⟩⟩
        · rw [hr_25.1.2 10 (by decide) (by decide) (by decide) (by decide) (by decide) (by decide)]; exact g_1
        · rw [hl.1 234 (by decide)]; exact j_1 j hj
        · rw [hl.2 47 (by omega)]; exact p_1
        · rw [hl.2 47 (by omega), hl.1 234 (by decide)]; exact r_1e
      · refine go_aload_n dX12_readBracket_18 rfl ?_
        refine go_iconst dX12_readBracket_19 ?_
        refine go_callV_z (as := [vi 1]) (S := []) (b := 214) (ev_X12_bad (m := m_1) (k := 1) (G := G) (t := t) (kw := kw) (n := n) (lim := lim) (i := R.2.1) t_1 (by first | assumption | omega | exact ⟨by omega, by omega⟩ | (constructor <;> omega))) rfl dX12_readBracket_20 cv_12_72 rfl rfl ob_214 rfl (by decide) (Nat.le_of_ble_eq_true rfl) (fun r_20 m_20 hr_20 ho_20 => ?_)
        refine go_ret (v := r_20) rfl dX12_readBracket_23 (okZ (by first | exact Or.inl rfl | exact Or.inr rfl | assumption | omega)) ?_
        have hq : brkF (G 4) (seqF (G 4) 213 (seqF (G 4) 214 (oneF G 7))) (i - 1) o = (1, R.2.1, 0, []) := by unfold brkF; rw [hni, ← hRe, if_neg (fun z => z f_1), if_neg (by omega)]
        have z := NoT.b (G := G) (m := m_1) (m' := m_20) (f := 1) (i := R.2.1) (by rw [hr_20.2]; congr 2; split <;> rfl)
        rw [SaQ, hq]
        exact ⟨x_1.tr z.1.s, by rw [z.1.2 46 (by omega)]; exact w_1, Or.inr ⟨(show (1 : Int) ≠ 0 by decide), hr_20.1, z.2.1, z.2.2⟩⟩
    · exfalso; omega
  · refine go_if_ne (tgt := 9) dX12_readBracket_4 (by decide) ⟨by omega, by omega⟩ (fun h_4 => ?_) (fun h_4 => ?_)
    · exfalso; omega
    · refine go_iconst dX12_readBracket_7 ?_
      refine go_ret (v := 0) rfl dX12_readBracket_8 (okZ (by first | exact Or.inl rfl | exact Or.inr rfl | assumption | omega)) ?_
      have hq : brkF (G 4) (seqF (G 4) 213 (seqF (G 4) 214 (oneF G 7))) (i - 1) o = R := by unfold brkF; rw [hni, ← hRe, if_pos f_1]
      rw [SaQ, hq]
      exact ⟨x_1, w_1, Or.inr ⟨f_1, rfl, no_1⟩⟩
set_option maxRecDepth 4000 in
theorem ev_X12_one8 {m : Mem} {G : Mem} {t : Int → Int} {kw : Int → Int} {n : Int} {lim : Int} {i : Int} {o : Int} {nn : Int} (htm : TM G t kw n lim m i) (hb : Bg G 8 18 (m 216)) (hdn : DnOk G 8) (hnm : NmR G 8 (m 221)) (hms : MS m (G 8 3) o 0 nn) (ho : 0 ≤ o ∧ o ≤ 20) (hnn : 0 ≤ nn ∧ nn ≤ 2 * o) : Ev 0 46 mX12_readSaid [vr 214] m (fun r m' => SaQ G t kw n lim m m' 0 nn (oneF G 8 i o) r) := by
  refine Ev.of (L := [vr 214, un, un, un]) (by decide +kernel) rfl (Nat.le_of_ble_eq_true rfl) rfl (fun t ht => by cases ht; first | exact Or.inl rfl | exact Or.inr (Or.inl rfl) | exact Or.inr (Or.inr rfl)) (fun hcan => ?_)
  obtain ⟨hm1, hm2, hm3, hm4⟩ := id hms
  have hkd := htm.kd
  refine go_aload_n dX12_readSaid_0 rfl ?_
  refine go_bipush dX12_readSaid_1 (by decide) ?_
  refine go_callVp_z (as := [vi 40]) (S := []) (b := 214) (ev_X12_isSign (m := m) (c := 40) (G := G) (t := t) (kw := kw) (n := n) (lim := lim) (i := i) htm (by unfold isS; omega)) rfl dX12_readSaid_3 cv_12_86 rfl rfl ob_214 rfl (by decide) (Nat.le_of_ble_eq_true rfl) (fun r_3 hr_3 ho_3 => ?_)
  refine go_istore_n (L' := [vr 214, vi r_3, un, un]) dX12_readSaid_6 (by decide) rfl rfl ?_
  refine go_bipush dX12_readSaid_7 (by decide) ?_
  refine go_istore_n (L' := [vr 214, vi r_3, vi 15, un]) dX12_readSaid_9 (by decide) rfl rfl ?_
  have lp_10 : ∀ (n_10 : Nat) (w : Int) , (15 ≤ w) → (w ≤ 25) → (∀ j : Int, 15 ≤ j → j < w → G 4 i ≠ 200 + j) → (25 - w).toNat < n_10 → Go 0 46 mX12_readSaid (fun r m' => SaQ G t kw n lim m m' 0 nn (oneF G 8 i o) r) 10 [vr 214, vi r_3, vi w, un] [] m := by
    intro n_10
    induction n_10 with
    | zero => intro w hw0 hw1 hno hmu; exact absurd hmu (Nat.not_lt_zero _)
    | succ n_10 ih_10 =>
      intro w hw0 hw1 hno hmu
      refine go_iload_n dX12_readSaid_10 rfl ?_
      have cut_30 :  ((w ≤ 24 ∧ G 4 i = 200 + w) ∨ (w = 25 ∧ ¬ (215 ≤ G 4 i ∧ G 4 i ≤ 224))) → Go 0 46 mX12_readSaid (fun r m' => SaQ G t kw n lim m m' 0 nn (oneF G 8 i o) r) 30 [vr 214, vi r_3, vi w, un] [] m := by
        intro hww
        refine go_iload_n dX12_readSaid_30 rfl ?_
        have cut_46 :  (G 4 i = 40 ∨ (215 ≤ G 4 i ∧ G 4 i ≤ 224)) → Go 0 46 mX12_readSaid (fun r m' => SaQ G t kw n lim m m' 0 nn (oneF G 8 i o) r) 46 [vr 214, vi r_3, vi w, un] [] m := by
          intro hst
          refine go_aload_n dX12_readSaid_46 rfl ?_
          refine go_getf_i (ki := 45) dX12_readSaid_47 fl_12_439 ob_214 rfl rfl (fun hf_47 => ?_)
          rw [show (m 214 45 : Int) = o from hm1] at hf_47 ⊢
          refine go_bipush dX12_readSaid_50 (by decide) ?_
          refine go_icmp_eq (tgt := 64) dX12_readSaid_52 (by decide) ⟨by omega, by omega⟩ ⟨by omega, by omega⟩ (fun h_52 => ?_) (fun h_52 => ?_)
          · refine go_aload_n dX12_readSaid_64 rfl ?_
            refine go_iconst dX12_readSaid_65 ?_
            refine go_callV_z (as := [vi 4]) (S := []) (b := 214) (ev_X12_bad (m := m) (k := 4) (G := G) (t := t) (kw := kw) (n := n) (lim := lim) (i := i) htm (by first | assumption | omega | exact ⟨by omega, by omega⟩ | (constructor <;> omega))) rfl dX12_readSaid_66 cv_12_72 rfl rfl ob_214 rfl (by decide) (Nat.le_of_ble_eq_true rfl) (fun r_66 m_66 hr_66 ho_66 => ?_)
            refine go_ret (v := r_66) rfl dX12_readSaid_69 (okZ (by first | exact Or.inl rfl | exact Or.inr rfl | assumption | omega)) ?_
            have hq : oneF G 8 i o = (4, i, o, []) := by unfold oneF; rw [if_neg (by omega), if_pos (by omega)]
            have z := NoT.b (G := G) (m := m) (m' := m_66) (f := 4) (i := i) (by rw [hr_66.2, if_neg (by omega)])
            rw [SaQ, hq]
            exact ⟨z.1.s, by rw [z.1.2 46 (by omega)]; exact hm2, Or.inr ⟨(show (4 : Int) ≠ 0 by decide), hr_66.1, z.2.1, z.2.2⟩⟩
          · refine go_aload_n dX12_readSaid_55 rfl ?_
            refine go_getf_i (ki := 46) dX12_readSaid_56 fl_12_442 ob_214 rfl rfl (fun hf_56 => ?_)
            rw [show (m 214 46 : Int) = 0 from hm2] at hf_56 ⊢
            refine go_bipush dX12_readSaid_59 (by decide) ?_
            refine go_icmp_ne (tgt := 70) dX12_readSaid_61 (by decide) ⟨by omega, by omega⟩ ⟨by omega, by omega⟩ (fun h_61 => ?_) (fun h_61 => ?_)
            · refine go_aload_n dX12_readSaid_70 rfl ?_
              refine go_dup_r dX12_readSaid_71 ?_
              refine go_getf_i (ki := 45) dX12_readSaid_72 fl_12_439 ob_214 rfl rfl (fun hf_72 => ?_)
              rw [show (m 214 45 : Int) = o from hm1] at hf_72 ⊢
              refine go_iconst dX12_readSaid_75 ?_
              refine go_iadd dX12_readSaid_76 ?_
              refine go_putf_i (ki := 45) dX12_readSaid_77 fw_12_439 ob_214 rfl rfl ⟨by omega, by omega⟩ ?_
              refine go_aload_n dX12_readSaid_80 rfl ?_
              refine go_dup_r dX12_readSaid_81 ?_
              refine go_getf_i (ki := 46) dX12_readSaid_82 fl_12_442 ob_214 rfl rfl (fun hf_82 => ?_)
              rw [show ((wr m 214 45 (o + 1)) 214 46 : Int) = 0 from by rw [wr_ni (by decide)]; exact hm2] at hf_82 ⊢
              refine go_iconst dX12_readSaid_85 ?_
              refine go_iadd dX12_readSaid_86 ?_
              refine go_putf_i (ki := 46) dX12_readSaid_87 fw_12_442 ob_214 rfl rfl ⟨by omega, by omega⟩ ?_
              refine go_aload_n dX12_readSaid_90 rfl ?_
              refine go_callV_v (as := []) (S := []) (b := 214) (ev_X12_go (m := (wr (wr m 214 45 (o + 1)) 214 46 (0 + 1))) (G := G) (t := t) (kw := kw) (n := n) (lim := lim) (i := (i + 1)) (((htm.nx (by omega)).w (by decide) (by omega)).w (by decide) (by omega))) rfl dX12_readSaid_91 cv_12_82 rfl rfl ob_214 rfl (by decide) (Nat.le_of_ble_eq_true rfl) (fun m_91 hr_91 => ?_)
              have l91 := hr_91.1.l
              have s91 : Sx m m_91 := ((Sx.rf.w (by omega) (by omega)).w (by omega) (by omega)).tr l91.s
              have g91 : m_91 214 10 = m 214 10 := by rw [hr_91.1.2 10 (by decide) (by decide) (by decide) (by decide) (by decide) (by decide), wr_ni (by decide), wr_ni (by decide)]
              have n91 : m_91 234 = m 234 := by rw [l91.1 234 (by decide), wr_row (by decide), wr_row (by decide)]
              have ms91 : MS m_91 (G 8 3) (o + 1) 1 nn := ⟨by rw [l91.2 45 (by omega), wr_ni (by decide), wr_self], by rw [l91.2 46 (by omega), wr_self]; rfl, by rw [l91.2 44 (by omega), wr_ni (by decide), wr_ni (by decide)]; exact hm3, by rw [n91]; exact hm4⟩
              have b91 : Bg G 8 18 (m_91 216) := by rw [s91.1 216 (by decide) (by decide)]; exact hb
              have nm91 : NmR G 8 (m_91 221) := by rw [s91.1 221 (by decide) (by decide)]; exact hnm
              have hi1 : i + 1 - 1 = i := by omega
              refine go_iconst dX12_readSaid_94 ?_
              refine go_istore_n (L' := [vr 214, vi r_3, vi w, vi 1]) dX12_readSaid_95 (by decide) rfl rfl ?_
              have cut_166 : ∀ (mx : Mem) (gd : Int) , (gd = 0 ∨ gd = 1) → (SaQ G t kw n lim m_91 mx 1 nn (oneF G 8 i o) gd) → Go 0 46 mX12_readSaid (fun r m' => SaQ G t kw n lim m m' 0 nn (oneF G 8 i o) r) 166 [vr 214, un, un, vi gd] [] mx := by
                intro mx gd hgd hsq
                refine go_aload_n dX12_readSaid_166 rfl ?_
                refine go_dup_r dX12_readSaid_167 ?_
                refine go_getf_i (ki := 46) dX12_readSaid_168 fl_12_442 ob_214 rfl rfl (fun hf_168 => ?_)
                rw [show (mx 214 46 : Int) = 1 from hsq.2.1] at hf_168 ⊢
                refine go_iconst dX12_readSaid_171 ?_
                refine go_isub dX12_readSaid_172 ?_
                refine go_putf_i (ki := 46) dX12_readSaid_173 fw_12_442 ob_214 rfl rfl ⟨by omega, by omega⟩ ?_
                refine go_iload_n dX12_readSaid_176 rfl ?_
                refine go_ret (v := gd) rfl dX12_readSaid_177 (okZ hgd) ?_
                obtain ⟨a, b, c⟩ := hsq
                refine ⟨(s91.tr a).w (by omega) (by omega), wr_self _ _ _ _, ?_⟩
                rcases c with ⟨f, e, g, t_, s, j_, p_, r_, c_⟩ | ⟨f, e, no⟩
                · refine Or.inl ⟨f, e, ?_, t_.w (by decide) (by omega), ⟨?_, wr_self _ _ _ _, ?_, ?_⟩, fun j hj => ?_, ?_, ?_, c_⟩
                  · rw [wr_ni (by decide), g]; exact g91
                  · rw [wr_ni (by decide)]; exact s.1
                  · rw [wr_ni (by decide)]; exact s.2.2.1
                  · rw [wr_row (by decide)]; exact s.2.2.2
                  · rw [wr_na (by decide), j_ j hj, n91]
                  · rw [wr_ni (by decide)]; exact p_
                  · rw [wr_ni (by decide), wr_row (by decide)]; exact r_
                · exact Or.inr ⟨f, e, by rw [wr_ni (by decide)]; exact no.1, by rw [wr_ni (by decide)]; exact no.2⟩
              refine go_iload_n dX12_readSaid_96 rfl ?_
              refine go_if_eq (tgt := 108) dX12_readSaid_97 (by decide) ⟨by omega, by omega⟩ (fun h_97 => ?_) (fun h_97 => ?_)
              · refine go_iload_n dX12_readSaid_108 rfl ?_
                refine go_bipush dX12_readSaid_109 (by decide) ?_
                refine go_icmp_ne (tgt := 122) dX12_readSaid_111 (by decide) ⟨by omega, by omega⟩ ⟨by omega, by omega⟩ (fun h_111 => ?_) (fun h_111 => ?_)
                · refine go_iload_n dX12_readSaid_122 rfl ?_
                  refine go_bipush dX12_readSaid_123 (by decide) ?_
                  refine go_icmp_ge (tgt := 146) dX12_readSaid_125 (by decide) ⟨by omega, by omega⟩ ⟨by omega, by omega⟩ (fun h_125 => ?_) (fun h_125 => ?_)
                  · refine go_iload_n dX12_readSaid_146 rfl ?_
                    refine go_bipush dX12_readSaid_147 (by decide) ?_
                    refine go_icmp_ge (tgt := 160) dX12_readSaid_149 (by decide) ⟨by omega, by omega⟩ ⟨by omega, by omega⟩ (fun h_149 => ?_) (fun h_149 => ?_)
                    · refine go_aload_n dX12_readSaid_160 rfl ?_
                      refine go_iload_n dX12_readSaid_161 rfl ?_
                      refine go_callV_z (as := [vi w]) (S := []) (b := 214) (ev_X12_readCompare (m := m_91) (w := w) (G := G) (t := t) (kw := kw) (n := n) (lim := lim) (i := (i + 1)) (o := (o + 1)) (wi := 1) (nn := nn) hr_91.2 b91 hdn ms91 (by omega) (by omega) (by omega) (by rw [hi1]; omega)) rfl dX12_readSaid_162 cv_12_454 rfl rfl ob_214 rfl (by decide) (Nat.le_of_ble_eq_true rfl) (fun r_162 m_162 hr_162 ho_162 => ?_)
                      rw [hi1] at hr_162
                      refine go_istore_n (L' := [vr 214, vi r_3, vi w, vi r_162]) dX12_readSaid_165 (by decide) rfl rfl ?_
                      refine go_drop (j := 1) (L' := [vr 214, un, vi w, vi r_162]) rfl ?_
                      refine go_drop (j := 2) (L' := [vr 214, un, un, vi r_162]) rfl ?_
                      exact cut_166 m_162 r_162 (by first | assumption | rfl | omega) (by
                            first
                            | (rw [show oneF G 8 i o = brkF (G 4) (seqF (G 4) 213 (seqF (G 4) 214 (oneF G 7))) i (o + 1) by unfold oneF; rw [if_neg (by omega), if_neg (by omega), if_neg (by omega), if_pos (by omega)]]; exact hr_101)
                            | (rw [show oneF G 8 i o = notF (oneF G 7) i (o + 1) by unfold oneF; rw [if_neg (by omega), if_neg (by omega), if_pos (by omega)]]; exact hr_115)
                            | (rw [show oneF G 8 i o = namF G i (o + 1) by unfold oneF; rw [if_neg (by omega), if_neg (by omega), if_neg (by omega), if_neg (by omega), if_pos (by omega)]]; exact hr_154)
                            | (rw [show oneF G 8 i o = cmpF G i (o + 1) by unfold oneF; rw [if_neg (by omega), if_neg (by omega), if_neg (by omega), if_neg (by omega), if_neg (by omega), if_pos (by omega)]]; exact hr_162)
                            | (have hwk : Wk (nodF (m_91 234) nn (50 + w) 0 0 0) (G 8 3) nn := (by
                                 obtain ⟨e0, e1, e2, e3⟩ := nodF_n (N := m_91 234) (n := nn) (w := 50 + w) (a := 0) (b := 0) (r := 0)
                                 unfold Wk
                                 rw [e0, e1, e2, e3]
                                 right; right; left; omega)
                               have hwn := ms91.2.2.2.add (by omega) hwk
                               rw [SaQ, show oneF G 8 i o = (0, i + 1, o + 1, [(G 4 i, 0, 0)]) by unfold oneF; rw [if_neg (by omega), if_neg (by omega), if_neg (by omega), if_neg (by omega), if_neg (by omega), if_neg (by omega)], hm_137]
                               refine ⟨nodW_s.w (by omega) (by omega), ?_, Or.inl ⟨rfl, rfl, ?_, (hr_91.2.nod).w (by decide) (by omega), ⟨?_, ?_, ?_, ?_⟩, fun j hj => ?_, ?_, ?_, CdA.k (by omega)⟩⟩
                               · rw [wr_ni (by decide), nodW_214 (by decide)]; exact ms91.2.1
                               · rw [wr_ni (by decide), nodW_214 (by decide)]
                               · rw [wr_ni (by decide), nodW_214 (by decide)]; exact ms91.1
                               · rw [wr_ni (by decide), nodW_214 (by decide)]; exact ms91.2.1
                               · rw [wr_ni (by decide), nodW_44]; rfl
                               · rw [wr_row (by decide), nodW_234]; exact hwn
                               · rw [wr_na (by decide), nodW_234, nodF_o j hj]
                               · rw [wr_self, e_137]; show nn ≤ nn ∧ nn < nn + 1; omega
                               · rw [wr_self, e_137, wr_row (by decide), nodW_234]
                                 refine Rep.leaf (by omega) (by omega) ?_
                                 rw [if_pos (by omega), show 50 + w + 150 = 200 + w by omega]
                                 rw [show G 4 i = 200 + w by omega]))
                    · refine go_aload_n dX12_readSaid_152 rfl ?_
                      refine go_iload_n dX12_readSaid_153 rfl ?_
                      refine go_callV_z (as := [vi w]) (S := []) (b := 214) (ev_X12_readOf (m := m_91) (w := w) (G := G) (t := t) (kw := kw) (n := n) (lim := lim) (i := (i + 1)) (o := (o + 1)) (wi := 1) (nn := nn) hr_91.2 b91 hdn nm91 ms91 (by omega) (by omega) (by omega) (by rw [hi1]; omega)) rfl dX12_readSaid_154 cv_12_451 rfl rfl ob_214 rfl (by decide) (Nat.le_of_ble_eq_true rfl) (fun r_154 m_154 hr_154 ho_154 => ?_)
                      rw [hi1] at hr_154
                      refine go_goto (tgt := 165) dX12_readSaid_157 (by decide) ?_
                      refine go_istore_n (L' := [vr 214, vi r_3, vi w, vi r_154]) dX12_readSaid_165 (by decide) rfl rfl ?_
                      refine go_drop (j := 1) (L' := [vr 214, un, vi w, vi r_154]) rfl ?_
                      refine go_drop (j := 2) (L' := [vr 214, un, un, vi r_154]) rfl ?_
                      exact cut_166 m_154 r_154 (by first | assumption | rfl | omega) (by
                            first
                            | (rw [show oneF G 8 i o = brkF (G 4) (seqF (G 4) 213 (seqF (G 4) 214 (oneF G 7))) i (o + 1) by unfold oneF; rw [if_neg (by omega), if_neg (by omega), if_neg (by omega), if_pos (by omega)]]; exact hr_101)
                            | (rw [show oneF G 8 i o = notF (oneF G 7) i (o + 1) by unfold oneF; rw [if_neg (by omega), if_neg (by omega), if_pos (by omega)]]; exact hr_115)
                            | (rw [show oneF G 8 i o = namF G i (o + 1) by unfold oneF; rw [if_neg (by omega), if_neg (by omega), if_neg (by omega), if_neg (by omega), if_pos (by omega)]]; exact hr_154)
                            | (rw [show oneF G 8 i o = cmpF G i (o + 1) by unfold oneF; rw [if_neg (by omega), if_neg (by omega), if_neg (by omega), if_neg (by omega), if_neg (by omega), if_pos (by omega)]]; exact hr_162)
                            | (have hwk : Wk (nodF (m_91 234) nn (50 + w) 0 0 0) (G 8 3) nn := (by
                                 obtain ⟨e0, e1, e2, e3⟩ := nodF_n (N := m_91 234) (n := nn) (w := 50 + w) (a := 0) (b := 0) (r := 0)
                                 unfold Wk
                                 rw [e0, e1, e2, e3]
                                 right; right; left; omega)
                               have hwn := ms91.2.2.2.add (by omega) hwk
                               rw [SaQ, show oneF G 8 i o = (0, i + 1, o + 1, [(G 4 i, 0, 0)]) by unfold oneF; rw [if_neg (by omega), if_neg (by omega), if_neg (by omega), if_neg (by omega), if_neg (by omega), if_neg (by omega)], hm_137]
                               refine ⟨nodW_s.w (by omega) (by omega), ?_, Or.inl ⟨rfl, rfl, ?_, (hr_91.2.nod).w (by decide) (by omega), ⟨?_, ?_, ?_, ?_⟩, fun j hj => ?_, ?_, ?_, CdA.k (by omega)⟩⟩
                               · rw [wr_ni (by decide), nodW_214 (by decide)]; exact ms91.2.1
                               · rw [wr_ni (by decide), nodW_214 (by decide)]
                               · rw [wr_ni (by decide), nodW_214 (by decide)]; exact ms91.1
                               · rw [wr_ni (by decide), nodW_214 (by decide)]; exact ms91.2.1
                               · rw [wr_ni (by decide), nodW_44]; rfl
                               · rw [wr_row (by decide), nodW_234]; exact hwn
                               · rw [wr_na (by decide), nodW_234, nodF_o j hj]
                               · rw [wr_self, e_137]; show nn ≤ nn ∧ nn < nn + 1; omega
                               · rw [wr_self, e_137, wr_row (by decide), nodW_234]
                                 refine Rep.leaf (by omega) (by omega) ?_
                                 rw [if_pos (by omega), show 50 + w + 150 = 200 + w by omega]
                                 rw [show G 4 i = 200 + w by omega]))
                  · refine go_aload_n dX12_readSaid_128 rfl ?_
                    refine go_aload_n dX12_readSaid_129 rfl ?_
                    refine go_bipush dX12_readSaid_130 (by decide) ?_
                    refine go_iload_n dX12_readSaid_132 rfl ?_
                    refine go_iadd dX12_readSaid_133 ?_
                    refine go_iconst dX12_readSaid_134 ?_
                    refine go_iconst dX12_readSaid_135 ?_
                    refine go_iconst dX12_readSaid_136 ?_
                    refine go_callV_i (as := [vi (50 + w), vi 0, vi 0, vi 0]) (S := [vr 214]) (b := 214) (ev_X12_saysOne (m := m_91) (w := (50 + w)) (a := 0) (b := 0) (s := 0) (nn := nn) ms91.2.2.1 (by omega) (by first | assumption | omega | exact ⟨by omega, by omega⟩ | (constructor <;> omega)) (by first | assumption | omega | exact ⟨by omega, by omega⟩ | (constructor <;> omega)) (by first | assumption | omega | exact ⟨by omega, by omega⟩ | (constructor <;> omega)) (by first | assumption | omega | exact ⟨by omega, by omega⟩ | (constructor <;> omega))) rfl dX12_readSaid_137 cv_12_433 rfl rfl ob_214 rfl (by decide) (Nat.le_of_ble_eq_true rfl) (fun r_137 m_137 hr_137 ho_137 => ?_)
                    obtain ⟨e_137, hm_137⟩ := hr_137
                    refine go_putf_i (ki := 47) dX12_readSaid_140 fw_12_430 ob_214 rfl rfl ⟨by omega, by omega⟩ ?_
                    refine go_goto (tgt := 166) dX12_readSaid_143 (by decide) ?_
                    refine go_drop (j := 1) (L' := [vr 214, un, vi w, vi 1]) rfl ?_
                    refine go_drop (j := 2) (L' := [vr 214, un, un, vi 1]) rfl ?_
                    exact cut_166 (wr m_137 214 47 r_137) 1 (by first | assumption | rfl | omega) (by
                          first
                          | (rw [show oneF G 8 i o = brkF (G 4) (seqF (G 4) 213 (seqF (G 4) 214 (oneF G 7))) i (o + 1) by unfold oneF; rw [if_neg (by omega), if_neg (by omega), if_neg (by omega), if_pos (by omega)]]; exact hr_101)
                          | (rw [show oneF G 8 i o = notF (oneF G 7) i (o + 1) by unfold oneF; rw [if_neg (by omega), if_neg (by omega), if_pos (by omega)]]; exact hr_115)
                          | (rw [show oneF G 8 i o = namF G i (o + 1) by unfold oneF; rw [if_neg (by omega), if_neg (by omega), if_neg (by omega), if_neg (by omega), if_pos (by omega)]]; exact hr_154)
                          | (rw [show oneF G 8 i o = cmpF G i (o + 1) by unfold oneF; rw [if_neg (by omega), if_neg (by omega), if_neg (by omega), if_neg (by omega), if_neg (by omega), if_pos (by omega)]]; exact hr_162)
                          | (have hwk : Wk (nodF (m_91 234) nn (50 + w) 0 0 0) (G 8 3) nn := (by
                               obtain ⟨e0, e1, e2, e3⟩ := nodF_n (N := m_91 234) (n := nn) (w := 50 + w) (a := 0) (b := 0) (r := 0)
                               unfold Wk
                               rw [e0, e1, e2, e3]
                               right; right; left; omega)
                             have hwn := ms91.2.2.2.add (by omega) hwk
                             rw [SaQ, show oneF G 8 i o = (0, i + 1, o + 1, [(G 4 i, 0, 0)]) by unfold oneF; rw [if_neg (by omega), if_neg (by omega), if_neg (by omega), if_neg (by omega), if_neg (by omega), if_neg (by omega)], hm_137]
                             refine ⟨nodW_s.w (by omega) (by omega), ?_, Or.inl ⟨rfl, rfl, ?_, (hr_91.2.nod).w (by decide) (by omega), ⟨?_, ?_, ?_, ?_⟩, fun j hj => ?_, ?_, ?_, CdA.k (by omega)⟩⟩
                             · rw [wr_ni (by decide), nodW_214 (by decide)]; exact ms91.2.1
                             · rw [wr_ni (by decide), nodW_214 (by decide)]
                             · rw [wr_ni (by decide), nodW_214 (by decide)]; exact ms91.1
                             · rw [wr_ni (by decide), nodW_214 (by decide)]; exact ms91.2.1
                             · rw [wr_ni (by decide), nodW_44]; rfl
                             · rw [wr_row (by decide), nodW_234]; exact hwn
                             · rw [wr_na (by decide), nodW_234, nodF_o j hj]
                             · rw [wr_self, e_137]; show nn ≤ nn ∧ nn < nn + 1; omega
                             · rw [wr_self, e_137, wr_row (by decide), nodW_234]
                               refine Rep.leaf (by omega) (by omega) ?_
                               rw [if_pos (by omega), show 50 + w + 150 = 200 + w by omega]
                               rw [show G 4 i = 200 + w by omega]))
                · refine go_aload_n dX12_readSaid_114 rfl ?_
                  refine go_callV_z (as := []) (S := []) (b := 214) (ev_X12_not8 (m := m_91) (G := G) (t := t) (kw := kw) (n := n) (lim := lim) (i := (i + 1)) (o := (o + 1)) (nn := nn) hr_91.2 b91 hdn nm91 ms91 (by omega) (by omega)) rfl dX12_readSaid_115 cv_12_448 rfl rfl ob_214 rfl (by decide) (Nat.le_of_ble_eq_true rfl) (fun r_115 m_115 hr_115 ho_115 => ?_)
                  rw [hi1] at hr_115
                  refine go_istore_n (L' := [vr 214, vi r_3, vi w, vi r_115]) dX12_readSaid_118 (by decide) rfl rfl ?_
                  refine go_goto (tgt := 166) dX12_readSaid_119 (by decide) ?_
                  refine go_drop (j := 1) (L' := [vr 214, un, vi w, vi r_115]) rfl ?_
                  refine go_drop (j := 2) (L' := [vr 214, un, un, vi r_115]) rfl ?_
                  exact cut_166 m_115 r_115 (by first | assumption | rfl | omega) (by
                        first
                        | (rw [show oneF G 8 i o = brkF (G 4) (seqF (G 4) 213 (seqF (G 4) 214 (oneF G 7))) i (o + 1) by unfold oneF; rw [if_neg (by omega), if_neg (by omega), if_neg (by omega), if_pos (by omega)]]; exact hr_101)
                        | (rw [show oneF G 8 i o = notF (oneF G 7) i (o + 1) by unfold oneF; rw [if_neg (by omega), if_neg (by omega), if_pos (by omega)]]; exact hr_115)
                        | (rw [show oneF G 8 i o = namF G i (o + 1) by unfold oneF; rw [if_neg (by omega), if_neg (by omega), if_neg (by omega), if_neg (by omega), if_pos (by omega)]]; exact hr_154)
                        | (rw [show oneF G 8 i o = cmpF G i (o + 1) by unfold oneF; rw [if_neg (by omega), if_neg (by omega), if_neg (by omega), if_neg (by omega), if_neg (by omega), if_pos (by omega)]]; exact hr_162)
                        | (have hwk : Wk (nodF (m_91 234) nn (50 + w) 0 0 0) (G 8 3) nn := (by
                             obtain ⟨e0, e1, e2, e3⟩ := nodF_n (N := m_91 234) (n := nn) (w := 50 + w) (a := 0) (b := 0) (r := 0)
                             unfold Wk
                             rw [e0, e1, e2, e3]
                             right; right; left; omega)
                           have hwn := ms91.2.2.2.add (by omega) hwk
                           rw [SaQ, show oneF G 8 i o = (0, i + 1, o + 1, [(G 4 i, 0, 0)]) by unfold oneF; rw [if_neg (by omega), if_neg (by omega), if_neg (by omega), if_neg (by omega), if_neg (by omega), if_neg (by omega)], hm_137]
                           refine ⟨nodW_s.w (by omega) (by omega), ?_, Or.inl ⟨rfl, rfl, ?_, (hr_91.2.nod).w (by decide) (by omega), ⟨?_, ?_, ?_, ?_⟩, fun j hj => ?_, ?_, ?_, CdA.k (by omega)⟩⟩
                           · rw [wr_ni (by decide), nodW_214 (by decide)]; exact ms91.2.1
                           · rw [wr_ni (by decide), nodW_214 (by decide)]
                           · rw [wr_ni (by decide), nodW_214 (by decide)]; exact ms91.1
                           · rw [wr_ni (by decide), nodW_214 (by decide)]; exact ms91.2.1
                           · rw [wr_ni (by decide), nodW_44]; rfl
                           · rw [wr_row (by decide), nodW_234]; exact hwn
                           · rw [wr_na (by decide), nodW_234, nodF_o j hj]
                           · rw [wr_self, e_137]; show nn ≤ nn ∧ nn < nn + 1; omega
                           · rw [wr_self, e_137, wr_row (by decide), nodW_234]
                             refine Rep.leaf (by omega) (by omega) ?_
                             rw [if_pos (by omega), show 50 + w + 150 = 200 + w by omega]
                             rw [show G 4 i = 200 + w by omega]))
              · refine go_aload_n dX12_readSaid_100 rfl ?_
                refine go_callV_z (as := []) (S := []) (b := 214) (ev_X12_brk8 (m := m_91) (G := G) (t := t) (kw := kw) (n := n) (lim := lim) (i := (i + 1)) (o := (o + 1)) (nn := nn) hr_91.2 b91 hdn nm91 ms91 (by omega) (by omega)) rfl dX12_readSaid_101 cv_12_445 rfl rfl ob_214 rfl (by decide) (Nat.le_of_ble_eq_true rfl) (fun r_101 m_101 hr_101 ho_101 => ?_)
                rw [hi1] at hr_101
                refine go_istore_n (L' := [vr 214, vi r_3, vi w, vi r_101]) dX12_readSaid_104 (by decide) rfl rfl ?_
                refine go_goto (tgt := 166) dX12_readSaid_105 (by decide) ?_
                refine go_drop (j := 1) (L' := [vr 214, un, vi w, vi r_101]) rfl ?_
                refine go_drop (j := 2) (L' := [vr 214, un, un, vi r_101]) rfl ?_
                exact cut_166 m_101 r_101 (by first | assumption | rfl | omega) (by
                      first
                      | (rw [show oneF G 8 i o = brkF (G 4) (seqF (G 4) 213 (seqF (G 4) 214 (oneF G 7))) i (o + 1) by unfold oneF; rw [if_neg (by omega), if_neg (by omega), if_neg (by omega), if_pos (by omega)]]; exact hr_101)
                      | (rw [show oneF G 8 i o = notF (oneF G 7) i (o + 1) by unfold oneF; rw [if_neg (by omega), if_neg (by omega), if_pos (by omega)]]; exact hr_115)
                      | (rw [show oneF G 8 i o = namF G i (o + 1) by unfold oneF; rw [if_neg (by omega), if_neg (by omega), if_neg (by omega), if_neg (by omega), if_pos (by omega)]]; exact hr_154)
                      | (rw [show oneF G 8 i o = cmpF G i (o + 1) by unfold oneF; rw [if_neg (by omega), if_neg (by omega), if_neg (by omega), if_neg (by omega), if_neg (by omega), if_pos (by omega)]]; exact hr_162)
                      | (have hwk : Wk (nodF (m_91 234) nn (50 + w) 0 0 0) (G 8 3) nn := (by
                           obtain ⟨e0, e1, e2, e3⟩ := nodF_n (N := m_91 234) (n := nn) (w := 50 + w) (a := 0) (b := 0) (r := 0)
                           unfold Wk
                           rw [e0, e1, e2, e3]
                           right; right; left; omega)
                         have hwn := ms91.2.2.2.add (by omega) hwk
                         rw [SaQ, show oneF G 8 i o = (0, i + 1, o + 1, [(G 4 i, 0, 0)]) by unfold oneF; rw [if_neg (by omega), if_neg (by omega), if_neg (by omega), if_neg (by omega), if_neg (by omega), if_neg (by omega)], hm_137]
                         refine ⟨nodW_s.w (by omega) (by omega), ?_, Or.inl ⟨rfl, rfl, ?_, (hr_91.2.nod).w (by decide) (by omega), ⟨?_, ?_, ?_, ?_⟩, fun j hj => ?_, ?_, ?_, CdA.k (by omega)⟩⟩
                         · rw [wr_ni (by decide), nodW_214 (by decide)]; exact ms91.2.1
                         · rw [wr_ni (by decide), nodW_214 (by decide)]
                         · rw [wr_ni (by decide), nodW_214 (by decide)]; exact ms91.1
                         · rw [wr_ni (by decide), nodW_214 (by decide)]; exact ms91.2.1
                         · rw [wr_ni (by decide), nodW_44]; rfl
                         · rw [wr_row (by decide), nodW_234]; exact hwn
                         · rw [wr_na (by decide), nodW_234, nodF_o j hj]
                         · rw [wr_self, e_137]; show nn ≤ nn ∧ nn < nn + 1; omega
                         · rw [wr_self, e_137, wr_row (by decide), nodW_234]
                           refine Rep.leaf (by omega) (by omega) ?_
                           rw [if_pos (by omega), show 50 + w + 150 = 200 + w by omega]
                           rw [show G 4 i = 200 + w by omega]))
            · exfalso; omega
        refine go_if_ne (tgt := 46) dX12_readSaid_31 (by decide) ⟨by omega, by omega⟩ (fun h_31 => ?_) (fun h_31 => ?_)
        · exact cut_46  (by omega)
        · refine go_iload_n dX12_readSaid_34 rfl ?_
          refine go_bipush dX12_readSaid_35 (by decide) ?_
          refine go_icmp_le (tgt := 46) dX12_readSaid_37 (by decide) ⟨by omega, by omega⟩ ⟨by omega, by omega⟩ (fun h_37 => ?_) (fun h_37 => ?_)
          · exact cut_46  (by omega)
          · refine go_aload_n dX12_readSaid_40 rfl ?_
            refine go_iconst dX12_readSaid_41 ?_
            refine go_callV_z (as := [vi 1]) (S := []) (b := 214) (ev_X12_bad (m := m) (k := 1) (G := G) (t := t) (kw := kw) (n := n) (lim := lim) (i := i) htm (by first | assumption | omega | exact ⟨by omega, by omega⟩ | (constructor <;> omega))) rfl dX12_readSaid_42 cv_12_72 rfl rfl ob_214 rfl (by decide) (Nat.le_of_ble_eq_true rfl) (fun r_42 m_42 hr_42 ho_42 => ?_)
            refine go_ret (v := r_42) rfl dX12_readSaid_45 (okZ (by first | exact Or.inl rfl | exact Or.inr rfl | assumption | omega)) ?_
            have hq : oneF G 8 i o = (1, i, o, []) := by unfold oneF; rw [if_pos (by omega)]
            have z := NoT.b (G := G) (m := m) (m' := m_42) (f := 1) (i := i) (by rw [hr_42.2]; congr 2; split <;> rfl)
            rw [SaQ, hq]
            exact ⟨z.1.s, by rw [z.1.2 46 (by omega)]; exact hm2, Or.inr ⟨(show (1 : Int) ≠ 0 by decide), hr_42.1, z.2.1, z.2.2⟩⟩
      refine go_bipush dX12_readSaid_11 (by decide) ?_
      refine go_icmp_gt (tgt := 30) dX12_readSaid_13 (by decide) ⟨by omega, by omega⟩ ⟨by omega, by omega⟩ (fun h_13 => ?_) (fun h_13 => ?_)
      · exact cut_30  (by first | (left; omega) | (right; refine ⟨by omega, fun z => hno (G 4 i - 200) (by omega) (by omega) (by omega)⟩))
      · refine go_aload_n dX12_readSaid_16 rfl ?_
        refine go_iload_n dX12_readSaid_17 rfl ?_
        refine go_callVp_z (as := [vi w]) (S := []) (b := 214) (ev_X12_isWord (m := m) (k := w) (G := G) (t := t) (kw := kw) (n := n) (lim := lim) (i := i) htm (by first | assumption | omega | exact ⟨by omega, by omega⟩ | (constructor <;> omega))) rfl dX12_readSaid_18 cv_12_202 rfl rfl ob_214 rfl (by decide) (Nat.le_of_ble_eq_true rfl) (fun r_18 hr_18 ho_18 => ?_)
        refine go_if_ne (tgt := 30) dX12_readSaid_21 (by decide) ⟨by omega, by omega⟩ (fun h_21 => ?_) (fun h_21 => ?_)
        · exact cut_30  (by first | (left; omega) | (right; refine ⟨by omega, fun z => hno (G 4 i - 200) (by omega) (by omega) (by omega)⟩))
        · refine go_iinc (L' := [vr 214, vi r_3, vi (w + 1), un]) dX12_readSaid_24 rfl (by decide) rfl rfl ?_
          refine go_goto (tgt := 10) dX12_readSaid_27 (by decide) ?_
          exact ih_10 (w + 1) (by first | assumption | omega | rfl) (by first | assumption | omega | rfl) (fun j a b => by by_cases q : j < w; exact hno j a q; (rw [show j = w by omega]; omega)) (by omega)
  exact lp_10 _ 15 (by first | assumption | omega | rfl) (by first | assumption | omega | rfl) (fun j a b => by omega) (Nat.lt_succ_self _)
set_option maxRecDepth 4000 in
theorem ev_X12_all8 {m : Mem} {G : Mem} {t : Int → Int} {kw : Int → Int} {n : Int} {lim : Int} {i : Int} {o : Int} {nn : Int} (htm : TM G t kw n lim m i) (hb : Bg G 8 18 (m 216)) (hdn : DnOk G 8) (hnm : NmR G 8 (m 221)) (hms : MS m (G 8 3) o 0 nn) (ho : 0 ≤ o ∧ o ≤ 20) (hnn : 0 ≤ nn ∧ nn ≤ 2 * o) : Ev 0 47 mX12_readAnd [vr 214] m (fun r m' => SaQ G t kw n lim m m' 0 nn (seqF (G 4) 214 (oneF G 8) i o) r) := by
  refine Ev.of (L := [vr 214, un]) (by decide +kernel) rfl (Nat.le_of_ble_eq_true rfl) rfl (fun t ht => by cases ht; first | exact Or.inl rfl | exact Or.inr (Or.inl rfl) | exact Or.inr (Or.inr rfl)) (fun hcan => ?_)
  obtain ⟨hm1, hm2, hm3, hm4⟩ := id hms
  have hPB : PB (oneF G 8) := (oneF_b G 8)
  refine go_aload_n dX12_readAnd_0 rfl ?_
  refine go_callV_z (as := []) (S := []) (b := 214) (ev_X12_one8 (m := m) (G := G) (t := t) (kw := kw) (n := n) (lim := lim) (i := i) (o := o) (nn := nn) htm hb hdn hnm hms (by first | assumption | omega | exact ⟨by omega, by omega⟩ | (constructor <;> omega)) (by first | assumption | omega | exact ⟨by omega, by omega⟩ | (constructor <;> omega))) rfl dX12_readAnd_1 cv_12_436 rfl rfl ob_214 rfl (by decide) (Nat.le_of_ble_eq_true rfl) (fun r_1 m_1 hr_1 ho_1 => ?_)
  obtain ⟨x_1, w_1, hr_1⟩ := hr_1
  rcases hr_1 with ⟨f_1, e_1, g_1, t_1, s_1, j_1, p_1, r_1e, c_1⟩ | ⟨f_1, e_1, no_1⟩
  · refine go_if_ne (tgt := 9) dX12_readAnd_4 (by decide) ⟨by omega, by omega⟩ (fun h_4 => ?_) (fun h_4 => ?_)
    · have hR1 := hPB i o (by omega) (by omega) f_1
      refine go_aload_n dX12_readAnd_9 rfl ?_
      refine go_getf_i (ki := 47) dX12_readAnd_10 fl_12_430 ob_214 rfl rfl (fun hf_10 => ?_)
      refine go_istore_n (L' := [vr 214, vi (m_1 214 47)]) dX12_readAnd_13 (by decide) rfl rfl ?_
      have lp_14 : ∀ (n_14 : Nat) (m1 : Mem) (av : Int) (a : Rs) (f : Nat), (a.1 = 0) → (Sx m m1) → (m1 214 46 = 0) → (m1 214 10 = m 214 10) → (TM G t kw n lim m1 a.2.1) → (MS m1 (G 8 3) a.2.2.1 0 (nn + (a.2.2.2.length : Int))) → (∀ j : Int, j < 4 * nn → m1 234 j = m 234 j) → (nn ≤ av ∧ av < nn + (a.2.2.2.length : Int)) → (Rep (m1 234) av a.2.2.2) → (CdA (G 8 3) a.2.2.2) → (seqL (G 4) 214 (oneF G 8) f a = seqL (G 4) 214 (oneF G 8) 21 ((oneF G 8) i o)) → ((o + 1 ≤ a.2.2.1 ∧ a.2.2.1 ≤ 20) ∧ (a.2.2.2.length : Int) + 1 ≤ 2 * (a.2.2.1 - o)) → (22 + o ≤ (f : Int) + a.2.2.1) → f < n_14 → Go 0 47 mX12_readAnd (fun r m' => SaQ G t kw n lim m m' 0 nn (seqF (G 4) 214 (oneF G 8) i o) r) 14 [vr 214, vi av] [] m1 := by
        intro n_14
        induction n_14 with
        | zero => intro m1 av a f ha0 hsx hw46 hg10 htm1 hms1 hfr hav hrp hcd hsl hab hfu hmu; exact absurd hmu (Nat.not_lt_zero _)
        | succ n_14 ih_14 =>
          intro m1 av a f ha0 hsx hw46 hg10 htm1 hms1 hfr hav hrp hcd hsl hab hfu hmu
          obtain ⟨hab1, hab2⟩ := hab
          have hsu : seqL (G 4) 214 (oneF G 8) f a = if G 4 a.2.1 = 214 then (if ((oneF G 8) (a.2.1 + 1) a.2.2.1).1 ≠ 0 then ((oneF G 8) (a.2.1 + 1) a.2.2.1) else seqL (G 4) 214 (oneF G 8) (f - 1) (0, ((oneF G 8) (a.2.1 + 1) a.2.2.1).2.1, ((oneF G 8) (a.2.1 + 1) a.2.2.1).2.2.1, a.2.2.2 ++ ((oneF G 8) (a.2.1 + 1) a.2.2.1).2.2.2 ++ [(214, 0, 0)])) else a := by
            obtain ⟨g, rfl⟩ : ∃ g, f = g + 1 := ⟨f - 1, by omega⟩
            rfl
          have hPB2 := hPB (a.2.1 + 1) a.2.2.1 (by omega) (by omega)
          refine go_aload_n dX12_readAnd_14 rfl ?_
          refine go_bipush dX12_readAnd_15 (by decide) ?_
          refine go_callVp_z (as := [vi 14]) (S := []) (b := 214) (ev_X12_isWord (m := m1) (k := 14) (G := G) (t := t) (kw := kw) (n := n) (lim := lim) (i := a.2.1) htm1 (by first | assumption | omega | exact ⟨by omega, by omega⟩ | (constructor <;> omega))) rfl dX12_readAnd_17 cv_12_202 rfl rfl ob_214 rfl (by decide) (Nat.le_of_ble_eq_true rfl) (fun r_17 hr_17 ho_17 => ?_)
          refine go_if_eq (tgt := 51) dX12_readAnd_20 (by decide) ⟨by omega, by omega⟩ (fun h_20 => ?_) (fun h_20 => ?_)
          · refine go_aload_n dX12_readAnd_51 rfl ?_
            refine go_iload_n dX12_readAnd_52 rfl ?_
            refine go_putf_i (ki := 47) dX12_readAnd_53 fw_12_430 ob_214 rfl rfl ⟨by omega, by omega⟩ ?_
            refine go_iconst dX12_readAnd_56 ?_
            refine go_ret (v := 1) rfl dX12_readAnd_57 (okZ (by first | exact Or.inl rfl | exact Or.inr rfl | assumption | omega)) ?_
            have hq : seqF (G 4) 214 (oneF G 8) i o = a := by rw [seqF_e (G 4) 214, if_neg (fun z => z f_1), ← hsl, hsu, if_neg (by omega)]
            rw [SaQ, hq]
            refine ⟨hsx.w (by omega) (by omega), by rw [wr_ni (by decide)]; exact hw46, Or.inl ⟨ha0, rfl, by rw [wr_ni (by decide)]; exact hg10, htm1.w (by decide) (by omega), ⟨by rw [wr_ni (by decide)]; exact hms1.1, by rw [wr_ni (by decide)]; exact hms1.2.1, by rw [wr_ni (by decide)]; exact hms1.2.2.1, by rw [wr_row (by decide)]; exact hms1.2.2.2⟩, fun j hj => by rw [wr_na (by decide)]; exact hfr j hj, by rw [wr_self]; exact hav, by rw [wr_self, wr_row (by decide)]; exact hrp, hcd⟩⟩
          · refine go_aload_n dX12_readAnd_23 rfl ?_
            refine go_callV_v (as := []) (S := []) (b := 214) (ev_X12_go (m := m1) (G := G) (t := t) (kw := kw) (n := n) (lim := lim) (i := (a.2.1 + 1)) (htm1.nx (by omega))) rfl dX12_readAnd_24 cv_12_82 rfl rfl ob_214 rfl (by decide) (Nat.le_of_ble_eq_true rfl) (fun m_24 hr_24 => ?_)
            have l24 := hr_24.1.l
            refine go_aload_n dX12_readAnd_27 rfl ?_
            refine go_callV_z (as := []) (S := []) (b := 214) (ev_X12_one8 (m := m_24) (G := G) (t := t) (kw := kw) (n := n) (lim := lim) (i := (a.2.1 + 1)) (o := a.2.2.1) (nn := (nn + (a.2.2.2.length : Int))) hr_24.2 (by rw [(hsx.tr l24.s).1 216 (by decide) (by decide)]; exact hb) hdn (by rw [(hsx.tr l24.s).1 221 (by decide) (by decide)]; exact hnm) (hms1.l l24) (by omega) (by omega)) rfl dX12_readAnd_28 cv_12_436 rfl rfl ob_214 rfl (by decide) (Nat.le_of_ble_eq_true rfl) (fun r_28 m_28 hr_28 ho_28 => ?_)
            obtain ⟨Q, hQe⟩ : ∃ z, z = ((oneF G 8) (a.2.1 + 1) a.2.2.1) := ⟨_, rfl⟩
            rw [← hQe] at hr_28
            obtain ⟨x_28, w_28, hr_28⟩ := hr_28
            rcases hr_28 with ⟨f_28, e_28, g_28, t_28, s_28, j_28, p_28, r_28e, c_28⟩ | ⟨f_28, e_28, no_28⟩
            · refine go_if_ne (tgt := 36) dX12_readAnd_31 (by decide) ⟨by omega, by omega⟩ (fun h_31 => ?_) (fun h_31 => ?_)
              · rw [← hQe] at hPB2
                have hQ2 := hPB2 f_28
                have hln : ((a.2.2.2 ++ Q.2.2.2 ++ [((214 : Int), (0 : Int), (0 : Int))]).length : Int) = a.2.2.2.length + Q.2.2.2.length + 1 := by rw [List.length_append, List.length_append]; rfl
                have hw2 : Wf (m_24 234) (G 8 3) (nn + (a.2.2.2.length : Int)) := by rw [l24.1 234 (by decide)]; exact hms1.2.2.2
                have hrp2 : Rep (m_28 234) av a.2.2.2 := by
                  have z : Rep (m_24 234) av a.2.2.2 := by rw [l24.1 234 (by decide)]; exact hrp
                  exact z.c j_28 hw2 (by omega) (by omega)
                have hwk : Wk (nodF (m_28 234) (nn + (a.2.2.2.length : Int) + (Q.2.2.2.length : Int)) 2 av (m_28 214 47) 0) (G 8 3) (nn + (a.2.2.2.length : Int) + (Q.2.2.2.length : Int)) := by
                  obtain ⟨e0, e1, e2, e3⟩ := nodF_n (N := m_28 234) (n := nn + (a.2.2.2.length : Int) + (Q.2.2.2.length : Int)) (w := 2) (a := av) (b := m_28 214 47) (r := 0)
                  unfold Wk
                  rw [e0, e1, e2, e3]
                  right; left; omega
                have hwn := s_28.2.2.2.add (by omega) hwk
                have hrb := hrp2.bin r_28e s_28.2.2.2 (by omega) (by omega) (by omega) (by omega) (by omega) hwn
                refine go_aload_n dX12_readAnd_36 rfl ?_
                refine go_iconst dX12_readAnd_37 ?_
                refine go_iload_n dX12_readAnd_38 rfl ?_
                refine go_aload_n dX12_readAnd_39 rfl ?_
                refine go_getf_i (ki := 47) dX12_readAnd_40 fl_12_430 ob_214 rfl rfl (fun hf_40 => ?_)
                refine go_iconst dX12_readAnd_43 ?_
                refine go_callV_i (as := [vi 2, vi av, vi (m_28 214 47), vi 0]) (S := []) (b := 214) (ev_X12_saysOne (m := m_28) (w := 2) (a := av) (b := (m_28 214 47)) (s := 0) (nn := (nn + (a.2.2.2.length : Int) + (Q.2.2.2.length : Int))) s_28.2.2.1 (by omega) (by first | assumption | omega | exact ⟨by omega, by omega⟩ | (constructor <;> omega)) (by first | assumption | omega | exact ⟨by omega, by omega⟩ | (constructor <;> omega)) hf_40 (by first | assumption | omega | exact ⟨by omega, by omega⟩ | (constructor <;> omega))) rfl dX12_readAnd_44 cv_12_433 rfl rfl ob_214 rfl (by decide) (Nat.le_of_ble_eq_true rfl) (fun r_44 m_44 hr_44 ho_44 => ?_)
                obtain ⟨e_44, hm_44⟩ := hr_44
                refine go_istore_n (L' := [vr 214, vi r_44]) dX12_readAnd_47 (by decide) rfl rfl ?_
                refine go_goto (tgt := 14) dX12_readAnd_48 (by decide) ?_
                exact ih_14 m_44 r_44 (0, ((oneF G 8) (a.2.1 + 1) a.2.2.1).2.1, ((oneF G 8) (a.2.1 + 1) a.2.2.1).2.2.1, a.2.2.2 ++ ((oneF G 8) (a.2.1 + 1) a.2.2.1).2.2.2 ++ [(214, 0, 0)]) (f - 1) rfl (by rw [hm_44]; exact ((hsx.tr l24.s).tr x_28).tr nodW_s) (by rw [hm_44, nodW_214 (by decide)]; exact w_28) (by rw [hm_44, nodW_214 (by decide), g_28, hr_24.1.2 10 (by decide) (by decide) (by decide) (by decide) (by decide) (by decide)]; exact hg10) (by rw [hm_44]; show TM G t kw n lim _ ((oneF G 8) (a.2.1 + 1) a.2.2.1).2.1; rw [← hQe]; exact t_28.nod) (by show MS m_44 (G 8 3) ((oneF G 8) (a.2.1 + 1) a.2.2.1).2.2.1 0 (nn + ((a.2.2.2 ++ ((oneF G 8) (a.2.1 + 1) a.2.2.1).2.2.2 ++ [((214 : Int), (0 : Int), (0 : Int))]).length : Int)); rw [← hQe, hln, hm_44]; refine ⟨by rw [nodW_214 (by decide)]; exact s_28.1, by rw [nodW_214 (by decide)]; exact s_28.2.1, by rw [nodW_44]; omega, ?_⟩; rw [nodW_234, show nn + ((a.2.2.2.length : Int) + Q.2.2.2.length + 1) = nn + (a.2.2.2.length : Int) + (Q.2.2.2.length : Int) + 1 by omega]; exact hwn) (fun j hj => by rw [hm_44, nodW_234, nodF_o j (by omega), j_28 j (by omega), l24.1 234 (by decide)]; exact hfr j hj) (by show nn ≤ r_44 ∧ r_44 < nn + ((a.2.2.2 ++ ((oneF G 8) (a.2.1 + 1) a.2.2.1).2.2.2 ++ [((214 : Int), (0 : Int), (0 : Int))]).length : Int); rw [← hQe, hln]; omega) (by show Rep _ _ (a.2.2.2 ++ ((oneF G 8) (a.2.1 + 1) a.2.2.1).2.2.2 ++ [((214 : Int), (0 : Int), (0 : Int))]); rw [← hQe, hm_44, nodW_234, e_44]; exact hrb) (by show CdA _ (a.2.2.2 ++ ((oneF G 8) (a.2.1 + 1) a.2.2.1).2.2.2 ++ [((214 : Int), (0 : Int), (0 : Int))]); rw [← hQe]; exact (hcd.app c_28).app (CdA.k (by decide))) (by rw [← hsl, hsu, if_pos (by omega), ← hQe, if_neg (fun z => z f_28)]) (by show (o + 1 ≤ ((oneF G 8) (a.2.1 + 1) a.2.2.1).2.2.1 ∧ ((oneF G 8) (a.2.1 + 1) a.2.2.1).2.2.1 ≤ 20) ∧ ((a.2.2.2 ++ ((oneF G 8) (a.2.1 + 1) a.2.2.1).2.2.2 ++ [((214 : Int), (0 : Int), (0 : Int))]).length : Int) + 1 ≤ 2 * (((oneF G 8) (a.2.1 + 1) a.2.2.1).2.2.1 - o); rw [← hQe, hln]; omega) (by show 22 + o ≤ ((f - 1 : Nat) : Int) + ((oneF G 8) (a.2.1 + 1) a.2.2.1).2.2.1; rw [← hQe]; omega) (by omega)
              · exfalso; omega
            · refine go_if_ne (tgt := 36) dX12_readAnd_31 (by decide) ⟨by omega, by omega⟩ (fun h_31 => ?_) (fun h_31 => ?_)
              · exfalso; omega
              · refine go_iconst dX12_readAnd_34 ?_
                refine go_ret (v := 0) rfl dX12_readAnd_35 (okZ (by first | exact Or.inl rfl | exact Or.inr rfl | assumption | omega)) ?_
                have hq : seqF (G 4) 214 (oneF G 8) i o = Q := by rw [seqF_e (G 4) 214, if_neg (fun z => z f_1), ← hsl, hsu, if_pos (by omega), ← hQe, if_pos f_28]
                rw [SaQ, hq]
                exact ⟨(hsx.tr l24.s).tr x_28, w_28, Or.inr ⟨f_28, rfl, no_28⟩⟩
      exact lp_14 _ m_1 (m_1 214 47) ((oneF G 8) i o) 21 f_1 x_1 w_1 g_1 t_1 s_1 j_1 p_1 r_1e c_1 rfl ⟨⟨hR1.1, hR1.2.1⟩, hR1.2.2⟩ (by have := hR1.1; omega) (Nat.lt_succ_self _)
    · exfalso; omega
  · refine go_if_ne (tgt := 9) dX12_readAnd_4 (by decide) ⟨by omega, by omega⟩ (fun h_4 => ?_) (fun h_4 => ?_)
    · exfalso; omega
    · refine go_iconst dX12_readAnd_7 ?_
      refine go_ret (v := 0) rfl dX12_readAnd_8 (okZ (by first | exact Or.inl rfl | exact Or.inr rfl | assumption | omega)) ?_
      rw [SaQ, seqF_e (G 4) 214, if_pos f_1]
      exact ⟨x_1, w_1, Or.inr ⟨f_1, rfl, no_1⟩⟩
set_option maxRecDepth 4000 in
theorem ev_X12_con8 {m : Mem} {G : Mem} {t : Int → Int} {kw : Int → Int} {n : Int} {lim : Int} {i : Int} {o : Int} {nn : Int} (htm : TM G t kw n lim m i) (hb : Bg G 8 18 (m 216)) (hdn : DnOk G 8) (hnm : NmR G 8 (m 221)) (hms : MS m (G 8 3) o 0 nn) (ho : 0 ≤ o ∧ o ≤ 20) (hnn : 0 ≤ nn ∧ nn ≤ 2 * o) : Ev 0 48 mX12_readOr [vr 214] m (fun r m' => SaQ G t kw n lim m m' 0 nn (seqF (G 4) 213 (seqF (G 4) 214 (oneF G 8)) i o) r) := by
  refine Ev.of (L := [vr 214, un]) (by decide +kernel) rfl (Nat.le_of_ble_eq_true rfl) rfl (fun t ht => by cases ht; first | exact Or.inl rfl | exact Or.inr (Or.inl rfl) | exact Or.inr (Or.inr rfl)) (fun hcan => ?_)
  obtain ⟨hm1, hm2, hm3, hm4⟩ := id hms
  have hPB : PB (seqF (G 4) 214 (oneF G 8)) := (seqF_b (oneF_b G 8))
  refine go_aload_n dX12_readOr_0 rfl ?_
  refine go_callV_z (as := []) (S := []) (b := 214) (ev_X12_all8 (m := m) (G := G) (t := t) (kw := kw) (n := n) (lim := lim) (i := i) (o := o) (nn := nn) htm hb hdn hnm hms (by first | assumption | omega | exact ⟨by omega, by omega⟩ | (constructor <;> omega)) (by first | assumption | omega | exact ⟨by omega, by omega⟩ | (constructor <;> omega))) rfl dX12_readOr_1 cv_12_427 rfl rfl ob_214 rfl (by decide) (Nat.le_of_ble_eq_true rfl) (fun r_1 m_1 hr_1 ho_1 => ?_)
  obtain ⟨x_1, w_1, hr_1⟩ := hr_1
  rcases hr_1 with ⟨f_1, e_1, g_1, t_1, s_1, j_1, p_1, r_1e, c_1⟩ | ⟨f_1, e_1, no_1⟩
  · refine go_if_ne (tgt := 9) dX12_readOr_4 (by decide) ⟨by omega, by omega⟩ (fun h_4 => ?_) (fun h_4 => ?_)
    · have hR1 := hPB i o (by omega) (by omega) f_1
      refine go_aload_n dX12_readOr_9 rfl ?_
      refine go_getf_i (ki := 47) dX12_readOr_10 fl_12_430 ob_214 rfl rfl (fun hf_10 => ?_)
      refine go_istore_n (L' := [vr 214, vi (m_1 214 47)]) dX12_readOr_13 (by decide) rfl rfl ?_
      have lp_14 : ∀ (n_14 : Nat) (m1 : Mem) (av : Int) (a : Rs) (f : Nat), (a.1 = 0) → (Sx m m1) → (m1 214 46 = 0) → (m1 214 10 = m 214 10) → (TM G t kw n lim m1 a.2.1) → (MS m1 (G 8 3) a.2.2.1 0 (nn + (a.2.2.2.length : Int))) → (∀ j : Int, j < 4 * nn → m1 234 j = m 234 j) → (nn ≤ av ∧ av < nn + (a.2.2.2.length : Int)) → (Rep (m1 234) av a.2.2.2) → (CdA (G 8 3) a.2.2.2) → (seqL (G 4) 213 (seqF (G 4) 214 (oneF G 8)) f a = seqL (G 4) 213 (seqF (G 4) 214 (oneF G 8)) 21 ((seqF (G 4) 214 (oneF G 8)) i o)) → ((o + 1 ≤ a.2.2.1 ∧ a.2.2.1 ≤ 20) ∧ (a.2.2.2.length : Int) + 1 ≤ 2 * (a.2.2.1 - o)) → (22 + o ≤ (f : Int) + a.2.2.1) → f < n_14 → Go 0 48 mX12_readOr (fun r m' => SaQ G t kw n lim m m' 0 nn (seqF (G 4) 213 (seqF (G 4) 214 (oneF G 8)) i o) r) 14 [vr 214, vi av] [] m1 := by
        intro n_14
        induction n_14 with
        | zero => intro m1 av a f ha0 hsx hw46 hg10 htm1 hms1 hfr hav hrp hcd hsl hab hfu hmu; exact absurd hmu (Nat.not_lt_zero _)
        | succ n_14 ih_14 =>
          intro m1 av a f ha0 hsx hw46 hg10 htm1 hms1 hfr hav hrp hcd hsl hab hfu hmu
          obtain ⟨hab1, hab2⟩ := hab
          have hsu : seqL (G 4) 213 (seqF (G 4) 214 (oneF G 8)) f a = if G 4 a.2.1 = 213 then (if ((seqF (G 4) 214 (oneF G 8)) (a.2.1 + 1) a.2.2.1).1 ≠ 0 then ((seqF (G 4) 214 (oneF G 8)) (a.2.1 + 1) a.2.2.1) else seqL (G 4) 213 (seqF (G 4) 214 (oneF G 8)) (f - 1) (0, ((seqF (G 4) 214 (oneF G 8)) (a.2.1 + 1) a.2.2.1).2.1, ((seqF (G 4) 214 (oneF G 8)) (a.2.1 + 1) a.2.2.1).2.2.1, a.2.2.2 ++ ((seqF (G 4) 214 (oneF G 8)) (a.2.1 + 1) a.2.2.1).2.2.2 ++ [(213, 0, 0)])) else a := by
            obtain ⟨g, rfl⟩ : ∃ g, f = g + 1 := ⟨f - 1, by omega⟩
            rfl
          have hPB2 := hPB (a.2.1 + 1) a.2.2.1 (by omega) (by omega)
          refine go_aload_n dX12_readOr_14 rfl ?_
          refine go_bipush dX12_readOr_15 (by decide) ?_
          refine go_callVp_z (as := [vi 13]) (S := []) (b := 214) (ev_X12_isWord (m := m1) (k := 13) (G := G) (t := t) (kw := kw) (n := n) (lim := lim) (i := a.2.1) htm1 (by first | assumption | omega | exact ⟨by omega, by omega⟩ | (constructor <;> omega))) rfl dX12_readOr_17 cv_12_202 rfl rfl ob_214 rfl (by decide) (Nat.le_of_ble_eq_true rfl) (fun r_17 hr_17 ho_17 => ?_)
          refine go_if_eq (tgt := 51) dX12_readOr_20 (by decide) ⟨by omega, by omega⟩ (fun h_20 => ?_) (fun h_20 => ?_)
          · refine go_aload_n dX12_readOr_51 rfl ?_
            refine go_iload_n dX12_readOr_52 rfl ?_
            refine go_putf_i (ki := 47) dX12_readOr_53 fw_12_430 ob_214 rfl rfl ⟨by omega, by omega⟩ ?_
            refine go_iconst dX12_readOr_56 ?_
            refine go_ret (v := 1) rfl dX12_readOr_57 (okZ (by first | exact Or.inl rfl | exact Or.inr rfl | assumption | omega)) ?_
            have hq : seqF (G 4) 213 (seqF (G 4) 214 (oneF G 8)) i o = a := by rw [seqF_e (G 4) 213, if_neg (fun z => z f_1), ← hsl, hsu, if_neg (by omega)]
            rw [SaQ, hq]
            refine ⟨hsx.w (by omega) (by omega), by rw [wr_ni (by decide)]; exact hw46, Or.inl ⟨ha0, rfl, by rw [wr_ni (by decide)]; exact hg10, htm1.w (by decide) (by omega), ⟨by rw [wr_ni (by decide)]; exact hms1.1, by rw [wr_ni (by decide)]; exact hms1.2.1, by rw [wr_ni (by decide)]; exact hms1.2.2.1, by rw [wr_row (by decide)]; exact hms1.2.2.2⟩, fun j hj => by rw [wr_na (by decide)]; exact hfr j hj, by rw [wr_self]; exact hav, by rw [wr_self, wr_row (by decide)]; exact hrp, hcd⟩⟩
          · refine go_aload_n dX12_readOr_23 rfl ?_
            refine go_callV_v (as := []) (S := []) (b := 214) (ev_X12_go (m := m1) (G := G) (t := t) (kw := kw) (n := n) (lim := lim) (i := (a.2.1 + 1)) (htm1.nx (by omega))) rfl dX12_readOr_24 cv_12_82 rfl rfl ob_214 rfl (by decide) (Nat.le_of_ble_eq_true rfl) (fun m_24 hr_24 => ?_)
            have l24 := hr_24.1.l
            refine go_aload_n dX12_readOr_27 rfl ?_
            refine go_callV_z (as := []) (S := []) (b := 214) (ev_X12_all8 (m := m_24) (G := G) (t := t) (kw := kw) (n := n) (lim := lim) (i := (a.2.1 + 1)) (o := a.2.2.1) (nn := (nn + (a.2.2.2.length : Int))) hr_24.2 (by rw [(hsx.tr l24.s).1 216 (by decide) (by decide)]; exact hb) hdn (by rw [(hsx.tr l24.s).1 221 (by decide) (by decide)]; exact hnm) (hms1.l l24) (by omega) (by omega)) rfl dX12_readOr_28 cv_12_427 rfl rfl ob_214 rfl (by decide) (Nat.le_of_ble_eq_true rfl) (fun r_28 m_28 hr_28 ho_28 => ?_)
            obtain ⟨Q, hQe⟩ : ∃ z, z = ((seqF (G 4) 214 (oneF G 8)) (a.2.1 + 1) a.2.2.1) := ⟨_, rfl⟩
            rw [← hQe] at hr_28
            obtain ⟨x_28, w_28, hr_28⟩ := hr_28
            rcases hr_28 with ⟨f_28, e_28, g_28, t_28, s_28, j_28, p_28, r_28e, c_28⟩ | ⟨f_28, e_28, no_28⟩
            · refine go_if_ne (tgt := 36) dX12_readOr_31 (by decide) ⟨by omega, by omega⟩ (fun h_31 => ?_) (fun h_31 => ?_)
              · rw [← hQe] at hPB2
                have hQ2 := hPB2 f_28
                have hln : ((a.2.2.2 ++ Q.2.2.2 ++ [((213 : Int), (0 : Int), (0 : Int))]).length : Int) = a.2.2.2.length + Q.2.2.2.length + 1 := by rw [List.length_append, List.length_append]; rfl
                have hw2 : Wf (m_24 234) (G 8 3) (nn + (a.2.2.2.length : Int)) := by rw [l24.1 234 (by decide)]; exact hms1.2.2.2
                have hrp2 : Rep (m_28 234) av a.2.2.2 := by
                  have z : Rep (m_24 234) av a.2.2.2 := by rw [l24.1 234 (by decide)]; exact hrp
                  exact z.c j_28 hw2 (by omega) (by omega)
                have hwk : Wk (nodF (m_28 234) (nn + (a.2.2.2.length : Int) + (Q.2.2.2.length : Int)) 3 av (m_28 214 47) 0) (G 8 3) (nn + (a.2.2.2.length : Int) + (Q.2.2.2.length : Int)) := by
                  obtain ⟨e0, e1, e2, e3⟩ := nodF_n (N := m_28 234) (n := nn + (a.2.2.2.length : Int) + (Q.2.2.2.length : Int)) (w := 3) (a := av) (b := m_28 214 47) (r := 0)
                  unfold Wk
                  rw [e0, e1, e2, e3]
                  right; left; omega
                have hwn := s_28.2.2.2.add (by omega) hwk
                have hrb := hrp2.bin r_28e s_28.2.2.2 (by omega) (by omega) (by omega) (by omega) (by omega) hwn
                refine go_aload_n dX12_readOr_36 rfl ?_
                refine go_iconst dX12_readOr_37 ?_
                refine go_iload_n dX12_readOr_38 rfl ?_
                refine go_aload_n dX12_readOr_39 rfl ?_
                refine go_getf_i (ki := 47) dX12_readOr_40 fl_12_430 ob_214 rfl rfl (fun hf_40 => ?_)
                refine go_iconst dX12_readOr_43 ?_
                refine go_callV_i (as := [vi 3, vi av, vi (m_28 214 47), vi 0]) (S := []) (b := 214) (ev_X12_saysOne (m := m_28) (w := 3) (a := av) (b := (m_28 214 47)) (s := 0) (nn := (nn + (a.2.2.2.length : Int) + (Q.2.2.2.length : Int))) s_28.2.2.1 (by omega) (by first | assumption | omega | exact ⟨by omega, by omega⟩ | (constructor <;> omega)) (by first | assumption | omega | exact ⟨by omega, by omega⟩ | (constructor <;> omega)) hf_40 (by first | assumption | omega | exact ⟨by omega, by omega⟩ | (constructor <;> omega))) rfl dX12_readOr_44 cv_12_433 rfl rfl ob_214 rfl (by decide) (Nat.le_of_ble_eq_true rfl) (fun r_44 m_44 hr_44 ho_44 => ?_)
                obtain ⟨e_44, hm_44⟩ := hr_44
                refine go_istore_n (L' := [vr 214, vi r_44]) dX12_readOr_47 (by decide) rfl rfl ?_
                refine go_goto (tgt := 14) dX12_readOr_48 (by decide) ?_
                exact ih_14 m_44 r_44 (0, ((seqF (G 4) 214 (oneF G 8)) (a.2.1 + 1) a.2.2.1).2.1, ((seqF (G 4) 214 (oneF G 8)) (a.2.1 + 1) a.2.2.1).2.2.1, a.2.2.2 ++ ((seqF (G 4) 214 (oneF G 8)) (a.2.1 + 1) a.2.2.1).2.2.2 ++ [(213, 0, 0)]) (f - 1) rfl (by rw [hm_44]; exact ((hsx.tr l24.s).tr x_28).tr nodW_s) (by rw [hm_44, nodW_214 (by decide)]; exact w_28) (by rw [hm_44, nodW_214 (by decide), g_28, hr_24.1.2 10 (by decide) (by decide) (by decide) (by decide) (by decide) (by decide)]; exact hg10) (by rw [hm_44]; show TM G t kw n lim _ ((seqF (G 4) 214 (oneF G 8)) (a.2.1 + 1) a.2.2.1).2.1; rw [← hQe]; exact t_28.nod) (by show MS m_44 (G 8 3) ((seqF (G 4) 214 (oneF G 8)) (a.2.1 + 1) a.2.2.1).2.2.1 0 (nn + ((a.2.2.2 ++ ((seqF (G 4) 214 (oneF G 8)) (a.2.1 + 1) a.2.2.1).2.2.2 ++ [((213 : Int), (0 : Int), (0 : Int))]).length : Int)); rw [← hQe, hln, hm_44]; refine ⟨by rw [nodW_214 (by decide)]; exact s_28.1, by rw [nodW_214 (by decide)]; exact s_28.2.1, by rw [nodW_44]; omega, ?_⟩; rw [nodW_234, show nn + ((a.2.2.2.length : Int) + Q.2.2.2.length + 1) = nn + (a.2.2.2.length : Int) + (Q.2.2.2.length : Int) + 1 by omega]; exact hwn) (fun j hj => by rw [hm_44, nodW_234, nodF_o j (by omega), j_28 j (by omega), l24.1 234 (by decide)]; exact hfr j hj) (by show nn ≤ r_44 ∧ r_44 < nn + ((a.2.2.2 ++ ((seqF (G 4) 214 (oneF G 8)) (a.2.1 + 1) a.2.2.1).2.2.2 ++ [((213 : Int), (0 : Int), (0 : Int))]).length : Int); rw [← hQe, hln]; omega) (by show Rep _ _ (a.2.2.2 ++ ((seqF (G 4) 214 (oneF G 8)) (a.2.1 + 1) a.2.2.1).2.2.2 ++ [((213 : Int), (0 : Int), (0 : Int))]); rw [← hQe, hm_44, nodW_234, e_44]; exact hrb) (by show CdA _ (a.2.2.2 ++ ((seqF (G 4) 214 (oneF G 8)) (a.2.1 + 1) a.2.2.1).2.2.2 ++ [((213 : Int), (0 : Int), (0 : Int))]); rw [← hQe]; exact (hcd.app c_28).app (CdA.k (by decide))) (by rw [← hsl, hsu, if_pos (by omega), ← hQe, if_neg (fun z => z f_28)]) (by show (o + 1 ≤ ((seqF (G 4) 214 (oneF G 8)) (a.2.1 + 1) a.2.2.1).2.2.1 ∧ ((seqF (G 4) 214 (oneF G 8)) (a.2.1 + 1) a.2.2.1).2.2.1 ≤ 20) ∧ ((a.2.2.2 ++ ((seqF (G 4) 214 (oneF G 8)) (a.2.1 + 1) a.2.2.1).2.2.2 ++ [((213 : Int), (0 : Int), (0 : Int))]).length : Int) + 1 ≤ 2 * (((seqF (G 4) 214 (oneF G 8)) (a.2.1 + 1) a.2.2.1).2.2.1 - o); rw [← hQe, hln]; omega) (by show 22 + o ≤ ((f - 1 : Nat) : Int) + ((seqF (G 4) 214 (oneF G 8)) (a.2.1 + 1) a.2.2.1).2.2.1; rw [← hQe]; omega) (by omega)
              · exfalso; omega
            · refine go_if_ne (tgt := 36) dX12_readOr_31 (by decide) ⟨by omega, by omega⟩ (fun h_31 => ?_) (fun h_31 => ?_)
              · exfalso; omega
              · refine go_iconst dX12_readOr_34 ?_
                refine go_ret (v := 0) rfl dX12_readOr_35 (okZ (by first | exact Or.inl rfl | exact Or.inr rfl | assumption | omega)) ?_
                have hq : seqF (G 4) 213 (seqF (G 4) 214 (oneF G 8)) i o = Q := by rw [seqF_e (G 4) 213, if_neg (fun z => z f_1), ← hsl, hsu, if_pos (by omega), ← hQe, if_pos f_28]
                rw [SaQ, hq]
                exact ⟨(hsx.tr l24.s).tr x_28, w_28, Or.inr ⟨f_28, rfl, no_28⟩⟩
      exact lp_14 _ m_1 (m_1 214 47) ((seqF (G 4) 214 (oneF G 8)) i o) 21 f_1 x_1 w_1 g_1 t_1 s_1 j_1 p_1 r_1e c_1 rfl ⟨⟨hR1.1, hR1.2.1⟩, hR1.2.2⟩ (by have := hR1.1; omega) (Nat.lt_succ_self _)
    · exfalso; omega
  · refine go_if_ne (tgt := 9) dX12_readOr_4 (by decide) ⟨by omega, by omega⟩ (fun h_4 => ?_) (fun h_4 => ?_)
    · exfalso; omega
    · refine go_iconst dX12_readOr_7 ?_
      refine go_ret (v := 0) rfl dX12_readOr_8 (okZ (by first | exact Or.inl rfl | exact Or.inr rfl | assumption | omega)) ?_
      rw [SaQ, seqF_e (G 4) 213, if_pos f_1]
      exact ⟨x_1, w_1, Or.inr ⟨f_1, rfl, no_1⟩⟩
