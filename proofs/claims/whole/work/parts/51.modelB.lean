theorem psF_ce (G : Mem) (i : Int) : psF G i = if 5 ≤ G 47 3 then (4, i - 1) else if nmF G i ≠ 0 then (nmF G i, i) else if (ceF G 1 (i + 1)).1 ≠ 0 then ceF G 1 (i + 1) else if numF (G 4) (vN G) (i + 3) 0 3 ≠ 0 then (numF (G 4) (vN G) (i + 3) 0 3, i + 3) else if numF (G 4) (vN G) (i + 4) 1 60 ≠ 0 then (numF (G 4) (vN G) (i + 4) 1 60, i + 4) else (0, i + 5) := by
  unfold psF ceF
  rw [if_pos rfl, show i + 1 + 1 = i + 2 by omega]
  by_cases h1 : 5 ≤ G 47 3
  · rw [if_pos h1, if_pos h1]
  · rw [if_neg h1, if_neg h1]
    by_cases h2 : nmF G i ≠ 0
    · rw [if_pos h2, if_pos h2]
    · rw [if_neg h2, if_neg h2]
      by_cases h3 : numF (G 4) (vN G) (i + 1) 0 (G 47 0 - 1) ≠ 0
      · rw [if_pos h3, if_pos h3, if_pos h3]
      · rw [if_neg h3, if_neg h3]
        by_cases h4 : frF G (vN G (i + 1)) (i + 2) ≠ 0
        · rw [if_pos h4, if_pos h4, if_pos h4]
        · rw [if_neg h4, if_neg h4, if_neg (show ¬ ((0, i + 1 + 2) : Int × Int).1 ≠ 0 from fun z => z rfl)]
theorem ptF_ce (G : Mem) (i : Int) : ptF G i = if 5 ≤ G 47 4 then (4, i - 1) else if nmF G i ≠ 0 then (nmF G i, i) else if (ceF G 0 (i + 1)).1 ≠ 0 then ceF G 0 (i + 1) else if numF (G 4) (vN G) (i + 3) 0 3 ≠ 0 then (numF (G 4) (vN G) (i + 3) 0 3, i + 3) else (0, i + 4) := by
  unfold ptF ceF
  rw [if_neg (show ¬ (0 : Int) = 1 by decide), show i + 1 + 1 = i + 2 by omega]
  by_cases h1 : 5 ≤ G 47 4
  · rw [if_pos h1, if_pos h1]
  · rw [if_neg h1, if_neg h1]
    by_cases h2 : nmF G i ≠ 0
    · rw [if_pos h2, if_pos h2]
    · rw [if_neg h2, if_neg h2]
      by_cases h3 : numF (G 4) (vN G) (i + 1) 0 (G 47 0 - 1) ≠ 0
      · rw [if_pos h3, if_pos h3, if_pos h3]
      · rw [if_neg h3, if_neg h3]
        by_cases h4 : numF (G 4) (vN G) (i + 2) 0 (G 47 1 - 1) ≠ 0
        · rw [if_pos h4, if_pos h4, if_pos h4]
        · rw [if_neg h4, if_neg h4, if_neg (show ¬ ((0, i + 1 + 2) : Int × Int).1 ≠ 0 from fun z => z rfl)]

theorem dX12_readPerson_0 : decode mX12_readPerson.2.1 0 = .ok (.aload_n 0, 1) := by decide +kernel
theorem dX12_readPerson_1 : decode mX12_readPerson.2.1 1 = .ok (.iconst 3, 1) := by decide +kernel
theorem dX12_readPerson_2 : decode mX12_readPerson.2.1 2 = .ok (.iconst 5, 1) := by decide +kernel
theorem dX12_readPerson_3 : decode mX12_readPerson.2.1 3 = .ok (.invokevirtual 196, 3) := by decide +kernel
theorem dX12_readPerson_6 : decode mX12_readPerson.2.1 6 = .ok (.ifCond .ne 5, 3) := by decide +kernel
theorem dX12_readPerson_9 : decode mX12_readPerson.2.1 9 = .ok (.iconst 0, 1) := by decide +kernel
theorem dX12_readPerson_10 : decode mX12_readPerson.2.1 10 = .ok (.ireturn, 1) := by decide +kernel
theorem dX12_readPerson_11 : decode mX12_readPerson.2.1 11 = .ok (.aload_n 0, 1) := by decide +kernel
theorem dX12_readPerson_12 : decode mX12_readPerson.2.1 12 = .ok (.getfield 101, 3) := by decide +kernel
theorem dX12_readPerson_15 : decode mX12_readPerson.2.1 15 = .ok (.iconst 3, 1) := by decide +kernel
theorem dX12_readPerson_16 : decode mX12_readPerson.2.1 16 = .ok (.iaload, 1) := by decide +kernel
theorem dX12_readPerson_17 : decode mX12_readPerson.2.1 17 = .ok (.istore_n 1, 1) := by decide +kernel
theorem dX12_readPerson_18 : decode mX12_readPerson.2.1 18 = .ok (.aload_n 0, 1) := by decide +kernel
theorem dX12_readPerson_19 : decode mX12_readPerson.2.1 19 = .ok (.bipush 6, 2) := by decide +kernel
theorem dX12_readPerson_21 : decode mX12_readPerson.2.1 21 = .ok (.iload_n 1, 1) := by decide +kernel
theorem dX12_readPerson_22 : decode mX12_readPerson.2.1 22 = .ok (.iadd, 1) := by decide +kernel
theorem dX12_readPerson_23 : decode mX12_readPerson.2.1 23 = .ok (.invokevirtual 199, 3) := by decide +kernel
theorem dX12_readPerson_26 : decode mX12_readPerson.2.1 26 = .ok (.ifCond .eq 54, 3) := by decide +kernel
theorem dX12_readPerson_29 : decode mX12_readPerson.2.1 29 = .ok (.aload_n 0, 1) := by decide +kernel
theorem dX12_readPerson_30 : decode mX12_readPerson.2.1 30 = .ok (.bipush 17, 2) := by decide +kernel
theorem dX12_readPerson_32 : decode mX12_readPerson.2.1 32 = .ok (.iload_n 1, 1) := by decide +kernel
theorem dX12_readPerson_33 : decode mX12_readPerson.2.1 33 = .ok (.iadd, 1) := by decide +kernel
theorem dX12_readPerson_34 : decode mX12_readPerson.2.1 34 = .ok (.aload_n 0, 1) := by decide +kernel
theorem dX12_readPerson_35 : decode mX12_readPerson.2.1 35 = .ok (.iconst 1, 1) := by decide +kernel
theorem dX12_readPerson_36 : decode mX12_readPerson.2.1 36 = .ok (.invokevirtual 192, 3) := by decide +kernel
theorem dX12_readPerson_39 : decode mX12_readPerson.2.1 39 = .ok (.invokevirtual 185, 3) := by decide +kernel
theorem dX12_readPerson_42 : decode mX12_readPerson.2.1 42 = .ok (.ifCond .eq 38, 3) := by decide +kernel
theorem dX12_readPerson_45 : decode mX12_readPerson.2.1 45 = .ok (.aload_n 0, 1) := by decide +kernel
theorem dX12_readPerson_46 : decode mX12_readPerson.2.1 46 = .ok (.bipush 22, 2) := by decide +kernel
theorem dX12_readPerson_48 : decode mX12_readPerson.2.1 48 = .ok (.iload_n 1, 1) := by decide +kernel
theorem dX12_readPerson_49 : decode mX12_readPerson.2.1 49 = .ok (.iadd, 1) := by decide +kernel
theorem dX12_readPerson_50 : decode mX12_readPerson.2.1 50 = .ok (.aload_n 0, 1) := by decide +kernel
theorem dX12_readPerson_51 : decode mX12_readPerson.2.1 51 = .ok (.iconst 0, 1) := by decide +kernel
theorem dX12_readPerson_52 : decode mX12_readPerson.2.1 52 = .ok (.iconst 3, 1) := by decide +kernel
theorem dX12_readPerson_53 : decode mX12_readPerson.2.1 53 = .ok (.invokevirtual 181, 3) := by decide +kernel
theorem dX12_readPerson_56 : decode mX12_readPerson.2.1 56 = .ok (.invokevirtual 185, 3) := by decide +kernel
theorem dX12_readPerson_59 : decode mX12_readPerson.2.1 59 = .ok (.ifCond .eq 21, 3) := by decide +kernel
theorem dX12_readPerson_62 : decode mX12_readPerson.2.1 62 = .ok (.aload_n 0, 1) := by decide +kernel
theorem dX12_readPerson_63 : decode mX12_readPerson.2.1 63 = .ok (.bipush 27, 2) := by decide +kernel
theorem dX12_readPerson_65 : decode mX12_readPerson.2.1 65 = .ok (.iload_n 1, 1) := by decide +kernel
theorem dX12_readPerson_66 : decode mX12_readPerson.2.1 66 = .ok (.iadd, 1) := by decide +kernel
theorem dX12_readPerson_67 : decode mX12_readPerson.2.1 67 = .ok (.aload_n 0, 1) := by decide +kernel
theorem dX12_readPerson_68 : decode mX12_readPerson.2.1 68 = .ok (.iconst 1, 1) := by decide +kernel
theorem dX12_readPerson_69 : decode mX12_readPerson.2.1 69 = .ok (.bipush 60, 2) := by decide +kernel
theorem dX12_readPerson_71 : decode mX12_readPerson.2.1 71 = .ok (.invokevirtual 181, 3) := by decide +kernel
theorem dX12_readPerson_74 : decode mX12_readPerson.2.1 74 = .ok (.invokevirtual 185, 3) := by decide +kernel
theorem dX12_readPerson_77 : decode mX12_readPerson.2.1 77 = .ok (.ifCond .ne 5, 3) := by decide +kernel
theorem dX12_readPerson_80 : decode mX12_readPerson.2.1 80 = .ok (.iconst 0, 1) := by decide +kernel
theorem dX12_readPerson_81 : decode mX12_readPerson.2.1 81 = .ok (.ireturn, 1) := by decide +kernel
theorem dX12_readPerson_82 : decode mX12_readPerson.2.1 82 = .ok (.aload_n 0, 1) := by decide +kernel
theorem dX12_readPerson_83 : decode mX12_readPerson.2.1 83 = .ok (.getfield 101, 3) := by decide +kernel
theorem dX12_readPerson_86 : decode mX12_readPerson.2.1 86 = .ok (.iconst 3, 1) := by decide +kernel
theorem dX12_readPerson_87 : decode mX12_readPerson.2.1 87 = .ok (.dup2, 1) := by decide +kernel
theorem dX12_readPerson_88 : decode mX12_readPerson.2.1 88 = .ok (.iaload, 1) := by decide +kernel
theorem dX12_readPerson_89 : decode mX12_readPerson.2.1 89 = .ok (.iconst 1, 1) := by decide +kernel
theorem dX12_readPerson_90 : decode mX12_readPerson.2.1 90 = .ok (.iadd, 1) := by decide +kernel
theorem dX12_readPerson_91 : decode mX12_readPerson.2.1 91 = .ok (.iastore, 1) := by decide +kernel
theorem dX12_readPerson_92 : decode mX12_readPerson.2.1 92 = .ok (.iconst 1, 1) := by decide +kernel
theorem dX12_readPerson_93 : decode mX12_readPerson.2.1 93 = .ok (.ireturn, 1) := by decide +kernel
set_option maxRecDepth 4000 in
theorem ev_X12_readPerson {m : Mem} {G : Mem} {t : Int → Int} {kw : Int → Int} {n : Int} {lim : Int} {i : Int} (htm : TM G t kw n lim m i) (h2 : 2 ≤ G 4 i) (hdr : DrOk G) (hra : RdA G m) : Ev 0 5 mX12_readPerson [vr 214] m (fun r m' => LnM G t kw n lim m m' (psF G (i + 1)) (psX G (i + 1)) r) := by
  refine Ev.of (L := [vr 214, un]) (by decide +kernel) rfl (Nat.le_of_ble_eq_true rfl) rfl (fun t ht => by cases ht; first | exact Or.inl rfl | exact Or.inr (Or.inl rfl) | exact Or.inr (Or.inr rfl)) (fun hcan => ?_)
  obtain ⟨hdn, hst, hdr3, hdr4, hdr5, hdr6, hdr7⟩ := id hdr
  obtain ⟨⟨hd0, hd1⟩, ⟨hd2, hd3⟩, ⟨hd4, hd5⟩, ⟨hd6, hd7⟩, ⟨hd8, hd9⟩, hdf, hdp, hdq⟩ := id hdn
  obtain ⟨⟨hs0, hs1⟩, ⟨hs2, hs3⟩, hsw, hsp, hsd, hsz⟩ := id hst
  have hkd := htm.kd
  refine go_aload_n dX12_readPerson_0 rfl ?_
  refine go_iconst dX12_readPerson_1 ?_
  refine go_iconst dX12_readPerson_2 ?_
  refine go_callV_z (as := [vi 3, vi 5]) (S := []) (b := 214) (ev_X12_readFirst (m := m) (k := 3) (mo := 5) (G := G) (t := t) (kw := kw) (n := n) (lim := lim) (i := i) htm (by first | assumption | omega | exact ⟨by omega, by omega⟩ | (constructor <;> omega)) (by first | assumption | omega | exact ⟨by omega, by omega⟩ | (constructor <;> omega)) (by first | assumption | omega | exact ⟨by omega, by omega⟩ | (constructor <;> omega))) rfl dX12_readPerson_3 cv_12_196 rfl rfl ob_214 rfl (by decide) (Nat.le_of_ble_eq_true rfl) (fun r_3 m_3 hr_3 ho_3 => ?_)
  rcases hr_3 with ⟨f_3, e_3, no_3⟩ | ⟨f_3, e_3, ok_3⟩
  · refine go_if_ne (tgt := 11) dX12_readPerson_6 (by decide) ⟨by omega, by omega⟩ (fun h_6 => ?_) (fun h_6 => ?_)
    · exfalso; omega
    · refine go_iconst dX12_readPerson_9 ?_
      exact go_ret (v := 0) rfl dX12_readPerson_10 (okZ (by first | exact Or.inl rfl | exact Or.inr rfl | assumption | omega)) (Or.inr (by have hq : psF G (i + 1) = (4, i + 1 - 1) := (by unfold psF; rw [if_pos (by rw [hra.1.1.2.2.2.1] at f_3; omega)]); rw [hq, show i + 1 - 1 = i by omega]; exact ⟨(show (4 : Int) ≠ 0 by decide), rfl, no_3.p⟩))
  · refine go_if_ne (tgt := 11) dX12_readPerson_6 (by decide) ⟨by omega, by omega⟩ (fun h_6 => ?_) (fun h_6 => ?_)
    · have hl5 : G 47 3 < 5 := by rw [hra.1.1.2.2.2.1] at f_3; omega
      have hra4 := hra.1.l ok_3.1
      have hz : ¬ 5 ≤ G 47 3 := by omega
      refine go_aload_n dX12_readPerson_11 rfl ?_
      refine go_getf_p (b := 217) dX12_readPerson_12 fl_12_101 ob_214 rfl pt_214_15 ?_
      refine go_iconst dX12_readPerson_15 ?_
      refine go_iaload dX12_readPerson_16 ar_217 (by omega) (by omega) (fun he_16 => ?_)
      rw [show (m_3 217 3 : Int) = (G 47 3) from hra4.1.2.2.2.1] at he_16 ⊢
      refine go_istore_n (L' := [vr 214, vi (G 47 3)]) dX12_readPerson_17 (by decide) rfl rfl ?_
      refine go_aload_n dX12_readPerson_18 rfl ?_
      refine go_bipush dX12_readPerson_19 (by decide) ?_
      refine go_iload_n dX12_readPerson_21 rfl ?_
      refine go_iadd dX12_readPerson_22 ?_
      refine go_callV_z (as := [vi (6 + (G 47 3))]) (S := []) (b := 214) (ev_X12_readNew (m := m_3) (slot := (6 + (G 47 3))) (G := G) (t := t) (kw := kw) (n := n) (lim := lim) (i := (i + 1)) ok_3.2.2 hdr hra4 (by omega)) rfl dX12_readPerson_23 cv_12_199 rfl rfl ob_214 rfl (by decide) (Nat.le_of_ble_eq_true rfl) (fun r_23 m_23 hr_23 ho_23 => ?_)
      rcases hr_23 with ⟨f_23, e_23, w_23, hw_23, ok_23⟩ | ⟨f_23, e_23, no_23⟩
      · refine go_if_eq (tgt := 80) dX12_readPerson_26 (by decide) ⟨by omega, by omega⟩ (fun h_26 => ?_) (fun h_26 => ?_)
        · exfalso; omega
        · refine go_aload_n dX12_readPerson_29 rfl ?_
          refine go_bipush dX12_readPerson_30 (by decide) ?_
          refine go_iload_n dX12_readPerson_32 rfl ?_
          refine go_iadd dX12_readPerson_33 ?_
          refine go_aload_n dX12_readPerson_34 rfl ?_
          refine go_iconst dX12_readPerson_35 ?_
          refine go_callV_z (as := [vi 1]) (S := [vi (17 + (G 47 3)), vr 214]) (b := 214) (ev_X12_readCell (m := m_23) (e := 1) (G := G) (t := t) (kw := kw) (n := n) (lim := lim) (i := (i + 1 + 1)) ok_23.2.2 hdr (by rw [ok_23.1.1 217 (by decide), ok_23.1.1 222 (by decide), wr_row (by decide), wr_rowat]; exact hra4.nm hdn (by omega)) (by first | assumption | omega | exact ⟨by omega, by omega⟩ | (constructor <;> omega))) rfl dX12_readPerson_36 cv_12_192 rfl rfl ob_214 rfl (by decide) (Nat.le_of_ble_eq_true rfl) (fun r_36 m_36 hr_36 ho_36 => ?_)
          rcases hr_36 with ⟨f_36, e_36, q_36, ok_36, v_36⟩ | ⟨f_36, e_36, no_36⟩
          · refine go_callV_z (as := [vi (17 + (G 47 3)), vi r_36]) (S := []) (b := 214) (ev_X12_put (m := m_36) (k := (17 + (G 47 3))) (g := r_36) (by omega) (by first | assumption | omega | exact ⟨by omega, by omega⟩ | (constructor <;> omega))) rfl dX12_readPerson_39 cv_12_185 rfl rfl ob_214 rfl (by decide) (Nat.le_of_ble_eq_true rfl) (fun r_39 m_39 hr_39 ho_39 => ?_)
            obtain ⟨e_39, hm_39⟩ := hr_39
            first | rw [if_pos e_36] at hm_39 | rw [if_neg (by omega)] at hm_39
            refine go_if_eq (tgt := 80) dX12_readPerson_42 (by decide) ⟨by omega, by omega⟩ (fun h_42 => ?_) (fun h_42 => ?_)
            · exfalso; omega
            · refine go_aload_n dX12_readPerson_45 rfl ?_
              refine go_bipush dX12_readPerson_46 (by decide) ?_
              refine go_iload_n dX12_readPerson_48 rfl ?_
              refine go_iadd dX12_readPerson_49 ?_
              refine go_aload_n dX12_readPerson_50 rfl ?_
              refine go_iconst dX12_readPerson_51 ?_
              refine go_iconst dX12_readPerson_52 ?_
              refine go_callV_z (as := [vi 0, vi 3]) (S := [vi (22 + (G 47 3)), vr 214]) (b := 214) (ev_X12_readNumber (m := m_39) (lo := 0) (hi := 3) (G := G) (t := t) (kw := kw) (n := n) (lim := lim) (i := (i + 1 + 3)) (by rw [hm_39]; have z := ok_36.2.2; rw [show i + 1 + 1 + 2 = i + 1 + 3 by omega] at z; exact z.w (by decide) (by omega)) (by first | assumption | omega | exact ⟨by omega, by omega⟩ | (constructor <;> omega)) (by first | assumption | omega | exact ⟨by omega, by omega⟩ | (constructor <;> omega))) rfl dX12_readPerson_53 cv_12_181 rfl rfl ob_214 rfl (by decide) (Nat.le_of_ble_eq_true rfl) (fun r_53 m_53 hr_53 ho_53 => ?_)
              rcases hr_53 with ⟨f_53, e_53, ok_53, v_53⟩ | ⟨f_53, e_53, no_53⟩
              · refine go_callV_z (as := [vi (22 + (G 47 3)), vi r_53]) (S := []) (b := 214) (ev_X12_put (m := m_53) (k := (22 + (G 47 3))) (g := r_53) (by omega) (by first | assumption | omega | exact ⟨by omega, by omega⟩ | (constructor <;> omega))) rfl dX12_readPerson_56 cv_12_185 rfl rfl ob_214 rfl (by decide) (Nat.le_of_ble_eq_true rfl) (fun r_56 m_56 hr_56 ho_56 => ?_)
                obtain ⟨e_56, hm_56⟩ := hr_56
                first | rw [if_pos e_53] at hm_56 | rw [if_neg (by omega)] at hm_56
                refine go_if_eq (tgt := 80) dX12_readPerson_59 (by decide) ⟨by omega, by omega⟩ (fun h_59 => ?_) (fun h_59 => ?_)
                · exfalso; omega
                · refine go_aload_n dX12_readPerson_62 rfl ?_
                  refine go_bipush dX12_readPerson_63 (by decide) ?_
                  refine go_iload_n dX12_readPerson_65 rfl ?_
                  refine go_iadd dX12_readPerson_66 ?_
                  refine go_aload_n dX12_readPerson_67 rfl ?_
                  refine go_iconst dX12_readPerson_68 ?_
                  refine go_bipush dX12_readPerson_69 (by decide) ?_
                  refine go_callV_z (as := [vi 1, vi 60]) (S := [vi (27 + (G 47 3)), vr 214]) (b := 214) (ev_X12_readNumber (m := m_56) (lo := 1) (hi := 60) (G := G) (t := t) (kw := kw) (n := n) (lim := lim) (i := (i + 1 + 4)) (by rw [hm_56]; have z := ok_53.2.2; rw [show i + 1 + 3 + 1 = i + 1 + 4 by omega] at z; exact z.w (by decide) (by omega)) (by first | assumption | omega | exact ⟨by omega, by omega⟩ | (constructor <;> omega)) (by first | assumption | omega | exact ⟨by omega, by omega⟩ | (constructor <;> omega))) rfl dX12_readPerson_71 cv_12_181 rfl rfl ob_214 rfl (by decide) (Nat.le_of_ble_eq_true rfl) (fun r_71 m_71 hr_71 ho_71 => ?_)
                  rcases hr_71 with ⟨f_71, e_71, ok_71, v_71⟩ | ⟨f_71, e_71, no_71⟩
                  · refine go_callV_z (as := [vi (27 + (G 47 3)), vi r_71]) (S := []) (b := 214) (ev_X12_put (m := m_71) (k := (27 + (G 47 3))) (g := r_71) (by omega) (by first | assumption | omega | exact ⟨by omega, by omega⟩ | (constructor <;> omega))) rfl dX12_readPerson_74 cv_12_185 rfl rfl ob_214 rfl (by decide) (Nat.le_of_ble_eq_true rfl) (fun r_74 m_74 hr_74 ho_74 => ?_)
                    obtain ⟨e_74, hm_74⟩ := hr_74
                    first | rw [if_pos e_71] at hm_74 | rw [if_neg (by omega)] at hm_74
                    refine go_if_ne (tgt := 82) dX12_readPerson_77 (by decide) ⟨by omega, by omega⟩ (fun h_77 => ?_) (fun h_77 => ?_)
                    · refine go_aload_n dX12_readPerson_82 rfl ?_
                      refine go_getf_p (b := 217) dX12_readPerson_83 fl_12_101 ob_214 rfl pt_214_15 ?_
                      refine go_iconst dX12_readPerson_86 ?_
                      refine go_dup2_ir dX12_readPerson_87 ?_
                      refine go_iaload dX12_readPerson_88 ar_217 (by omega) (by omega) (fun he_88 => ?_)
                      rw [show (m_74 217 3 : Int) = (G 47 3) from by rw [hm_74, wr_ni (by omega), ok_71.1.1 217 (by decide), hm_56, wr_ni (by omega), ok_53.1.1 217 (by decide), hm_39, wr_ni (by omega), ok_36.1.1 217 (by decide), wr_na (by decide), ok_23.1.1 217 (by decide), wr_na (by decide)]; exact hra4.1.2.2.2.1] at he_88 ⊢
                      refine go_iconst dX12_readPerson_89 ?_
                      refine go_iadd dX12_readPerson_90 ?_
                      refine go_iastore dX12_readPerson_91 ar_217 (by omega) (by omega) ⟨by omega, by omega⟩ ?_
                      refine go_iconst dX12_readPerson_92 ?_
                      refine go_ret (v := 1) rfl dX12_readPerson_93 (okZ (by first | exact Or.inl rfl | exact Or.inr rfl | assumption | omega)) ?_
                      refine Or.inl ?_
                      have hq : psF G (i + 1) = (0, i + 1 + 5) := by rw [psF_ce, if_neg hz, if_neg (by omega), if_neg (by omega), if_neg (by omega), if_neg (by omega)]
                      rw [hq]
                      have k23 : Px m m_23 := ok_3.1.p.tr ((Px.rf.w (by omega)).tr ok_23.1.p)
                      have k39 : Px m m_39 := k23.tr ((Px.rf.w (by omega)).tr (ok_36.1.p.tr (by rw [hm_39]; exact Px.rf.w (by omega))))
                      have k56 : Px m m_56 := k39.tr (ok_53.1.p.tr (by rw [hm_56]; exact Px.rf.w (by omega)))
                      have k74 : Px m m_74 := k56.tr (ok_71.1.p.tr (by rw [hm_74]; exact Px.rf.w (by omega)))
                      refine ⟨rfl, rfl, k74.w (by omega), ?_, ?_, ?_, ?_, ?_⟩
                      · rw [wr_na (by decide), hm_74, wr_na (by decide), ok_71.2.1, hm_56, wr_na (by decide), ok_53.2.1, hm_39, wr_na (by decide), ok_36.2.1, wr_ni (by decide), ok_23.2.1, wr_na (by decide), ok_3.2.1]
                      · have z := ok_71.2.2; rw [show i + 1 + 4 + 1 = i + 1 + 5 by omega] at z; rw [hm_74]; exact (z.w (by decide) (by omega)).w (by decide) (by omega)
                      · refine hra4.ps hdn hw_23 hl5 (fun j => ?_) (fun j => ?_)
                        · rw [wr_rowat, hm_74, wr_rowat, v_71, ok_71.1.1 217 (by decide), hm_56, wr_rowat, v_53, ok_53.1.1 217 (by decide), hm_39, wr_rowat, v_36, ok_36.1.1 217 (by decide), wr_row (by decide), ok_23.1.1 217 (by decide), wr_row (by decide), show i + 1 + 1 + 1 = i + 1 + 2 by omega]
                        · rw [wr_na (by decide), hm_74, wr_na (by decide), ok_71.1.1 222 (by decide), hm_56, wr_na (by decide), ok_53.1.1 222 (by decide), hm_39, wr_na (by decide), ok_36.1.1 222 (by decide), wr_na (by decide), ok_23.1.1 222 (by decide), wr_rowat]
                      · rw [wr_na (by decide), hm_74, wr_na (by decide), ok_71.1.2 23 (by omega), hm_56, wr_na (by decide), ok_53.1.2 23 (by omega), hm_39, wr_na (by decide), ok_36.1.2 23 (by omega), wr_ni (by decide), ok_23.1.2 23 (by omega), wr_na (by decide), ok_3.1.2 23 (by omega), hra.2.1]; unfold psX; simp (disch := decide) only [wr_na, wr_ni]
                      · rw [wr_na (by decide), hm_74, wr_na (by decide), ok_71.1.2 24 (by omega), hm_56, wr_na (by decide), ok_53.1.2 24 (by omega), hm_39, wr_na (by decide), ok_36.1.2 24 (by omega), wr_self]; unfold psX; simp (disch := decide) only [wr_na, wr_self]
                    · exfalso; omega
                  · refine go_callV_z (as := [vi (27 + (G 47 3)), vi r_71]) (S := []) (b := 214) (ev_X12_put (m := m_71) (k := (27 + (G 47 3))) (g := r_71) (by omega) (by first | assumption | omega | exact ⟨by omega, by omega⟩ | (constructor <;> omega))) rfl dX12_readPerson_74 cv_12_185 rfl rfl ob_214 rfl (by decide) (Nat.le_of_ble_eq_true rfl) (fun r_74 m_74 hr_74 ho_74 => ?_)
                    obtain ⟨e_74, hm_74⟩ := hr_74
                    first | rw [if_pos e_71] at hm_74 | rw [if_neg (by omega)] at hm_74
                    refine go_if_ne (tgt := 82) dX12_readPerson_77 (by decide) ⟨by omega, by omega⟩ (fun h_77 => ?_) (fun h_77 => ?_)
                    · exfalso; omega
                    · refine go_iconst dX12_readPerson_80 ?_
                      refine go_ret (v := 0) rfl dX12_readPerson_81 (okZ (by first | exact Or.inl rfl | exact Or.inr rfl | assumption | omega)) ?_
                      refine Or.inr ?_
                      first
                      | (rw [psF_ce, if_neg hz, if_pos f_23]
                         exact ⟨f_23, rfl, NoP.tr ok_3.1.p no_23.p⟩)
                      | (rw [psF_ce, if_neg hz, if_neg (by omega), if_pos f_36]
                         have k23 : Px m m_23 := ok_3.1.p.tr ((Px.rf.w (by omega)).tr ok_23.1.p)
                         refine ⟨f_36, rfl, NoP.tr (n := wr m_23 214 24 1) (k23.tr (Px.rf.w (by omega))) ?_⟩
                         rw [hm_39]; exact no_36.p)
                      | (rw [psF_ce, if_neg hz, if_neg (by omega), if_neg (by omega), if_pos f_53]
                         have k23 : Px m m_23 := ok_3.1.p.tr ((Px.rf.w (by omega)).tr ok_23.1.p)
                         have k39 : Px m m_39 := k23.tr ((Px.rf.w (by omega)).tr (ok_36.1.p.tr (by rw [hm_39]; exact Px.rf.w (by omega))))
                         refine ⟨f_53, rfl, NoP.tr k39 ?_⟩
                         rw [hm_56]; exact no_53.p)
                      | (rw [psF_ce, if_neg hz, if_neg (by omega), if_neg (by omega), if_neg (by omega), if_pos f_71]
                         have k23 : Px m m_23 := ok_3.1.p.tr ((Px.rf.w (by omega)).tr ok_23.1.p)
                         have k39 : Px m m_39 := k23.tr ((Px.rf.w (by omega)).tr (ok_36.1.p.tr (by rw [hm_39]; exact Px.rf.w (by omega))))
                         have k56 : Px m m_56 := k39.tr (ok_53.1.p.tr (by rw [hm_56]; exact Px.rf.w (by omega)))
                         refine ⟨f_71, rfl, NoP.tr k56 ?_⟩
                         rw [hm_74]; exact no_71.p)
              · refine go_callV_z (as := [vi (22 + (G 47 3)), vi r_53]) (S := []) (b := 214) (ev_X12_put (m := m_53) (k := (22 + (G 47 3))) (g := r_53) (by omega) (by first | assumption | omega | exact ⟨by omega, by omega⟩ | (constructor <;> omega))) rfl dX12_readPerson_56 cv_12_185 rfl rfl ob_214 rfl (by decide) (Nat.le_of_ble_eq_true rfl) (fun r_56 m_56 hr_56 ho_56 => ?_)
                obtain ⟨e_56, hm_56⟩ := hr_56
                first | rw [if_pos e_53] at hm_56 | rw [if_neg (by omega)] at hm_56
                refine go_if_eq (tgt := 80) dX12_readPerson_59 (by decide) ⟨by omega, by omega⟩ (fun h_59 => ?_) (fun h_59 => ?_)
                · refine go_iconst dX12_readPerson_80 ?_
                  refine go_ret (v := 0) rfl dX12_readPerson_81 (okZ (by first | exact Or.inl rfl | exact Or.inr rfl | assumption | omega)) ?_
                  refine Or.inr ?_
                  first
                  | (rw [psF_ce, if_neg hz, if_pos f_23]
                     exact ⟨f_23, rfl, NoP.tr ok_3.1.p no_23.p⟩)
                  | (rw [psF_ce, if_neg hz, if_neg (by omega), if_pos f_36]
                     have k23 : Px m m_23 := ok_3.1.p.tr ((Px.rf.w (by omega)).tr ok_23.1.p)
                     refine ⟨f_36, rfl, NoP.tr (n := wr m_23 214 24 1) (k23.tr (Px.rf.w (by omega))) ?_⟩
                     rw [hm_39]; exact no_36.p)
                  | (rw [psF_ce, if_neg hz, if_neg (by omega), if_neg (by omega), if_pos f_53]
                     have k23 : Px m m_23 := ok_3.1.p.tr ((Px.rf.w (by omega)).tr ok_23.1.p)
                     have k39 : Px m m_39 := k23.tr ((Px.rf.w (by omega)).tr (ok_36.1.p.tr (by rw [hm_39]; exact Px.rf.w (by omega))))
                     refine ⟨f_53, rfl, NoP.tr k39 ?_⟩
                     rw [hm_56]; exact no_53.p)
                  | (rw [psF_ce, if_neg hz, if_neg (by omega), if_neg (by omega), if_neg (by omega), if_pos f_71]
                     have k23 : Px m m_23 := ok_3.1.p.tr ((Px.rf.w (by omega)).tr ok_23.1.p)
                     have k39 : Px m m_39 := k23.tr ((Px.rf.w (by omega)).tr (ok_36.1.p.tr (by rw [hm_39]; exact Px.rf.w (by omega))))
                     have k56 : Px m m_56 := k39.tr (ok_53.1.p.tr (by rw [hm_56]; exact Px.rf.w (by omega)))
                     refine ⟨f_71, rfl, NoP.tr k56 ?_⟩
                     rw [hm_74]; exact no_71.p)
                · exfalso; omega
          · refine go_callV_z (as := [vi (17 + (G 47 3)), vi r_36]) (S := []) (b := 214) (ev_X12_put (m := m_36) (k := (17 + (G 47 3))) (g := r_36) (by omega) (by first | assumption | omega | exact ⟨by omega, by omega⟩ | (constructor <;> omega))) rfl dX12_readPerson_39 cv_12_185 rfl rfl ob_214 rfl (by decide) (Nat.le_of_ble_eq_true rfl) (fun r_39 m_39 hr_39 ho_39 => ?_)
            obtain ⟨e_39, hm_39⟩ := hr_39
            first | rw [if_pos e_36] at hm_39 | rw [if_neg (by omega)] at hm_39
            refine go_if_eq (tgt := 80) dX12_readPerson_42 (by decide) ⟨by omega, by omega⟩ (fun h_42 => ?_) (fun h_42 => ?_)
            · refine go_iconst dX12_readPerson_80 ?_
              refine go_ret (v := 0) rfl dX12_readPerson_81 (okZ (by first | exact Or.inl rfl | exact Or.inr rfl | assumption | omega)) ?_
              refine Or.inr ?_
              first
              | (rw [psF_ce, if_neg hz, if_pos f_23]
                 exact ⟨f_23, rfl, NoP.tr ok_3.1.p no_23.p⟩)
              | (rw [psF_ce, if_neg hz, if_neg (by omega), if_pos f_36]
                 have k23 : Px m m_23 := ok_3.1.p.tr ((Px.rf.w (by omega)).tr ok_23.1.p)
                 refine ⟨f_36, rfl, NoP.tr (n := wr m_23 214 24 1) (k23.tr (Px.rf.w (by omega))) ?_⟩
                 rw [hm_39]; exact no_36.p)
              | (rw [psF_ce, if_neg hz, if_neg (by omega), if_neg (by omega), if_pos f_53]
                 have k23 : Px m m_23 := ok_3.1.p.tr ((Px.rf.w (by omega)).tr ok_23.1.p)
                 have k39 : Px m m_39 := k23.tr ((Px.rf.w (by omega)).tr (ok_36.1.p.tr (by rw [hm_39]; exact Px.rf.w (by omega))))
                 refine ⟨f_53, rfl, NoP.tr k39 ?_⟩
                 rw [hm_56]; exact no_53.p)
              | (rw [psF_ce, if_neg hz, if_neg (by omega), if_neg (by omega), if_neg (by omega), if_pos f_71]
                 have k23 : Px m m_23 := ok_3.1.p.tr ((Px.rf.w (by omega)).tr ok_23.1.p)
                 have k39 : Px m m_39 := k23.tr ((Px.rf.w (by omega)).tr (ok_36.1.p.tr (by rw [hm_39]; exact Px.rf.w (by omega))))
                 have k56 : Px m m_56 := k39.tr (ok_53.1.p.tr (by rw [hm_56]; exact Px.rf.w (by omega)))
                 refine ⟨f_71, rfl, NoP.tr k56 ?_⟩
                 rw [hm_74]; exact no_71.p)
            · exfalso; omega
      · refine go_if_eq (tgt := 80) dX12_readPerson_26 (by decide) ⟨by omega, by omega⟩ (fun h_26 => ?_) (fun h_26 => ?_)
        · refine go_iconst dX12_readPerson_80 ?_
          refine go_ret (v := 0) rfl dX12_readPerson_81 (okZ (by first | exact Or.inl rfl | exact Or.inr rfl | assumption | omega)) ?_
          refine Or.inr ?_
          first
          | (rw [psF_ce, if_neg hz, if_pos f_23]
             exact ⟨f_23, rfl, NoP.tr ok_3.1.p no_23.p⟩)
          | (rw [psF_ce, if_neg hz, if_neg (by omega), if_pos f_36]
             have k23 : Px m m_23 := ok_3.1.p.tr ((Px.rf.w (by omega)).tr ok_23.1.p)
             refine ⟨f_36, rfl, NoP.tr (n := wr m_23 214 24 1) (k23.tr (Px.rf.w (by omega))) ?_⟩
             rw [hm_39]; exact no_36.p)
          | (rw [psF_ce, if_neg hz, if_neg (by omega), if_neg (by omega), if_pos f_53]
             have k23 : Px m m_23 := ok_3.1.p.tr ((Px.rf.w (by omega)).tr ok_23.1.p)
             have k39 : Px m m_39 := k23.tr ((Px.rf.w (by omega)).tr (ok_36.1.p.tr (by rw [hm_39]; exact Px.rf.w (by omega))))
             refine ⟨f_53, rfl, NoP.tr k39 ?_⟩
             rw [hm_56]; exact no_53.p)
          | (rw [psF_ce, if_neg hz, if_neg (by omega), if_neg (by omega), if_neg (by omega), if_pos f_71]
             have k23 : Px m m_23 := ok_3.1.p.tr ((Px.rf.w (by omega)).tr ok_23.1.p)
             have k39 : Px m m_39 := k23.tr ((Px.rf.w (by omega)).tr (ok_36.1.p.tr (by rw [hm_39]; exact Px.rf.w (by omega))))
             have k56 : Px m m_56 := k39.tr (ok_53.1.p.tr (by rw [hm_56]; exact Px.rf.w (by omega)))
             refine ⟨f_71, rfl, NoP.tr k56 ?_⟩
             rw [hm_74]; exact no_71.p)
        · exfalso; omega
    · exfalso; omega
theorem dX12_readPoint_0 : decode mX12_readPoint.2.1 0 = .ok (.aload_n 0, 1) := by decide +kernel
theorem dX12_readPoint_1 : decode mX12_readPoint.2.1 1 = .ok (.iconst 4, 1) := by decide +kernel
theorem dX12_readPoint_2 : decode mX12_readPoint.2.1 2 = .ok (.iconst 5, 1) := by decide +kernel
theorem dX12_readPoint_3 : decode mX12_readPoint.2.1 3 = .ok (.invokevirtual 196, 3) := by decide +kernel
theorem dX12_readPoint_6 : decode mX12_readPoint.2.1 6 = .ok (.ifCond .ne 5, 3) := by decide +kernel
theorem dX12_readPoint_9 : decode mX12_readPoint.2.1 9 = .ok (.iconst 0, 1) := by decide +kernel
theorem dX12_readPoint_10 : decode mX12_readPoint.2.1 10 = .ok (.ireturn, 1) := by decide +kernel
theorem dX12_readPoint_11 : decode mX12_readPoint.2.1 11 = .ok (.aload_n 0, 1) := by decide +kernel
theorem dX12_readPoint_12 : decode mX12_readPoint.2.1 12 = .ok (.getfield 101, 3) := by decide +kernel
theorem dX12_readPoint_15 : decode mX12_readPoint.2.1 15 = .ok (.iconst 4, 1) := by decide +kernel
theorem dX12_readPoint_16 : decode mX12_readPoint.2.1 16 = .ok (.iaload, 1) := by decide +kernel
theorem dX12_readPoint_17 : decode mX12_readPoint.2.1 17 = .ok (.istore_n 1, 1) := by decide +kernel
theorem dX12_readPoint_18 : decode mX12_readPoint.2.1 18 = .ok (.aload_n 0, 1) := by decide +kernel
theorem dX12_readPoint_19 : decode mX12_readPoint.2.1 19 = .ok (.bipush 11, 2) := by decide +kernel
theorem dX12_readPoint_21 : decode mX12_readPoint.2.1 21 = .ok (.iload_n 1, 1) := by decide +kernel
theorem dX12_readPoint_22 : decode mX12_readPoint.2.1 22 = .ok (.iadd, 1) := by decide +kernel
theorem dX12_readPoint_23 : decode mX12_readPoint.2.1 23 = .ok (.invokevirtual 199, 3) := by decide +kernel
theorem dX12_readPoint_26 : decode mX12_readPoint.2.1 26 = .ok (.ifCond .eq 36, 3) := by decide +kernel
theorem dX12_readPoint_29 : decode mX12_readPoint.2.1 29 = .ok (.aload_n 0, 1) := by decide +kernel
theorem dX12_readPoint_30 : decode mX12_readPoint.2.1 30 = .ok (.bipush 32, 2) := by decide +kernel
theorem dX12_readPoint_32 : decode mX12_readPoint.2.1 32 = .ok (.iload_n 1, 1) := by decide +kernel
theorem dX12_readPoint_33 : decode mX12_readPoint.2.1 33 = .ok (.iadd, 1) := by decide +kernel
theorem dX12_readPoint_34 : decode mX12_readPoint.2.1 34 = .ok (.aload_n 0, 1) := by decide +kernel
theorem dX12_readPoint_35 : decode mX12_readPoint.2.1 35 = .ok (.iconst 0, 1) := by decide +kernel
theorem dX12_readPoint_36 : decode mX12_readPoint.2.1 36 = .ok (.invokevirtual 192, 3) := by decide +kernel
theorem dX12_readPoint_39 : decode mX12_readPoint.2.1 39 = .ok (.invokevirtual 185, 3) := by decide +kernel
theorem dX12_readPoint_42 : decode mX12_readPoint.2.1 42 = .ok (.ifCond .eq 20, 3) := by decide +kernel
theorem dX12_readPoint_45 : decode mX12_readPoint.2.1 45 = .ok (.aload_n 0, 1) := by decide +kernel
theorem dX12_readPoint_46 : decode mX12_readPoint.2.1 46 = .ok (.bipush 37, 2) := by decide +kernel
theorem dX12_readPoint_48 : decode mX12_readPoint.2.1 48 = .ok (.iload_n 1, 1) := by decide +kernel
theorem dX12_readPoint_49 : decode mX12_readPoint.2.1 49 = .ok (.iadd, 1) := by decide +kernel
theorem dX12_readPoint_50 : decode mX12_readPoint.2.1 50 = .ok (.aload_n 0, 1) := by decide +kernel
theorem dX12_readPoint_51 : decode mX12_readPoint.2.1 51 = .ok (.iconst 0, 1) := by decide +kernel
theorem dX12_readPoint_52 : decode mX12_readPoint.2.1 52 = .ok (.iconst 3, 1) := by decide +kernel
theorem dX12_readPoint_53 : decode mX12_readPoint.2.1 53 = .ok (.invokevirtual 181, 3) := by decide +kernel
theorem dX12_readPoint_56 : decode mX12_readPoint.2.1 56 = .ok (.invokevirtual 185, 3) := by decide +kernel
theorem dX12_readPoint_59 : decode mX12_readPoint.2.1 59 = .ok (.ifCond .ne 5, 3) := by decide +kernel
theorem dX12_readPoint_62 : decode mX12_readPoint.2.1 62 = .ok (.iconst 0, 1) := by decide +kernel
theorem dX12_readPoint_63 : decode mX12_readPoint.2.1 63 = .ok (.ireturn, 1) := by decide +kernel
theorem dX12_readPoint_64 : decode mX12_readPoint.2.1 64 = .ok (.aload_n 0, 1) := by decide +kernel
theorem dX12_readPoint_65 : decode mX12_readPoint.2.1 65 = .ok (.getfield 101, 3) := by decide +kernel
theorem dX12_readPoint_68 : decode mX12_readPoint.2.1 68 = .ok (.iconst 4, 1) := by decide +kernel
theorem dX12_readPoint_69 : decode mX12_readPoint.2.1 69 = .ok (.dup2, 1) := by decide +kernel
theorem dX12_readPoint_70 : decode mX12_readPoint.2.1 70 = .ok (.iaload, 1) := by decide +kernel
theorem dX12_readPoint_71 : decode mX12_readPoint.2.1 71 = .ok (.iconst 1, 1) := by decide +kernel
theorem dX12_readPoint_72 : decode mX12_readPoint.2.1 72 = .ok (.iadd, 1) := by decide +kernel
theorem dX12_readPoint_73 : decode mX12_readPoint.2.1 73 = .ok (.iastore, 1) := by decide +kernel
theorem dX12_readPoint_74 : decode mX12_readPoint.2.1 74 = .ok (.iconst 1, 1) := by decide +kernel
theorem dX12_readPoint_75 : decode mX12_readPoint.2.1 75 = .ok (.ireturn, 1) := by decide +kernel
set_option maxRecDepth 4000 in
theorem ev_X12_readPoint {m : Mem} {G : Mem} {t : Int → Int} {kw : Int → Int} {n : Int} {lim : Int} {i : Int} (htm : TM G t kw n lim m i) (h2 : 2 ≤ G 4 i) (hdr : DrOk G) (hra : RdA G m) : Ev 0 5 mX12_readPoint [vr 214] m (fun r m' => LnM G t kw n lim m m' (ptF G (i + 1)) (ptX G (i + 1)) r) := by
  refine Ev.of (L := [vr 214, un]) (by decide +kernel) rfl (Nat.le_of_ble_eq_true rfl) rfl (fun t ht => by cases ht; first | exact Or.inl rfl | exact Or.inr (Or.inl rfl) | exact Or.inr (Or.inr rfl)) (fun hcan => ?_)
  obtain ⟨hdn, hst, hdr3, hdr4, hdr5, hdr6, hdr7⟩ := id hdr
  obtain ⟨⟨hd0, hd1⟩, ⟨hd2, hd3⟩, ⟨hd4, hd5⟩, ⟨hd6, hd7⟩, ⟨hd8, hd9⟩, hdf, hdp, hdq⟩ := id hdn
  obtain ⟨⟨hs0, hs1⟩, ⟨hs2, hs3⟩, hsw, hsp, hsd, hsz⟩ := id hst
  have hkd := htm.kd
  refine go_aload_n dX12_readPoint_0 rfl ?_
  refine go_iconst dX12_readPoint_1 ?_
  refine go_iconst dX12_readPoint_2 ?_
  refine go_callV_z (as := [vi 4, vi 5]) (S := []) (b := 214) (ev_X12_readFirst (m := m) (k := 4) (mo := 5) (G := G) (t := t) (kw := kw) (n := n) (lim := lim) (i := i) htm (by first | assumption | omega | exact ⟨by omega, by omega⟩ | (constructor <;> omega)) (by first | assumption | omega | exact ⟨by omega, by omega⟩ | (constructor <;> omega)) (by first | assumption | omega | exact ⟨by omega, by omega⟩ | (constructor <;> omega))) rfl dX12_readPoint_3 cv_12_196 rfl rfl ob_214 rfl (by decide) (Nat.le_of_ble_eq_true rfl) (fun r_3 m_3 hr_3 ho_3 => ?_)
  rcases hr_3 with ⟨f_3, e_3, no_3⟩ | ⟨f_3, e_3, ok_3⟩
  · refine go_if_ne (tgt := 11) dX12_readPoint_6 (by decide) ⟨by omega, by omega⟩ (fun h_6 => ?_) (fun h_6 => ?_)
    · exfalso; omega
    · refine go_iconst dX12_readPoint_9 ?_
      exact go_ret (v := 0) rfl dX12_readPoint_10 (okZ (by first | exact Or.inl rfl | exact Or.inr rfl | assumption | omega)) (Or.inr (by have hq : ptF G (i + 1) = (4, i + 1 - 1) := (by unfold ptF; rw [if_pos (by rw [hra.1.1.2.2.2.2] at f_3; omega)]); rw [hq, show i + 1 - 1 = i by omega]; exact ⟨(show (4 : Int) ≠ 0 by decide), rfl, no_3.p⟩))
  · refine go_if_ne (tgt := 11) dX12_readPoint_6 (by decide) ⟨by omega, by omega⟩ (fun h_6 => ?_) (fun h_6 => ?_)
    · have hl5 : G 47 4 < 5 := by rw [hra.1.1.2.2.2.2] at f_3; omega
      have hra4 := hra.1.l ok_3.1
      have hz : ¬ 5 ≤ G 47 4 := by omega
      refine go_aload_n dX12_readPoint_11 rfl ?_
      refine go_getf_p (b := 217) dX12_readPoint_12 fl_12_101 ob_214 rfl pt_214_15 ?_
      refine go_iconst dX12_readPoint_15 ?_
      refine go_iaload dX12_readPoint_16 ar_217 (by omega) (by omega) (fun he_16 => ?_)
      rw [show (m_3 217 4 : Int) = (G 47 4) from hra4.1.2.2.2.2] at he_16 ⊢
      refine go_istore_n (L' := [vr 214, vi (G 47 4)]) dX12_readPoint_17 (by decide) rfl rfl ?_
      refine go_aload_n dX12_readPoint_18 rfl ?_
      refine go_bipush dX12_readPoint_19 (by decide) ?_
      refine go_iload_n dX12_readPoint_21 rfl ?_
      refine go_iadd dX12_readPoint_22 ?_
      refine go_callV_z (as := [vi (11 + (G 47 4))]) (S := []) (b := 214) (ev_X12_readNew (m := m_3) (slot := (11 + (G 47 4))) (G := G) (t := t) (kw := kw) (n := n) (lim := lim) (i := (i + 1)) ok_3.2.2 hdr hra4 (by omega)) rfl dX12_readPoint_23 cv_12_199 rfl rfl ob_214 rfl (by decide) (Nat.le_of_ble_eq_true rfl) (fun r_23 m_23 hr_23 ho_23 => ?_)
      rcases hr_23 with ⟨f_23, e_23, w_23, hw_23, ok_23⟩ | ⟨f_23, e_23, no_23⟩
      · refine go_if_eq (tgt := 62) dX12_readPoint_26 (by decide) ⟨by omega, by omega⟩ (fun h_26 => ?_) (fun h_26 => ?_)
        · exfalso; omega
        · refine go_aload_n dX12_readPoint_29 rfl ?_
          refine go_bipush dX12_readPoint_30 (by decide) ?_
          refine go_iload_n dX12_readPoint_32 rfl ?_
          refine go_iadd dX12_readPoint_33 ?_
          refine go_aload_n dX12_readPoint_34 rfl ?_
          refine go_iconst dX12_readPoint_35 ?_
          refine go_callV_z (as := [vi 0]) (S := [vi (32 + (G 47 4)), vr 214]) (b := 214) (ev_X12_readCell (m := m_23) (e := 0) (G := G) (t := t) (kw := kw) (n := n) (lim := lim) (i := (i + 1 + 1)) ok_23.2.2 hdr (by rw [ok_23.1.1 217 (by decide), ok_23.1.1 222 (by decide), wr_row (by decide), wr_rowat]; exact hra4.nm hdn (by omega)) (by first | assumption | omega | exact ⟨by omega, by omega⟩ | (constructor <;> omega))) rfl dX12_readPoint_36 cv_12_192 rfl rfl ob_214 rfl (by decide) (Nat.le_of_ble_eq_true rfl) (fun r_36 m_36 hr_36 ho_36 => ?_)
          rcases hr_36 with ⟨f_36, e_36, q_36, ok_36, v_36⟩ | ⟨f_36, e_36, no_36⟩
          · refine go_callV_z (as := [vi (32 + (G 47 4)), vi r_36]) (S := []) (b := 214) (ev_X12_put (m := m_36) (k := (32 + (G 47 4))) (g := r_36) (by omega) (by first | assumption | omega | exact ⟨by omega, by omega⟩ | (constructor <;> omega))) rfl dX12_readPoint_39 cv_12_185 rfl rfl ob_214 rfl (by decide) (Nat.le_of_ble_eq_true rfl) (fun r_39 m_39 hr_39 ho_39 => ?_)
            obtain ⟨e_39, hm_39⟩ := hr_39
            first | rw [if_pos e_36] at hm_39 | rw [if_neg (by omega)] at hm_39
            refine go_if_eq (tgt := 62) dX12_readPoint_42 (by decide) ⟨by omega, by omega⟩ (fun h_42 => ?_) (fun h_42 => ?_)
            · exfalso; omega
            · refine go_aload_n dX12_readPoint_45 rfl ?_
              refine go_bipush dX12_readPoint_46 (by decide) ?_
              refine go_iload_n dX12_readPoint_48 rfl ?_
              refine go_iadd dX12_readPoint_49 ?_
              refine go_aload_n dX12_readPoint_50 rfl ?_
              refine go_iconst dX12_readPoint_51 ?_
              refine go_iconst dX12_readPoint_52 ?_
              refine go_callV_z (as := [vi 0, vi 3]) (S := [vi (37 + (G 47 4)), vr 214]) (b := 214) (ev_X12_readNumber (m := m_39) (lo := 0) (hi := 3) (G := G) (t := t) (kw := kw) (n := n) (lim := lim) (i := (i + 1 + 3)) (by rw [hm_39]; have z := ok_36.2.2; rw [show i + 1 + 1 + 2 = i + 1 + 3 by omega] at z; exact z.w (by decide) (by omega)) (by first | assumption | omega | exact ⟨by omega, by omega⟩ | (constructor <;> omega)) (by first | assumption | omega | exact ⟨by omega, by omega⟩ | (constructor <;> omega))) rfl dX12_readPoint_53 cv_12_181 rfl rfl ob_214 rfl (by decide) (Nat.le_of_ble_eq_true rfl) (fun r_53 m_53 hr_53 ho_53 => ?_)
              rcases hr_53 with ⟨f_53, e_53, ok_53, v_53⟩ | ⟨f_53, e_53, no_53⟩
              · refine go_callV_z (as := [vi (37 + (G 47 4)), vi r_53]) (S := []) (b := 214) (ev_X12_put (m := m_53) (k := (37 + (G 47 4))) (g := r_53) (by omega) (by first | assumption | omega | exact ⟨by omega, by omega⟩ | (constructor <;> omega))) rfl dX12_readPoint_56 cv_12_185 rfl rfl ob_214 rfl (by decide) (Nat.le_of_ble_eq_true rfl) (fun r_56 m_56 hr_56 ho_56 => ?_)
                obtain ⟨e_56, hm_56⟩ := hr_56
                first | rw [if_pos e_53] at hm_56 | rw [if_neg (by omega)] at hm_56
                refine go_if_ne (tgt := 64) dX12_readPoint_59 (by decide) ⟨by omega, by omega⟩ (fun h_59 => ?_) (fun h_59 => ?_)
                · refine go_aload_n dX12_readPoint_64 rfl ?_
                  refine go_getf_p (b := 217) dX12_readPoint_65 fl_12_101 ob_214 rfl pt_214_15 ?_
                  refine go_iconst dX12_readPoint_68 ?_
                  refine go_dup2_ir dX12_readPoint_69 ?_
                  refine go_iaload dX12_readPoint_70 ar_217 (by omega) (by omega) (fun he_70 => ?_)
                  rw [show (m_56 217 4 : Int) = (G 47 4) from by rw [hm_56, wr_ni (by omega), ok_53.1.1 217 (by decide), hm_39, wr_ni (by omega), ok_36.1.1 217 (by decide), wr_na (by decide), ok_23.1.1 217 (by decide), wr_na (by decide)]; exact hra4.1.2.2.2.2] at he_70 ⊢
                  refine go_iconst dX12_readPoint_71 ?_
                  refine go_iadd dX12_readPoint_72 ?_
                  refine go_iastore dX12_readPoint_73 ar_217 (by omega) (by omega) ⟨by omega, by omega⟩ ?_
                  refine go_iconst dX12_readPoint_74 ?_
                  refine go_ret (v := 1) rfl dX12_readPoint_75 (okZ (by first | exact Or.inl rfl | exact Or.inr rfl | assumption | omega)) ?_
                  refine Or.inl ?_
                  have hq : ptF G (i + 1) = (0, i + 1 + 4) := by rw [ptF_ce, if_neg hz, if_neg (by omega), if_neg (by omega), if_neg (by omega)]
                  rw [hq]
                  have k23 : Px m m_23 := ok_3.1.p.tr ((Px.rf.w (by omega)).tr ok_23.1.p)
                  have k39 : Px m m_39 := k23.tr ((Px.rf.w (by omega)).tr (ok_36.1.p.tr (by rw [hm_39]; exact Px.rf.w (by omega))))
                  have k56 : Px m m_56 := k39.tr (ok_53.1.p.tr (by rw [hm_56]; exact Px.rf.w (by omega)))
                  refine ⟨rfl, rfl, k56.w (by omega), ?_, ?_, ?_, ?_, ?_⟩
                  · rw [wr_na (by decide), hm_56, wr_na (by decide), ok_53.2.1, hm_39, wr_na (by decide), ok_36.2.1, wr_ni (by decide), ok_23.2.1, wr_na (by decide), ok_3.2.1]
                  · have z := ok_53.2.2; rw [show i + 1 + 3 + 1 = i + 1 + 4 by omega] at z; rw [hm_56]; exact (z.w (by decide) (by omega)).w (by decide) (by omega)
                  · refine hra4.pt hdn hw_23 hl5 (fun j => ?_) (fun j => ?_)
                    · rw [wr_rowat, hm_56, wr_rowat, v_53, ok_53.1.1 217 (by decide), hm_39, wr_rowat, v_36, ok_36.1.1 217 (by decide), wr_row (by decide), ok_23.1.1 217 (by decide), wr_row (by decide), show i + 1 + 1 + 1 = i + 1 + 2 by omega]
                    · rw [wr_na (by decide), hm_56, wr_na (by decide), ok_53.1.1 222 (by decide), hm_39, wr_na (by decide), ok_36.1.1 222 (by decide), wr_na (by decide), ok_23.1.1 222 (by decide), wr_rowat]
                  · rw [wr_na (by decide), hm_56, wr_na (by decide), ok_53.1.2 23 (by omega), hm_39, wr_na (by decide), ok_36.1.2 23 (by omega), wr_ni (by decide), ok_23.1.2 23 (by omega), wr_na (by decide), ok_3.1.2 23 (by omega), hra.2.1]; unfold ptX; simp (disch := decide) only [wr_na, wr_ni]
                  · rw [wr_na (by decide), hm_56, wr_na (by decide), ok_53.1.2 24 (by omega), hm_39, wr_na (by decide), ok_36.1.2 24 (by omega), wr_self]; unfold ptX; simp (disch := decide) only [wr_na, wr_self]
                · exfalso; omega
              · refine go_callV_z (as := [vi (37 + (G 47 4)), vi r_53]) (S := []) (b := 214) (ev_X12_put (m := m_53) (k := (37 + (G 47 4))) (g := r_53) (by omega) (by first | assumption | omega | exact ⟨by omega, by omega⟩ | (constructor <;> omega))) rfl dX12_readPoint_56 cv_12_185 rfl rfl ob_214 rfl (by decide) (Nat.le_of_ble_eq_true rfl) (fun r_56 m_56 hr_56 ho_56 => ?_)
                obtain ⟨e_56, hm_56⟩ := hr_56
                first | rw [if_pos e_53] at hm_56 | rw [if_neg (by omega)] at hm_56
                refine go_if_ne (tgt := 64) dX12_readPoint_59 (by decide) ⟨by omega, by omega⟩ (fun h_59 => ?_) (fun h_59 => ?_)
                · exfalso; omega
                · refine go_iconst dX12_readPoint_62 ?_
                  refine go_ret (v := 0) rfl dX12_readPoint_63 (okZ (by first | exact Or.inl rfl | exact Or.inr rfl | assumption | omega)) ?_
                  refine Or.inr ?_
                  first
                  | (rw [ptF_ce, if_neg hz, if_pos f_23]
                     exact ⟨f_23, rfl, NoP.tr ok_3.1.p no_23.p⟩)
                  | (rw [ptF_ce, if_neg hz, if_neg (by omega), if_pos f_36]
                     have k23 : Px m m_23 := ok_3.1.p.tr ((Px.rf.w (by omega)).tr ok_23.1.p)
                     refine ⟨f_36, rfl, NoP.tr (n := wr m_23 214 24 1) (k23.tr (Px.rf.w (by omega))) ?_⟩
                     rw [hm_39]; exact no_36.p)
                  | (rw [ptF_ce, if_neg hz, if_neg (by omega), if_neg (by omega), if_pos f_53]
                     have k23 : Px m m_23 := ok_3.1.p.tr ((Px.rf.w (by omega)).tr ok_23.1.p)
                     have k39 : Px m m_39 := k23.tr ((Px.rf.w (by omega)).tr (ok_36.1.p.tr (by rw [hm_39]; exact Px.rf.w (by omega))))
                     refine ⟨f_53, rfl, NoP.tr k39 ?_⟩
                     rw [hm_56]; exact no_53.p)
          · refine go_callV_z (as := [vi (32 + (G 47 4)), vi r_36]) (S := []) (b := 214) (ev_X12_put (m := m_36) (k := (32 + (G 47 4))) (g := r_36) (by omega) (by first | assumption | omega | exact ⟨by omega, by omega⟩ | (constructor <;> omega))) rfl dX12_readPoint_39 cv_12_185 rfl rfl ob_214 rfl (by decide) (Nat.le_of_ble_eq_true rfl) (fun r_39 m_39 hr_39 ho_39 => ?_)
            obtain ⟨e_39, hm_39⟩ := hr_39
            first | rw [if_pos e_36] at hm_39 | rw [if_neg (by omega)] at hm_39
            refine go_if_eq (tgt := 62) dX12_readPoint_42 (by decide) ⟨by omega, by omega⟩ (fun h_42 => ?_) (fun h_42 => ?_)
            · refine go_iconst dX12_readPoint_62 ?_
              refine go_ret (v := 0) rfl dX12_readPoint_63 (okZ (by first | exact Or.inl rfl | exact Or.inr rfl | assumption | omega)) ?_
              refine Or.inr ?_
              first
              | (rw [ptF_ce, if_neg hz, if_pos f_23]
                 exact ⟨f_23, rfl, NoP.tr ok_3.1.p no_23.p⟩)
              | (rw [ptF_ce, if_neg hz, if_neg (by omega), if_pos f_36]
                 have k23 : Px m m_23 := ok_3.1.p.tr ((Px.rf.w (by omega)).tr ok_23.1.p)
                 refine ⟨f_36, rfl, NoP.tr (n := wr m_23 214 24 1) (k23.tr (Px.rf.w (by omega))) ?_⟩
                 rw [hm_39]; exact no_36.p)
              | (rw [ptF_ce, if_neg hz, if_neg (by omega), if_neg (by omega), if_pos f_53]
                 have k23 : Px m m_23 := ok_3.1.p.tr ((Px.rf.w (by omega)).tr ok_23.1.p)
                 have k39 : Px m m_39 := k23.tr ((Px.rf.w (by omega)).tr (ok_36.1.p.tr (by rw [hm_39]; exact Px.rf.w (by omega))))
                 refine ⟨f_53, rfl, NoP.tr k39 ?_⟩
                 rw [hm_56]; exact no_53.p)
            · exfalso; omega
      · refine go_if_eq (tgt := 62) dX12_readPoint_26 (by decide) ⟨by omega, by omega⟩ (fun h_26 => ?_) (fun h_26 => ?_)
        · refine go_iconst dX12_readPoint_62 ?_
          refine go_ret (v := 0) rfl dX12_readPoint_63 (okZ (by first | exact Or.inl rfl | exact Or.inr rfl | assumption | omega)) ?_
          refine Or.inr ?_
          first
          | (rw [ptF_ce, if_neg hz, if_pos f_23]
             exact ⟨f_23, rfl, NoP.tr ok_3.1.p no_23.p⟩)
          | (rw [ptF_ce, if_neg hz, if_neg (by omega), if_pos f_36]
             have k23 : Px m m_23 := ok_3.1.p.tr ((Px.rf.w (by omega)).tr ok_23.1.p)
             refine ⟨f_36, rfl, NoP.tr (n := wr m_23 214 24 1) (k23.tr (Px.rf.w (by omega))) ?_⟩
             rw [hm_39]; exact no_36.p)
          | (rw [ptF_ce, if_neg hz, if_neg (by omega), if_neg (by omega), if_pos f_53]
             have k23 : Px m m_23 := ok_3.1.p.tr ((Px.rf.w (by omega)).tr ok_23.1.p)
             have k39 : Px m m_39 := k23.tr ((Px.rf.w (by omega)).tr (ok_36.1.p.tr (by rw [hm_39]; exact Px.rf.w (by omega))))
             refine ⟨f_53, rfl, NoP.tr k39 ?_⟩
             rw [hm_56]; exact no_53.p)
        · exfalso; omega
    · exfalso; omega
theorem dX12_readLine_0 : decode mX12_readLine.2.1 0 = .ok (.aload_n 0, 1) := by decide +kernel
theorem dX12_readLine_1 : decode mX12_readLine.2.1 1 = .ok (.iconst 0, 1) := by decide +kernel
theorem dX12_readLine_2 : decode mX12_readLine.2.1 2 = .ok (.invokevirtual 202, 3) := by decide +kernel
theorem dX12_readLine_5 : decode mX12_readLine.2.1 5 = .ok (.ifCond .eq 8, 3) := by decide +kernel
theorem dX12_readLine_8 : decode mX12_readLine.2.1 8 = .ok (.aload_n 0, 1) := by decide +kernel
theorem dX12_readLine_9 : decode mX12_readLine.2.1 9 = .ok (.invokevirtual 205, 3) := by decide +kernel
theorem dX12_readLine_12 : decode mX12_readLine.2.1 12 = .ok (.ireturn, 1) := by decide +kernel
theorem dX12_readLine_13 : decode mX12_readLine.2.1 13 = .ok (.aload_n 0, 1) := by decide +kernel
theorem dX12_readLine_14 : decode mX12_readLine.2.1 14 = .ok (.iconst 1, 1) := by decide +kernel
theorem dX12_readLine_15 : decode mX12_readLine.2.1 15 = .ok (.invokevirtual 202, 3) := by decide +kernel
theorem dX12_readLine_18 : decode mX12_readLine.2.1 18 = .ok (.ifCond .eq 8, 3) := by decide +kernel
theorem dX12_readLine_21 : decode mX12_readLine.2.1 21 = .ok (.aload_n 0, 1) := by decide +kernel
theorem dX12_readLine_22 : decode mX12_readLine.2.1 22 = .ok (.invokevirtual 208, 3) := by decide +kernel
theorem dX12_readLine_25 : decode mX12_readLine.2.1 25 = .ok (.ireturn, 1) := by decide +kernel
theorem dX12_readLine_26 : decode mX12_readLine.2.1 26 = .ok (.aload_n 0, 1) := by decide +kernel
theorem dX12_readLine_27 : decode mX12_readLine.2.1 27 = .ok (.iconst 2, 1) := by decide +kernel
theorem dX12_readLine_28 : decode mX12_readLine.2.1 28 = .ok (.invokevirtual 202, 3) := by decide +kernel
theorem dX12_readLine_31 : decode mX12_readLine.2.1 31 = .ok (.ifCond .eq 8, 3) := by decide +kernel
theorem dX12_readLine_34 : decode mX12_readLine.2.1 34 = .ok (.aload_n 0, 1) := by decide +kernel
theorem dX12_readLine_35 : decode mX12_readLine.2.1 35 = .ok (.invokevirtual 211, 3) := by decide +kernel
theorem dX12_readLine_38 : decode mX12_readLine.2.1 38 = .ok (.ireturn, 1) := by decide +kernel
theorem dX12_readLine_39 : decode mX12_readLine.2.1 39 = .ok (.aload_n 0, 1) := by decide +kernel
theorem dX12_readLine_40 : decode mX12_readLine.2.1 40 = .ok (.iconst 3, 1) := by decide +kernel
theorem dX12_readLine_41 : decode mX12_readLine.2.1 41 = .ok (.invokevirtual 202, 3) := by decide +kernel
theorem dX12_readLine_44 : decode mX12_readLine.2.1 44 = .ok (.ifCond .eq 8, 3) := by decide +kernel
theorem dX12_readLine_47 : decode mX12_readLine.2.1 47 = .ok (.aload_n 0, 1) := by decide +kernel
theorem dX12_readLine_48 : decode mX12_readLine.2.1 48 = .ok (.invokevirtual 214, 3) := by decide +kernel
theorem dX12_readLine_51 : decode mX12_readLine.2.1 51 = .ok (.ireturn, 1) := by decide +kernel
theorem dX12_readLine_52 : decode mX12_readLine.2.1 52 = .ok (.aload_n 0, 1) := by decide +kernel
theorem dX12_readLine_53 : decode mX12_readLine.2.1 53 = .ok (.iconst 4, 1) := by decide +kernel
theorem dX12_readLine_54 : decode mX12_readLine.2.1 54 = .ok (.invokevirtual 202, 3) := by decide +kernel
theorem dX12_readLine_57 : decode mX12_readLine.2.1 57 = .ok (.ifCond .eq 10, 3) := by decide +kernel
theorem dX12_readLine_60 : decode mX12_readLine.2.1 60 = .ok (.aload_n 0, 1) := by decide +kernel
theorem dX12_readLine_61 : decode mX12_readLine.2.1 61 = .ok (.invokevirtual 217, 3) := by decide +kernel
theorem dX12_readLine_64 : decode mX12_readLine.2.1 64 = .ok (.goto 8, 3) := by decide +kernel
theorem dX12_readLine_67 : decode mX12_readLine.2.1 67 = .ok (.aload_n 0, 1) := by decide +kernel
theorem dX12_readLine_68 : decode mX12_readLine.2.1 68 = .ok (.iconst 1, 1) := by decide +kernel
theorem dX12_readLine_69 : decode mX12_readLine.2.1 69 = .ok (.invokevirtual 72, 3) := by decide +kernel
theorem dX12_readLine_72 : decode mX12_readLine.2.1 72 = .ok (.ireturn, 1) := by decide +kernel
set_option maxRecDepth 4000 in
theorem ev_X12_readLine {m : Mem} {G : Mem} {t : Int → Int} {kw : Int → Int} {n : Int} {lim : Int} {i : Int} (htm : TM G t kw n lim m i) (hdr : DrOk G) (hra : RdA G m) : Ev 0 6 mX12_readLine [vr 214] m (fun r m' => LnM G t kw n lim m m' (lnF G (i + 1)) (lnX G (i + 1)) r) := by
  refine Ev.of (L := [vr 214]) (by decide +kernel) rfl (Nat.le_of_ble_eq_true rfl) rfl (fun t ht => by cases ht; first | exact Or.inl rfl | exact Or.inr (Or.inl rfl) | exact Or.inr (Or.inr rfl)) (fun hcan => ?_)
  refine go_aload_n dX12_readLine_0 rfl ?_
  refine go_iconst dX12_readLine_1 ?_
  refine go_callVp_z (as := [vi 0]) (S := []) (b := 214) (ev_X12_isWord (m := m) (k := 0) (G := G) (t := t) (kw := kw) (n := n) (lim := lim) (i := i) htm (by first | assumption | omega | exact ⟨by omega, by omega⟩ | (constructor <;> omega))) rfl dX12_readLine_2 cv_12_202 rfl rfl ob_214 rfl (by decide) (Nat.le_of_ble_eq_true rfl) (fun r_2 hr_2 ho_2 => ?_)
  refine go_if_eq (tgt := 13) dX12_readLine_5 (by decide) ⟨by omega, by omega⟩ (fun h_5 => ?_) (fun h_5 => ?_)
  · refine go_aload_n dX12_readLine_13 rfl ?_
    refine go_iconst dX12_readLine_14 ?_
    refine go_callVp_z (as := [vi 1]) (S := []) (b := 214) (ev_X12_isWord (m := m) (k := 1) (G := G) (t := t) (kw := kw) (n := n) (lim := lim) (i := i) htm (by first | assumption | omega | exact ⟨by omega, by omega⟩ | (constructor <;> omega))) rfl dX12_readLine_15 cv_12_202 rfl rfl ob_214 rfl (by decide) (Nat.le_of_ble_eq_true rfl) (fun r_15 hr_15 ho_15 => ?_)
    refine go_if_eq (tgt := 26) dX12_readLine_18 (by decide) ⟨by omega, by omega⟩ (fun h_18 => ?_) (fun h_18 => ?_)
    · refine go_aload_n dX12_readLine_26 rfl ?_
      refine go_iconst dX12_readLine_27 ?_
      refine go_callVp_z (as := [vi 2]) (S := []) (b := 214) (ev_X12_isWord (m := m) (k := 2) (G := G) (t := t) (kw := kw) (n := n) (lim := lim) (i := i) htm (by first | assumption | omega | exact ⟨by omega, by omega⟩ | (constructor <;> omega))) rfl dX12_readLine_28 cv_12_202 rfl rfl ob_214 rfl (by decide) (Nat.le_of_ble_eq_true rfl) (fun r_28 hr_28 ho_28 => ?_)
      refine go_if_eq (tgt := 39) dX12_readLine_31 (by decide) ⟨by omega, by omega⟩ (fun h_31 => ?_) (fun h_31 => ?_)
      · refine go_aload_n dX12_readLine_39 rfl ?_
        refine go_iconst dX12_readLine_40 ?_
        refine go_callVp_z (as := [vi 3]) (S := []) (b := 214) (ev_X12_isWord (m := m) (k := 3) (G := G) (t := t) (kw := kw) (n := n) (lim := lim) (i := i) htm (by first | assumption | omega | exact ⟨by omega, by omega⟩ | (constructor <;> omega))) rfl dX12_readLine_41 cv_12_202 rfl rfl ob_214 rfl (by decide) (Nat.le_of_ble_eq_true rfl) (fun r_41 hr_41 ho_41 => ?_)
        refine go_if_eq (tgt := 52) dX12_readLine_44 (by decide) ⟨by omega, by omega⟩ (fun h_44 => ?_) (fun h_44 => ?_)
        · refine go_aload_n dX12_readLine_52 rfl ?_
          refine go_iconst dX12_readLine_53 ?_
          refine go_callVp_z (as := [vi 4]) (S := []) (b := 214) (ev_X12_isWord (m := m) (k := 4) (G := G) (t := t) (kw := kw) (n := n) (lim := lim) (i := i) htm (by first | assumption | omega | exact ⟨by omega, by omega⟩ | (constructor <;> omega))) rfl dX12_readLine_54 cv_12_202 rfl rfl ob_214 rfl (by decide) (Nat.le_of_ble_eq_true rfl) (fun r_54 hr_54 ho_54 => ?_)
          refine go_if_eq (tgt := 67) dX12_readLine_57 (by decide) ⟨by omega, by omega⟩ (fun h_57 => ?_) (fun h_57 => ?_)
          · refine go_aload_n dX12_readLine_67 rfl ?_
            refine go_iconst dX12_readLine_68 ?_
            refine go_callV_z (as := [vi 1]) (S := []) (b := 214) (ev_X12_bad (m := m) (k := 1) (G := G) (t := t) (kw := kw) (n := n) (lim := lim) (i := i) htm (by first | assumption | omega | exact ⟨by omega, by omega⟩ | (constructor <;> omega))) rfl dX12_readLine_69 cv_12_72 rfl rfl ob_214 rfl (by decide) (Nat.le_of_ble_eq_true rfl) (fun r_69 m_69 hr_69 ho_69 => ?_)
            exact go_ret (v := r_69) rfl dX12_readLine_72 (okZ (by assumption)) (by first | exact (by have e1 : lnF G (i + 1) = ptF G (i + 1) := (by unfold lnF; rw [show i + 1 - 1 = i by omega, if_neg (by omega), if_neg (by omega), if_neg (by omega), if_neg (by omega), if_pos (by omega)]); have e2 : lnX G (i + 1) = ptX G (i + 1) := (by unfold lnX; rw [show i + 1 - 1 = i by omega, if_neg (by omega), if_neg (by omega), if_neg (by omega), if_neg (by omega)]); rw [e1, e2]; exact hr_61) | (refine Or.inr ?_; have e1 : lnF G (i + 1) = (1, i + 1 - 1) := (by unfold lnF; rw [show i + 1 - 1 = i by omega, if_neg (by omega), if_neg (by omega), if_neg (by omega), if_neg (by omega), if_neg (by omega)]); rw [e1, show i + 1 - 1 = i by omega]; exact ⟨(show (1 : Int) ≠ 0 by decide), hr_69.1, (NoT.b (by rw [hr_69.2]; congr 2; split <;> rfl)).p⟩))
          · refine go_aload_n dX12_readLine_60 rfl ?_
            refine go_callV_z (as := []) (S := []) (b := 214) (ev_X12_readPoint (m := m) (G := G) (t := t) (kw := kw) (n := n) (lim := lim) (i := i) htm (by omega) hdr hra) rfl dX12_readLine_61 cv_12_217 rfl rfl ob_214 rfl (by decide) (Nat.le_of_ble_eq_true rfl) (fun r_61 m_61 hr_61 ho_61 => ?_)
            refine go_goto (tgt := 72) dX12_readLine_64 (by decide) ?_
            exact go_ret (v := r_61) rfl dX12_readLine_72 (okZ (by assumption)) (by first | exact (by have e1 : lnF G (i + 1) = ptF G (i + 1) := (by unfold lnF; rw [show i + 1 - 1 = i by omega, if_neg (by omega), if_neg (by omega), if_neg (by omega), if_neg (by omega), if_pos (by omega)]); have e2 : lnX G (i + 1) = ptX G (i + 1) := (by unfold lnX; rw [show i + 1 - 1 = i by omega, if_neg (by omega), if_neg (by omega), if_neg (by omega), if_neg (by omega)]); rw [e1, e2]; exact hr_61) | (refine Or.inr ?_; have e1 : lnF G (i + 1) = (1, i + 1 - 1) := (by unfold lnF; rw [show i + 1 - 1 = i by omega, if_neg (by omega), if_neg (by omega), if_neg (by omega), if_neg (by omega), if_neg (by omega)]); rw [e1, show i + 1 - 1 = i by omega]; exact ⟨(show (1 : Int) ≠ 0 by decide), hr_69.1, (NoT.b (by rw [hr_69.2]; congr 2; split <;> rfl)).p⟩))
        · refine go_aload_n dX12_readLine_47 rfl ?_
          refine go_callV_z (as := []) (S := []) (b := 214) (ev_X12_readPerson (m := m) (G := G) (t := t) (kw := kw) (n := n) (lim := lim) (i := i) htm (by omega) hdr hra) rfl dX12_readLine_48 cv_12_214 rfl rfl ob_214 rfl (by decide) (Nat.le_of_ble_eq_true rfl) (fun r_48 m_48 hr_48 ho_48 => ?_)
          exact go_ret (v := r_48) rfl dX12_readLine_51 (okZ (by assumption)) (by have e1 : lnF G (i + 1) = psF G (i + 1) := (by unfold lnF; rw [show i + 1 - 1 = i by omega, if_neg (by omega), if_neg (by omega), if_neg (by omega), if_pos (by omega)]); have e2 : lnX G (i + 1) = psX G (i + 1) := (by unfold lnX; rw [show i + 1 - 1 = i by omega, if_neg (by omega), if_neg (by omega), if_neg (by omega), if_pos (by omega)]); rw [e1, e2]; exact hr_48)
      · refine go_aload_n dX12_readLine_34 rfl ?_
        refine go_callV_z (as := []) (S := []) (b := 214) (ev_X12_readFigure (m := m) (G := G) (t := t) (kw := kw) (n := n) (lim := lim) (i := i) htm (by omega) hdr hra) rfl dX12_readLine_35 cv_12_211 rfl rfl ob_214 rfl (by decide) (Nat.le_of_ble_eq_true rfl) (fun r_35 m_35 hr_35 ho_35 => ?_)
        exact go_ret (v := r_35) rfl dX12_readLine_38 (okZ (by assumption)) (by have e1 : lnF G (i + 1) = fgF G (i + 1) := (by unfold lnF; rw [show i + 1 - 1 = i by omega, if_neg (by omega), if_neg (by omega), if_pos (by omega)]); have e2 : lnX G (i + 1) = fgX G (i + 1) := (by unfold lnX; rw [show i + 1 - 1 = i by omega, if_neg (by omega), if_neg (by omega), if_pos (by omega)]); rw [e1, e2]; exact hr_35)
    · refine go_aload_n dX12_readLine_21 rfl ?_
      refine go_callV_z (as := []) (S := []) (b := 214) (ev_X12_readWall (m := m) (G := G) (t := t) (kw := kw) (n := n) (lim := lim) (i := i) htm (by omega) hdr hra) rfl dX12_readLine_22 cv_12_208 rfl rfl ob_214 rfl (by decide) (Nat.le_of_ble_eq_true rfl) (fun r_22 m_22 hr_22 ho_22 => ?_)
      exact go_ret (v := r_22) rfl dX12_readLine_25 (okZ (by assumption)) (by have e1 : lnF G (i + 1) = wlF G (i + 1) := (by unfold lnF; rw [show i + 1 - 1 = i by omega, if_neg (by omega), if_pos (by omega)]); have e2 : lnX G (i + 1) = wlX G (i + 1) := (by unfold lnX; rw [show i + 1 - 1 = i by omega, if_neg (by omega), if_pos (by omega)]); rw [e1, e2]; exact hr_22)
  · refine go_aload_n dX12_readLine_8 rfl ?_
    refine go_callV_z (as := []) (S := []) (b := 214) (ev_X12_readDowns (m := m) (G := G) (t := t) (kw := kw) (n := n) (lim := lim) (i := i) htm (by omega) hdr hra) rfl dX12_readLine_9 cv_12_205 rfl rfl ob_214 rfl (by decide) (Nat.le_of_ble_eq_true rfl) (fun r_9 m_9 hr_9 ho_9 => ?_)
    exact go_ret (v := r_9) rfl dX12_readLine_12 (okZ (by assumption)) (by have e1 : lnF G (i + 1) = szF G (i + 1) := (by unfold lnF; rw [show i + 1 - 1 = i by omega, if_pos (by omega)]); have e2 : lnX G (i + 1) = szX G (i + 1) := (by unfold lnX; rw [show i + 1 - 1 = i by omega, if_pos (by omega)]); rw [e1, e2]; exact hr_9)
