def DownsPost (m : Mem) (r : Int) (m' : Mem) : Prop := ∃ (B m1 : Mem) (r1 : Int), BgOk (rd0 m) B 900 ∧ RdPost B r1 m1 ∧ ((r1 = -1 ∧ r = -1 - m1 1 3 ∧ m' = wr m1 1 1 0) ∨ (r1 ≠ -1 ∧ r = r1 ∧ m' = wr (cpW (wr m1 1 1 0) 8 47 18 57) 97 2 0))
def BookPost (m : Mem) (lives r : Int) (m' : Mem) : Prop := (lives ≠ 0 ∧ lives ≠ 1 ∧ r = -1000 ∧ m' = m) ∨ ((lives = 0 ∨ lives = 1) ∧ ∃ (B m1 : Mem), BgOk (wr m 70 11 0) B 400 ∧
  ((BrPost B 0 m1 ∧ r = w32 (-2 - m1 1 3) ∧ m' = wr m1 1 1 0) ∨
   (BrPost B 1 m1 ∧ ∃ m3 : Mem, JdPost (rows (wr m1 1 1 0) 32 18 8) m3 ∧ r = (if m3 70 1 = 0 then -1 else m3 70 2) ∧ m' = if lives = 1 ∧ 0 < m3 70 2 then rows (keepC m3 18) 18 32 8 else m3)))

theorem dX11_downs_0 : decode mX11_downs.2.1 0 = .ok (.aload_n 0, 1) := by decide +kernel
theorem dX11_downs_1 : decode mX11_downs.2.1 1 = .ok (.getfield 40, 3) := by decide +kernel
theorem dX11_downs_4 : decode mX11_downs.2.1 4 = .ok (.invokevirtual 109, 3) := by decide +kernel
theorem dX11_downs_7 : decode mX11_downs.2.1 7 = .ok (.istore_n 1, 1) := by decide +kernel
theorem dX11_downs_8 : decode mX11_downs.2.1 8 = .ok (.aload_n 0, 1) := by decide +kernel
theorem dX11_downs_9 : decode mX11_downs.2.1 9 = .ok (.getfield 12, 3) := by decide +kernel
theorem dX11_downs_12 : decode mX11_downs.2.1 12 = .ok (.iconst 0, 1) := by decide +kernel
theorem dX11_downs_13 : decode mX11_downs.2.1 13 = .ok (.putfield 102, 3) := by decide +kernel
theorem dX11_downs_16 : decode mX11_downs.2.1 16 = .ok (.iload_n 1, 1) := by decide +kernel
theorem dX11_downs_17 : decode mX11_downs.2.1 17 = .ok (.iconst (-1), 1) := by decide +kernel
theorem dX11_downs_18 : decode mX11_downs.2.1 18 = .ok (.if_icmp .ne 13, 3) := by decide +kernel
theorem dX11_downs_21 : decode mX11_downs.2.1 21 = .ok (.iconst (-1), 1) := by decide +kernel
theorem dX11_downs_22 : decode mX11_downs.2.1 22 = .ok (.aload_n 0, 1) := by decide +kernel
theorem dX11_downs_23 : decode mX11_downs.2.1 23 = .ok (.getfield 12, 3) := by decide +kernel
theorem dX11_downs_26 : decode mX11_downs.2.1 26 = .ok (.getfield 113, 3) := by decide +kernel
theorem dX11_downs_29 : decode mX11_downs.2.1 29 = .ok (.isub, 1) := by decide +kernel
theorem dX11_downs_30 : decode mX11_downs.2.1 30 = .ok (.ireturn, 1) := by decide +kernel
theorem dX11_downs_31 : decode mX11_downs.2.1 31 = .ok (.aload_n 0, 1) := by decide +kernel
theorem dX11_downs_32 : decode mX11_downs.2.1 32 = .ok (.getfield 24, 3) := by decide +kernel
theorem dX11_downs_35 : decode mX11_downs.2.1 35 = .ok (.aload_n 0, 1) := by decide +kernel
theorem dX11_downs_36 : decode mX11_downs.2.1 36 = .ok (.getfield 40, 3) := by decide +kernel
theorem dX11_downs_39 : decode mX11_downs.2.1 39 = .ok (.getfield 116, 3) := by decide +kernel
theorem dX11_downs_42 : decode mX11_downs.2.1 42 = .ok (.invokevirtual 119, 3) := by decide +kernel
theorem dX11_downs_45 : decode mX11_downs.2.1 45 = .ok (.aload_n 0, 1) := by decide +kernel
theorem dX11_downs_46 : decode mX11_downs.2.1 46 = .ok (.getfield 82, 3) := by decide +kernel
theorem dX11_downs_49 : decode mX11_downs.2.1 49 = .ok (.invokevirtual 123, 3) := by decide +kernel
theorem dX11_downs_52 : decode mX11_downs.2.1 52 = .ok (.iload_n 1, 1) := by decide +kernel
theorem dX11_downs_53 : decode mX11_downs.2.1 53 = .ok (.ireturn, 1) := by decide +kernel
set_option maxRecDepth 4000 in
theorem ev_X11_downs {m : Mem}  (hsz : 0 ≤ m 1 1 ∧ m 1 1 ≤ 940) : Ev 0 8 mX11_downs [vr 0] m (fun r m' => DownsPost m r m') := by
  refine Ev.of (L := [vr 0, un]) (by decide +kernel) rfl (Nat.le_of_ble_eq_true rfl) rfl (fun t ht => by cases ht; first | exact Or.inl rfl | exact Or.inr (Or.inl rfl) | exact Or.inr (Or.inr rfl)) (fun hcan => ?_)
  refine go_aload_n dX11_downs_0 rfl ?_
  refine go_getf_p (b := 45) dX11_downs_1 fl_11_40 ob_0 rfl pt_0_3 ?_
  refine go_callV_i (as := []) (S := []) (b := 45) (ev_X2_read (m := m)  (by first | assumption | omega | exact ⟨by omega, by omega⟩ | (constructor <;> omega))) rfl dX11_downs_4 cv_11_109 rfl rfl ob_45 rfl (by decide) (Nat.le_of_ble_eq_true rfl) (fun r_4 m_4 hr_4 ho_4 => ?_)
  obtain ⟨B, hB, hR⟩ := hr_4
  refine go_istore_n (L' := [vr 0, vi r_4]) dX11_downs_7 (by decide) rfl rfl ?_
  refine go_aload_n dX11_downs_8 rfl ?_
  refine go_getf_p (b := 1) dX11_downs_9 fl_11_12 ob_0 rfl pt_0_0 ?_
  refine go_iconst dX11_downs_12 ?_
  refine go_putf_i (ki := 1) dX11_downs_13 fw_11_102 ob_1 rfl rfl ⟨by omega, by omega⟩ ?_
  refine go_iload_n dX11_downs_16 rfl ?_
  refine go_iconst dX11_downs_17 ?_
  refine go_icmp_ne (tgt := 31) dX11_downs_18 (by decide) ⟨by omega, by omega⟩ ⟨by omega, by omega⟩ (fun h_18 => ?_) (fun h_18 => ?_)
  · refine go_aload_n dX11_downs_31 rfl ?_
    refine go_getf_p (b := 7) dX11_downs_32 fl_11_24 ob_0 rfl pt_0_1 ?_
    refine go_aload_n dX11_downs_35 rfl ?_
    refine go_getf_p (b := 45) dX11_downs_36 fl_11_40 ob_0 rfl pt_0_3 ?_
    refine go_getf_p (b := 46) dX11_downs_39 fl_11_116 ob_45 rfl pt_45_0 ?_
    refine go_callV_v (as := [vr 46]) (S := []) (b := 7) (ev_X10_copyFrom (m := (wr m_4 1 1 0)) (w := 7) (o := 46) (d := 8) (st := 18) (od := 47) (os := 57) isWd_7 isWd_46 (by omega)) rfl dX11_downs_42 cv_11_119 rfl rfl ob_7 rfl (by decide) (Nat.le_of_ble_eq_true rfl) (fun m_42 hr_42 => ?_)
    have hr_42 : m_42 = cpW (wr m_4 1 1 0) 8 47 18 57 := hr_42
    refine go_aload_n dX11_downs_45 rfl ?_
    refine go_getf_p (b := 97) dX11_downs_46 fl_11_82 ob_0 rfl pt_0_9 ?_
    refine go_callV_v (as := []) (S := []) (b := 97) (ev_X3_clear (m := m_42)  ) rfl dX11_downs_49 cv_11_123 rfl rfl ob_97 rfl (by decide) (Nat.le_of_ble_eq_true rfl) (fun m_49 hr_49 => ?_)
    refine go_iload_n dX11_downs_52 rfl ?_
    exact go_ret (v := r_4) rfl dX11_downs_53 (okI ⟨by omega, by omega⟩) ⟨B, m_4, r_4, hB, hR, Or.inr ⟨by omega, rfl, by rw [hr_49, hr_42]⟩⟩
  · refine go_iconst dX11_downs_21 ?_
    refine go_aload_n dX11_downs_22 rfl ?_
    refine go_getf_p (b := 1) dX11_downs_23 fl_11_12 ob_0 rfl pt_0_0 ?_
    refine go_getf_i (ki := 3) dX11_downs_26 fl_11_113 ob_1 rfl rfl (fun hf_26 => ?_)
    rw [show ((wr m_4 1 1 0) 1 3 : Int) = (m_4 1 3) from by rw [wr_ni (by decide)]] at hf_26 ⊢
    refine go_isub dX11_downs_29 ?_
    exact go_ret (v := ((-1) - (m_4 1 3))) rfl dX11_downs_30 (okI ⟨by omega, by omega⟩) ⟨B, m_4, r_4, hB, hR, Or.inl ⟨by omega, rfl, rfl⟩⟩
theorem dX11_book_0 : decode mX11_book.2.1 0 = .ok (.iload_n 1, 1) := by decide +kernel
theorem dX11_book_1 : decode mX11_book.2.1 1 = .ok (.ifCond .eq 12, 3) := by decide +kernel
theorem dX11_book_4 : decode mX11_book.2.1 4 = .ok (.iload_n 1, 1) := by decide +kernel
theorem dX11_book_5 : decode mX11_book.2.1 5 = .ok (.iconst 1, 1) := by decide +kernel
theorem dX11_book_6 : decode mX11_book.2.1 6 = .ok (.if_icmp .eq 7, 3) := by decide +kernel
theorem dX11_book_9 : decode mX11_book.2.1 9 = .ok (.sipush (-1000), 3) := by decide +kernel
theorem dX11_book_12 : decode mX11_book.2.1 12 = .ok (.ireturn, 1) := by decide +kernel
theorem dX11_book_13 : decode mX11_book.2.1 13 = .ok (.aload_n 0, 1) := by decide +kernel
theorem dX11_book_14 : decode mX11_book.2.1 14 = .ok (.getfield 47, 3) := by decide +kernel
theorem dX11_book_17 : decode mX11_book.2.1 17 = .ok (.aload_n 0, 1) := by decide +kernel
theorem dX11_book_18 : decode mX11_book.2.1 18 = .ok (.getfield 24, 3) := by decide +kernel
theorem dX11_book_21 : decode mX11_book.2.1 21 = .ok (.getfield 28, 3) := by decide +kernel
theorem dX11_book_24 : decode mX11_book.2.1 24 = .ok (.invokevirtual 359, 3) := by decide +kernel
theorem dX11_book_27 : decode mX11_book.2.1 27 = .ok (.istore_n 2, 1) := by decide +kernel
theorem dX11_book_28 : decode mX11_book.2.1 28 = .ok (.aload_n 0, 1) := by decide +kernel
theorem dX11_book_29 : decode mX11_book.2.1 29 = .ok (.getfield 12, 3) := by decide +kernel
theorem dX11_book_32 : decode mX11_book.2.1 32 = .ok (.iconst 0, 1) := by decide +kernel
theorem dX11_book_33 : decode mX11_book.2.1 33 = .ok (.putfield 102, 3) := by decide +kernel
theorem dX11_book_36 : decode mX11_book.2.1 36 = .ok (.iload_n 2, 1) := by decide +kernel
theorem dX11_book_37 : decode mX11_book.2.1 37 = .ok (.ifCond .ne 14, 3) := by decide +kernel
theorem dX11_book_40 : decode mX11_book.2.1 40 = .ok (.bipush (-2), 2) := by decide +kernel
theorem dX11_book_42 : decode mX11_book.2.1 42 = .ok (.aload_n 0, 1) := by decide +kernel
theorem dX11_book_43 : decode mX11_book.2.1 43 = .ok (.getfield 12, 3) := by decide +kernel
theorem dX11_book_46 : decode mX11_book.2.1 46 = .ok (.getfield 113, 3) := by decide +kernel
theorem dX11_book_49 : decode mX11_book.2.1 49 = .ok (.isub, 1) := by decide +kernel
theorem dX11_book_50 : decode mX11_book.2.1 50 = .ok (.ireturn, 1) := by decide +kernel
theorem dX11_book_51 : decode mX11_book.2.1 51 = .ok (.aload_n 0, 1) := by decide +kernel
theorem dX11_book_52 : decode mX11_book.2.1 52 = .ok (.getfield 32, 3) := by decide +kernel
theorem dX11_book_55 : decode mX11_book.2.1 55 = .ok (.getfield 136, 3) := by decide +kernel
theorem dX11_book_58 : decode mX11_book.2.1 58 = .ok (.aload_n 0, 1) := by decide +kernel
theorem dX11_book_59 : decode mX11_book.2.1 59 = .ok (.getfield 24, 3) := by decide +kernel
theorem dX11_book_62 : decode mX11_book.2.1 62 = .ok (.getfield 136, 3) := by decide +kernel
theorem dX11_book_65 : decode mX11_book.2.1 65 = .ok (.invokevirtual 357, 3) := by decide +kernel
theorem dX11_book_68 : decode mX11_book.2.1 68 = .ok (.aload_n 0, 1) := by decide +kernel
theorem dX11_book_69 : decode mX11_book.2.1 69 = .ok (.getfield 47, 3) := by decide +kernel
theorem dX11_book_72 : decode mX11_book.2.1 72 = .ok (.aload_n 0, 1) := by decide +kernel
theorem dX11_book_73 : decode mX11_book.2.1 73 = .ok (.getfield 32, 3) := by decide +kernel
theorem dX11_book_76 : decode mX11_book.2.1 76 = .ok (.invokevirtual 362, 3) := by decide +kernel
theorem dX11_book_79 : decode mX11_book.2.1 79 = .ok (.iload_n 1, 1) := by decide +kernel
theorem dX11_book_80 : decode mX11_book.2.1 80 = .ok (.iconst 1, 1) := by decide +kernel
theorem dX11_book_81 : decode mX11_book.2.1 81 = .ok (.if_icmp .ne 44, 3) := by decide +kernel
theorem dX11_book_84 : decode mX11_book.2.1 84 = .ok (.aload_n 0, 1) := by decide +kernel
theorem dX11_book_85 : decode mX11_book.2.1 85 = .ok (.getfield 47, 3) := by decide +kernel
theorem dX11_book_88 : decode mX11_book.2.1 88 = .ok (.getfield 365, 3) := by decide +kernel
theorem dX11_book_91 : decode mX11_book.2.1 91 = .ok (.ifCond .le 34, 3) := by decide +kernel
theorem dX11_book_94 : decode mX11_book.2.1 94 = .ok (.aload_n 0, 1) := by decide +kernel
theorem dX11_book_95 : decode mX11_book.2.1 95 = .ok (.getfield 82, 3) := by decide +kernel
theorem dX11_book_98 : decode mX11_book.2.1 98 = .ok (.aload_n 0, 1) := by decide +kernel
theorem dX11_book_99 : decode mX11_book.2.1 99 = .ok (.getfield 24, 3) := by decide +kernel
theorem dX11_book_102 : decode mX11_book.2.1 102 = .ok (.getfield 136, 3) := by decide +kernel
theorem dX11_book_105 : decode mX11_book.2.1 105 = .ok (.invokevirtual 240, 3) := by decide +kernel
theorem dX11_book_108 : decode mX11_book.2.1 108 = .ok (.aload_n 0, 1) := by decide +kernel
theorem dX11_book_109 : decode mX11_book.2.1 109 = .ok (.getfield 24, 3) := by decide +kernel
theorem dX11_book_112 : decode mX11_book.2.1 112 = .ok (.getfield 136, 3) := by decide +kernel
theorem dX11_book_115 : decode mX11_book.2.1 115 = .ok (.aload_n 0, 1) := by decide +kernel
theorem dX11_book_116 : decode mX11_book.2.1 116 = .ok (.getfield 32, 3) := by decide +kernel
theorem dX11_book_119 : decode mX11_book.2.1 119 = .ok (.getfield 136, 3) := by decide +kernel
theorem dX11_book_122 : decode mX11_book.2.1 122 = .ok (.invokevirtual 357, 3) := by decide +kernel
theorem dX11_book_125 : decode mX11_book.2.1 125 = .ok (.aload_n 0, 1) := by decide +kernel
theorem dX11_book_126 : decode mX11_book.2.1 126 = .ok (.getfield 47, 3) := by decide +kernel
theorem dX11_book_129 : decode mX11_book.2.1 129 = .ok (.getfield 368, 3) := by decide +kernel
theorem dX11_book_132 : decode mX11_book.2.1 132 = .ok (.ifCond .ne 7, 3) := by decide +kernel
theorem dX11_book_135 : decode mX11_book.2.1 135 = .ok (.iconst (-1), 1) := by decide +kernel
theorem dX11_book_136 : decode mX11_book.2.1 136 = .ok (.goto 10, 3) := by decide +kernel
theorem dX11_book_139 : decode mX11_book.2.1 139 = .ok (.aload_n 0, 1) := by decide +kernel
theorem dX11_book_140 : decode mX11_book.2.1 140 = .ok (.getfield 47, 3) := by decide +kernel
theorem dX11_book_143 : decode mX11_book.2.1 143 = .ok (.getfield 365, 3) := by decide +kernel
theorem dX11_book_146 : decode mX11_book.2.1 146 = .ok (.ireturn, 1) := by decide +kernel
set_option maxRecDepth 4000 in
theorem ev_X11_book {m : Mem} {v : Int} {B : Int} (hsz : 0 ≤ m 1 1 ∧ m 1 1 ≤ 940) (hdn : DnOk m 8) (hst : StOk m 8 18 B) (hB : 0 ≤ B ∧ B ≤ 100000000) (hhi : HiOk m) (hv : InR v) : Ev 0 9 mX11_book [vr 0, vi v] m (fun r m' => BookPost m v r m') := by
  refine Ev.of (L := [vr 0, vi v, un]) (by decide +kernel) rfl (Nat.le_of_ble_eq_true rfl) rfl (fun t ht => by cases ht; first | exact Or.inl rfl | exact Or.inr (Or.inl rfl) | exact Or.inr (Or.inr rfl)) (fun hcan => ?_)
  refine go_iload_n dX11_book_0 rfl ?_
  refine go_if_eq (tgt := 13) dX11_book_1 (by decide) ⟨by omega, by omega⟩ (fun h_1 => ?_) (fun h_1 => ?_)
  · refine go_aload_n dX11_book_13 rfl ?_
    refine go_getf_p (b := 70) dX11_book_14 fl_11_47 ob_0 rfl pt_0_4 ?_
    refine go_aload_n dX11_book_17 rfl ?_
    refine go_getf_p (b := 7) dX11_book_18 fl_11_24 ob_0 rfl pt_0_1 ?_
    refine go_getf_p (b := 8) dX11_book_21 fl_11_28 ob_7 rfl pt_7_0 ?_
    refine go_callV_z (as := [vr 8]) (S := []) (b := 70) (ev_X0_read (m := m)  (by first | assumption | omega | exact ⟨by omega, by omega⟩ | (constructor <;> omega)) (by first | assumption | omega | exact ⟨by omega, by omega⟩ | (constructor <;> omega))) rfl dX11_book_24 cv_11_359 rfl rfl ob_70 rfl (by decide) (Nat.le_of_ble_eq_true rfl) (fun r_24 m_24 hr_24 ho_24 => ?_)
    obtain ⟨C, hC, hR⟩ := hr_24
    refine go_istore_n (L' := [vr 0, vi v, vi r_24]) dX11_book_27 (by decide) rfl rfl ?_
    refine go_aload_n dX11_book_28 rfl ?_
    refine go_getf_p (b := 1) dX11_book_29 fl_11_12 ob_0 rfl pt_0_0 ?_
    refine go_iconst dX11_book_32 ?_
    refine go_putf_i (ki := 1) dX11_book_33 fw_11_102 ob_1 rfl rfl ⟨by omega, by omega⟩ ?_
    refine go_iload_n dX11_book_36 rfl ?_
    refine go_if_ne (tgt := 51) dX11_book_37 (by decide) ⟨by omega, by omega⟩ (fun h_37 => ?_) (fun h_37 => ?_)
    · refine go_aload_n dX11_book_51 rfl ?_
      refine go_getf_p (b := 31) dX11_book_52 fl_11_32 ob_0 rfl pt_0_2 ?_
      refine go_getf_p (b := 32) dX11_book_55 fl_11_136 ob_31 rfl pt_31_1 ?_
      refine go_aload_n dX11_book_58 rfl ?_
      refine go_getf_p (b := 7) dX11_book_59 fl_11_24 ob_0 rfl pt_0_1 ?_
      refine go_getf_p (b := 18) dX11_book_62 fl_11_136 ob_7 rfl pt_7_1 ?_
      refine go_callV_v (as := [vr 18]) (S := []) (b := 32) (ev_X6_copyFrom (m := (wr m_24 1 1 0)) (st := 32) (ot := 18) isSt_32 isSt_18 (by omega)) rfl dX11_book_65 cv_11_357 rfl rfl ob_32 rfl (by decide) (Nat.le_of_ble_eq_true rfl) (fun m_65 hr_65 => ?_)
      subst hr_65
      have hR1 : BrPost C 1 m_24 := by rw [show (1 : Int) = r_24 by omega]; exact hR
      have hfrm : ∀ b : Nat, (b < 70 ∨ 76 ≤ b) → b ≠ 1 → b ≠ 4 → b ≠ 5 → b ≠ 6 → m_24 b = m b := by
        obtain ⟨k, -, h⟩ := hR1
        intro b hb h1 h4 h5 h6
        rcases h with h | h | h
        · rw [h.2.2.2.1 b h1, bl_out _ hb, hC.2.2.2.2 b h1 h4 h5 h6, wr_row (by omega)]
        · exact absurd h.1 (by omega)
        · exact absurd h.1 (by omega)
      have r8 : ∀ j, j < 10 → (rows (wr m_24 1 1 0) 32 18 8) (8 + j) = m (8 + j) := fun j hj => by rw [rows_out (by omega), wr_row (by omega)]; exact hfrm _ (by omega) (by omega) (by omega) (by omega) (by omega)
      have r32 : ∀ j, j < 8 → (rows (wr m_24 1 1 0) 32 18 8) (32 + j) = m (18 + j) := fun j hj => by rw [rows_in hj, wr_row (by omega)]; exact hfrm _ (by omega) (by omega) (by omega) (by omega) (by omega)
      have hsm : SmW m 8 18 (rows (wr m_24 1 1 0) 32 18 8) 8 32 := ⟨r8, r32⟩
      have hln : (0 ≤ (rows (wr m_24 1 1 0) 32 18 8) 70 11 ∧ (rows (wr m_24 1 1 0) 32 18 8) 70 11 ≤ 40) ∧ ∀ l : Int, 0 ≤ l → l < (rows (wr m_24 1 1 0) 32 18 8) 70 11 → LOk (rows (wr m_24 1 1 0) 32 18 8) l := by
        obtain ⟨k, -, h⟩ := hR1
        rcases h with h | h | h
        · have e : ∀ b : Nat, b ≠ 1 → (b < 32 ∨ 40 ≤ b) → (rows (wr m_24 1 1 0) 32 18 8) b = (bl C k).1 b := fun b h1 h2 => by rw [rows_out (by omega), wr_row h1]; exact h.2.2.2.1 b h1
          rw [e 70 (by decide) (by omega), h.2.2.2.2.1]
          refine ⟨by have := h.2.2.2.2.2.1; omega, fun l a b => ?_⟩
          have q := h.2.2.2.2.2.2 l a b
          unfold LOk at q ⊢
          rw [e 71 (by decide) (by omega), e 72 (by decide) (by omega), e 73 (by decide) (by omega), e 74 (by decide) (by omega), e 75 (by decide) (by omega), e 8 (by decide) (by omega)]
          exact q
        · exact absurd h.1 (by omega)
        · exact absurd h.1 (by omega)
      refine go_aload_n dX11_book_68 rfl ?_
      refine go_getf_p (b := 70) dX11_book_69 fl_11_47 ob_0 rfl pt_0_4 ?_
      refine go_aload_n dX11_book_72 rfl ?_
      refine go_getf_p (b := 31) dX11_book_73 fl_11_32 ob_0 rfl pt_0_2 ?_
      refine go_callV_v (as := [vr 31]) (S := []) (b := 70) (ev_X0_judge (m := (rows (wr m_24 1 1 0) 32 18 8)) (B := B) (hsm.dn hdn) (hsm.sto hst) (by omega) hln.1 hln.2) rfl dX11_book_76 cv_11_362 rfl rfl ob_70 rfl (by decide) (Nat.le_of_ble_eq_true rfl) (fun m_76 hr_76 => ?_)
      have hhi3 : HiOk m_76 := by
        obtain ⟨k, -, -, -, q, -⟩ := hr_76
        have e : m_76 97 = m 97 := by rw [q 97 (by decide), jN_fr k 97 (by omega), rows_out (by omega), wr_row (by decide)]; exact hfrm 97 (by omega) (by decide) (by decide) (by decide) (by decide)
        unfold HiOk
        rw [e]
        exact hhi
      refine go_iload_n dX11_book_79 rfl ?_
      refine go_iconst dX11_book_80 ?_
      refine go_icmp_ne (tgt := 125) dX11_book_81 (by decide) ⟨by omega, by omega⟩ ⟨by omega, by omega⟩ (fun h_81 => ?_) (fun h_81 => ?_)
      · refine go_aload_n dX11_book_125 rfl ?_
        refine go_getf_p (b := 70) dX11_book_126 fl_11_47 ob_0 rfl pt_0_4 ?_
        refine go_getf_i (ki := 1) dX11_book_129 fl_11_368 ob_70 rfl rfl (fun hf_129 => ?_)
        refine go_if_ne (tgt := 139) dX11_book_132 (by decide) ⟨by omega, by omega⟩ (fun h_132 => ?_) (fun h_132 => ?_)
        · refine go_aload_n dX11_book_139 rfl ?_
          refine go_getf_p (b := 70) dX11_book_140 fl_11_47 ob_0 rfl pt_0_4 ?_
          refine go_getf_i (ki := 2) dX11_book_143 fl_11_365 ob_70 rfl rfl (fun hf_143 => ?_)
          refine go_ret (v := (m_76 70 2)) rfl dX11_book_146 (okI ⟨by omega, by omega⟩) ?_
          refine Or.inr ⟨by omega, C, m_24, hC, Or.inr ⟨hR1, m_76, hr_76, ?_, ?_⟩⟩
          · first
            | (exfalso; omega)
            | (rw [if_pos (by omega)])
            | (rw [if_neg (by omega)])
            | (rw [if_pos (by rw [← ek]; omega)])
            | (rw [if_neg (by rw [← ek]; omega), ← ek])
          · first
            | (exfalso; omega)
            | (rw [if_pos (by omega)])
            | (rw [if_neg (by omega)])
        · refine go_iconst dX11_book_135 ?_
          refine go_goto (tgt := 146) dX11_book_136 (by decide) ?_
          refine go_ret (v := (-1)) rfl dX11_book_146 (okI ⟨by omega, by omega⟩) ?_
          refine Or.inr ⟨by omega, C, m_24, hC, Or.inr ⟨hR1, m_76, hr_76, ?_, ?_⟩⟩
          · first
            | (exfalso; omega)
            | (rw [if_pos (by omega)])
            | (rw [if_neg (by omega)])
            | (rw [if_pos (by rw [← ek]; omega)])
            | (rw [if_neg (by rw [← ek]; omega), ← ek])
          · first
            | (exfalso; omega)
            | (rw [if_pos (by omega)])
            | (rw [if_neg (by omega)])
      · refine go_aload_n dX11_book_84 rfl ?_
        refine go_getf_p (b := 70) dX11_book_85 fl_11_47 ob_0 rfl pt_0_4 ?_
        refine go_getf_i (ki := 2) dX11_book_88 fl_11_365 ob_70 rfl rfl (fun hf_88 => ?_)
        refine go_if_le (tgt := 125) dX11_book_91 (by decide) ⟨by omega, by omega⟩ (fun h_91 => ?_) (fun h_91 => ?_)
        · refine go_aload_n dX11_book_125 rfl ?_
          refine go_getf_p (b := 70) dX11_book_126 fl_11_47 ob_0 rfl pt_0_4 ?_
          refine go_getf_i (ki := 1) dX11_book_129 fl_11_368 ob_70 rfl rfl (fun hf_129 => ?_)
          refine go_if_ne (tgt := 139) dX11_book_132 (by decide) ⟨by omega, by omega⟩ (fun h_132 => ?_) (fun h_132 => ?_)
          · refine go_aload_n dX11_book_139 rfl ?_
            refine go_getf_p (b := 70) dX11_book_140 fl_11_47 ob_0 rfl pt_0_4 ?_
            refine go_getf_i (ki := 2) dX11_book_143 fl_11_365 ob_70 rfl rfl (fun hf_143 => ?_)
            refine go_ret (v := (m_76 70 2)) rfl dX11_book_146 (okI ⟨by omega, by omega⟩) ?_
            refine Or.inr ⟨by omega, C, m_24, hC, Or.inr ⟨hR1, m_76, hr_76, ?_, ?_⟩⟩
            · first
              | (exfalso; omega)
              | (rw [if_pos (by omega)])
              | (rw [if_neg (by omega)])
              | (rw [if_pos (by rw [← ek]; omega)])
              | (rw [if_neg (by rw [← ek]; omega), ← ek])
            · first
              | (exfalso; omega)
              | (rw [if_pos (by omega)])
              | (rw [if_neg (by omega)])
          · refine go_iconst dX11_book_135 ?_
            refine go_goto (tgt := 146) dX11_book_136 (by decide) ?_
            refine go_ret (v := (-1)) rfl dX11_book_146 (okI ⟨by omega, by omega⟩) ?_
            refine Or.inr ⟨by omega, C, m_24, hC, Or.inr ⟨hR1, m_76, hr_76, ?_, ?_⟩⟩
            · first
              | (exfalso; omega)
              | (rw [if_pos (by omega)])
              | (rw [if_neg (by omega)])
              | (rw [if_pos (by rw [← ek]; omega)])
              | (rw [if_neg (by rw [← ek]; omega), ← ek])
            · first
              | (exfalso; omega)
              | (rw [if_pos (by omega)])
              | (rw [if_neg (by omega)])
        · refine go_aload_n dX11_book_94 rfl ?_
          refine go_getf_p (b := 97) dX11_book_95 fl_11_82 ob_0 rfl pt_0_9 ?_
          refine go_aload_n dX11_book_98 rfl ?_
          refine go_getf_p (b := 7) dX11_book_99 fl_11_24 ob_0 rfl pt_0_1 ?_
          refine go_getf_p (b := 18) dX11_book_102 fl_11_136 ob_7 rfl pt_7_1 ?_
          refine go_callV_v (as := [vr 18]) (S := []) (b := 97) (ev_X3_keep (m := m_76) (st := 18) isSt_18 (by first | assumption | omega | exact ⟨by omega, by omega⟩ | (constructor <;> omega)) hhi3) rfl dX11_book_105 cv_11_240 rfl rfl ob_97 rfl (by decide) (Nat.le_of_ble_eq_true rfl) (fun m_105 hr_105 => ?_)
          subst hr_105
          refine go_aload_n dX11_book_108 rfl ?_
          refine go_getf_p (b := 7) dX11_book_109 fl_11_24 ob_0 rfl pt_0_1 ?_
          refine go_getf_p (b := 18) dX11_book_112 fl_11_136 ob_7 rfl pt_7_1 ?_
          refine go_aload_n dX11_book_115 rfl ?_
          refine go_getf_p (b := 31) dX11_book_116 fl_11_32 ob_0 rfl pt_0_2 ?_
          refine go_getf_p (b := 32) dX11_book_119 fl_11_136 ob_31 rfl pt_31_1 ?_
          refine go_callV_v (as := [vr 32]) (S := []) (b := 18) (ev_X6_copyFrom (m := (keepC m_76 18)) (st := 18) (ot := 32) isSt_18 isSt_32 (by omega)) rfl dX11_book_122 cv_11_357 rfl rfl ob_18 rfl (by decide) (Nat.le_of_ble_eq_true rfl) (fun m_122 hr_122 => ?_)
          subst hr_122
          have ek : ∀ j : Int, rows (keepC m_76 18) 18 32 8 70 j = m_76 70 j := fun j => by rw [rows_out (by omega), keepC_row hhi3 (by omega)]
          refine go_aload_n dX11_book_125 rfl ?_
          refine go_getf_p (b := 70) dX11_book_126 fl_11_47 ob_0 rfl pt_0_4 ?_
          refine go_getf_i (ki := 1) dX11_book_129 fl_11_368 ob_70 rfl rfl (fun hf_129 => ?_)
          refine go_if_ne (tgt := 139) dX11_book_132 (by decide) ⟨by omega, by omega⟩ (fun h_132 => ?_) (fun h_132 => ?_)
          · refine go_aload_n dX11_book_139 rfl ?_
            refine go_getf_p (b := 70) dX11_book_140 fl_11_47 ob_0 rfl pt_0_4 ?_
            refine go_getf_i (ki := 2) dX11_book_143 fl_11_365 ob_70 rfl rfl (fun hf_143 => ?_)
            refine go_ret (v := ((rows (keepC m_76 18) 18 32 8) 70 2)) rfl dX11_book_146 (okI ⟨by omega, by omega⟩) ?_
            refine Or.inr ⟨by omega, C, m_24, hC, Or.inr ⟨hR1, m_76, hr_76, ?_, ?_⟩⟩
            · first
              | (exfalso; omega)
              | (rw [if_pos (by omega)])
              | (rw [if_neg (by omega)])
              | (rw [if_pos (by rw [← ek]; omega)])
              | (rw [if_neg (by rw [← ek]; omega), ← ek])
            · first
              | (exfalso; omega)
              | (rw [if_pos (by omega)])
              | (rw [if_neg (by omega)])
          · refine go_iconst dX11_book_135 ?_
            refine go_goto (tgt := 146) dX11_book_136 (by decide) ?_
            refine go_ret (v := (-1)) rfl dX11_book_146 (okI ⟨by omega, by omega⟩) ?_
            refine Or.inr ⟨by omega, C, m_24, hC, Or.inr ⟨hR1, m_76, hr_76, ?_, ?_⟩⟩
            · first
              | (exfalso; omega)
              | (rw [if_pos (by omega)])
              | (rw [if_neg (by omega)])
              | (rw [if_pos (by rw [← ek]; omega)])
              | (rw [if_neg (by rw [← ek]; omega), ← ek])
            · first
              | (exfalso; omega)
              | (rw [if_pos (by omega)])
              | (rw [if_neg (by omega)])
    · refine go_bipush dX11_book_40 (by decide) ?_
      refine go_aload_n dX11_book_42 rfl ?_
      refine go_getf_p (b := 1) dX11_book_43 fl_11_12 ob_0 rfl pt_0_0 ?_
      refine go_getf_i (ki := 3) dX11_book_46 fl_11_113 ob_1 rfl rfl (fun hf_46 => ?_)
      rw [show ((wr m_24 1 1 0) 1 3 : Int) = (m_24 1 3) from by rw [wr_ni (by decide)]] at hf_46 ⊢
      refine go_isub dX11_book_49 ?_
      refine go_wrap ?_
      exact go_ret (v := (w32 ((-2) - (m_24 1 3)))) rfl dX11_book_50 (okI (w32_R _)) (Or.inr ⟨by omega, C, m_24, hC, Or.inl ⟨by rw [show (0 : Int) = r_24 by omega]; exact hR, rfl, rfl⟩⟩)
  · refine go_iload_n dX11_book_4 rfl ?_
    refine go_iconst dX11_book_5 ?_
    refine go_icmp_eq (tgt := 13) dX11_book_6 (by decide) ⟨by omega, by omega⟩ ⟨by omega, by omega⟩ (fun h_6 => ?_) (fun h_6 => ?_)
    · refine go_aload_n dX11_book_13 rfl ?_
      refine go_getf_p (b := 70) dX11_book_14 fl_11_47 ob_0 rfl pt_0_4 ?_
      refine go_aload_n dX11_book_17 rfl ?_
      refine go_getf_p (b := 7) dX11_book_18 fl_11_24 ob_0 rfl pt_0_1 ?_
      refine go_getf_p (b := 8) dX11_book_21 fl_11_28 ob_7 rfl pt_7_0 ?_
      refine go_callV_z (as := [vr 8]) (S := []) (b := 70) (ev_X0_read (m := m)  (by first | assumption | omega | exact ⟨by omega, by omega⟩ | (constructor <;> omega)) (by first | assumption | omega | exact ⟨by omega, by omega⟩ | (constructor <;> omega))) rfl dX11_book_24 cv_11_359 rfl rfl ob_70 rfl (by decide) (Nat.le_of_ble_eq_true rfl) (fun r_24 m_24 hr_24 ho_24 => ?_)
      obtain ⟨C, hC, hR⟩ := hr_24
      refine go_istore_n (L' := [vr 0, vi v, vi r_24]) dX11_book_27 (by decide) rfl rfl ?_
      refine go_aload_n dX11_book_28 rfl ?_
      refine go_getf_p (b := 1) dX11_book_29 fl_11_12 ob_0 rfl pt_0_0 ?_
      refine go_iconst dX11_book_32 ?_
      refine go_putf_i (ki := 1) dX11_book_33 fw_11_102 ob_1 rfl rfl ⟨by omega, by omega⟩ ?_
      refine go_iload_n dX11_book_36 rfl ?_
      refine go_if_ne (tgt := 51) dX11_book_37 (by decide) ⟨by omega, by omega⟩ (fun h_37 => ?_) (fun h_37 => ?_)
      · refine go_aload_n dX11_book_51 rfl ?_
        refine go_getf_p (b := 31) dX11_book_52 fl_11_32 ob_0 rfl pt_0_2 ?_
        refine go_getf_p (b := 32) dX11_book_55 fl_11_136 ob_31 rfl pt_31_1 ?_
        refine go_aload_n dX11_book_58 rfl ?_
        refine go_getf_p (b := 7) dX11_book_59 fl_11_24 ob_0 rfl pt_0_1 ?_
        refine go_getf_p (b := 18) dX11_book_62 fl_11_136 ob_7 rfl pt_7_1 ?_
        refine go_callV_v (as := [vr 18]) (S := []) (b := 32) (ev_X6_copyFrom (m := (wr m_24 1 1 0)) (st := 32) (ot := 18) isSt_32 isSt_18 (by omega)) rfl dX11_book_65 cv_11_357 rfl rfl ob_32 rfl (by decide) (Nat.le_of_ble_eq_true rfl) (fun m_65 hr_65 => ?_)
        subst hr_65
        have hR1 : BrPost C 1 m_24 := by rw [show (1 : Int) = r_24 by omega]; exact hR
        have hfrm : ∀ b : Nat, (b < 70 ∨ 76 ≤ b) → b ≠ 1 → b ≠ 4 → b ≠ 5 → b ≠ 6 → m_24 b = m b := by
          obtain ⟨k, -, h⟩ := hR1
          intro b hb h1 h4 h5 h6
          rcases h with h | h | h
          · rw [h.2.2.2.1 b h1, bl_out _ hb, hC.2.2.2.2 b h1 h4 h5 h6, wr_row (by omega)]
          · exact absurd h.1 (by omega)
          · exact absurd h.1 (by omega)
        have r8 : ∀ j, j < 10 → (rows (wr m_24 1 1 0) 32 18 8) (8 + j) = m (8 + j) := fun j hj => by rw [rows_out (by omega), wr_row (by omega)]; exact hfrm _ (by omega) (by omega) (by omega) (by omega) (by omega)
        have r32 : ∀ j, j < 8 → (rows (wr m_24 1 1 0) 32 18 8) (32 + j) = m (18 + j) := fun j hj => by rw [rows_in hj, wr_row (by omega)]; exact hfrm _ (by omega) (by omega) (by omega) (by omega) (by omega)
        have hsm : SmW m 8 18 (rows (wr m_24 1 1 0) 32 18 8) 8 32 := ⟨r8, r32⟩
        have hln : (0 ≤ (rows (wr m_24 1 1 0) 32 18 8) 70 11 ∧ (rows (wr m_24 1 1 0) 32 18 8) 70 11 ≤ 40) ∧ ∀ l : Int, 0 ≤ l → l < (rows (wr m_24 1 1 0) 32 18 8) 70 11 → LOk (rows (wr m_24 1 1 0) 32 18 8) l := by
          obtain ⟨k, -, h⟩ := hR1
          rcases h with h | h | h
          · have e : ∀ b : Nat, b ≠ 1 → (b < 32 ∨ 40 ≤ b) → (rows (wr m_24 1 1 0) 32 18 8) b = (bl C k).1 b := fun b h1 h2 => by rw [rows_out (by omega), wr_row h1]; exact h.2.2.2.1 b h1
            rw [e 70 (by decide) (by omega), h.2.2.2.2.1]
            refine ⟨by have := h.2.2.2.2.2.1; omega, fun l a b => ?_⟩
            have q := h.2.2.2.2.2.2 l a b
            unfold LOk at q ⊢
            rw [e 71 (by decide) (by omega), e 72 (by decide) (by omega), e 73 (by decide) (by omega), e 74 (by decide) (by omega), e 75 (by decide) (by omega), e 8 (by decide) (by omega)]
            exact q
          · exact absurd h.1 (by omega)
          · exact absurd h.1 (by omega)
        refine go_aload_n dX11_book_68 rfl ?_
        refine go_getf_p (b := 70) dX11_book_69 fl_11_47 ob_0 rfl pt_0_4 ?_
        refine go_aload_n dX11_book_72 rfl ?_
        refine go_getf_p (b := 31) dX11_book_73 fl_11_32 ob_0 rfl pt_0_2 ?_
        refine go_callV_v (as := [vr 31]) (S := []) (b := 70) (ev_X0_judge (m := (rows (wr m_24 1 1 0) 32 18 8)) (B := B) (hsm.dn hdn) (hsm.sto hst) (by omega) hln.1 hln.2) rfl dX11_book_76 cv_11_362 rfl rfl ob_70 rfl (by decide) (Nat.le_of_ble_eq_true rfl) (fun m_76 hr_76 => ?_)
        have hhi3 : HiOk m_76 := by
          obtain ⟨k, -, -, -, q, -⟩ := hr_76
          have e : m_76 97 = m 97 := by rw [q 97 (by decide), jN_fr k 97 (by omega), rows_out (by omega), wr_row (by decide)]; exact hfrm 97 (by omega) (by decide) (by decide) (by decide) (by decide)
          unfold HiOk
          rw [e]
          exact hhi
        refine go_iload_n dX11_book_79 rfl ?_
        refine go_iconst dX11_book_80 ?_
        refine go_icmp_ne (tgt := 125) dX11_book_81 (by decide) ⟨by omega, by omega⟩ ⟨by omega, by omega⟩ (fun h_81 => ?_) (fun h_81 => ?_)
        · refine go_aload_n dX11_book_125 rfl ?_
          refine go_getf_p (b := 70) dX11_book_126 fl_11_47 ob_0 rfl pt_0_4 ?_
          refine go_getf_i (ki := 1) dX11_book_129 fl_11_368 ob_70 rfl rfl (fun hf_129 => ?_)
          refine go_if_ne (tgt := 139) dX11_book_132 (by decide) ⟨by omega, by omega⟩ (fun h_132 => ?_) (fun h_132 => ?_)
          · refine go_aload_n dX11_book_139 rfl ?_
            refine go_getf_p (b := 70) dX11_book_140 fl_11_47 ob_0 rfl pt_0_4 ?_
            refine go_getf_i (ki := 2) dX11_book_143 fl_11_365 ob_70 rfl rfl (fun hf_143 => ?_)
            refine go_ret (v := (m_76 70 2)) rfl dX11_book_146 (okI ⟨by omega, by omega⟩) ?_
            refine Or.inr ⟨by omega, C, m_24, hC, Or.inr ⟨hR1, m_76, hr_76, ?_, ?_⟩⟩
            · first
              | (exfalso; omega)
              | (rw [if_pos (by omega)])
              | (rw [if_neg (by omega)])
              | (rw [if_pos (by rw [← ek]; omega)])
              | (rw [if_neg (by rw [← ek]; omega), ← ek])
            · first
              | (exfalso; omega)
              | (rw [if_pos (by omega)])
              | (rw [if_neg (by omega)])
          · refine go_iconst dX11_book_135 ?_
            refine go_goto (tgt := 146) dX11_book_136 (by decide) ?_
            refine go_ret (v := (-1)) rfl dX11_book_146 (okI ⟨by omega, by omega⟩) ?_
            refine Or.inr ⟨by omega, C, m_24, hC, Or.inr ⟨hR1, m_76, hr_76, ?_, ?_⟩⟩
            · first
              | (exfalso; omega)
              | (rw [if_pos (by omega)])
              | (rw [if_neg (by omega)])
              | (rw [if_pos (by rw [← ek]; omega)])
              | (rw [if_neg (by rw [← ek]; omega), ← ek])
            · first
              | (exfalso; omega)
              | (rw [if_pos (by omega)])
              | (rw [if_neg (by omega)])
        · refine go_aload_n dX11_book_84 rfl ?_
          refine go_getf_p (b := 70) dX11_book_85 fl_11_47 ob_0 rfl pt_0_4 ?_
          refine go_getf_i (ki := 2) dX11_book_88 fl_11_365 ob_70 rfl rfl (fun hf_88 => ?_)
          refine go_if_le (tgt := 125) dX11_book_91 (by decide) ⟨by omega, by omega⟩ (fun h_91 => ?_) (fun h_91 => ?_)
          · refine go_aload_n dX11_book_125 rfl ?_
            refine go_getf_p (b := 70) dX11_book_126 fl_11_47 ob_0 rfl pt_0_4 ?_
            refine go_getf_i (ki := 1) dX11_book_129 fl_11_368 ob_70 rfl rfl (fun hf_129 => ?_)
            refine go_if_ne (tgt := 139) dX11_book_132 (by decide) ⟨by omega, by omega⟩ (fun h_132 => ?_) (fun h_132 => ?_)
            · refine go_aload_n dX11_book_139 rfl ?_
              refine go_getf_p (b := 70) dX11_book_140 fl_11_47 ob_0 rfl pt_0_4 ?_
              refine go_getf_i (ki := 2) dX11_book_143 fl_11_365 ob_70 rfl rfl (fun hf_143 => ?_)
              refine go_ret (v := (m_76 70 2)) rfl dX11_book_146 (okI ⟨by omega, by omega⟩) ?_
              refine Or.inr ⟨by omega, C, m_24, hC, Or.inr ⟨hR1, m_76, hr_76, ?_, ?_⟩⟩
              · first
                | (exfalso; omega)
                | (rw [if_pos (by omega)])
                | (rw [if_neg (by omega)])
                | (rw [if_pos (by rw [← ek]; omega)])
                | (rw [if_neg (by rw [← ek]; omega), ← ek])
              · first
                | (exfalso; omega)
                | (rw [if_pos (by omega)])
                | (rw [if_neg (by omega)])
            · refine go_iconst dX11_book_135 ?_
              refine go_goto (tgt := 146) dX11_book_136 (by decide) ?_
              refine go_ret (v := (-1)) rfl dX11_book_146 (okI ⟨by omega, by omega⟩) ?_
              refine Or.inr ⟨by omega, C, m_24, hC, Or.inr ⟨hR1, m_76, hr_76, ?_, ?_⟩⟩
              · first
                | (exfalso; omega)
                | (rw [if_pos (by omega)])
                | (rw [if_neg (by omega)])
                | (rw [if_pos (by rw [← ek]; omega)])
                | (rw [if_neg (by rw [← ek]; omega), ← ek])
              · first
                | (exfalso; omega)
                | (rw [if_pos (by omega)])
                | (rw [if_neg (by omega)])
          · refine go_aload_n dX11_book_94 rfl ?_
            refine go_getf_p (b := 97) dX11_book_95 fl_11_82 ob_0 rfl pt_0_9 ?_
            refine go_aload_n dX11_book_98 rfl ?_
            refine go_getf_p (b := 7) dX11_book_99 fl_11_24 ob_0 rfl pt_0_1 ?_
            refine go_getf_p (b := 18) dX11_book_102 fl_11_136 ob_7 rfl pt_7_1 ?_
            refine go_callV_v (as := [vr 18]) (S := []) (b := 97) (ev_X3_keep (m := m_76) (st := 18) isSt_18 (by first | assumption | omega | exact ⟨by omega, by omega⟩ | (constructor <;> omega)) hhi3) rfl dX11_book_105 cv_11_240 rfl rfl ob_97 rfl (by decide) (Nat.le_of_ble_eq_true rfl) (fun m_105 hr_105 => ?_)
            subst hr_105
            refine go_aload_n dX11_book_108 rfl ?_
            refine go_getf_p (b := 7) dX11_book_109 fl_11_24 ob_0 rfl pt_0_1 ?_
            refine go_getf_p (b := 18) dX11_book_112 fl_11_136 ob_7 rfl pt_7_1 ?_
            refine go_aload_n dX11_book_115 rfl ?_
            refine go_getf_p (b := 31) dX11_book_116 fl_11_32 ob_0 rfl pt_0_2 ?_
            refine go_getf_p (b := 32) dX11_book_119 fl_11_136 ob_31 rfl pt_31_1 ?_
            refine go_callV_v (as := [vr 32]) (S := []) (b := 18) (ev_X6_copyFrom (m := (keepC m_76 18)) (st := 18) (ot := 32) isSt_18 isSt_32 (by omega)) rfl dX11_book_122 cv_11_357 rfl rfl ob_18 rfl (by decide) (Nat.le_of_ble_eq_true rfl) (fun m_122 hr_122 => ?_)
            subst hr_122
            have ek : ∀ j : Int, rows (keepC m_76 18) 18 32 8 70 j = m_76 70 j := fun j => by rw [rows_out (by omega), keepC_row hhi3 (by omega)]
            refine go_aload_n dX11_book_125 rfl ?_
            refine go_getf_p (b := 70) dX11_book_126 fl_11_47 ob_0 rfl pt_0_4 ?_
            refine go_getf_i (ki := 1) dX11_book_129 fl_11_368 ob_70 rfl rfl (fun hf_129 => ?_)
            refine go_if_ne (tgt := 139) dX11_book_132 (by decide) ⟨by omega, by omega⟩ (fun h_132 => ?_) (fun h_132 => ?_)
            · refine go_aload_n dX11_book_139 rfl ?_
              refine go_getf_p (b := 70) dX11_book_140 fl_11_47 ob_0 rfl pt_0_4 ?_
              refine go_getf_i (ki := 2) dX11_book_143 fl_11_365 ob_70 rfl rfl (fun hf_143 => ?_)
              refine go_ret (v := ((rows (keepC m_76 18) 18 32 8) 70 2)) rfl dX11_book_146 (okI ⟨by omega, by omega⟩) ?_
              refine Or.inr ⟨by omega, C, m_24, hC, Or.inr ⟨hR1, m_76, hr_76, ?_, ?_⟩⟩
              · first
                | (exfalso; omega)
                | (rw [if_pos (by omega)])
                | (rw [if_neg (by omega)])
                | (rw [if_pos (by rw [← ek]; omega)])
                | (rw [if_neg (by rw [← ek]; omega), ← ek])
              · first
                | (exfalso; omega)
                | (rw [if_pos (by omega)])
                | (rw [if_neg (by omega)])
            · refine go_iconst dX11_book_135 ?_
              refine go_goto (tgt := 146) dX11_book_136 (by decide) ?_
              refine go_ret (v := (-1)) rfl dX11_book_146 (okI ⟨by omega, by omega⟩) ?_
              refine Or.inr ⟨by omega, C, m_24, hC, Or.inr ⟨hR1, m_76, hr_76, ?_, ?_⟩⟩
              · first
                | (exfalso; omega)
                | (rw [if_pos (by omega)])
                | (rw [if_neg (by omega)])
                | (rw [if_pos (by rw [← ek]; omega)])
                | (rw [if_neg (by rw [← ek]; omega), ← ek])
              · first
                | (exfalso; omega)
                | (rw [if_pos (by omega)])
                | (rw [if_neg (by omega)])
      · refine go_bipush dX11_book_40 (by decide) ?_
        refine go_aload_n dX11_book_42 rfl ?_
        refine go_getf_p (b := 1) dX11_book_43 fl_11_12 ob_0 rfl pt_0_0 ?_
        refine go_getf_i (ki := 3) dX11_book_46 fl_11_113 ob_1 rfl rfl (fun hf_46 => ?_)
        rw [show ((wr m_24 1 1 0) 1 3 : Int) = (m_24 1 3) from by rw [wr_ni (by decide)]] at hf_46 ⊢
        refine go_isub dX11_book_49 ?_
        refine go_wrap ?_
        exact go_ret (v := (w32 ((-2) - (m_24 1 3)))) rfl dX11_book_50 (okI (w32_R _)) (Or.inr ⟨by omega, C, m_24, hC, Or.inl ⟨by rw [show (0 : Int) = r_24 by omega]; exact hR, rfl, rfl⟩⟩)
    · refine go_sipush dX11_book_9 (by decide) ?_
      exact go_ret (v := (-1000)) rfl dX11_book_12 (okI ⟨by omega, by omega⟩) (Or.inl ⟨by omega, by omega, rfl, rfl⟩)
