abbrev filC (m : Mem) (x y : Int) : Prop := wallC m 47 57 x y ≠ 0 ∨ whoC m 47 57 x y ≠ -1
def frF (m : Mem) (x i : Int) : Int := if numF (m 4) (vN m) i 0 (m 47 1 - 1) ≠ 0 then numF (m 4) (vN m) i 0 (m 47 1 - 1) else if filC m x (vN m i) then 3 else 0
def nmF (m : Mem) (i : Int) : Int := if m 4 i = 3 then (if knC m 47 (m 6 i) then 3 else 0) else 1
theorem frF_0 {m : Mem} {x i : Int} (h : frF m x i = 0) : (m 4 i = 2 ∧ 0 ≤ vN m i ∧ vN m i ≤ m 47 1 - 1) ∧ ¬ filC m x (vN m i) := by
  unfold frF at h
  split at h
  · rename_i q; exact absurd h q
  · rename_i q
    split at h
    · omega
    · exact ⟨numF_0 (Decidable.not_not.mp q), by assumption⟩
theorem nmF_0 {m : Mem} {i : Int} (h : nmF m i = 0) : m 4 i = 3 ∧ ¬ knC m 47 (m 6 i) := by
  unfold nmF at h
  split at h
  · split at h
    · omega
    · exact ⟨by assumption, by assumption⟩
  · omega
theorem whoC_congr {m M : Mem} {d st : Nat} {x y : Int} (h3 : M d 3 = m d 3) (hx : ∀ k : Int, 0 ≤ k → k < m d 3 → M (st + 2) k = m (st + 2) k ∧ M (st + 3) k = m (st + 3) k) : whoC M d st x y = whoC m d st x y := by
  unfold whoC
  rw [h3]
  exact fnd_congr (fun k a b => by rw [(hx k a b).1, (hx k a b).2])
theorem frF_congr {m M : Mem} {x i : Int} (h4 : M 4 = m 4) (h6 : M 6 = m 6) (h47 : M 47 = m 47) (h58 : M 58 = m 58) (hx : ∀ k : Int, 0 ≤ k → k < m 47 3 → M 59 k = m 59 k ∧ M 60 k = m 60 k) : frF M x i = frF m x i := by
  have e : ∀ y, whoC M 47 57 x y = whoC m 47 57 x y := fun y => whoC_congr (by rw [h47]) hx
  have e2 : ∀ y, wallC M 47 57 x y = wallC m 47 57 x y := fun y => by
    unfold wallC insC
    rw [show M (57 + 1) = m (57 + 1) from h58, h47]
  unfold frF vN
  simp only [filC, e, e2, h4, h6, h47]
theorem nmF_congr {m M : Mem} {i : Int} (h4 : M 4 = m 4) (h6 : M 6 = m 6) (h47 : M 47 = m 47) (h48 : M 48 = m 48) (h51 : M 51 = m 51) (h53 : M 53 = m 53) : nmF M i = nmF m i := by
  unfold nmF knC nameAt
  rw [h4, h6, h47, show M (47 + 1) = m (47 + 1) from h48, show M (47 + 4) = m (47 + 4) from h51, show M (47 + 6) = m (47 + 6) from h53]

theorem dX2_wantFreeY_0 : decode mX2_wantFreeY.2.1 0 = .ok (.aload_n 0, 1) := by decide +kernel
theorem dX2_wantFreeY_1 : decode mX2_wantFreeY.2.1 1 = .ok (.getfield 30, 3) := by decide +kernel
theorem dX2_wantFreeY_4 : decode mX2_wantFreeY.2.1 4 = .ok (.iconst 0, 1) := by decide +kernel
theorem dX2_wantFreeY_5 : decode mX2_wantFreeY.2.1 5 = .ok (.aload_n 0, 1) := by decide +kernel
theorem dX2_wantFreeY_6 : decode mX2_wantFreeY.2.1 6 = .ok (.getfield 17, 3) := by decide +kernel
theorem dX2_wantFreeY_9 : decode mX2_wantFreeY.2.1 9 = .ok (.getfield 58, 3) := by decide +kernel
theorem dX2_wantFreeY_12 : decode mX2_wantFreeY.2.1 12 = .ok (.getfield 96, 3) := by decide +kernel
theorem dX2_wantFreeY_15 : decode mX2_wantFreeY.2.1 15 = .ok (.iconst 1, 1) := by decide +kernel
theorem dX2_wantFreeY_16 : decode mX2_wantFreeY.2.1 16 = .ok (.isub, 1) := by decide +kernel
theorem dX2_wantFreeY_17 : decode mX2_wantFreeY.2.1 17 = .ok (.invokevirtual 86, 3) := by decide +kernel
theorem dX2_wantFreeY_20 : decode mX2_wantFreeY.2.1 20 = .ok (.ifCond .ne 5, 3) := by decide +kernel
theorem dX2_wantFreeY_23 : decode mX2_wantFreeY.2.1 23 = .ok (.iconst 0, 1) := by decide +kernel
theorem dX2_wantFreeY_24 : decode mX2_wantFreeY.2.1 24 = .ok (.ireturn, 1) := by decide +kernel
theorem dX2_wantFreeY_25 : decode mX2_wantFreeY.2.1 25 = .ok (.aload_n 0, 1) := by decide +kernel
theorem dX2_wantFreeY_26 : decode mX2_wantFreeY.2.1 26 = .ok (.getfield 17, 3) := by decide +kernel
theorem dX2_wantFreeY_29 : decode mX2_wantFreeY.2.1 29 = .ok (.iload_n 1, 1) := by decide +kernel
theorem dX2_wantFreeY_30 : decode mX2_wantFreeY.2.1 30 = .ok (.aload_n 0, 1) := by decide +kernel
theorem dX2_wantFreeY_31 : decode mX2_wantFreeY.2.1 31 = .ok (.getfield 30, 3) := by decide +kernel
theorem dX2_wantFreeY_34 : decode mX2_wantFreeY.2.1 34 = .ok (.getfield 90, 3) := by decide +kernel
theorem dX2_wantFreeY_37 : decode mX2_wantFreeY.2.1 37 = .ok (.invokevirtual 173, 3) := by decide +kernel
theorem dX2_wantFreeY_40 : decode mX2_wantFreeY.2.1 40 = .ok (.ifCond .ne 26, 3) := by decide +kernel
theorem dX2_wantFreeY_43 : decode mX2_wantFreeY.2.1 43 = .ok (.aload_n 0, 1) := by decide +kernel
theorem dX2_wantFreeY_44 : decode mX2_wantFreeY.2.1 44 = .ok (.getfield 17, 3) := by decide +kernel
theorem dX2_wantFreeY_47 : decode mX2_wantFreeY.2.1 47 = .ok (.iload_n 1, 1) := by decide +kernel
theorem dX2_wantFreeY_48 : decode mX2_wantFreeY.2.1 48 = .ok (.aload_n 0, 1) := by decide +kernel
theorem dX2_wantFreeY_49 : decode mX2_wantFreeY.2.1 49 = .ok (.getfield 30, 3) := by decide +kernel
theorem dX2_wantFreeY_52 : decode mX2_wantFreeY.2.1 52 = .ok (.getfield 90, 3) := by decide +kernel
theorem dX2_wantFreeY_55 : decode mX2_wantFreeY.2.1 55 = .ok (.invokevirtual 176, 3) := by decide +kernel
theorem dX2_wantFreeY_58 : decode mX2_wantFreeY.2.1 58 = .ok (.iconst (-1), 1) := by decide +kernel
theorem dX2_wantFreeY_59 : decode mX2_wantFreeY.2.1 59 = .ok (.if_icmp .ne 7, 3) := by decide +kernel
theorem dX2_wantFreeY_62 : decode mX2_wantFreeY.2.1 62 = .ok (.iconst 1, 1) := by decide +kernel
theorem dX2_wantFreeY_63 : decode mX2_wantFreeY.2.1 63 = .ok (.goto 4, 3) := by decide +kernel
theorem dX2_wantFreeY_66 : decode mX2_wantFreeY.2.1 66 = .ok (.iconst 0, 1) := by decide +kernel
theorem dX2_wantFreeY_67 : decode mX2_wantFreeY.2.1 67 = .ok (.istore_n 2, 1) := by decide +kernel
theorem dX2_wantFreeY_68 : decode mX2_wantFreeY.2.1 68 = .ok (.iload_n 2, 1) := by decide +kernel
theorem dX2_wantFreeY_69 : decode mX2_wantFreeY.2.1 69 = .ok (.ifCond .ne 14, 3) := by decide +kernel
theorem dX2_wantFreeY_72 : decode mX2_wantFreeY.2.1 72 = .ok (.aload_n 0, 1) := by decide +kernel
theorem dX2_wantFreeY_73 : decode mX2_wantFreeY.2.1 73 = .ok (.getfield 30, 3) := by decide +kernel
theorem dX2_wantFreeY_76 : decode mX2_wantFreeY.2.1 76 = .ok (.iconst 3, 1) := by decide +kernel
theorem dX2_wantFreeY_77 : decode mX2_wantFreeY.2.1 77 = .ok (.invokevirtual 83, 3) := by decide +kernel
theorem dX2_wantFreeY_80 : decode mX2_wantFreeY.2.1 80 = .ok (.ifCond .eq 7, 3) := by decide +kernel
theorem dX2_wantFreeY_83 : decode mX2_wantFreeY.2.1 83 = .ok (.iconst 1, 1) := by decide +kernel
theorem dX2_wantFreeY_84 : decode mX2_wantFreeY.2.1 84 = .ok (.goto 4, 3) := by decide +kernel
theorem dX2_wantFreeY_87 : decode mX2_wantFreeY.2.1 87 = .ok (.iconst 0, 1) := by decide +kernel
theorem dX2_wantFreeY_88 : decode mX2_wantFreeY.2.1 88 = .ok (.ireturn, 1) := by decide +kernel
set_option maxRecDepth 4000 in
theorem ev_X2_wantFreeY {m : Mem} {x : Int} (htk : TkS m) (hi : 0 ≤ m 1 12 ∧ m 1 12 < m 1 11) (hdn : DnOk m 47) (hx : 0 ≤ x ∧ x < m 47 0) : Ev 0 4 mX2_wantFreeY [vr 45, vi x] m (fun r m' => (frF m x (m 1 12) = 0 ∧ r = 1 ∧ Adv m m' (m 1 6)) ∨ (frF m x (m 1 12) ≠ 0 ∧ r = 0 ∧ Adv m m' (frF m x (m 1 12)))) := by
  refine Ev.of (L := [vr 45, vi x, un]) (by decide +kernel) rfl (Nat.le_of_ble_eq_true rfl) rfl (fun t ht => by cases ht; first | exact Or.inl rfl | exact Or.inr (Or.inl rfl) | exact Or.inr (Or.inr rfl)) (fun hcan => ?_)
  obtain ⟨⟨hd0, hd1⟩, ⟨hd2, hd3⟩, ⟨hd4, hd5⟩, ⟨hd6, hd7⟩, ⟨hd8, hd9⟩, hdf, hdp, hdq⟩ := id hdn
  refine go_aload_n dX2_wantFreeY_0 rfl ?_
  refine go_getf_p (b := 1) dX2_wantFreeY_1 fl_2_30 ob_45 rfl pt_45_1 ?_
  refine go_iconst dX2_wantFreeY_4 ?_
  refine go_aload_n dX2_wantFreeY_5 rfl ?_
  refine go_getf_p (b := 46) dX2_wantFreeY_6 fl_2_17 ob_45 rfl pt_45_0 ?_
  refine go_getf_p (b := 47) dX2_wantFreeY_9 fl_2_58 ob_46 rfl pt_46_0 ?_
  refine go_getf_i (ki := 1) dX2_wantFreeY_12 fl_2_96 ob_47 rfl rfl (fun hf_12 => ?_)
  refine go_iconst dX2_wantFreeY_15 ?_
  refine go_isub dX2_wantFreeY_16 ?_
  refine go_callV_z (as := [vi 0, vi ((m 47 1) - 1)]) (S := []) (b := 1) (ev_X7_wantNumeral (m := m) (lo := 0) (hi := ((m 47 1) - 1)) (by have := htk.1; omega) (by first | assumption | omega | exact ⟨by omega, by omega⟩ | (constructor <;> omega)) (by first | assumption | omega | exact ⟨by omega, by omega⟩ | (constructor <;> omega))) rfl dX2_wantFreeY_17 cv_2_86 rfl rfl ob_1 rfl (by decide) (Nat.le_of_ble_eq_true rfl) (fun r_17 m_17 hr_17 ho_17 => ?_)
  have rwf_17 : ∀ b : Nat, b ≠ 1 → m_17 b = m b := by
    rcases hr_17 with h | h
    · exact h.2.2.2
    · exact h.2.2.2
  have v4_17 : m_17 1 4 = vN m (m 1 12) := by
    rcases hr_17 with h | h
    · have q := h.2.2.1.2.2.2.2.1; rw [show m 1 12 + 1 - 1 = m 1 12 by omega] at q; exact q
    · have q := h.2.2.1.2.2.2.2.1; rw [show m 1 12 + 1 - 1 = m 1 12 by omega] at q; exact q
  have hdn17 : DnOk m_17 47 := hdn.congr (fun k hk => rwf_17 _ (by omega))
  have ew : ∀ y, wallC m_17 47 57 x y = wallC m 47 57 x y := fun y => by unfold wallC insC; rw [rwf_17 47 (by decide), rwf_17 (57 + 1) (by decide)]
  have eo : ∀ y, whoC m_17 47 57 x y = whoC m 47 57 x y := fun y => by unfold whoC; rw [rwf_17 47 (by decide), rwf_17 (57 + 2) (by decide), rwf_17 (57 + 3) (by decide)]
  refine go_if_ne (tgt := 25) dX2_wantFreeY_20 (by decide) ⟨by omega, by omega⟩ (fun h_20 => ?_) (fun h_20 => ?_)
  · obtain ⟨z_17, -, a_17⟩ := hr_17.resolve_right (fun h => h_20 h.2.1)
    have hv17 := numF_0 z_17
    refine go_aload_n dX2_wantFreeY_25 rfl ?_
    refine go_getf_p (b := 46) dX2_wantFreeY_26 fl_2_17 ob_45 rfl pt_45_0 ?_
    refine go_iload_n dX2_wantFreeY_29 rfl ?_
    refine go_aload_n dX2_wantFreeY_30 rfl ?_
    refine go_getf_p (b := 1) dX2_wantFreeY_31 fl_2_30 ob_45 rfl pt_45_1 ?_
    refine go_getf_i (ki := 4) dX2_wantFreeY_34 fl_2_90 ob_1 rfl rfl (fun hf_34 => ?_)
    rw [show (m_17 1 4 : Int) = (vN m (m 1 12)) from v4_17] at hf_34 ⊢
    refine go_callVp_i (as := [vi x, vi (vN m (m 1 12))]) (S := []) (b := 46) (ev_X10_wallAt (m := m_17) (w := 46) (x := x) (y := (vN m (m 1 12))) (d := 47) (st := 57) isWd_46 hdn17 (by first | assumption | omega | exact ⟨by omega, by omega⟩ | (constructor <;> omega)) (by first | assumption | omega | exact ⟨by omega, by omega⟩ | (constructor <;> omega))) rfl dX2_wantFreeY_37 cv_2_173 rfl rfl ob_46 rfl (by decide) (Nat.le_of_ble_eq_true rfl) (fun r_37 hr_37 ho_37 => ?_)
    rw [ew] at hr_37
    refine go_if_ne (tgt := 66) dX2_wantFreeY_40 (by decide) ⟨by omega, by omega⟩ (fun h_40 => ?_) (fun h_40 => ?_)
    · refine go_iconst dX2_wantFreeY_66 ?_
      refine go_istore_n (L' := [vr 45, vi x, vi 0]) dX2_wantFreeY_67 (by decide) rfl rfl ?_
      refine go_iload_n dX2_wantFreeY_68 rfl ?_
      refine go_if_ne (tgt := 83) dX2_wantFreeY_69 (by decide) ⟨by omega, by omega⟩ (fun h_69 => ?_) (fun h_69 => ?_)
      · exfalso; omega
      · refine go_aload_n dX2_wantFreeY_72 rfl ?_
        refine go_getf_p (b := 1) dX2_wantFreeY_73 fl_2_30 ob_45 rfl pt_45_1 ?_
        refine go_iconst dX2_wantFreeY_76 ?_
        refine go_callV_z (as := [vi 3]) (S := []) (b := 1) (ev_X7_refuse (m := m_17) (k := 3) (by first | assumption | omega | exact ⟨by omega, by omega⟩ | (constructor <;> omega))) rfl dX2_wantFreeY_77 cv_2_83 rfl rfl ob_1 rfl (by decide) (Nat.le_of_ble_eq_true rfl) (fun r_77 m_77 hr_77 ho_77 => ?_)
        refine go_if_eq (tgt := 87) dX2_wantFreeY_80 (by decide) ⟨by omega, by omega⟩ (fun h_80 => ?_) (fun h_80 => ?_)
        · refine go_iconst dX2_wantFreeY_87 ?_
          refine go_ret (v := 0) rfl dX2_wantFreeY_88 (okZ (by first | exact Or.inl rfl | exact Or.inr rfl | assumption | omega)) ?_
          first
          | (exfalso; omega)
          | (have e : frF m x (m 1 12) = 0 := (by unfold frF; rw [if_neg (fun h => h z_17), if_neg (by unfold filC; omega)])
             exact Or.inl ⟨e, rfl, a_17⟩)
          | (have e : frF m x (m 1 12) = 3 := (by unfold frF; rw [if_neg (fun h => h z_17), if_pos (by unfold filC; omega)])
             rw [e]
             exact Or.inr ⟨by omega, rfl, by rw [hr_77.2]; exact a_17.flt⟩)
        · refine go_iconst dX2_wantFreeY_83 ?_
          refine go_goto (tgt := 88) dX2_wantFreeY_84 (by decide) ?_
          refine go_ret (v := 1) rfl dX2_wantFreeY_88 (okZ (by first | exact Or.inl rfl | exact Or.inr rfl | assumption | omega)) ?_
          first
          | (exfalso; omega)
          | (have e : frF m x (m 1 12) = 0 := (by unfold frF; rw [if_neg (fun h => h z_17), if_neg (by unfold filC; omega)])
             exact Or.inl ⟨e, rfl, a_17⟩)
          | (have e : frF m x (m 1 12) = 3 := (by unfold frF; rw [if_neg (fun h => h z_17), if_pos (by unfold filC; omega)])
             rw [e]
             exact Or.inr ⟨by omega, rfl, by rw [hr_77.2]; exact a_17.flt⟩)
    · refine go_aload_n dX2_wantFreeY_43 rfl ?_
      refine go_getf_p (b := 46) dX2_wantFreeY_44 fl_2_17 ob_45 rfl pt_45_0 ?_
      refine go_iload_n dX2_wantFreeY_47 rfl ?_
      refine go_aload_n dX2_wantFreeY_48 rfl ?_
      refine go_getf_p (b := 1) dX2_wantFreeY_49 fl_2_30 ob_45 rfl pt_45_1 ?_
      refine go_getf_i (ki := 4) dX2_wantFreeY_52 fl_2_90 ob_1 rfl rfl (fun hf_52 => ?_)
      rw [show (m_17 1 4 : Int) = (vN m (m 1 12)) from v4_17] at hf_52 ⊢
      refine go_callVp_i (as := [vi x, vi (vN m (m 1 12))]) (S := []) (b := 46) (ev_X10_whoIsAt (m := m_17) (w := 46) (x := x) (y := (vN m (m 1 12))) (d := 47) (st := 57) isWd_46 hdn17 (by first | assumption | omega | exact ⟨by omega, by omega⟩ | (constructor <;> omega)) (by first | assumption | omega | exact ⟨by omega, by omega⟩ | (constructor <;> omega))) rfl dX2_wantFreeY_55 cv_2_176 rfl rfl ob_46 rfl (by decide) (Nat.le_of_ble_eq_true rfl) (fun r_55 hr_55 ho_55 => ?_)
      rw [eo] at hr_55
      refine go_iconst dX2_wantFreeY_58 ?_
      refine go_icmp_ne (tgt := 66) dX2_wantFreeY_59 (by decide) ⟨by omega, by omega⟩ ⟨by omega, by omega⟩ (fun h_59 => ?_) (fun h_59 => ?_)
      · refine go_iconst dX2_wantFreeY_66 ?_
        refine go_istore_n (L' := [vr 45, vi x, vi 0]) dX2_wantFreeY_67 (by decide) rfl rfl ?_
        refine go_iload_n dX2_wantFreeY_68 rfl ?_
        refine go_if_ne (tgt := 83) dX2_wantFreeY_69 (by decide) ⟨by omega, by omega⟩ (fun h_69 => ?_) (fun h_69 => ?_)
        · exfalso; omega
        · refine go_aload_n dX2_wantFreeY_72 rfl ?_
          refine go_getf_p (b := 1) dX2_wantFreeY_73 fl_2_30 ob_45 rfl pt_45_1 ?_
          refine go_iconst dX2_wantFreeY_76 ?_
          refine go_callV_z (as := [vi 3]) (S := []) (b := 1) (ev_X7_refuse (m := m_17) (k := 3) (by first | assumption | omega | exact ⟨by omega, by omega⟩ | (constructor <;> omega))) rfl dX2_wantFreeY_77 cv_2_83 rfl rfl ob_1 rfl (by decide) (Nat.le_of_ble_eq_true rfl) (fun r_77 m_77 hr_77 ho_77 => ?_)
          refine go_if_eq (tgt := 87) dX2_wantFreeY_80 (by decide) ⟨by omega, by omega⟩ (fun h_80 => ?_) (fun h_80 => ?_)
          · refine go_iconst dX2_wantFreeY_87 ?_
            refine go_ret (v := 0) rfl dX2_wantFreeY_88 (okZ (by first | exact Or.inl rfl | exact Or.inr rfl | assumption | omega)) ?_
            first
            | (exfalso; omega)
            | (have e : frF m x (m 1 12) = 0 := (by unfold frF; rw [if_neg (fun h => h z_17), if_neg (by unfold filC; omega)])
               exact Or.inl ⟨e, rfl, a_17⟩)
            | (have e : frF m x (m 1 12) = 3 := (by unfold frF; rw [if_neg (fun h => h z_17), if_pos (by unfold filC; omega)])
               rw [e]
               exact Or.inr ⟨by omega, rfl, by rw [hr_77.2]; exact a_17.flt⟩)
          · refine go_iconst dX2_wantFreeY_83 ?_
            refine go_goto (tgt := 88) dX2_wantFreeY_84 (by decide) ?_
            refine go_ret (v := 1) rfl dX2_wantFreeY_88 (okZ (by first | exact Or.inl rfl | exact Or.inr rfl | assumption | omega)) ?_
            first
            | (exfalso; omega)
            | (have e : frF m x (m 1 12) = 0 := (by unfold frF; rw [if_neg (fun h => h z_17), if_neg (by unfold filC; omega)])
               exact Or.inl ⟨e, rfl, a_17⟩)
            | (have e : frF m x (m 1 12) = 3 := (by unfold frF; rw [if_neg (fun h => h z_17), if_pos (by unfold filC; omega)])
               rw [e]
               exact Or.inr ⟨by omega, rfl, by rw [hr_77.2]; exact a_17.flt⟩)
      · refine go_iconst dX2_wantFreeY_62 ?_
        refine go_goto (tgt := 67) dX2_wantFreeY_63 (by decide) ?_
        refine go_istore_n (L' := [vr 45, vi x, vi 1]) dX2_wantFreeY_67 (by decide) rfl rfl ?_
        refine go_iload_n dX2_wantFreeY_68 rfl ?_
        refine go_if_ne (tgt := 83) dX2_wantFreeY_69 (by decide) ⟨by omega, by omega⟩ (fun h_69 => ?_) (fun h_69 => ?_)
        · refine go_iconst dX2_wantFreeY_83 ?_
          refine go_goto (tgt := 88) dX2_wantFreeY_84 (by decide) ?_
          refine go_ret (v := 1) rfl dX2_wantFreeY_88 (okZ (by first | exact Or.inl rfl | exact Or.inr rfl | assumption | omega)) ?_
          first
          | (exfalso; omega)
          | (have e : frF m x (m 1 12) = 0 := (by unfold frF; rw [if_neg (fun h => h z_17), if_neg (by unfold filC; omega)])
             exact Or.inl ⟨e, rfl, a_17⟩)
          | (have e : frF m x (m 1 12) = 3 := (by unfold frF; rw [if_neg (fun h => h z_17), if_pos (by unfold filC; omega)])
             rw [e]
             exact Or.inr ⟨by omega, rfl, by rw [hr_77.2]; exact a_17.flt⟩)
        · exfalso; omega
  · refine go_iconst dX2_wantFreeY_23 ?_
    refine go_ret (v := 0) rfl dX2_wantFreeY_24 (okZ (by first | exact Or.inl rfl | exact Or.inr rfl | assumption | omega)) ?_
    obtain ⟨z, -, a⟩ := hr_17.resolve_left (fun h => by omega)
    have e : frF m x (m 1 12) = numF (m 4) (vN m) (m 1 12) 0 (m 47 1 - 1) := by unfold frF; rw [if_pos z]
    rw [e]
    exact Or.inr ⟨z, rfl, a⟩
theorem dX2_wantNewName_0 : decode mX2_wantNewName.2.1 0 = .ok (.aload_n 0, 1) := by decide +kernel
theorem dX2_wantNewName_1 : decode mX2_wantNewName.2.1 1 = .ok (.getfield 30, 3) := by decide +kernel
theorem dX2_wantNewName_4 : decode mX2_wantNewName.2.1 4 = .ok (.iconst 3, 1) := by decide +kernel
theorem dX2_wantNewName_5 : decode mX2_wantNewName.2.1 5 = .ok (.invokevirtual 54, 3) := by decide +kernel
theorem dX2_wantNewName_8 : decode mX2_wantNewName.2.1 8 = .ok (.ifCond .ne 5, 3) := by decide +kernel
theorem dX2_wantNewName_11 : decode mX2_wantNewName.2.1 11 = .ok (.iconst 0, 1) := by decide +kernel
theorem dX2_wantNewName_12 : decode mX2_wantNewName.2.1 12 = .ok (.ireturn, 1) := by decide +kernel
theorem dX2_wantNewName_13 : decode mX2_wantNewName.2.1 13 = .ok (.aload_n 0, 1) := by decide +kernel
theorem dX2_wantNewName_14 : decode mX2_wantNewName.2.1 14 = .ok (.getfield 17, 3) := by decide +kernel
theorem dX2_wantNewName_17 : decode mX2_wantNewName.2.1 17 = .ok (.getfield 58, 3) := by decide +kernel
theorem dX2_wantNewName_20 : decode mX2_wantNewName.2.1 20 = .ok (.aload_n 0, 1) := by decide +kernel
theorem dX2_wantNewName_21 : decode mX2_wantNewName.2.1 21 = .ok (.getfield 30, 3) := by decide +kernel
theorem dX2_wantNewName_24 : decode mX2_wantNewName.2.1 24 = .ok (.getfield 126, 3) := by decide +kernel
theorem dX2_wantNewName_27 : decode mX2_wantNewName.2.1 27 = .ok (.invokevirtual 169, 3) := by decide +kernel
theorem dX2_wantNewName_30 : decode mX2_wantNewName.2.1 30 = .ok (.ifCond .eq 14, 3) := by decide +kernel
theorem dX2_wantNewName_33 : decode mX2_wantNewName.2.1 33 = .ok (.aload_n 0, 1) := by decide +kernel
theorem dX2_wantNewName_34 : decode mX2_wantNewName.2.1 34 = .ok (.getfield 30, 3) := by decide +kernel
theorem dX2_wantNewName_37 : decode mX2_wantNewName.2.1 37 = .ok (.iconst 3, 1) := by decide +kernel
theorem dX2_wantNewName_38 : decode mX2_wantNewName.2.1 38 = .ok (.invokevirtual 83, 3) := by decide +kernel
theorem dX2_wantNewName_41 : decode mX2_wantNewName.2.1 41 = .ok (.ifCond .eq 7, 3) := by decide +kernel
theorem dX2_wantNewName_44 : decode mX2_wantNewName.2.1 44 = .ok (.iconst 1, 1) := by decide +kernel
theorem dX2_wantNewName_45 : decode mX2_wantNewName.2.1 45 = .ok (.goto 4, 3) := by decide +kernel
theorem dX2_wantNewName_48 : decode mX2_wantNewName.2.1 48 = .ok (.iconst 0, 1) := by decide +kernel
theorem dX2_wantNewName_49 : decode mX2_wantNewName.2.1 49 = .ok (.ireturn, 1) := by decide +kernel
set_option maxRecDepth 4000 in
theorem ev_X2_wantNewName {m : Mem}  (htk : TkS m) (hi : 0 ≤ m 1 12 ∧ m 1 12 < m 1 11) (hdn : DnOk m 47) : Ev 0 4 mX2_wantNewName [vr 45] m (fun r m' => (nmF m (m 1 12) = 0 ∧ r = 1 ∧ Adv m m' (m 1 6)) ∨ (nmF m (m 1 12) ≠ 0 ∧ r = 0 ∧ Adv m m' (nmF m (m 1 12)))) := by
  refine Ev.of (L := [vr 45]) (by decide +kernel) rfl (Nat.le_of_ble_eq_true rfl) rfl (fun t ht => by cases ht; first | exact Or.inl rfl | exact Or.inr (Or.inl rfl) | exact Or.inr (Or.inr rfl)) (fun hcan => ?_)
  obtain ⟨⟨hd0, hd1⟩, ⟨hd2, hd3⟩, ⟨hd4, hd5⟩, ⟨hd6, hd7⟩, ⟨hd8, hd9⟩, hdf, hdp, hdq⟩ := id hdn
  refine go_aload_n dX2_wantNewName_0 rfl ?_
  refine go_getf_p (b := 1) dX2_wantNewName_1 fl_2_30 ob_45 rfl pt_45_1 ?_
  refine go_iconst dX2_wantNewName_4 ?_
  refine go_callV_z (as := [vi 3]) (S := []) (b := 1) (ev_X7_wantKind (m := m) (k := 3) (by have := htk.1; omega) (by first | assumption | omega | exact ⟨by omega, by omega⟩ | (constructor <;> omega))) rfl dX2_wantNewName_5 cv_2_54 rfl rfl ob_1 rfl (by decide) (Nat.le_of_ble_eq_true rfl) (fun r_5 m_5 hr_5 ho_5 => ?_)
  have rwf_5 : ∀ b : Nat, b ≠ 1 → m_5 b = m b := by
    rcases hr_5 with h | h
    · exact h.2.2.2
    · exact h.2.2.2
  have v5_5 : m_5 1 5 = m 6 (m 1 12) := by
    rcases hr_5 with h | h
    · have q := h.2.2.1.2.2.2.1; rw [show m 1 12 + 1 - 1 = m 1 12 by omega] at q; exact q
    · have q := h.2.2.1.2.2.2.1; rw [show m 1 12 + 1 - 1 = m 1 12 by omega] at q; exact q
  have hdn5 : DnOk m_5 47 := hdn.congr (fun k hk => rwf_5 _ (by omega))
  have ek : ∀ v, knC m_5 47 v ↔ knC m 47 v := fun v => by unfold knC nameAt; rw [rwf_5 47 (by decide), rwf_5 (47 + 1) (by decide), rwf_5 (47 + 4) (by decide), rwf_5 (47 + 6) (by decide)]
  refine go_if_ne (tgt := 13) dX2_wantNewName_8 (by decide) ⟨by omega, by omega⟩ (fun h_8 => ?_) (fun h_8 => ?_)
  · obtain ⟨z_5, -, a_5⟩ := hr_5.resolve_right (fun h => h_8 h.2.1)
    refine go_aload_n dX2_wantNewName_13 rfl ?_
    refine go_getf_p (b := 46) dX2_wantNewName_14 fl_2_17 ob_45 rfl pt_45_0 ?_
    refine go_getf_p (b := 47) dX2_wantNewName_17 fl_2_58 ob_46 rfl pt_46_0 ?_
    refine go_aload_n dX2_wantNewName_20 rfl ?_
    refine go_getf_p (b := 1) dX2_wantNewName_21 fl_2_30 ob_45 rfl pt_45_1 ?_
    refine go_getf_l (ki := 5) dX2_wantNewName_24 fl_2_126 ob_1 rfl rfl (fun hf_24 => ?_)
    rw [show (m_5 1 5 : Int) = (m 6 (m 1 12)) from v5_5] at hf_24 ⊢
    refine go_callVp_z (as := [vl (m 6 (m 1 12))]) (S := []) (b := 47) (ev_X1_isNamed (m := m_5) (d := 47) (v := (m 6 (m 1 12))) isDn_47 hdn5 (by first | assumption | omega | exact ⟨by omega, by omega⟩ | (constructor <;> omega))) rfl dX2_wantNewName_27 cv_2_169 rfl rfl ob_47 rfl (by decide) (Nat.le_of_ble_eq_true rfl) (fun r_27 hr_27 ho_27 => ?_)
    rw [ek] at hr_27
    refine go_if_eq (tgt := 44) dX2_wantNewName_30 (by decide) ⟨by omega, by omega⟩ (fun h_30 => ?_) (fun h_30 => ?_)
    · refine go_iconst dX2_wantNewName_44 ?_
      refine go_goto (tgt := 49) dX2_wantNewName_45 (by decide) ?_
      refine go_ret (v := 1) rfl dX2_wantNewName_49 (okZ (by first | exact Or.inl rfl | exact Or.inr rfl | assumption | omega)) ?_
      first
      | (exfalso; omega)
      | (have e : nmF m (m 1 12) = 0 := (by unfold nmF; rw [if_pos z_5, if_neg (by omega)])
         exact Or.inl ⟨e, rfl, a_5⟩)
      | (have e : nmF m (m 1 12) = 3 := (by unfold nmF; rw [if_pos z_5, if_pos (by omega)])
         rw [e]
         exact Or.inr ⟨by omega, rfl, by rw [hr_38.2]; exact a_5.flt⟩)
    · refine go_aload_n dX2_wantNewName_33 rfl ?_
      refine go_getf_p (b := 1) dX2_wantNewName_34 fl_2_30 ob_45 rfl pt_45_1 ?_
      refine go_iconst dX2_wantNewName_37 ?_
      refine go_callV_z (as := [vi 3]) (S := []) (b := 1) (ev_X7_refuse (m := m_5) (k := 3) (by first | assumption | omega | exact ⟨by omega, by omega⟩ | (constructor <;> omega))) rfl dX2_wantNewName_38 cv_2_83 rfl rfl ob_1 rfl (by decide) (Nat.le_of_ble_eq_true rfl) (fun r_38 m_38 hr_38 ho_38 => ?_)
      refine go_if_eq (tgt := 48) dX2_wantNewName_41 (by decide) ⟨by omega, by omega⟩ (fun h_41 => ?_) (fun h_41 => ?_)
      · refine go_iconst dX2_wantNewName_48 ?_
        refine go_ret (v := 0) rfl dX2_wantNewName_49 (okZ (by first | exact Or.inl rfl | exact Or.inr rfl | assumption | omega)) ?_
        first
        | (exfalso; omega)
        | (have e : nmF m (m 1 12) = 0 := (by unfold nmF; rw [if_pos z_5, if_neg (by omega)])
           exact Or.inl ⟨e, rfl, a_5⟩)
        | (have e : nmF m (m 1 12) = 3 := (by unfold nmF; rw [if_pos z_5, if_pos (by omega)])
           rw [e]
           exact Or.inr ⟨by omega, rfl, by rw [hr_38.2]; exact a_5.flt⟩)
      · refine go_iconst dX2_wantNewName_44 ?_
        refine go_goto (tgt := 49) dX2_wantNewName_45 (by decide) ?_
        refine go_ret (v := 1) rfl dX2_wantNewName_49 (okZ (by first | exact Or.inl rfl | exact Or.inr rfl | assumption | omega)) ?_
        first
        | (exfalso; omega)
        | (have e : nmF m (m 1 12) = 0 := (by unfold nmF; rw [if_pos z_5, if_neg (by omega)])
           exact Or.inl ⟨e, rfl, a_5⟩)
        | (have e : nmF m (m 1 12) = 3 := (by unfold nmF; rw [if_pos z_5, if_pos (by omega)])
           rw [e]
           exact Or.inr ⟨by omega, rfl, by rw [hr_38.2]; exact a_5.flt⟩)
  · refine go_iconst dX2_wantNewName_11 ?_
    refine go_ret (v := 0) rfl dX2_wantNewName_12 (okZ (by first | exact Or.inl rfl | exact Or.inr rfl | assumption | omega)) ?_
    obtain ⟨z, -, a⟩ := hr_5.resolve_left (fun h => by omega)
    have e : nmF m (m 1 12) = 1 := by unfold nmF; rw [if_neg z]
    rw [e]
    exact Or.inr ⟨by omega, rfl, a⟩
