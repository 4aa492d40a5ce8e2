theorem DnOk.c7 {m m' : Mem} {d : Nat} (h : DnOk m d) (h0 : m' d = m d) (h2 : m' (d + 2) = m (d + 2)) (h3 : m' (d + 3) = m (d + 3)) (h5 : m' (d + 5) = m (d + 5)) (h7 : m' (d + 7) = m (d + 7)) (h8 : m' (d + 8) = m (d + 8)) (h9 : m' (d + 9) = m (d + 9)) : DnOk m' d := by
  unfold DnOk at *
  rw [h0, h2, h3, h5, h7, h8, h9]
  exact h
theorem TkS.tp {m M : Mem} {j : Int} (h : TkS m) (ht : TP m M j) : TkS M := by
  unfold TkS at *
  rw [ht.2.1, ht.2.2.1, ht.2.2.2.2.1]
  exact h
theorem vN_congr {m M : Mem} (h : M 6 = m 6) : vN M = vN m := by unfold vN; rw [h]
def szF (m : Mem) (i : Int) : Int × Int := if m 45 2 ≠ 0 ∨ m 45 3 ≠ 0 then (3, i - 1) else if numF (m 4) (vN m) i 2 9 ≠ 0 then (numF (m 4) (vN m) i 2 9, i) else if numF (m 4) (vN m) (i + 1) 2 9 ≠ 0 then (numF (m 4) (vN m) (i + 1) 2 9, i + 1) else (0, i + 2)
def wlF (m : Mem) (i : Int) : Int × Int := if numF (m 4) (vN m) i 0 (m 47 0 - 1) ≠ 0 then (numF (m 4) (vN m) i 0 (m 47 0 - 1), i) else if frF m (vN m i) (i + 1) ≠ 0 then (frF m (vN m i) (i + 1), i + 1) else if numF (m 4) (vN m) (i + 2) 1 9 ≠ 0 then (numF (m 4) (vN m) (i + 2) 1 9, i + 2) else (0, i + 3)
def fgF (m : Mem) (i : Int) : Int × Int := if 6 ≤ m 47 2 then (4, i - 1) else if nmF m i ≠ 0 then (nmF m i, i) else if numF (m 4) (vN m) (i + 1) 0 7 ≠ 0 then (numF (m 4) (vN m) (i + 1) 0 7, i + 1) else if numF (m 4) (vN m) (i + 2) 0 5 ≠ 0 then (numF (m 4) (vN m) (i + 2) 0 5, i + 2) else (0, i + 3)
def psF (m : Mem) (i : Int) : Int × Int := if 5 ≤ m 47 3 then (4, i - 1) else if nmF m i ≠ 0 then (nmF m i, i) else if numF (m 4) (vN m) (i + 1) 0 (m 47 0 - 1) ≠ 0 then (numF (m 4) (vN m) (i + 1) 0 (m 47 0 - 1), i + 1) else if frF m (vN m (i + 1)) (i + 2) ≠ 0 then (frF m (vN m (i + 1)) (i + 2), i + 2) else if numF (m 4) (vN m) (i + 3) 0 3 ≠ 0 then (numF (m 4) (vN m) (i + 3) 0 3, i + 3) else if numF (m 4) (vN m) (i + 4) 1 60 ≠ 0 then (numF (m 4) (vN m) (i + 4) 1 60, i + 4) else (0, i + 5)
def ptF (m : Mem) (i : Int) : Int × Int := if 5 ≤ m 47 4 then (4, i - 1) else if nmF m i ≠ 0 then (nmF m i, i) else if numF (m 4) (vN m) (i + 1) 0 (m 47 0 - 1) ≠ 0 then (numF (m 4) (vN m) (i + 1) 0 (m 47 0 - 1), i + 1) else if numF (m 4) (vN m) (i + 2) 0 (m 47 1 - 1) ≠ 0 then (numF (m 4) (vN m) (i + 2) 0 (m 47 1 - 1), i + 2) else if numF (m 4) (vN m) (i + 3) 0 3 ≠ 0 then (numF (m 4) (vN m) (i + 3) 0 3, i + 3) else (0, i + 4)
def szX (m : Mem) (i : Int) : Mem := wr (wr (wr m 45 2 1) 47 0 (vN m i)) 47 1 (vN m (i + 1))
def wlX (m : Mem) (i : Int) : Mem := wr (wr m 45 3 1) 58 (9 * vN m (i + 1) + vN m i) (vN m (i + 2))
def fgX (m : Mem) (i : Int) : Mem := wr (wr (wr (wr m 48 (m 47 2) (m 6 i)) 49 (m 47 2) (vN m (i + 1))) 50 (m 47 2) (vN m (i + 2))) 47 2 (m 47 2 + 1)
def psX (m : Mem) (i : Int) : Mem := wr (wr (wr (wr (wr (wr (wr (wr m 45 3 1) 51 (m 47 3) (m 6 i)) 59 (m 47 3) (vN m (i + 1))) 60 (m 47 3) (vN m (i + 2))) 61 (m 47 3) (vN m (i + 3))) 62 (m 47 3) (vN m (i + 4))) 52 (m 47 3) (vN m (i + 4))) 47 3 (m 47 3 + 1)
def ptX (m : Mem) (i : Int) : Mem := wr (wr (wr (wr (wr (wr m 45 3 1) 53 (m 47 4) (m 6 i)) 54 (m 47 4) (vN m (i + 1))) 55 (m 47 4) (vN m (i + 2))) 56 (m 47 4) (vN m (i + 3))) 47 4 (m 47 4 + 1)
def LnPost (m : Mem) (r : Int) (m' : Mem) (F : Int × Int) (X : Mem) : Prop := (r = 1 ∧ F.1 = 0 ∧ F.2 < m 1 11 ∧ TP m m' F.2 ∧ ∀ b : Nat, b ≠ 1 → m' b = X b) ∨ (r = 0 ∧ F.1 ≠ 0 ∧ PT m m' (F.2 + 1) F.1 ∧ ∀ b : Nat, b ≠ 1 → (b < 45 ∨ 70 ≤ b) → m' b = m b)

theorem dX2_readSize_0 : decode mX2_readSize.2.1 0 = .ok (.aload_n 0, 1) := by decide +kernel
theorem dX2_readSize_1 : decode mX2_readSize.2.1 1 = .ok (.getfield 23, 3) := by decide +kernel
theorem dX2_readSize_4 : decode mX2_readSize.2.1 4 = .ok (.ifCond .ne 10, 3) := by decide +kernel
theorem dX2_readSize_7 : decode mX2_readSize.2.1 7 = .ok (.aload_n 0, 1) := by decide +kernel
theorem dX2_readSize_8 : decode mX2_readSize.2.1 8 = .ok (.getfield 27, 3) := by decide +kernel
theorem dX2_readSize_11 : decode mX2_readSize.2.1 11 = .ok (.ifCond .eq 12, 3) := by decide +kernel
theorem dX2_readSize_14 : decode mX2_readSize.2.1 14 = .ok (.aload_n 0, 1) := by decide +kernel
theorem dX2_readSize_15 : decode mX2_readSize.2.1 15 = .ok (.getfield 30, 3) := by decide +kernel
theorem dX2_readSize_18 : decode mX2_readSize.2.1 18 = .ok (.iconst 3, 1) := by decide +kernel
theorem dX2_readSize_19 : decode mX2_readSize.2.1 19 = .ok (.invokevirtual 83, 3) := by decide +kernel
theorem dX2_readSize_22 : decode mX2_readSize.2.1 22 = .ok (.ireturn, 1) := by decide +kernel
theorem dX2_readSize_23 : decode mX2_readSize.2.1 23 = .ok (.aload_n 0, 1) := by decide +kernel
theorem dX2_readSize_24 : decode mX2_readSize.2.1 24 = .ok (.iconst 1, 1) := by decide +kernel
theorem dX2_readSize_25 : decode mX2_readSize.2.1 25 = .ok (.putfield 23, 3) := by decide +kernel
theorem dX2_readSize_28 : decode mX2_readSize.2.1 28 = .ok (.aload_n 0, 1) := by decide +kernel
theorem dX2_readSize_29 : decode mX2_readSize.2.1 29 = .ok (.getfield 30, 3) := by decide +kernel
theorem dX2_readSize_32 : decode mX2_readSize.2.1 32 = .ok (.iconst 2, 1) := by decide +kernel
theorem dX2_readSize_33 : decode mX2_readSize.2.1 33 = .ok (.bipush 9, 2) := by decide +kernel
theorem dX2_readSize_35 : decode mX2_readSize.2.1 35 = .ok (.invokevirtual 86, 3) := by decide +kernel
theorem dX2_readSize_38 : decode mX2_readSize.2.1 38 = .ok (.ifCond .ne 5, 3) := by decide +kernel
theorem dX2_readSize_41 : decode mX2_readSize.2.1 41 = .ok (.iconst 0, 1) := by decide +kernel
theorem dX2_readSize_42 : decode mX2_readSize.2.1 42 = .ok (.ireturn, 1) := by decide +kernel
theorem dX2_readSize_43 : decode mX2_readSize.2.1 43 = .ok (.aload_n 0, 1) := by decide +kernel
theorem dX2_readSize_44 : decode mX2_readSize.2.1 44 = .ok (.getfield 17, 3) := by decide +kernel
theorem dX2_readSize_47 : decode mX2_readSize.2.1 47 = .ok (.getfield 58, 3) := by decide +kernel
theorem dX2_readSize_50 : decode mX2_readSize.2.1 50 = .ok (.aload_n 0, 1) := by decide +kernel
theorem dX2_readSize_51 : decode mX2_readSize.2.1 51 = .ok (.getfield 30, 3) := by decide +kernel
theorem dX2_readSize_54 : decode mX2_readSize.2.1 54 = .ok (.getfield 90, 3) := by decide +kernel
theorem dX2_readSize_57 : decode mX2_readSize.2.1 57 = .ok (.putfield 93, 3) := by decide +kernel
theorem dX2_readSize_60 : decode mX2_readSize.2.1 60 = .ok (.aload_n 0, 1) := by decide +kernel
theorem dX2_readSize_61 : decode mX2_readSize.2.1 61 = .ok (.getfield 30, 3) := by decide +kernel
theorem dX2_readSize_64 : decode mX2_readSize.2.1 64 = .ok (.iconst 2, 1) := by decide +kernel
theorem dX2_readSize_65 : decode mX2_readSize.2.1 65 = .ok (.bipush 9, 2) := by decide +kernel
theorem dX2_readSize_67 : decode mX2_readSize.2.1 67 = .ok (.invokevirtual 86, 3) := by decide +kernel
theorem dX2_readSize_70 : decode mX2_readSize.2.1 70 = .ok (.ifCond .ne 5, 3) := by decide +kernel
theorem dX2_readSize_73 : decode mX2_readSize.2.1 73 = .ok (.iconst 0, 1) := by decide +kernel
theorem dX2_readSize_74 : decode mX2_readSize.2.1 74 = .ok (.ireturn, 1) := by decide +kernel
theorem dX2_readSize_75 : decode mX2_readSize.2.1 75 = .ok (.aload_n 0, 1) := by decide +kernel
theorem dX2_readSize_76 : decode mX2_readSize.2.1 76 = .ok (.getfield 17, 3) := by decide +kernel
theorem dX2_readSize_79 : decode mX2_readSize.2.1 79 = .ok (.getfield 58, 3) := by decide +kernel
theorem dX2_readSize_82 : decode mX2_readSize.2.1 82 = .ok (.aload_n 0, 1) := by decide +kernel
theorem dX2_readSize_83 : decode mX2_readSize.2.1 83 = .ok (.getfield 30, 3) := by decide +kernel
theorem dX2_readSize_86 : decode mX2_readSize.2.1 86 = .ok (.getfield 90, 3) := by decide +kernel
theorem dX2_readSize_89 : decode mX2_readSize.2.1 89 = .ok (.putfield 96, 3) := by decide +kernel
theorem dX2_readSize_92 : decode mX2_readSize.2.1 92 = .ok (.iconst 1, 1) := by decide +kernel
theorem dX2_readSize_93 : decode mX2_readSize.2.1 93 = .ok (.ireturn, 1) := by decide +kernel
set_option maxRecDepth 4000 in
theorem ev_X2_readSize {m : Mem}  (hcu : PT m m (m 1 12) (m 1 6)) (htk : TkS m) (hi : 1 ≤ m 1 12 ∧ m 1 12 < m 1 11) (hdn : DnOk m 47) (hst : StOk m 47 57 0) : Ev 0 4 mX2_readSize [vr 45] m (fun r m' => LnPost m r m' (szF m (m 1 12)) (szX m (m 1 12))) := by
  refine Ev.of (L := [vr 45]) (by decide +kernel) rfl (Nat.le_of_ble_eq_true rfl) rfl (fun t ht => by cases ht; first | exact Or.inl rfl | exact Or.inr (Or.inl rfl) | exact Or.inr (Or.inr rfl)) (fun hcan => ?_)
  obtain ⟨⟨hd0, hd1⟩, ⟨hd2, hd3⟩, ⟨hd4, hd5⟩, ⟨hd6, hd7⟩, ⟨hd8, hd9⟩, hdf, hdp, hdq⟩ := id hdn
  refine go_aload_n dX2_readSize_0 rfl ?_
  refine go_getf_z (ki := 2) dX2_readSize_1 fl_2_23 ob_45 rfl rfl (fun hf_1 => ?_)
  refine go_if_ne (tgt := 14) dX2_readSize_4 (by decide) ⟨by omega, by omega⟩ (fun h_4 => ?_) (fun h_4 => ?_)
  · refine go_aload_n dX2_readSize_14 rfl ?_
    refine go_getf_p (b := 1) dX2_readSize_15 fl_2_30 ob_45 rfl pt_45_1 ?_
    refine go_iconst dX2_readSize_18 ?_
    refine go_callV_z (as := [vi 3]) (S := []) (b := 1) (ev_X7_refuse (m := m) (k := 3) (by first | assumption | omega | exact ⟨by omega, by omega⟩ | (constructor <;> omega))) rfl dX2_readSize_19 cv_2_83 rfl rfl ob_1 rfl (by decide) (Nat.le_of_ble_eq_true rfl) (fun r_19 m_19 hr_19 ho_19 => ?_)
    refine go_ret (v := r_19) rfl dX2_readSize_22 (okZ (by first | exact Or.inl rfl | exact Or.inr rfl | assumption | omega)) ?_
    rw [hr_19.2]
    refine Or.inr ⟨by omega, ?_⟩
    unfold szF
    rw [if_pos (by omega)]
    exact ⟨show (3 : Int) ≠ 0 by decide, by rw [show m 1 12 - 1 + 1 = m 1 12 by omega]; exact (TP.rf hcu).2.2.2.2.2.flt, fun b hb hb2 => by rw [wr_row hb]⟩
  · refine go_aload_n dX2_readSize_7 rfl ?_
    refine go_getf_z (ki := 3) dX2_readSize_8 fl_2_27 ob_45 rfl rfl (fun hf_8 => ?_)
    refine go_if_eq (tgt := 23) dX2_readSize_11 (by decide) ⟨by omega, by omega⟩ (fun h_11 => ?_) (fun h_11 => ?_)
    · refine go_aload_n dX2_readSize_23 rfl ?_
      refine go_iconst dX2_readSize_24 ?_
      refine go_putf_z (ki := 2) dX2_readSize_25 fw_2_23 ob_45 rfl rfl (by first | exact Or.inl rfl | exact Or.inr rfl | assumption | omega) ?_
      refine go_aload_n dX2_readSize_28 rfl ?_
      refine go_getf_p (b := 1) dX2_readSize_29 fl_2_30 ob_45 rfl pt_45_1 ?_
      refine go_iconst dX2_readSize_32 ?_
      refine go_bipush dX2_readSize_33 (by decide) ?_
      have tpc_35 : TP m (wr m 45 2 1) (m 1 12) := (TP.w (TP.rf hcu) (by decide) (by decide) (by decide) (by decide))
      refine go_callV_z (as := [vi 2, vi 9]) (S := []) (b := 1) (ev_X7_wantNumeral (m := (wr m 45 2 1)) (lo := 2) (hi := 9) (by rw [tpc_35.1, tpc_35.2.1]; have := htk.1; omega) (by first | assumption | omega | exact ⟨by omega, by omega⟩ | (constructor <;> omega)) (by first | assumption | omega | exact ⟨by omega, by omega⟩ | (constructor <;> omega))) rfl dX2_readSize_35 cv_2_86 rfl rfl ob_1 rfl (by decide) (Nat.le_of_ble_eq_true rfl) (fun r_35 m_35 hr_35 ho_35 => ?_)
      have rwf_35 : ∀ b : Nat, b ≠ 1 → m_35 b = (wr m 45 2 1) b := by
        rcases hr_35 with h | h
        · exact h.2.2.2
        · exact h.2.2.2
      have hF_35 : numF ((wr m 45 2 1) 4) (vN (wr m 45 2 1)) ((wr m 45 2 1) 1 12) 2 9 = numF (m 4) (vN m) (m 1 12) 2 9 := by rw [tpc_35.1, tpc_35.2.2.1, vN_congr tpc_35.2.2.2.2.1]
      rw [hF_35] at hr_35
      refine go_if_ne (tgt := 43) dX2_readSize_38 (by decide) ⟨by omega, by omega⟩ (fun h_38 => ?_) (fun h_38 => ?_)
      · obtain ⟨z_35, -, a_35⟩ := hr_35.resolve_right (fun h => h_38 h.2.1)
        have hz_35 := numF_0 z_35
        have tp_35 : TP m m_35 (m 1 12 + 1) := by have h := adv_ok tpc_35 a_35; rw [show (m 1 12) + 1 = (m 1 12 + 1) by omega] at h; exact h
        have v4_35 : m_35 1 4 = vN m (m 1 12) := by have h := tp_35.2.2.2.2.2.2.2.2.2.1; rw [show (m 1 12 + 1) - 1 = (m 1 12) by omega] at h; exact h
        have v5_35 : m_35 1 5 = m 6 (m 1 12) := by have h := tp_35.2.2.2.2.2.2.2.2.1; rw [show (m 1 12 + 1) - 1 = (m 1 12) by omega] at h; exact h
        have hlt_35 : (m 1 12 + 1) < m 1 11 := by have h := htk.lt (k := (m 1 12)) (by omega) (by omega); omega
        refine go_aload_n dX2_readSize_43 rfl ?_
        refine go_getf_p (b := 46) dX2_readSize_44 fl_2_17 ob_45 rfl pt_45_0 ?_
        refine go_getf_p (b := 47) dX2_readSize_47 fl_2_58 ob_46 rfl pt_46_0 ?_
        refine go_aload_n dX2_readSize_50 rfl ?_
        refine go_getf_p (b := 1) dX2_readSize_51 fl_2_30 ob_45 rfl pt_45_1 ?_
        refine go_getf_i (ki := 4) dX2_readSize_54 fl_2_90 ob_1 rfl rfl (fun hf_54 => ?_)
        rw [show (m_35 1 4 : Int) = (vN m (m 1 12)) from by rw [v4_35]] at hf_54 ⊢
        refine go_putf_i (ki := 0) dX2_readSize_57 fw_2_93 ob_47 rfl rfl ⟨by omega, by omega⟩ ?_
        refine go_aload_n dX2_readSize_60 rfl ?_
        refine go_getf_p (b := 1) dX2_readSize_61 fl_2_30 ob_45 rfl pt_45_1 ?_
        refine go_iconst dX2_readSize_64 ?_
        refine go_bipush dX2_readSize_65 (by decide) ?_
        have tpc_67 : TP m (wr m_35 47 0 (vN m (m 1 12))) (m 1 12 + 1) := (TP.w tp_35 (by decide) (by decide) (by decide) (by decide))
        refine go_callV_z (as := [vi 2, vi 9]) (S := []) (b := 1) (ev_X7_wantNumeral (m := (wr m_35 47 0 (vN m (m 1 12)))) (lo := 2) (hi := 9) (by rw [tpc_67.1, tpc_67.2.1]; have := htk.1; omega) (by first | assumption | omega | exact ⟨by omega, by omega⟩ | (constructor <;> omega)) (by first | assumption | omega | exact ⟨by omega, by omega⟩ | (constructor <;> omega))) rfl dX2_readSize_67 cv_2_86 rfl rfl ob_1 rfl (by decide) (Nat.le_of_ble_eq_true rfl) (fun r_67 m_67 hr_67 ho_67 => ?_)
        have rwf_67 : ∀ b : Nat, b ≠ 1 → m_67 b = (wr m_35 47 0 (vN m (m 1 12))) b := by
          rcases hr_67 with h | h
          · exact h.2.2.2
          · exact h.2.2.2
        have hF_67 : numF ((wr m_35 47 0 (vN m (m 1 12))) 4) (vN (wr m_35 47 0 (vN m (m 1 12)))) ((wr m_35 47 0 (vN m (m 1 12))) 1 12) 2 9 = numF (m 4) (vN m) (m 1 12 + 1) 2 9 := by rw [tpc_67.1, tpc_67.2.2.1, vN_congr tpc_67.2.2.2.2.1]
        rw [hF_67] at hr_67
        refine go_if_ne (tgt := 75) dX2_readSize_70 (by decide) ⟨by omega, by omega⟩ (fun h_70 => ?_) (fun h_70 => ?_)
        · obtain ⟨z_67, -, a_67⟩ := hr_67.resolve_right (fun h => h_70 h.2.1)
          have hz_67 := numF_0 z_67
          have tp_67 : TP m m_67 (m 1 12 + 2) := by have h := adv_ok tpc_67 a_67; rw [show (m 1 12 + 1) + 1 = (m 1 12 + 2) by omega] at h; exact h
          have v4_67 : m_67 1 4 = vN m (m 1 12 + 1) := by have h := tp_67.2.2.2.2.2.2.2.2.2.1; rw [show (m 1 12 + 2) - 1 = (m 1 12 + 1) by omega] at h; exact h
          have v5_67 : m_67 1 5 = m 6 (m 1 12 + 1) := by have h := tp_67.2.2.2.2.2.2.2.2.1; rw [show (m 1 12 + 2) - 1 = (m 1 12 + 1) by omega] at h; exact h
          have hlt_67 : (m 1 12 + 2) < m 1 11 := by have h := htk.lt (k := (m 1 12 + 1)) (by omega) (by omega); omega
          refine go_aload_n dX2_readSize_75 rfl ?_
          refine go_getf_p (b := 46) dX2_readSize_76 fl_2_17 ob_45 rfl pt_45_0 ?_
          refine go_getf_p (b := 47) dX2_readSize_79 fl_2_58 ob_46 rfl pt_46_0 ?_
          refine go_aload_n dX2_readSize_82 rfl ?_
          refine go_getf_p (b := 1) dX2_readSize_83 fl_2_30 ob_45 rfl pt_45_1 ?_
          refine go_getf_i (ki := 4) dX2_readSize_86 fl_2_90 ob_1 rfl rfl (fun hf_86 => ?_)
          rw [show (m_67 1 4 : Int) = (vN m (m 1 12 + 1)) from by rw [v4_67]] at hf_86 ⊢
          refine go_putf_i (ki := 1) dX2_readSize_89 fw_2_96 ob_47 rfl rfl ⟨by omega, by omega⟩ ?_
          refine go_iconst dX2_readSize_92 ?_
          refine go_ret (v := 1) rfl dX2_readSize_93 (okZ (by first | exact Or.inl rfl | exact Or.inr rfl | assumption | omega)) ?_
          refine Or.inl ⟨rfl, ?_⟩
          unfold szF
          rw [if_neg (by omega), if_neg (fun h => h z_35), if_neg (fun h => h z_67)]
          exact ⟨rfl, hlt_67, (TP.w tp_67 (by decide) (by decide) (by decide) (by decide)), fun b hb => by funext j; simp only [szX, wr, rwf_67 b hb, rwf_35 b hb]⟩
        · refine go_iconst dX2_readSize_73 ?_
          refine go_ret (v := 0) rfl dX2_readSize_74 (okZ (by first | exact Or.inl rfl | exact Or.inr rfl | assumption | omega)) ?_
          obtain ⟨z, -, a⟩ := hr_67.resolve_left (fun h => by omega)
          refine Or.inr ⟨rfl, ?_⟩
          unfold szF
          rw [if_neg (by omega), if_neg (fun h => h z_35), if_pos z]
          exact ⟨z, adv_no tpc_67 a, fun b hb hb2 => by rw [rwf_67 b hb, wr_row (by omega), rwf_35 b hb, wr_row (by omega)]⟩
      · refine go_iconst dX2_readSize_41 ?_
        refine go_ret (v := 0) rfl dX2_readSize_42 (okZ (by first | exact Or.inl rfl | exact Or.inr rfl | assumption | omega)) ?_
        obtain ⟨z, -, a⟩ := hr_35.resolve_left (fun h => by omega)
        refine Or.inr ⟨rfl, ?_⟩
        unfold szF
        rw [if_neg (by omega), if_pos z]
        exact ⟨z, adv_no tpc_35 a, fun b hb hb2 => by rw [rwf_35 b hb, wr_row (by omega)]⟩
    · refine go_aload_n dX2_readSize_14 rfl ?_
      refine go_getf_p (b := 1) dX2_readSize_15 fl_2_30 ob_45 rfl pt_45_1 ?_
      refine go_iconst dX2_readSize_18 ?_
      refine go_callV_z (as := [vi 3]) (S := []) (b := 1) (ev_X7_refuse (m := m) (k := 3) (by first | assumption | omega | exact ⟨by omega, by omega⟩ | (constructor <;> omega))) rfl dX2_readSize_19 cv_2_83 rfl rfl ob_1 rfl (by decide) (Nat.le_of_ble_eq_true rfl) (fun r_19 m_19 hr_19 ho_19 => ?_)
      refine go_ret (v := r_19) rfl dX2_readSize_22 (okZ (by first | exact Or.inl rfl | exact Or.inr rfl | assumption | omega)) ?_
      rw [hr_19.2]
      refine Or.inr ⟨by omega, ?_⟩
      unfold szF
      rw [if_pos (by omega)]
      exact ⟨show (3 : Int) ≠ 0 by decide, by rw [show m 1 12 - 1 + 1 = m 1 12 by omega]; exact (TP.rf hcu).2.2.2.2.2.flt, fun b hb hb2 => by rw [wr_row hb]⟩
theorem dX2_readWall_0 : decode mX2_readWall.2.1 0 = .ok (.aload_n 0, 1) := by decide +kernel
theorem dX2_readWall_1 : decode mX2_readWall.2.1 1 = .ok (.iconst 1, 1) := by decide +kernel
theorem dX2_readWall_2 : decode mX2_readWall.2.1 2 = .ok (.putfield 27, 3) := by decide +kernel
theorem dX2_readWall_5 : decode mX2_readWall.2.1 5 = .ok (.aload_n 0, 1) := by decide +kernel
theorem dX2_readWall_6 : decode mX2_readWall.2.1 6 = .ok (.getfield 30, 3) := by decide +kernel
theorem dX2_readWall_9 : decode mX2_readWall.2.1 9 = .ok (.iconst 0, 1) := by decide +kernel
theorem dX2_readWall_10 : decode mX2_readWall.2.1 10 = .ok (.aload_n 0, 1) := by decide +kernel
theorem dX2_readWall_11 : decode mX2_readWall.2.1 11 = .ok (.getfield 17, 3) := by decide +kernel
theorem dX2_readWall_14 : decode mX2_readWall.2.1 14 = .ok (.getfield 58, 3) := by decide +kernel
theorem dX2_readWall_17 : decode mX2_readWall.2.1 17 = .ok (.getfield 93, 3) := by decide +kernel
theorem dX2_readWall_20 : decode mX2_readWall.2.1 20 = .ok (.iconst 1, 1) := by decide +kernel
theorem dX2_readWall_21 : decode mX2_readWall.2.1 21 = .ok (.isub, 1) := by decide +kernel
theorem dX2_readWall_22 : decode mX2_readWall.2.1 22 = .ok (.invokevirtual 86, 3) := by decide +kernel
theorem dX2_readWall_25 : decode mX2_readWall.2.1 25 = .ok (.ifCond .ne 5, 3) := by decide +kernel
theorem dX2_readWall_28 : decode mX2_readWall.2.1 28 = .ok (.iconst 0, 1) := by decide +kernel
theorem dX2_readWall_29 : decode mX2_readWall.2.1 29 = .ok (.ireturn, 1) := by decide +kernel
theorem dX2_readWall_30 : decode mX2_readWall.2.1 30 = .ok (.aload_n 0, 1) := by decide +kernel
theorem dX2_readWall_31 : decode mX2_readWall.2.1 31 = .ok (.getfield 30, 3) := by decide +kernel
theorem dX2_readWall_34 : decode mX2_readWall.2.1 34 = .ok (.getfield 90, 3) := by decide +kernel
theorem dX2_readWall_37 : decode mX2_readWall.2.1 37 = .ok (.istore_n 1, 1) := by decide +kernel
theorem dX2_readWall_38 : decode mX2_readWall.2.1 38 = .ok (.aload_n 0, 1) := by decide +kernel
theorem dX2_readWall_39 : decode mX2_readWall.2.1 39 = .ok (.iload_n 1, 1) := by decide +kernel
theorem dX2_readWall_40 : decode mX2_readWall.2.1 40 = .ok (.invokevirtual 99, 3) := by decide +kernel
theorem dX2_readWall_43 : decode mX2_readWall.2.1 43 = .ok (.ifCond .ne 5, 3) := by decide +kernel
theorem dX2_readWall_46 : decode mX2_readWall.2.1 46 = .ok (.iconst 0, 1) := by decide +kernel
theorem dX2_readWall_47 : decode mX2_readWall.2.1 47 = .ok (.ireturn, 1) := by decide +kernel
theorem dX2_readWall_48 : decode mX2_readWall.2.1 48 = .ok (.aload_n 0, 1) := by decide +kernel
theorem dX2_readWall_49 : decode mX2_readWall.2.1 49 = .ok (.getfield 30, 3) := by decide +kernel
theorem dX2_readWall_52 : decode mX2_readWall.2.1 52 = .ok (.getfield 90, 3) := by decide +kernel
theorem dX2_readWall_55 : decode mX2_readWall.2.1 55 = .ok (.istore_n 2, 1) := by decide +kernel
theorem dX2_readWall_56 : decode mX2_readWall.2.1 56 = .ok (.aload_n 0, 1) := by decide +kernel
theorem dX2_readWall_57 : decode mX2_readWall.2.1 57 = .ok (.getfield 30, 3) := by decide +kernel
theorem dX2_readWall_60 : decode mX2_readWall.2.1 60 = .ok (.iconst 1, 1) := by decide +kernel
theorem dX2_readWall_61 : decode mX2_readWall.2.1 61 = .ok (.bipush 9, 2) := by decide +kernel
theorem dX2_readWall_63 : decode mX2_readWall.2.1 63 = .ok (.invokevirtual 86, 3) := by decide +kernel
theorem dX2_readWall_66 : decode mX2_readWall.2.1 66 = .ok (.ifCond .ne 5, 3) := by decide +kernel
theorem dX2_readWall_69 : decode mX2_readWall.2.1 69 = .ok (.iconst 0, 1) := by decide +kernel
theorem dX2_readWall_70 : decode mX2_readWall.2.1 70 = .ok (.ireturn, 1) := by decide +kernel
theorem dX2_readWall_71 : decode mX2_readWall.2.1 71 = .ok (.aload_n 0, 1) := by decide +kernel
theorem dX2_readWall_72 : decode mX2_readWall.2.1 72 = .ok (.getfield 17, 3) := by decide +kernel
theorem dX2_readWall_75 : decode mX2_readWall.2.1 75 = .ok (.getfield 102, 3) := by decide +kernel
theorem dX2_readWall_78 : decode mX2_readWall.2.1 78 = .ok (.getfield 106, 3) := by decide +kernel
theorem dX2_readWall_81 : decode mX2_readWall.2.1 81 = .ok (.iload_n 1, 1) := by decide +kernel
theorem dX2_readWall_82 : decode mX2_readWall.2.1 82 = .ok (.iload_n 2, 1) := by decide +kernel
theorem dX2_readWall_83 : decode mX2_readWall.2.1 83 = .ok (.invokestatic 112, 3) := by decide +kernel
theorem dX2_readWall_86 : decode mX2_readWall.2.1 86 = .ok (.aload_n 0, 1) := by decide +kernel
theorem dX2_readWall_87 : decode mX2_readWall.2.1 87 = .ok (.getfield 30, 3) := by decide +kernel
theorem dX2_readWall_90 : decode mX2_readWall.2.1 90 = .ok (.getfield 90, 3) := by decide +kernel
theorem dX2_readWall_93 : decode mX2_readWall.2.1 93 = .ok (.iastore, 1) := by decide +kernel
theorem dX2_readWall_94 : decode mX2_readWall.2.1 94 = .ok (.iconst 1, 1) := by decide +kernel
theorem dX2_readWall_95 : decode mX2_readWall.2.1 95 = .ok (.ireturn, 1) := by decide +kernel
set_option maxRecDepth 4000 in
theorem ev_X2_readWall {m : Mem}  (hcu : PT m m (m 1 12) (m 1 6)) (htk : TkS m) (hi : 1 ≤ m 1 12 ∧ m 1 12 < m 1 11) (hdn : DnOk m 47) (hst : StOk m 47 57 0) : Ev 0 5 mX2_readWall [vr 45] m (fun r m' => LnPost m r m' (wlF m (m 1 12)) (wlX m (m 1 12))) := by
  refine Ev.of (L := [vr 45, un, un]) (by decide +kernel) rfl (Nat.le_of_ble_eq_true rfl) rfl (fun t ht => by cases ht; first | exact Or.inl rfl | exact Or.inr (Or.inl rfl) | exact Or.inr (Or.inr rfl)) (fun hcan => ?_)
  obtain ⟨⟨hd0, hd1⟩, ⟨hd2, hd3⟩, ⟨hd4, hd5⟩, ⟨hd6, hd7⟩, ⟨hd8, hd9⟩, hdf, hdp, hdq⟩ := id hdn
  refine go_aload_n dX2_readWall_0 rfl ?_
  refine go_iconst dX2_readWall_1 ?_
  refine go_putf_z (ki := 3) dX2_readWall_2 fw_2_27 ob_45 rfl rfl (by first | exact Or.inl rfl | exact Or.inr rfl | assumption | omega) ?_
  refine go_aload_n dX2_readWall_5 rfl ?_
  refine go_getf_p (b := 1) dX2_readWall_6 fl_2_30 ob_45 rfl pt_45_1 ?_
  refine go_iconst dX2_readWall_9 ?_
  refine go_aload_n dX2_readWall_10 rfl ?_
  refine go_getf_p (b := 46) dX2_readWall_11 fl_2_17 ob_45 rfl pt_45_0 ?_
  refine go_getf_p (b := 47) dX2_readWall_14 fl_2_58 ob_46 rfl pt_46_0 ?_
  refine go_getf_i (ki := 0) dX2_readWall_17 fl_2_93 ob_47 rfl rfl (fun hf_17 => ?_)
  rw [show ((wr m 45 3 1) 47 0 : Int) = (m 47 0) from by rw [wr_na (by omega)]] at hf_17 ⊢
  refine go_iconst dX2_readWall_20 ?_
  refine go_isub dX2_readWall_21 ?_
  have tpc_22 : TP m (wr m 45 3 1) (m 1 12) := (TP.w (TP.rf hcu) (by decide) (by decide) (by decide) (by decide))
  refine go_callV_z (as := [vi 0, vi ((m 47 0) - 1)]) (S := []) (b := 1) (ev_X7_wantNumeral (m := (wr m 45 3 1)) (lo := 0) (hi := ((m 47 0) - 1)) (by rw [tpc_22.1, tpc_22.2.1]; have := htk.1; omega) (by first | assumption | omega | exact ⟨by omega, by omega⟩ | (constructor <;> omega)) (by first | assumption | omega | exact ⟨by omega, by omega⟩ | (constructor <;> omega))) rfl dX2_readWall_22 cv_2_86 rfl rfl ob_1 rfl (by decide) (Nat.le_of_ble_eq_true rfl) (fun r_22 m_22 hr_22 ho_22 => ?_)
  have rwf_22 : ∀ b : Nat, b ≠ 1 → m_22 b = (wr m 45 3 1) b := by
    rcases hr_22 with h | h
    · exact h.2.2.2
    · exact h.2.2.2
  have hF_22 : numF ((wr m 45 3 1) 4) (vN (wr m 45 3 1)) ((wr m 45 3 1) 1 12) 0 (m 47 0 - 1) = numF (m 4) (vN m) (m 1 12) 0 (m 47 0 - 1) := by rw [tpc_22.1, tpc_22.2.2.1, vN_congr tpc_22.2.2.2.2.1]
  rw [hF_22] at hr_22
  refine go_if_ne (tgt := 30) dX2_readWall_25 (by decide) ⟨by omega, by omega⟩ (fun h_25 => ?_) (fun h_25 => ?_)
  · obtain ⟨z_22, -, a_22⟩ := hr_22.resolve_right (fun h => h_25 h.2.1)
    have hz_22 := numF_0 z_22
    have tp_22 : TP m m_22 (m 1 12 + 1) := by have h := adv_ok tpc_22 a_22; rw [show (m 1 12) + 1 = (m 1 12 + 1) by omega] at h; exact h
    have v4_22 : m_22 1 4 = vN m (m 1 12) := by have h := tp_22.2.2.2.2.2.2.2.2.2.1; rw [show (m 1 12 + 1) - 1 = (m 1 12) by omega] at h; exact h
    have v5_22 : m_22 1 5 = m 6 (m 1 12) := by have h := tp_22.2.2.2.2.2.2.2.2.1; rw [show (m 1 12 + 1) - 1 = (m 1 12) by omega] at h; exact h
    have hlt_22 : (m 1 12 + 1) < m 1 11 := by have h := htk.lt (k := (m 1 12)) (by omega) (by omega); omega
    refine go_aload_n dX2_readWall_30 rfl ?_
    refine go_getf_p (b := 1) dX2_readWall_31 fl_2_30 ob_45 rfl pt_45_1 ?_
    refine go_getf_i (ki := 4) dX2_readWall_34 fl_2_90 ob_1 rfl rfl (fun hf_34 => ?_)
    rw [show (m_22 1 4 : Int) = (vN m (m 1 12)) from by rw [v4_22]] at hf_34 ⊢
    refine go_istore_n (L' := [vr 45, vi (vN m (m 1 12)), un]) dX2_readWall_37 (by decide) rfl rfl ?_
    refine go_aload_n dX2_readWall_38 rfl ?_
    refine go_iload_n dX2_readWall_39 rfl ?_
    have tpc_40 : TP m m_22 (m 1 12 + 1) := tp_22
    refine go_callV_z (as := [vi (vN m (m 1 12))]) (S := []) (b := 45) (ev_X2_wantFreeY (m := m_22) (x := (vN m (m 1 12))) (htk.tp tpc_40) (by rw [tpc_40.1, tpc_40.2.1]; omega) (hdn.c7 (by rw [rwf_22 47 (by decide), wr_row (by decide)]) (by rw [rwf_22 (47 + 2) (by decide), wr_row (by decide)]) (by rw [rwf_22 (47 + 3) (by decide), wr_row (by decide)]) (by rw [rwf_22 (47 + 5) (by decide), wr_row (by decide)]) (by rw [rwf_22 (47 + 7) (by decide), wr_row (by decide)]) (by rw [rwf_22 (47 + 8) (by decide), wr_row (by decide)]) (by rw [rwf_22 (47 + 9) (by decide), wr_row (by decide)])) (by rw [rwf_22 47 (by decide), wr_na (by decide)]; omega)) rfl dX2_readWall_40 cv_2_99 rfl rfl ob_45 rfl (by decide) (Nat.le_of_ble_eq_true rfl) (fun r_40 m_40 hr_40 ho_40 => ?_)
    have rwf_40 : ∀ b : Nat, b ≠ 1 → m_40 b = m_22 b := by
      rcases hr_40 with h | h
      · exact h.2.2.2
      · exact h.2.2.2
    have hF_40 : frF m_22 (vN m (m 1 12)) (m_22 1 12) = frF m (vN m (m 1 12)) (m 1 12 + 1) := by rw [tpc_40.1]; exact frF_congr tpc_40.2.2.1 tpc_40.2.2.2.2.1 (by rw [rwf_22 47 (by decide), wr_row (by decide)]) (by rw [rwf_22 58 (by decide), wr_row (by decide)]) (fun k a b => ⟨(by rw [rwf_22 59 (by decide), wr_na (by decide)]), (by rw [rwf_22 60 (by decide), wr_na (by decide)])⟩)
    rw [hF_40] at hr_40
    refine go_if_ne (tgt := 48) dX2_readWall_43 (by decide) ⟨by omega, by omega⟩ (fun h_43 => ?_) (fun h_43 => ?_)
    · obtain ⟨z_40, -, a_40⟩ := hr_40.resolve_right (fun h => h_43 h.2.1)
      have hz_40 := (frF_0 z_40).1
      have tp_40 : TP m m_40 (m 1 12 + 2) := by have h := adv_ok tpc_40 a_40; rw [show (m 1 12 + 1) + 1 = (m 1 12 + 2) by omega] at h; exact h
      have v4_40 : m_40 1 4 = vN m (m 1 12 + 1) := by have h := tp_40.2.2.2.2.2.2.2.2.2.1; rw [show (m 1 12 + 2) - 1 = (m 1 12 + 1) by omega] at h; exact h
      have v5_40 : m_40 1 5 = m 6 (m 1 12 + 1) := by have h := tp_40.2.2.2.2.2.2.2.2.1; rw [show (m 1 12 + 2) - 1 = (m 1 12 + 1) by omega] at h; exact h
      have hlt_40 : (m 1 12 + 2) < m 1 11 := by have h := htk.lt (k := (m 1 12 + 1)) (by omega) (by omega); omega
      refine go_aload_n dX2_readWall_48 rfl ?_
      refine go_getf_p (b := 1) dX2_readWall_49 fl_2_30 ob_45 rfl pt_45_1 ?_
      refine go_getf_i (ki := 4) dX2_readWall_52 fl_2_90 ob_1 rfl rfl (fun hf_52 => ?_)
      rw [show (m_40 1 4 : Int) = (vN m (m 1 12 + 1)) from by rw [v4_40]] at hf_52 ⊢
      refine go_istore_n (L' := [vr 45, vi (vN m (m 1 12)), vi (vN m (m 1 12 + 1))]) dX2_readWall_55 (by decide) rfl rfl ?_
      refine go_aload_n dX2_readWall_56 rfl ?_
      refine go_getf_p (b := 1) dX2_readWall_57 fl_2_30 ob_45 rfl pt_45_1 ?_
      refine go_iconst dX2_readWall_60 ?_
      refine go_bipush dX2_readWall_61 (by decide) ?_
      have tpc_63 : TP m m_40 (m 1 12 + 2) := tp_40
      refine go_callV_z (as := [vi 1, vi 9]) (S := []) (b := 1) (ev_X7_wantNumeral (m := m_40) (lo := 1) (hi := 9) (by rw [tpc_63.1, tpc_63.2.1]; have := htk.1; omega) (by first | assumption | omega | exact ⟨by omega, by omega⟩ | (constructor <;> omega)) (by first | assumption | omega | exact ⟨by omega, by omega⟩ | (constructor <;> omega))) rfl dX2_readWall_63 cv_2_86 rfl rfl ob_1 rfl (by decide) (Nat.le_of_ble_eq_true rfl) (fun r_63 m_63 hr_63 ho_63 => ?_)
      have rwf_63 : ∀ b : Nat, b ≠ 1 → m_63 b = m_40 b := by
        rcases hr_63 with h | h
        · exact h.2.2.2
        · exact h.2.2.2
      have hF_63 : numF (m_40 4) (vN m_40) (m_40 1 12) 1 9 = numF (m 4) (vN m) (m 1 12 + 2) 1 9 := by rw [tpc_63.1, tpc_63.2.2.1, vN_congr tpc_63.2.2.2.2.1]
      rw [hF_63] at hr_63
      refine go_if_ne (tgt := 71) dX2_readWall_66 (by decide) ⟨by omega, by omega⟩ (fun h_66 => ?_) (fun h_66 => ?_)
      · obtain ⟨z_63, -, a_63⟩ := hr_63.resolve_right (fun h => h_66 h.2.1)
        have hz_63 := numF_0 z_63
        have tp_63 : TP m m_63 (m 1 12 + 3) := by have h := adv_ok tpc_63 a_63; rw [show (m 1 12 + 2) + 1 = (m 1 12 + 3) by omega] at h; exact h
        have v4_63 : m_63 1 4 = vN m (m 1 12 + 2) := by have h := tp_63.2.2.2.2.2.2.2.2.2.1; rw [show (m 1 12 + 3) - 1 = (m 1 12 + 2) by omega] at h; exact h
        have v5_63 : m_63 1 5 = m 6 (m 1 12 + 2) := by have h := tp_63.2.2.2.2.2.2.2.2.1; rw [show (m 1 12 + 3) - 1 = (m 1 12 + 2) by omega] at h; exact h
        have hlt_63 : (m 1 12 + 3) < m 1 11 := by have h := htk.lt (k := (m 1 12 + 2)) (by omega) (by omega); omega
        refine go_aload_n dX2_readWall_71 rfl ?_
        refine go_getf_p (b := 46) dX2_readWall_72 fl_2_17 ob_45 rfl pt_45_0 ?_
        refine go_getf_p (b := 57) dX2_readWall_75 fl_2_102 ob_46 rfl pt_46_1 ?_
        refine go_getf_p (b := 58) dX2_readWall_78 fl_2_106 ob_57 rfl pt_57_2 ?_
        refine go_iload_n dX2_readWall_81 rfl ?_
        refine go_iload_n dX2_readWall_82 rfl ?_
        refine go_callSp_i (as := [vi (vN m (m 1 12)), vi (vN m (m 1 12 + 1))]) (S := [vr 58]) (ev_X11_cellOf (m := m_63) (x := (vN m (m 1 12))) (y := (vN m (m 1 12 + 1))) (by first | assumption | omega | exact ⟨by omega, by omega⟩ | (constructor <;> omega)) (by first | assumption | omega | exact ⟨by omega, by omega⟩ | (constructor <;> omega))) rfl dX2_readWall_83 cs_2_112 rfl rfl (by decide) (Nat.le_of_ble_eq_true rfl) (fun r_83 hr_83 ho_83 => ?_)
        subst hr_83
        refine go_aload_n dX2_readWall_86 rfl ?_
        refine go_getf_p (b := 1) dX2_readWall_87 fl_2_30 ob_45 rfl pt_45_1 ?_
        refine go_getf_i (ki := 4) dX2_readWall_90 fl_2_90 ob_1 rfl rfl (fun hf_90 => ?_)
        rw [show (m_63 1 4 : Int) = (vN m (m 1 12 + 2)) from by rw [v4_63]] at hf_90 ⊢
        refine go_iastore dX2_readWall_93 ar_58 (by omega) (by omega) ⟨by omega, by omega⟩ ?_
        refine go_iconst dX2_readWall_94 ?_
        refine go_ret (v := 1) rfl dX2_readWall_95 (okZ (by first | exact Or.inl rfl | exact Or.inr rfl | assumption | omega)) ?_
        refine Or.inl ⟨rfl, ?_⟩
        unfold wlF
        rw [if_neg (fun h => h z_22), if_neg (fun h => h z_40), if_neg (fun h => h z_63)]
        exact ⟨rfl, hlt_63, (TP.w tp_63 (by decide) (by decide) (by decide) (by decide)), fun b hb => by funext j; simp only [wlX, wr, rwf_63 b hb, rwf_40 b hb, rwf_22 b hb]⟩
      · refine go_iconst dX2_readWall_69 ?_
        refine go_ret (v := 0) rfl dX2_readWall_70 (okZ (by first | exact Or.inl rfl | exact Or.inr rfl | assumption | omega)) ?_
        obtain ⟨z, -, a⟩ := hr_63.resolve_left (fun h => by omega)
        refine Or.inr ⟨rfl, ?_⟩
        unfold wlF
        rw [if_neg (fun h => h z_22), if_neg (fun h => h z_40), if_pos z]
        exact ⟨z, adv_no tpc_63 a, fun b hb hb2 => by rw [rwf_63 b hb, rwf_40 b hb, rwf_22 b hb, wr_row (by omega)]⟩
    · refine go_iconst dX2_readWall_46 ?_
      refine go_ret (v := 0) rfl dX2_readWall_47 (okZ (by first | exact Or.inl rfl | exact Or.inr rfl | assumption | omega)) ?_
      obtain ⟨z, -, a⟩ := hr_40.resolve_left (fun h => by omega)
      refine Or.inr ⟨rfl, ?_⟩
      unfold wlF
      rw [if_neg (fun h => h z_22), if_pos z]
      exact ⟨z, adv_no tpc_40 a, fun b hb hb2 => by rw [rwf_40 b hb, rwf_22 b hb, wr_row (by omega)]⟩
  · refine go_iconst dX2_readWall_28 ?_
    refine go_ret (v := 0) rfl dX2_readWall_29 (okZ (by first | exact Or.inl rfl | exact Or.inr rfl | assumption | omega)) ?_
    obtain ⟨z, -, a⟩ := hr_22.resolve_left (fun h => by omega)
    refine Or.inr ⟨rfl, ?_⟩
    unfold wlF
    rw [if_pos z]
    exact ⟨z, adv_no tpc_22 a, fun b hb hb2 => by rw [rwf_22 b hb, wr_row (by omega)]⟩
theorem dX2_readFigure_0 : decode mX2_readFigure.2.1 0 = .ok (.aload_n 0, 1) := by decide +kernel
theorem dX2_readFigure_1 : decode mX2_readFigure.2.1 1 = .ok (.getfield 17, 3) := by decide +kernel
theorem dX2_readFigure_4 : decode mX2_readFigure.2.1 4 = .ok (.getfield 58, 3) := by decide +kernel
theorem dX2_readFigure_7 : decode mX2_readFigure.2.1 7 = .ok (.astore_n 1, 1) := by decide +kernel
theorem dX2_readFigure_8 : decode mX2_readFigure.2.1 8 = .ok (.aload_n 1, 1) := by decide +kernel
theorem dX2_readFigure_9 : decode mX2_readFigure.2.1 9 = .ok (.getfield 116, 3) := by decide +kernel
theorem dX2_readFigure_12 : decode mX2_readFigure.2.1 12 = .ok (.istore_n 2, 1) := by decide +kernel
theorem dX2_readFigure_13 : decode mX2_readFigure.2.1 13 = .ok (.iload_n 2, 1) := by decide +kernel
theorem dX2_readFigure_14 : decode mX2_readFigure.2.1 14 = .ok (.bipush 6, 2) := by decide +kernel
theorem dX2_readFigure_16 : decode mX2_readFigure.2.1 16 = .ok (.if_icmp .lt 12, 3) := by decide +kernel
theorem dX2_readFigure_19 : decode mX2_readFigure.2.1 19 = .ok (.aload_n 0, 1) := by decide +kernel
theorem dX2_readFigure_20 : decode mX2_readFigure.2.1 20 = .ok (.getfield 30, 3) := by decide +kernel
theorem dX2_readFigure_23 : decode mX2_readFigure.2.1 23 = .ok (.iconst 4, 1) := by decide +kernel
theorem dX2_readFigure_24 : decode mX2_readFigure.2.1 24 = .ok (.invokevirtual 83, 3) := by decide +kernel
theorem dX2_readFigure_27 : decode mX2_readFigure.2.1 27 = .ok (.ireturn, 1) := by decide +kernel
theorem dX2_readFigure_28 : decode mX2_readFigure.2.1 28 = .ok (.aload_n 0, 1) := by decide +kernel
theorem dX2_readFigure_29 : decode mX2_readFigure.2.1 29 = .ok (.invokevirtual 119, 3) := by decide +kernel
theorem dX2_readFigure_32 : decode mX2_readFigure.2.1 32 = .ok (.ifCond .ne 5, 3) := by decide +kernel
theorem dX2_readFigure_35 : decode mX2_readFigure.2.1 35 = .ok (.iconst 0, 1) := by decide +kernel
theorem dX2_readFigure_36 : decode mX2_readFigure.2.1 36 = .ok (.ireturn, 1) := by decide +kernel
theorem dX2_readFigure_37 : decode mX2_readFigure.2.1 37 = .ok (.aload_n 1, 1) := by decide +kernel
theorem dX2_readFigure_38 : decode mX2_readFigure.2.1 38 = .ok (.getfield 122, 3) := by decide +kernel
theorem dX2_readFigure_41 : decode mX2_readFigure.2.1 41 = .ok (.iload_n 2, 1) := by decide +kernel
theorem dX2_readFigure_42 : decode mX2_readFigure.2.1 42 = .ok (.aload_n 0, 1) := by decide +kernel
theorem dX2_readFigure_43 : decode mX2_readFigure.2.1 43 = .ok (.getfield 30, 3) := by decide +kernel
theorem dX2_readFigure_46 : decode mX2_readFigure.2.1 46 = .ok (.getfield 126, 3) := by decide +kernel
theorem dX2_readFigure_49 : decode mX2_readFigure.2.1 49 = .ok (.lastore, 1) := by decide +kernel
theorem dX2_readFigure_50 : decode mX2_readFigure.2.1 50 = .ok (.aload_n 0, 1) := by decide +kernel
theorem dX2_readFigure_51 : decode mX2_readFigure.2.1 51 = .ok (.getfield 30, 3) := by decide +kernel
theorem dX2_readFigure_54 : decode mX2_readFigure.2.1 54 = .ok (.iconst 0, 1) := by decide +kernel
theorem dX2_readFigure_55 : decode mX2_readFigure.2.1 55 = .ok (.bipush 7, 2) := by decide +kernel
theorem dX2_readFigure_57 : decode mX2_readFigure.2.1 57 = .ok (.invokevirtual 86, 3) := by decide +kernel
theorem dX2_readFigure_60 : decode mX2_readFigure.2.1 60 = .ok (.ifCond .ne 5, 3) := by decide +kernel
theorem dX2_readFigure_63 : decode mX2_readFigure.2.1 63 = .ok (.iconst 0, 1) := by decide +kernel
theorem dX2_readFigure_64 : decode mX2_readFigure.2.1 64 = .ok (.ireturn, 1) := by decide +kernel
theorem dX2_readFigure_65 : decode mX2_readFigure.2.1 65 = .ok (.aload_n 1, 1) := by decide +kernel
theorem dX2_readFigure_66 : decode mX2_readFigure.2.1 66 = .ok (.getfield 130, 3) := by decide +kernel
theorem dX2_readFigure_69 : decode mX2_readFigure.2.1 69 = .ok (.iload_n 2, 1) := by decide +kernel
theorem dX2_readFigure_70 : decode mX2_readFigure.2.1 70 = .ok (.aload_n 0, 1) := by decide +kernel
theorem dX2_readFigure_71 : decode mX2_readFigure.2.1 71 = .ok (.getfield 30, 3) := by decide +kernel
theorem dX2_readFigure_74 : decode mX2_readFigure.2.1 74 = .ok (.getfield 90, 3) := by decide +kernel
theorem dX2_readFigure_77 : decode mX2_readFigure.2.1 77 = .ok (.iastore, 1) := by decide +kernel
theorem dX2_readFigure_78 : decode mX2_readFigure.2.1 78 = .ok (.aload_n 0, 1) := by decide +kernel
theorem dX2_readFigure_79 : decode mX2_readFigure.2.1 79 = .ok (.getfield 30, 3) := by decide +kernel
theorem dX2_readFigure_82 : decode mX2_readFigure.2.1 82 = .ok (.iconst 0, 1) := by decide +kernel
theorem dX2_readFigure_83 : decode mX2_readFigure.2.1 83 = .ok (.iconst 5, 1) := by decide +kernel
theorem dX2_readFigure_84 : decode mX2_readFigure.2.1 84 = .ok (.invokevirtual 86, 3) := by decide +kernel
theorem dX2_readFigure_87 : decode mX2_readFigure.2.1 87 = .ok (.ifCond .ne 5, 3) := by decide +kernel
theorem dX2_readFigure_90 : decode mX2_readFigure.2.1 90 = .ok (.iconst 0, 1) := by decide +kernel
theorem dX2_readFigure_91 : decode mX2_readFigure.2.1 91 = .ok (.ireturn, 1) := by decide +kernel
theorem dX2_readFigure_92 : decode mX2_readFigure.2.1 92 = .ok (.aload_n 1, 1) := by decide +kernel
theorem dX2_readFigure_93 : decode mX2_readFigure.2.1 93 = .ok (.getfield 133, 3) := by decide +kernel
theorem dX2_readFigure_96 : decode mX2_readFigure.2.1 96 = .ok (.iload_n 2, 1) := by decide +kernel
theorem dX2_readFigure_97 : decode mX2_readFigure.2.1 97 = .ok (.aload_n 0, 1) := by decide +kernel
theorem dX2_readFigure_98 : decode mX2_readFigure.2.1 98 = .ok (.getfield 30, 3) := by decide +kernel
theorem dX2_readFigure_101 : decode mX2_readFigure.2.1 101 = .ok (.getfield 90, 3) := by decide +kernel
theorem dX2_readFigure_104 : decode mX2_readFigure.2.1 104 = .ok (.iastore, 1) := by decide +kernel
theorem dX2_readFigure_105 : decode mX2_readFigure.2.1 105 = .ok (.aload_n 1, 1) := by decide +kernel
theorem dX2_readFigure_106 : decode mX2_readFigure.2.1 106 = .ok (.dup, 1) := by decide +kernel
theorem dX2_readFigure_107 : decode mX2_readFigure.2.1 107 = .ok (.getfield 116, 3) := by decide +kernel
theorem dX2_readFigure_110 : decode mX2_readFigure.2.1 110 = .ok (.iconst 1, 1) := by decide +kernel
theorem dX2_readFigure_111 : decode mX2_readFigure.2.1 111 = .ok (.iadd, 1) := by decide +kernel
theorem dX2_readFigure_112 : decode mX2_readFigure.2.1 112 = .ok (.putfield 116, 3) := by decide +kernel
theorem dX2_readFigure_115 : decode mX2_readFigure.2.1 115 = .ok (.iconst 1, 1) := by decide +kernel
theorem dX2_readFigure_116 : decode mX2_readFigure.2.1 116 = .ok (.ireturn, 1) := by decide +kernel
set_option maxRecDepth 4000 in
theorem ev_X2_readFigure {m : Mem}  (hcu : PT m m (m 1 12) (m 1 6)) (htk : TkS m) (hi : 1 ≤ m 1 12 ∧ m 1 12 < m 1 11) (hdn : DnOk m 47) (hst : StOk m 47 57 0) : Ev 0 5 mX2_readFigure [vr 45] m (fun r m' => LnPost m r m' (fgF m (m 1 12)) (fgX m (m 1 12))) := by
  refine Ev.of (L := [vr 45, un, un]) (by decide +kernel) rfl (Nat.le_of_ble_eq_true rfl) rfl (fun t ht => by cases ht; first | exact Or.inl rfl | exact Or.inr (Or.inl rfl) | exact Or.inr (Or.inr rfl)) (fun hcan => ?_)
  obtain ⟨⟨hd0, hd1⟩, ⟨hd2, hd3⟩, ⟨hd4, hd5⟩, ⟨hd6, hd7⟩, ⟨hd8, hd9⟩, hdf, hdp, hdq⟩ := id hdn
  refine go_aload_n dX2_readFigure_0 rfl ?_
  refine go_getf_p (b := 46) dX2_readFigure_1 fl_2_17 ob_45 rfl pt_45_0 ?_
  refine go_getf_p (b := 47) dX2_readFigure_4 fl_2_58 ob_46 rfl pt_46_0 ?_
  refine go_astore_n (L' := [vr 45, vr 47, un]) dX2_readFigure_7 (by decide) rfl rfl ?_
  refine go_aload_n dX2_readFigure_8 rfl ?_
  refine go_getf_i (ki := 2) dX2_readFigure_9 fl_2_116 ob_47 rfl rfl (fun hf_9 => ?_)
  refine go_istore_n (L' := [vr 45, vr 47, vi (m 47 2)]) dX2_readFigure_12 (by decide) rfl rfl ?_
  refine go_iload_n dX2_readFigure_13 rfl ?_
  refine go_bipush dX2_readFigure_14 (by decide) ?_
  refine go_icmp_lt (tgt := 28) dX2_readFigure_16 (by decide) ⟨by omega, by omega⟩ ⟨by omega, by omega⟩ (fun h_16 => ?_) (fun h_16 => ?_)
  · refine go_aload_n dX2_readFigure_28 rfl ?_
    have tpc_29 : TP m m (m 1 12) := (TP.rf hcu)
    refine go_callV_z (as := []) (S := []) (b := 45) (ev_X2_wantNewName (m := m)  (htk.tp tpc_29) (by rw [tpc_29.1, tpc_29.2.1]; omega) (hdn.c7 rfl rfl rfl rfl rfl rfl rfl)) rfl dX2_readFigure_29 cv_2_119 rfl rfl ob_45 rfl (by decide) (Nat.le_of_ble_eq_true rfl) (fun r_29 m_29 hr_29 ho_29 => ?_)
    have rwf_29 : ∀ b : Nat, b ≠ 1 → m_29 b = m b := by
      rcases hr_29 with h | h
      · exact h.2.2.2
      · exact h.2.2.2
    have hF_29 : nmF m (m 1 12) = nmF m (m 1 12) := rfl
    rw [hF_29] at hr_29
    refine go_if_ne (tgt := 37) dX2_readFigure_32 (by decide) ⟨by omega, by omega⟩ (fun h_32 => ?_) (fun h_32 => ?_)
    · obtain ⟨z_29, -, a_29⟩ := hr_29.resolve_right (fun h => h_32 h.2.1)
      have hz_29 := nmF_0 z_29
      have tp_29 : TP m m_29 (m 1 12 + 1) := by have h := adv_ok tpc_29 a_29; rw [show (m 1 12) + 1 = (m 1 12 + 1) by omega] at h; exact h
      have v4_29 : m_29 1 4 = vN m (m 1 12) := by have h := tp_29.2.2.2.2.2.2.2.2.2.1; rw [show (m 1 12 + 1) - 1 = (m 1 12) by omega] at h; exact h
      have v5_29 : m_29 1 5 = m 6 (m 1 12) := by have h := tp_29.2.2.2.2.2.2.2.2.1; rw [show (m 1 12 + 1) - 1 = (m 1 12) by omega] at h; exact h
      have hlt_29 : (m 1 12 + 1) < m 1 11 := by have h := htk.lt (k := (m 1 12)) (by omega) (by omega); omega
      refine go_aload_n dX2_readFigure_37 rfl ?_
      refine go_getf_p (b := 48) dX2_readFigure_38 fl_2_122 ob_47 rfl pt_47_5 ?_
      refine go_iload_n dX2_readFigure_41 rfl ?_
      refine go_aload_n dX2_readFigure_42 rfl ?_
      refine go_getf_p (b := 1) dX2_readFigure_43 fl_2_30 ob_45 rfl pt_45_1 ?_
      refine go_getf_l (ki := 5) dX2_readFigure_46 fl_2_126 ob_1 rfl rfl (fun hf_46 => ?_)
      rw [show (m_29 1 5 : Int) = (m 6 (m 1 12)) from by rw [v5_29]] at hf_46 ⊢
      refine go_lastore dX2_readFigure_49 ar_48 (by omega) (by omega) ⟨by omega, by omega⟩ ?_
      refine go_aload_n dX2_readFigure_50 rfl ?_
      refine go_getf_p (b := 1) dX2_readFigure_51 fl_2_30 ob_45 rfl pt_45_1 ?_
      refine go_iconst dX2_readFigure_54 ?_
      refine go_bipush dX2_readFigure_55 (by decide) ?_
      have tpc_57 : TP m (wr m_29 48 (m 47 2) (m 6 (m 1 12))) (m 1 12 + 1) := (TP.w tp_29 (by decide) (by decide) (by decide) (by decide))
      refine go_callV_z (as := [vi 0, vi 7]) (S := []) (b := 1) (ev_X7_wantNumeral (m := (wr m_29 48 (m 47 2) (m 6 (m 1 12)))) (lo := 0) (hi := 7) (by rw [tpc_57.1, tpc_57.2.1]; have := htk.1; omega) (by first | assumption | omega | exact ⟨by omega, by omega⟩ | (constructor <;> omega)) (by first | assumption | omega | exact ⟨by omega, by omega⟩ | (constructor <;> omega))) rfl dX2_readFigure_57 cv_2_86 rfl rfl ob_1 rfl (by decide) (Nat.le_of_ble_eq_true rfl) (fun r_57 m_57 hr_57 ho_57 => ?_)
      have rwf_57 : ∀ b : Nat, b ≠ 1 → m_57 b = (wr m_29 48 (m 47 2) (m 6 (m 1 12))) b := by
        rcases hr_57 with h | h
        · exact h.2.2.2
        · exact h.2.2.2
      have hF_57 : numF ((wr m_29 48 (m 47 2) (m 6 (m 1 12))) 4) (vN (wr m_29 48 (m 47 2) (m 6 (m 1 12)))) ((wr m_29 48 (m 47 2) (m 6 (m 1 12))) 1 12) 0 7 = numF (m 4) (vN m) (m 1 12 + 1) 0 7 := by rw [tpc_57.1, tpc_57.2.2.1, vN_congr tpc_57.2.2.2.2.1]
      rw [hF_57] at hr_57
      refine go_if_ne (tgt := 65) dX2_readFigure_60 (by decide) ⟨by omega, by omega⟩ (fun h_60 => ?_) (fun h_60 => ?_)
      · obtain ⟨z_57, -, a_57⟩ := hr_57.resolve_right (fun h => h_60 h.2.1)
        have hz_57 := numF_0 z_57
        have tp_57 : TP m m_57 (m 1 12 + 2) := by have h := adv_ok tpc_57 a_57; rw [show (m 1 12 + 1) + 1 = (m 1 12 + 2) by omega] at h; exact h
        have v4_57 : m_57 1 4 = vN m (m 1 12 + 1) := by have h := tp_57.2.2.2.2.2.2.2.2.2.1; rw [show (m 1 12 + 2) - 1 = (m 1 12 + 1) by omega] at h; exact h
        have v5_57 : m_57 1 5 = m 6 (m 1 12 + 1) := by have h := tp_57.2.2.2.2.2.2.2.2.1; rw [show (m 1 12 + 2) - 1 = (m 1 12 + 1) by omega] at h; exact h
        have hlt_57 : (m 1 12 + 2) < m 1 11 := by have h := htk.lt (k := (m 1 12 + 1)) (by omega) (by omega); omega
        refine go_aload_n dX2_readFigure_65 rfl ?_
        refine go_getf_p (b := 49) dX2_readFigure_66 fl_2_130 ob_47 rfl pt_47_6 ?_
        refine go_iload_n dX2_readFigure_69 rfl ?_
        refine go_aload_n dX2_readFigure_70 rfl ?_
        refine go_getf_p (b := 1) dX2_readFigure_71 fl_2_30 ob_45 rfl pt_45_1 ?_
        refine go_getf_i (ki := 4) dX2_readFigure_74 fl_2_90 ob_1 rfl rfl (fun hf_74 => ?_)
        rw [show (m_57 1 4 : Int) = (vN m (m 1 12 + 1)) from by rw [v4_57]] at hf_74 ⊢
        refine go_iastore dX2_readFigure_77 ar_49 (by omega) (by omega) ⟨by omega, by omega⟩ ?_
        refine go_aload_n dX2_readFigure_78 rfl ?_
        refine go_getf_p (b := 1) dX2_readFigure_79 fl_2_30 ob_45 rfl pt_45_1 ?_
        refine go_iconst dX2_readFigure_82 ?_
        refine go_iconst dX2_readFigure_83 ?_
        have tpc_84 : TP m (wr m_57 49 (m 47 2) (vN m (m 1 12 + 1))) (m 1 12 + 2) := (TP.w tp_57 (by decide) (by decide) (by decide) (by decide))
        refine go_callV_z (as := [vi 0, vi 5]) (S := []) (b := 1) (ev_X7_wantNumeral (m := (wr m_57 49 (m 47 2) (vN m (m 1 12 + 1)))) (lo := 0) (hi := 5) (by rw [tpc_84.1, tpc_84.2.1]; have := htk.1; omega) (by first | assumption | omega | exact ⟨by omega, by omega⟩ | (constructor <;> omega)) (by first | assumption | omega | exact ⟨by omega, by omega⟩ | (constructor <;> omega))) rfl dX2_readFigure_84 cv_2_86 rfl rfl ob_1 rfl (by decide) (Nat.le_of_ble_eq_true rfl) (fun r_84 m_84 hr_84 ho_84 => ?_)
        have rwf_84 : ∀ b : Nat, b ≠ 1 → m_84 b = (wr m_57 49 (m 47 2) (vN m (m 1 12 + 1))) b := by
          rcases hr_84 with h | h
          · exact h.2.2.2
          · exact h.2.2.2
        have hF_84 : numF ((wr m_57 49 (m 47 2) (vN m (m 1 12 + 1))) 4) (vN (wr m_57 49 (m 47 2) (vN m (m 1 12 + 1)))) ((wr m_57 49 (m 47 2) (vN m (m 1 12 + 1))) 1 12) 0 5 = numF (m 4) (vN m) (m 1 12 + 2) 0 5 := by rw [tpc_84.1, tpc_84.2.2.1, vN_congr tpc_84.2.2.2.2.1]
        rw [hF_84] at hr_84
        refine go_if_ne (tgt := 92) dX2_readFigure_87 (by decide) ⟨by omega, by omega⟩ (fun h_87 => ?_) (fun h_87 => ?_)
        · obtain ⟨z_84, -, a_84⟩ := hr_84.resolve_right (fun h => h_87 h.2.1)
          have hz_84 := numF_0 z_84
          have tp_84 : TP m m_84 (m 1 12 + 3) := by have h := adv_ok tpc_84 a_84; rw [show (m 1 12 + 2) + 1 = (m 1 12 + 3) by omega] at h; exact h
          have v4_84 : m_84 1 4 = vN m (m 1 12 + 2) := by have h := tp_84.2.2.2.2.2.2.2.2.2.1; rw [show (m 1 12 + 3) - 1 = (m 1 12 + 2) by omega] at h; exact h
          have v5_84 : m_84 1 5 = m 6 (m 1 12 + 2) := by have h := tp_84.2.2.2.2.2.2.2.2.1; rw [show (m 1 12 + 3) - 1 = (m 1 12 + 2) by omega] at h; exact h
          have hlt_84 : (m 1 12 + 3) < m 1 11 := by have h := htk.lt (k := (m 1 12 + 2)) (by omega) (by omega); omega
          refine go_aload_n dX2_readFigure_92 rfl ?_
          refine go_getf_p (b := 50) dX2_readFigure_93 fl_2_133 ob_47 rfl pt_47_7 ?_
          refine go_iload_n dX2_readFigure_96 rfl ?_
          refine go_aload_n dX2_readFigure_97 rfl ?_
          refine go_getf_p (b := 1) dX2_readFigure_98 fl_2_30 ob_45 rfl pt_45_1 ?_
          refine go_getf_i (ki := 4) dX2_readFigure_101 fl_2_90 ob_1 rfl rfl (fun hf_101 => ?_)
          rw [show (m_84 1 4 : Int) = (vN m (m 1 12 + 2)) from by rw [v4_84]] at hf_101 ⊢
          refine go_iastore dX2_readFigure_104 ar_50 (by omega) (by omega) ⟨by omega, by omega⟩ ?_
          refine go_aload_n dX2_readFigure_105 rfl ?_
          refine go_dup_r dX2_readFigure_106 ?_
          refine go_getf_i (ki := 2) dX2_readFigure_107 fl_2_116 ob_47 rfl rfl (fun hf_107 => ?_)
          rw [show ((wr m_84 50 (m 47 2) (vN m (m 1 12 + 2))) 47 2 : Int) = (m 47 2) from by rw [wr_na (by omega), rwf_84 47 (by decide), wr_na (by omega), rwf_57 47 (by decide), wr_na (by omega), rwf_29 47 (by decide)]] at hf_107 ⊢
          refine go_iconst dX2_readFigure_110 ?_
          refine go_iadd dX2_readFigure_111 ?_
          refine go_putf_i (ki := 2) dX2_readFigure_112 fw_2_116 ob_47 rfl rfl ⟨by omega, by omega⟩ ?_
          refine go_iconst dX2_readFigure_115 ?_
          refine go_ret (v := 1) rfl dX2_readFigure_116 (okZ (by first | exact Or.inl rfl | exact Or.inr rfl | assumption | omega)) ?_
          refine Or.inl ⟨rfl, ?_⟩
          unfold fgF
          rw [if_neg (by omega), if_neg (fun h => h z_29), if_neg (fun h => h z_57), if_neg (fun h => h z_84)]
          exact ⟨rfl, hlt_84, (TP.w (TP.w tp_84 (by decide) (by decide) (by decide) (by decide)) (by decide) (by decide) (by decide) (by decide)), fun b hb => by funext j; simp only [fgX, wr, rwf_84 b hb, rwf_57 b hb, rwf_29 b hb]⟩
        · refine go_iconst dX2_readFigure_90 ?_
          refine go_ret (v := 0) rfl dX2_readFigure_91 (okZ (by first | exact Or.inl rfl | exact Or.inr rfl | assumption | omega)) ?_
          obtain ⟨z, -, a⟩ := hr_84.resolve_left (fun h => by omega)
          refine Or.inr ⟨rfl, ?_⟩
          unfold fgF
          rw [if_neg (by omega), if_neg (fun h => h z_29), if_neg (fun h => h z_57), if_pos z]
          exact ⟨z, adv_no tpc_84 a, fun b hb hb2 => by rw [rwf_84 b hb, wr_row (by omega), rwf_57 b hb, wr_row (by omega), rwf_29 b hb]⟩
      · refine go_iconst dX2_readFigure_63 ?_
        refine go_ret (v := 0) rfl dX2_readFigure_64 (okZ (by first | exact Or.inl rfl | exact Or.inr rfl | assumption | omega)) ?_
        obtain ⟨z, -, a⟩ := hr_57.resolve_left (fun h => by omega)
        refine Or.inr ⟨rfl, ?_⟩
        unfold fgF
        rw [if_neg (by omega), if_neg (fun h => h z_29), if_pos z]
        exact ⟨z, adv_no tpc_57 a, fun b hb hb2 => by rw [rwf_57 b hb, wr_row (by omega), rwf_29 b hb]⟩
    · refine go_iconst dX2_readFigure_35 ?_
      refine go_ret (v := 0) rfl dX2_readFigure_36 (okZ (by first | exact Or.inl rfl | exact Or.inr rfl | assumption | omega)) ?_
      obtain ⟨z, -, a⟩ := hr_29.resolve_left (fun h => by omega)
      refine Or.inr ⟨rfl, ?_⟩
      unfold fgF
      rw [if_neg (by omega), if_pos z]
      exact ⟨z, adv_no tpc_29 a, fun b hb hb2 => by rw [rwf_29 b hb]⟩
  · refine go_aload_n dX2_readFigure_19 rfl ?_
    refine go_getf_p (b := 1) dX2_readFigure_20 fl_2_30 ob_45 rfl pt_45_1 ?_
    refine go_iconst dX2_readFigure_23 ?_
    refine go_callV_z (as := [vi 4]) (S := []) (b := 1) (ev_X7_refuse (m := m) (k := 4) (by first | assumption | omega | exact ⟨by omega, by omega⟩ | (constructor <;> omega))) rfl dX2_readFigure_24 cv_2_83 rfl rfl ob_1 rfl (by decide) (Nat.le_of_ble_eq_true rfl) (fun r_24 m_24 hr_24 ho_24 => ?_)
    refine go_ret (v := r_24) rfl dX2_readFigure_27 (okZ (by first | exact Or.inl rfl | exact Or.inr rfl | assumption | omega)) ?_
    rw [hr_24.2]
    refine Or.inr ⟨by omega, ?_⟩
    unfold fgF
    rw [if_pos (by omega)]
    exact ⟨show (4 : Int) ≠ 0 by decide, by rw [show m 1 12 - 1 + 1 = m 1 12 by omega]; exact (TP.rf hcu).2.2.2.2.2.flt, fun b hb hb2 => by rw [wr_row hb]⟩
theorem dX2_readPerson_0 : decode mX2_readPerson.2.1 0 = .ok (.aload_n 0, 1) := by decide +kernel
theorem dX2_readPerson_1 : decode mX2_readPerson.2.1 1 = .ok (.iconst 1, 1) := by decide +kernel
theorem dX2_readPerson_2 : decode mX2_readPerson.2.1 2 = .ok (.putfield 27, 3) := by decide +kernel
theorem dX2_readPerson_5 : decode mX2_readPerson.2.1 5 = .ok (.aload_n 0, 1) := by decide +kernel
theorem dX2_readPerson_6 : decode mX2_readPerson.2.1 6 = .ok (.getfield 17, 3) := by decide +kernel
theorem dX2_readPerson_9 : decode mX2_readPerson.2.1 9 = .ok (.getfield 58, 3) := by decide +kernel
theorem dX2_readPerson_12 : decode mX2_readPerson.2.1 12 = .ok (.getfield 62, 3) := by decide +kernel
theorem dX2_readPerson_15 : decode mX2_readPerson.2.1 15 = .ok (.istore_n 1, 1) := by decide +kernel
theorem dX2_readPerson_16 : decode mX2_readPerson.2.1 16 = .ok (.iload_n 1, 1) := by decide +kernel
theorem dX2_readPerson_17 : decode mX2_readPerson.2.1 17 = .ok (.iconst 5, 1) := by decide +kernel
theorem dX2_readPerson_18 : decode mX2_readPerson.2.1 18 = .ok (.if_icmp .lt 12, 3) := by decide +kernel
theorem dX2_readPerson_21 : decode mX2_readPerson.2.1 21 = .ok (.aload_n 0, 1) := by decide +kernel
theorem dX2_readPerson_22 : decode mX2_readPerson.2.1 22 = .ok (.getfield 30, 3) := by decide +kernel
theorem dX2_readPerson_25 : decode mX2_readPerson.2.1 25 = .ok (.iconst 4, 1) := by decide +kernel
theorem dX2_readPerson_26 : decode mX2_readPerson.2.1 26 = .ok (.invokevirtual 83, 3) := by decide +kernel
theorem dX2_readPerson_29 : decode mX2_readPerson.2.1 29 = .ok (.ireturn, 1) := by decide +kernel
theorem dX2_readPerson_30 : decode mX2_readPerson.2.1 30 = .ok (.aload_n 0, 1) := by decide +kernel
theorem dX2_readPerson_31 : decode mX2_readPerson.2.1 31 = .ok (.invokevirtual 119, 3) := by decide +kernel
theorem dX2_readPerson_34 : decode mX2_readPerson.2.1 34 = .ok (.ifCond .ne 5, 3) := by decide +kernel
theorem dX2_readPerson_37 : decode mX2_readPerson.2.1 37 = .ok (.iconst 0, 1) := by decide +kernel
theorem dX2_readPerson_38 : decode mX2_readPerson.2.1 38 = .ok (.ireturn, 1) := by decide +kernel
theorem dX2_readPerson_39 : decode mX2_readPerson.2.1 39 = .ok (.aload_n 0, 1) := by decide +kernel
theorem dX2_readPerson_40 : decode mX2_readPerson.2.1 40 = .ok (.getfield 17, 3) := by decide +kernel
theorem dX2_readPerson_43 : decode mX2_readPerson.2.1 43 = .ok (.getfield 58, 3) := by decide +kernel
theorem dX2_readPerson_46 : decode mX2_readPerson.2.1 46 = .ok (.getfield 136, 3) := by decide +kernel
theorem dX2_readPerson_49 : decode mX2_readPerson.2.1 49 = .ok (.iload_n 1, 1) := by decide +kernel
theorem dX2_readPerson_50 : decode mX2_readPerson.2.1 50 = .ok (.aload_n 0, 1) := by decide +kernel
theorem dX2_readPerson_51 : decode mX2_readPerson.2.1 51 = .ok (.getfield 30, 3) := by decide +kernel
theorem dX2_readPerson_54 : decode mX2_readPerson.2.1 54 = .ok (.getfield 126, 3) := by decide +kernel
theorem dX2_readPerson_57 : decode mX2_readPerson.2.1 57 = .ok (.lastore, 1) := by decide +kernel
theorem dX2_readPerson_58 : decode mX2_readPerson.2.1 58 = .ok (.aload_n 0, 1) := by decide +kernel
theorem dX2_readPerson_59 : decode mX2_readPerson.2.1 59 = .ok (.getfield 30, 3) := by decide +kernel
theorem dX2_readPerson_62 : decode mX2_readPerson.2.1 62 = .ok (.iconst 0, 1) := by decide +kernel
theorem dX2_readPerson_63 : decode mX2_readPerson.2.1 63 = .ok (.aload_n 0, 1) := by decide +kernel
theorem dX2_readPerson_64 : decode mX2_readPerson.2.1 64 = .ok (.getfield 17, 3) := by decide +kernel
theorem dX2_readPerson_67 : decode mX2_readPerson.2.1 67 = .ok (.getfield 58, 3) := by decide +kernel
theorem dX2_readPerson_70 : decode mX2_readPerson.2.1 70 = .ok (.getfield 93, 3) := by decide +kernel
theorem dX2_readPerson_73 : decode mX2_readPerson.2.1 73 = .ok (.iconst 1, 1) := by decide +kernel
theorem dX2_readPerson_74 : decode mX2_readPerson.2.1 74 = .ok (.isub, 1) := by decide +kernel
theorem dX2_readPerson_75 : decode mX2_readPerson.2.1 75 = .ok (.invokevirtual 86, 3) := by decide +kernel
theorem dX2_readPerson_78 : decode mX2_readPerson.2.1 78 = .ok (.ifCond .ne 5, 3) := by decide +kernel
theorem dX2_readPerson_81 : decode mX2_readPerson.2.1 81 = .ok (.iconst 0, 1) := by decide +kernel
theorem dX2_readPerson_82 : decode mX2_readPerson.2.1 82 = .ok (.ireturn, 1) := by decide +kernel
theorem dX2_readPerson_83 : decode mX2_readPerson.2.1 83 = .ok (.aload_n 0, 1) := by decide +kernel
theorem dX2_readPerson_84 : decode mX2_readPerson.2.1 84 = .ok (.getfield 17, 3) := by decide +kernel
theorem dX2_readPerson_87 : decode mX2_readPerson.2.1 87 = .ok (.getfield 102, 3) := by decide +kernel
theorem dX2_readPerson_90 : decode mX2_readPerson.2.1 90 = .ok (.getfield 139, 3) := by decide +kernel
theorem dX2_readPerson_93 : decode mX2_readPerson.2.1 93 = .ok (.iload_n 1, 1) := by decide +kernel
theorem dX2_readPerson_94 : decode mX2_readPerson.2.1 94 = .ok (.aload_n 0, 1) := by decide +kernel
theorem dX2_readPerson_95 : decode mX2_readPerson.2.1 95 = .ok (.getfield 30, 3) := by decide +kernel
theorem dX2_readPerson_98 : decode mX2_readPerson.2.1 98 = .ok (.getfield 90, 3) := by decide +kernel
theorem dX2_readPerson_101 : decode mX2_readPerson.2.1 101 = .ok (.iastore, 1) := by decide +kernel
theorem dX2_readPerson_102 : decode mX2_readPerson.2.1 102 = .ok (.aload_n 0, 1) := by decide +kernel
theorem dX2_readPerson_103 : decode mX2_readPerson.2.1 103 = .ok (.aload_n 0, 1) := by decide +kernel
theorem dX2_readPerson_104 : decode mX2_readPerson.2.1 104 = .ok (.getfield 30, 3) := by decide +kernel
theorem dX2_readPerson_107 : decode mX2_readPerson.2.1 107 = .ok (.getfield 90, 3) := by decide +kernel
theorem dX2_readPerson_110 : decode mX2_readPerson.2.1 110 = .ok (.invokevirtual 99, 3) := by decide +kernel
theorem dX2_readPerson_113 : decode mX2_readPerson.2.1 113 = .ok (.ifCond .ne 5, 3) := by decide +kernel
theorem dX2_readPerson_116 : decode mX2_readPerson.2.1 116 = .ok (.iconst 0, 1) := by decide +kernel
theorem dX2_readPerson_117 : decode mX2_readPerson.2.1 117 = .ok (.ireturn, 1) := by decide +kernel
theorem dX2_readPerson_118 : decode mX2_readPerson.2.1 118 = .ok (.aload_n 0, 1) := by decide +kernel
theorem dX2_readPerson_119 : decode mX2_readPerson.2.1 119 = .ok (.getfield 17, 3) := by decide +kernel
theorem dX2_readPerson_122 : decode mX2_readPerson.2.1 122 = .ok (.getfield 102, 3) := by decide +kernel
theorem dX2_readPerson_125 : decode mX2_readPerson.2.1 125 = .ok (.getfield 142, 3) := by decide +kernel
theorem dX2_readPerson_128 : decode mX2_readPerson.2.1 128 = .ok (.iload_n 1, 1) := by decide +kernel
theorem dX2_readPerson_129 : decode mX2_readPerson.2.1 129 = .ok (.aload_n 0, 1) := by decide +kernel
theorem dX2_readPerson_130 : decode mX2_readPerson.2.1 130 = .ok (.getfield 30, 3) := by decide +kernel
theorem dX2_readPerson_133 : decode mX2_readPerson.2.1 133 = .ok (.getfield 90, 3) := by decide +kernel
theorem dX2_readPerson_136 : decode mX2_readPerson.2.1 136 = .ok (.iastore, 1) := by decide +kernel
theorem dX2_readPerson_137 : decode mX2_readPerson.2.1 137 = .ok (.aload_n 0, 1) := by decide +kernel
theorem dX2_readPerson_138 : decode mX2_readPerson.2.1 138 = .ok (.getfield 30, 3) := by decide +kernel
theorem dX2_readPerson_141 : decode mX2_readPerson.2.1 141 = .ok (.iconst 0, 1) := by decide +kernel
theorem dX2_readPerson_142 : decode mX2_readPerson.2.1 142 = .ok (.iconst 3, 1) := by decide +kernel
theorem dX2_readPerson_143 : decode mX2_readPerson.2.1 143 = .ok (.invokevirtual 86, 3) := by decide +kernel
theorem dX2_readPerson_146 : decode mX2_readPerson.2.1 146 = .ok (.ifCond .ne 5, 3) := by decide +kernel
theorem dX2_readPerson_149 : decode mX2_readPerson.2.1 149 = .ok (.iconst 0, 1) := by decide +kernel
theorem dX2_readPerson_150 : decode mX2_readPerson.2.1 150 = .ok (.ireturn, 1) := by decide +kernel
theorem dX2_readPerson_151 : decode mX2_readPerson.2.1 151 = .ok (.aload_n 0, 1) := by decide +kernel
theorem dX2_readPerson_152 : decode mX2_readPerson.2.1 152 = .ok (.getfield 17, 3) := by decide +kernel
theorem dX2_readPerson_155 : decode mX2_readPerson.2.1 155 = .ok (.getfield 102, 3) := by decide +kernel
theorem dX2_readPerson_158 : decode mX2_readPerson.2.1 158 = .ok (.getfield 145, 3) := by decide +kernel
theorem dX2_readPerson_161 : decode mX2_readPerson.2.1 161 = .ok (.iload_n 1, 1) := by decide +kernel
theorem dX2_readPerson_162 : decode mX2_readPerson.2.1 162 = .ok (.aload_n 0, 1) := by decide +kernel
theorem dX2_readPerson_163 : decode mX2_readPerson.2.1 163 = .ok (.getfield 30, 3) := by decide +kernel
theorem dX2_readPerson_166 : decode mX2_readPerson.2.1 166 = .ok (.getfield 90, 3) := by decide +kernel
theorem dX2_readPerson_169 : decode mX2_readPerson.2.1 169 = .ok (.iastore, 1) := by decide +kernel
theorem dX2_readPerson_170 : decode mX2_readPerson.2.1 170 = .ok (.aload_n 0, 1) := by decide +kernel
theorem dX2_readPerson_171 : decode mX2_readPerson.2.1 171 = .ok (.getfield 30, 3) := by decide +kernel
theorem dX2_readPerson_174 : decode mX2_readPerson.2.1 174 = .ok (.iconst 1, 1) := by decide +kernel
theorem dX2_readPerson_175 : decode mX2_readPerson.2.1 175 = .ok (.bipush 60, 2) := by decide +kernel
theorem dX2_readPerson_177 : decode mX2_readPerson.2.1 177 = .ok (.invokevirtual 86, 3) := by decide +kernel
theorem dX2_readPerson_180 : decode mX2_readPerson.2.1 180 = .ok (.ifCond .ne 5, 3) := by decide +kernel
theorem dX2_readPerson_183 : decode mX2_readPerson.2.1 183 = .ok (.iconst 0, 1) := by decide +kernel
theorem dX2_readPerson_184 : decode mX2_readPerson.2.1 184 = .ok (.ireturn, 1) := by decide +kernel
theorem dX2_readPerson_185 : decode mX2_readPerson.2.1 185 = .ok (.aload_n 0, 1) := by decide +kernel
theorem dX2_readPerson_186 : decode mX2_readPerson.2.1 186 = .ok (.getfield 17, 3) := by decide +kernel
theorem dX2_readPerson_189 : decode mX2_readPerson.2.1 189 = .ok (.getfield 102, 3) := by decide +kernel
theorem dX2_readPerson_192 : decode mX2_readPerson.2.1 192 = .ok (.getfield 148, 3) := by decide +kernel
theorem dX2_readPerson_195 : decode mX2_readPerson.2.1 195 = .ok (.iload_n 1, 1) := by decide +kernel
theorem dX2_readPerson_196 : decode mX2_readPerson.2.1 196 = .ok (.aload_n 0, 1) := by decide +kernel
theorem dX2_readPerson_197 : decode mX2_readPerson.2.1 197 = .ok (.getfield 30, 3) := by decide +kernel
theorem dX2_readPerson_200 : decode mX2_readPerson.2.1 200 = .ok (.getfield 90, 3) := by decide +kernel
theorem dX2_readPerson_203 : decode mX2_readPerson.2.1 203 = .ok (.iastore, 1) := by decide +kernel
theorem dX2_readPerson_204 : decode mX2_readPerson.2.1 204 = .ok (.aload_n 0, 1) := by decide +kernel
theorem dX2_readPerson_205 : decode mX2_readPerson.2.1 205 = .ok (.getfield 17, 3) := by decide +kernel
theorem dX2_readPerson_208 : decode mX2_readPerson.2.1 208 = .ok (.getfield 58, 3) := by decide +kernel
theorem dX2_readPerson_211 : decode mX2_readPerson.2.1 211 = .ok (.getfield 151, 3) := by decide +kernel
theorem dX2_readPerson_214 : decode mX2_readPerson.2.1 214 = .ok (.iload_n 1, 1) := by decide +kernel
theorem dX2_readPerson_215 : decode mX2_readPerson.2.1 215 = .ok (.aload_n 0, 1) := by decide +kernel
theorem dX2_readPerson_216 : decode mX2_readPerson.2.1 216 = .ok (.getfield 30, 3) := by decide +kernel
theorem dX2_readPerson_219 : decode mX2_readPerson.2.1 219 = .ok (.getfield 90, 3) := by decide +kernel
theorem dX2_readPerson_222 : decode mX2_readPerson.2.1 222 = .ok (.iastore, 1) := by decide +kernel
theorem dX2_readPerson_223 : decode mX2_readPerson.2.1 223 = .ok (.aload_n 0, 1) := by decide +kernel
theorem dX2_readPerson_224 : decode mX2_readPerson.2.1 224 = .ok (.getfield 17, 3) := by decide +kernel
theorem dX2_readPerson_227 : decode mX2_readPerson.2.1 227 = .ok (.getfield 58, 3) := by decide +kernel
theorem dX2_readPerson_230 : decode mX2_readPerson.2.1 230 = .ok (.dup, 1) := by decide +kernel
theorem dX2_readPerson_231 : decode mX2_readPerson.2.1 231 = .ok (.getfield 62, 3) := by decide +kernel
theorem dX2_readPerson_234 : decode mX2_readPerson.2.1 234 = .ok (.iconst 1, 1) := by decide +kernel
theorem dX2_readPerson_235 : decode mX2_readPerson.2.1 235 = .ok (.iadd, 1) := by decide +kernel
theorem dX2_readPerson_236 : decode mX2_readPerson.2.1 236 = .ok (.putfield 62, 3) := by decide +kernel
theorem dX2_readPerson_239 : decode mX2_readPerson.2.1 239 = .ok (.iconst 1, 1) := by decide +kernel
theorem dX2_readPerson_240 : decode mX2_readPerson.2.1 240 = .ok (.ireturn, 1) := by decide +kernel
set_option maxRecDepth 4000 in
theorem ev_X2_readPerson {m : Mem}  (hcu : PT m m (m 1 12) (m 1 6)) (htk : TkS m) (hi : 1 ≤ m 1 12 ∧ m 1 12 < m 1 11) (hdn : DnOk m 47) (hst : StOk m 47 57 0) : Ev 0 5 mX2_readPerson [vr 45] m (fun r m' => LnPost m r m' (psF m (m 1 12)) (psX m (m 1 12))) := by
  refine Ev.of (L := [vr 45, un]) (by decide +kernel) rfl (Nat.le_of_ble_eq_true rfl) rfl (fun t ht => by cases ht; first | exact Or.inl rfl | exact Or.inr (Or.inl rfl) | exact Or.inr (Or.inr rfl)) (fun hcan => ?_)
  obtain ⟨⟨hd0, hd1⟩, ⟨hd2, hd3⟩, ⟨hd4, hd5⟩, ⟨hd6, hd7⟩, ⟨hd8, hd9⟩, hdf, hdp, hdq⟩ := id hdn
  refine go_aload_n dX2_readPerson_0 rfl ?_
  refine go_iconst dX2_readPerson_1 ?_
  refine go_putf_z (ki := 3) dX2_readPerson_2 fw_2_27 ob_45 rfl rfl (by first | exact Or.inl rfl | exact Or.inr rfl | assumption | omega) ?_
  refine go_aload_n dX2_readPerson_5 rfl ?_
  refine go_getf_p (b := 46) dX2_readPerson_6 fl_2_17 ob_45 rfl pt_45_0 ?_
  refine go_getf_p (b := 47) dX2_readPerson_9 fl_2_58 ob_46 rfl pt_46_0 ?_
  refine go_getf_i (ki := 3) dX2_readPerson_12 fl_2_62 ob_47 rfl rfl (fun hf_12 => ?_)
  rw [show ((wr m 45 3 1) 47 3 : Int) = (m 47 3) from by rw [wr_na (by omega)]] at hf_12 ⊢
  refine go_istore_n (L' := [vr 45, vi (m 47 3)]) dX2_readPerson_15 (by decide) rfl rfl ?_
  refine go_iload_n dX2_readPerson_16 rfl ?_
  refine go_iconst dX2_readPerson_17 ?_
  refine go_icmp_lt (tgt := 30) dX2_readPerson_18 (by decide) ⟨by omega, by omega⟩ ⟨by omega, by omega⟩ (fun h_18 => ?_) (fun h_18 => ?_)
  · refine go_aload_n dX2_readPerson_30 rfl ?_
    have tpc_31 : TP m (wr m 45 3 1) (m 1 12) := (TP.w (TP.rf hcu) (by decide) (by decide) (by decide) (by decide))
    refine go_callV_z (as := []) (S := []) (b := 45) (ev_X2_wantNewName (m := (wr m 45 3 1))  (htk.tp tpc_31) (by rw [tpc_31.1, tpc_31.2.1]; omega) (hdn.c7 (by rw [wr_row (by decide)]) (by rw [wr_row (by decide)]) (by rw [wr_row (by decide)]) (by rw [wr_row (by decide)]) (by rw [wr_row (by decide)]) (by rw [wr_row (by decide)]) (by rw [wr_row (by decide)]))) rfl dX2_readPerson_31 cv_2_119 rfl rfl ob_45 rfl (by decide) (Nat.le_of_ble_eq_true rfl) (fun r_31 m_31 hr_31 ho_31 => ?_)
    have rwf_31 : ∀ b : Nat, b ≠ 1 → m_31 b = (wr m 45 3 1) b := by
      rcases hr_31 with h | h
      · exact h.2.2.2
      · exact h.2.2.2
    have hF_31 : nmF (wr m 45 3 1) ((wr m 45 3 1) 1 12) = nmF m (m 1 12) := by rw [tpc_31.1]; exact nmF_congr tpc_31.2.2.1 tpc_31.2.2.2.2.1 (by rw [wr_row (by decide)]) (by rw [wr_row (by decide)]) (by rw [wr_row (by decide)]) (by rw [wr_row (by decide)])
    rw [hF_31] at hr_31
    refine go_if_ne (tgt := 39) dX2_readPerson_34 (by decide) ⟨by omega, by omega⟩ (fun h_34 => ?_) (fun h_34 => ?_)
    · obtain ⟨z_31, -, a_31⟩ := hr_31.resolve_right (fun h => h_34 h.2.1)
      have hz_31 := nmF_0 z_31
      have tp_31 : TP m m_31 (m 1 12 + 1) := by have h := adv_ok tpc_31 a_31; rw [show (m 1 12) + 1 = (m 1 12 + 1) by omega] at h; exact h
      have v4_31 : m_31 1 4 = vN m (m 1 12) := by have h := tp_31.2.2.2.2.2.2.2.2.2.1; rw [show (m 1 12 + 1) - 1 = (m 1 12) by omega] at h; exact h
      have v5_31 : m_31 1 5 = m 6 (m 1 12) := by have h := tp_31.2.2.2.2.2.2.2.2.1; rw [show (m 1 12 + 1) - 1 = (m 1 12) by omega] at h; exact h
      have hlt_31 : (m 1 12 + 1) < m 1 11 := by have h := htk.lt (k := (m 1 12)) (by omega) (by omega); omega
      refine go_aload_n dX2_readPerson_39 rfl ?_
      refine go_getf_p (b := 46) dX2_readPerson_40 fl_2_17 ob_45 rfl pt_45_0 ?_
      refine go_getf_p (b := 47) dX2_readPerson_43 fl_2_58 ob_46 rfl pt_46_0 ?_
      refine go_getf_p (b := 51) dX2_readPerson_46 fl_2_136 ob_47 rfl pt_47_8 ?_
      refine go_iload_n dX2_readPerson_49 rfl ?_
      refine go_aload_n dX2_readPerson_50 rfl ?_
      refine go_getf_p (b := 1) dX2_readPerson_51 fl_2_30 ob_45 rfl pt_45_1 ?_
      refine go_getf_l (ki := 5) dX2_readPerson_54 fl_2_126 ob_1 rfl rfl (fun hf_54 => ?_)
      rw [show (m_31 1 5 : Int) = (m 6 (m 1 12)) from by rw [v5_31]] at hf_54 ⊢
      refine go_lastore dX2_readPerson_57 ar_51 (by omega) (by omega) ⟨by omega, by omega⟩ ?_
      refine go_aload_n dX2_readPerson_58 rfl ?_
      refine go_getf_p (b := 1) dX2_readPerson_59 fl_2_30 ob_45 rfl pt_45_1 ?_
      refine go_iconst dX2_readPerson_62 ?_
      refine go_aload_n dX2_readPerson_63 rfl ?_
      refine go_getf_p (b := 46) dX2_readPerson_64 fl_2_17 ob_45 rfl pt_45_0 ?_
      refine go_getf_p (b := 47) dX2_readPerson_67 fl_2_58 ob_46 rfl pt_46_0 ?_
      refine go_getf_i (ki := 0) dX2_readPerson_70 fl_2_93 ob_47 rfl rfl (fun hf_70 => ?_)
      rw [show ((wr m_31 51 (m 47 3) (m 6 (m 1 12))) 47 0 : Int) = (m 47 0) from by rw [wr_na (by omega), rwf_31 47 (by decide), wr_na (by omega)]] at hf_70 ⊢
      refine go_iconst dX2_readPerson_73 ?_
      refine go_isub dX2_readPerson_74 ?_
      have tpc_75 : TP m (wr m_31 51 (m 47 3) (m 6 (m 1 12))) (m 1 12 + 1) := (TP.w tp_31 (by decide) (by decide) (by decide) (by decide))
      refine go_callV_z (as := [vi 0, vi ((m 47 0) - 1)]) (S := []) (b := 1) (ev_X7_wantNumeral (m := (wr m_31 51 (m 47 3) (m 6 (m 1 12)))) (lo := 0) (hi := ((m 47 0) - 1)) (by rw [tpc_75.1, tpc_75.2.1]; have := htk.1; omega) (by first | assumption | omega | exact ⟨by omega, by omega⟩ | (constructor <;> omega)) (by first | assumption | omega | exact ⟨by omega, by omega⟩ | (constructor <;> omega))) rfl dX2_readPerson_75 cv_2_86 rfl rfl ob_1 rfl (by decide) (Nat.le_of_ble_eq_true rfl) (fun r_75 m_75 hr_75 ho_75 => ?_)
      have rwf_75 : ∀ b : Nat, b ≠ 1 → m_75 b = (wr m_31 51 (m 47 3) (m 6 (m 1 12))) b := by
        rcases hr_75 with h | h
        · exact h.2.2.2
        · exact h.2.2.2
      have hF_75 : numF ((wr m_31 51 (m 47 3) (m 6 (m 1 12))) 4) (vN (wr m_31 51 (m 47 3) (m 6 (m 1 12)))) ((wr m_31 51 (m 47 3) (m 6 (m 1 12))) 1 12) 0 (m 47 0 - 1) = numF (m 4) (vN m) (m 1 12 + 1) 0 (m 47 0 - 1) := by rw [tpc_75.1, tpc_75.2.2.1, vN_congr tpc_75.2.2.2.2.1]
      rw [hF_75] at hr_75
      refine go_if_ne (tgt := 83) dX2_readPerson_78 (by decide) ⟨by omega, by omega⟩ (fun h_78 => ?_) (fun h_78 => ?_)
      · obtain ⟨z_75, -, a_75⟩ := hr_75.resolve_right (fun h => h_78 h.2.1)
        have hz_75 := numF_0 z_75
        have tp_75 : TP m m_75 (m 1 12 + 2) := by have h := adv_ok tpc_75 a_75; rw [show (m 1 12 + 1) + 1 = (m 1 12 + 2) by omega] at h; exact h
        have v4_75 : m_75 1 4 = vN m (m 1 12 + 1) := by have h := tp_75.2.2.2.2.2.2.2.2.2.1; rw [show (m 1 12 + 2) - 1 = (m 1 12 + 1) by omega] at h; exact h
        have v5_75 : m_75 1 5 = m 6 (m 1 12 + 1) := by have h := tp_75.2.2.2.2.2.2.2.2.1; rw [show (m 1 12 + 2) - 1 = (m 1 12 + 1) by omega] at h; exact h
        have hlt_75 : (m 1 12 + 2) < m 1 11 := by have h := htk.lt (k := (m 1 12 + 1)) (by omega) (by omega); omega
        refine go_aload_n dX2_readPerson_83 rfl ?_
        refine go_getf_p (b := 46) dX2_readPerson_84 fl_2_17 ob_45 rfl pt_45_0 ?_
        refine go_getf_p (b := 57) dX2_readPerson_87 fl_2_102 ob_46 rfl pt_46_1 ?_
        refine go_getf_p (b := 59) dX2_readPerson_90 fl_2_139 ob_57 rfl pt_57_3 ?_
        refine go_iload_n dX2_readPerson_93 rfl ?_
        refine go_aload_n dX2_readPerson_94 rfl ?_
        refine go_getf_p (b := 1) dX2_readPerson_95 fl_2_30 ob_45 rfl pt_45_1 ?_
        refine go_getf_i (ki := 4) dX2_readPerson_98 fl_2_90 ob_1 rfl rfl (fun hf_98 => ?_)
        rw [show (m_75 1 4 : Int) = (vN m (m 1 12 + 1)) from by rw [v4_75]] at hf_98 ⊢
        refine go_iastore dX2_readPerson_101 ar_59 (by omega) (by omega) ⟨by omega, by omega⟩ ?_
        refine go_aload_n dX2_readPerson_102 rfl ?_
        refine go_aload_n dX2_readPerson_103 rfl ?_
        refine go_getf_p (b := 1) dX2_readPerson_104 fl_2_30 ob_45 rfl pt_45_1 ?_
        refine go_getf_i (ki := 4) dX2_readPerson_107 fl_2_90 ob_1 rfl rfl (fun hf_107 => ?_)
        rw [show ((wr m_75 59 (m 47 3) (vN m (m 1 12 + 1))) 1 4 : Int) = (vN m (m 1 12 + 1)) from by rw [wr_na (by decide), v4_75]] at hf_107 ⊢
        have tpc_110 : TP m (wr m_75 59 (m 47 3) (vN m (m 1 12 + 1))) (m 1 12 + 2) := (TP.w tp_75 (by decide) (by decide) (by decide) (by decide))
        refine go_callV_z (as := [vi (vN m (m 1 12 + 1))]) (S := []) (b := 45) (ev_X2_wantFreeY (m := (wr m_75 59 (m 47 3) (vN m (m 1 12 + 1)))) (x := (vN m (m 1 12 + 1))) (htk.tp tpc_110) (by rw [tpc_110.1, tpc_110.2.1]; omega) (hdn.c7 (by rw [wr_row (by decide), rwf_75 47 (by decide), wr_row (by decide), rwf_31 47 (by decide), wr_row (by decide)]) (by rw [wr_row (by decide), rwf_75 (47 + 2) (by decide), wr_row (by decide), rwf_31 (47 + 2) (by decide), wr_row (by decide)]) (by rw [wr_row (by decide), rwf_75 (47 + 3) (by decide), wr_row (by decide), rwf_31 (47 + 3) (by decide), wr_row (by decide)]) (by rw [wr_row (by decide), rwf_75 (47 + 5) (by decide), wr_row (by decide), rwf_31 (47 + 5) (by decide), wr_row (by decide)]) (by rw [wr_row (by decide), rwf_75 (47 + 7) (by decide), wr_row (by decide), rwf_31 (47 + 7) (by decide), wr_row (by decide)]) (by rw [wr_row (by decide), rwf_75 (47 + 8) (by decide), wr_row (by decide), rwf_31 (47 + 8) (by decide), wr_row (by decide)]) (by rw [wr_row (by decide), rwf_75 (47 + 9) (by decide), wr_row (by decide), rwf_31 (47 + 9) (by decide), wr_row (by decide)])) (by rw [wr_na (by decide), rwf_75 47 (by decide), wr_na (by decide), rwf_31 47 (by decide), wr_na (by decide)]; omega)) rfl dX2_readPerson_110 cv_2_99 rfl rfl ob_45 rfl (by decide) (Nat.le_of_ble_eq_true rfl) (fun r_110 m_110 hr_110 ho_110 => ?_)
        have rwf_110 : ∀ b : Nat, b ≠ 1 → m_110 b = (wr m_75 59 (m 47 3) (vN m (m 1 12 + 1))) b := by
          rcases hr_110 with h | h
          · exact h.2.2.2
          · exact h.2.2.2
        have hF_110 : frF (wr m_75 59 (m 47 3) (vN m (m 1 12 + 1))) (vN m (m 1 12 + 1)) ((wr m_75 59 (m 47 3) (vN m (m 1 12 + 1))) 1 12) = frF m (vN m (m 1 12 + 1)) (m 1 12 + 2) := by rw [tpc_110.1]; exact frF_congr tpc_110.2.2.1 tpc_110.2.2.2.2.1 (by rw [wr_row (by decide), rwf_75 47 (by decide), wr_row (by decide), rwf_31 47 (by decide), wr_row (by decide)]) (by rw [wr_row (by decide), rwf_75 58 (by decide), wr_row (by decide), rwf_31 58 (by decide), wr_row (by decide)]) (fun k a b => ⟨(by rw [wr_ni (by omega), rwf_75 59 (by decide), wr_na (by decide), rwf_31 59 (by decide), wr_na (by decide)]), (by rw [wr_na (by decide), rwf_75 60 (by decide), wr_na (by decide), rwf_31 60 (by decide), wr_na (by decide)])⟩)
        rw [hF_110] at hr_110
        refine go_if_ne (tgt := 118) dX2_readPerson_113 (by decide) ⟨by omega, by omega⟩ (fun h_113 => ?_) (fun h_113 => ?_)
        · obtain ⟨z_110, -, a_110⟩ := hr_110.resolve_right (fun h => h_113 h.2.1)
          have hz_110 := (frF_0 z_110).1
          have tp_110 : TP m m_110 (m 1 12 + 3) := by have h := adv_ok tpc_110 a_110; rw [show (m 1 12 + 2) + 1 = (m 1 12 + 3) by omega] at h; exact h
          have v4_110 : m_110 1 4 = vN m (m 1 12 + 2) := by have h := tp_110.2.2.2.2.2.2.2.2.2.1; rw [show (m 1 12 + 3) - 1 = (m 1 12 + 2) by omega] at h; exact h
          have v5_110 : m_110 1 5 = m 6 (m 1 12 + 2) := by have h := tp_110.2.2.2.2.2.2.2.2.1; rw [show (m 1 12 + 3) - 1 = (m 1 12 + 2) by omega] at h; exact h
          have hlt_110 : (m 1 12 + 3) < m 1 11 := by have h := htk.lt (k := (m 1 12 + 2)) (by omega) (by omega); omega
          refine go_aload_n dX2_readPerson_118 rfl ?_
          refine go_getf_p (b := 46) dX2_readPerson_119 fl_2_17 ob_45 rfl pt_45_0 ?_
          refine go_getf_p (b := 57) dX2_readPerson_122 fl_2_102 ob_46 rfl pt_46_1 ?_
          refine go_getf_p (b := 60) dX2_readPerson_125 fl_2_142 ob_57 rfl pt_57_4 ?_
          refine go_iload_n dX2_readPerson_128 rfl ?_
          refine go_aload_n dX2_readPerson_129 rfl ?_
          refine go_getf_p (b := 1) dX2_readPerson_130 fl_2_30 ob_45 rfl pt_45_1 ?_
          refine go_getf_i (ki := 4) dX2_readPerson_133 fl_2_90 ob_1 rfl rfl (fun hf_133 => ?_)
          rw [show (m_110 1 4 : Int) = (vN m (m 1 12 + 2)) from by rw [v4_110]] at hf_133 ⊢
          refine go_iastore dX2_readPerson_136 ar_60 (by omega) (by omega) ⟨by omega, by omega⟩ ?_
          refine go_aload_n dX2_readPerson_137 rfl ?_
          refine go_getf_p (b := 1) dX2_readPerson_138 fl_2_30 ob_45 rfl pt_45_1 ?_
          refine go_iconst dX2_readPerson_141 ?_
          refine go_iconst dX2_readPerson_142 ?_
          have tpc_143 : TP m (wr m_110 60 (m 47 3) (vN m (m 1 12 + 2))) (m 1 12 + 3) := (TP.w tp_110 (by decide) (by decide) (by decide) (by decide))
          refine go_callV_z (as := [vi 0, vi 3]) (S := []) (b := 1) (ev_X7_wantNumeral (m := (wr m_110 60 (m 47 3) (vN m (m 1 12 + 2)))) (lo := 0) (hi := 3) (by rw [tpc_143.1, tpc_143.2.1]; have := htk.1; omega) (by first | assumption | omega | exact ⟨by omega, by omega⟩ | (constructor <;> omega)) (by first | assumption | omega | exact ⟨by omega, by omega⟩ | (constructor <;> omega))) rfl dX2_readPerson_143 cv_2_86 rfl rfl ob_1 rfl (by decide) (Nat.le_of_ble_eq_true rfl) (fun r_143 m_143 hr_143 ho_143 => ?_)
          have rwf_143 : ∀ b : Nat, b ≠ 1 → m_143 b = (wr m_110 60 (m 47 3) (vN m (m 1 12 + 2))) b := by
            rcases hr_143 with h | h
            · exact h.2.2.2
            · exact h.2.2.2
          have hF_143 : numF ((wr m_110 60 (m 47 3) (vN m (m 1 12 + 2))) 4) (vN (wr m_110 60 (m 47 3) (vN m (m 1 12 + 2)))) ((wr m_110 60 (m 47 3) (vN m (m 1 12 + 2))) 1 12) 0 3 = numF (m 4) (vN m) (m 1 12 + 3) 0 3 := by rw [tpc_143.1, tpc_143.2.2.1, vN_congr tpc_143.2.2.2.2.1]
          rw [hF_143] at hr_143
          refine go_if_ne (tgt := 151) dX2_readPerson_146 (by decide) ⟨by omega, by omega⟩ (fun h_146 => ?_) (fun h_146 => ?_)
          · obtain ⟨z_143, -, a_143⟩ := hr_143.resolve_right (fun h => h_146 h.2.1)
            have hz_143 := numF_0 z_143
            have tp_143 : TP m m_143 (m 1 12 + 4) := by have h := adv_ok tpc_143 a_143; rw [show (m 1 12 + 3) + 1 = (m 1 12 + 4) by omega] at h; exact h
            have v4_143 : m_143 1 4 = vN m (m 1 12 + 3) := by have h := tp_143.2.2.2.2.2.2.2.2.2.1; rw [show (m 1 12 + 4) - 1 = (m 1 12 + 3) by omega] at h; exact h
            have v5_143 : m_143 1 5 = m 6 (m 1 12 + 3) := by have h := tp_143.2.2.2.2.2.2.2.2.1; rw [show (m 1 12 + 4) - 1 = (m 1 12 + 3) by omega] at h; exact h
            have hlt_143 : (m 1 12 + 4) < m 1 11 := by have h := htk.lt (k := (m 1 12 + 3)) (by omega) (by omega); omega
            refine go_aload_n dX2_readPerson_151 rfl ?_
            refine go_getf_p (b := 46) dX2_readPerson_152 fl_2_17 ob_45 rfl pt_45_0 ?_
            refine go_getf_p (b := 57) dX2_readPerson_155 fl_2_102 ob_46 rfl pt_46_1 ?_
            refine go_getf_p (b := 61) dX2_readPerson_158 fl_2_145 ob_57 rfl pt_57_5 ?_
            refine go_iload_n dX2_readPerson_161 rfl ?_
            refine go_aload_n dX2_readPerson_162 rfl ?_
            refine go_getf_p (b := 1) dX2_readPerson_163 fl_2_30 ob_45 rfl pt_45_1 ?_
            refine go_getf_i (ki := 4) dX2_readPerson_166 fl_2_90 ob_1 rfl rfl (fun hf_166 => ?_)
            rw [show (m_143 1 4 : Int) = (vN m (m 1 12 + 3)) from by rw [v4_143]] at hf_166 ⊢
            refine go_iastore dX2_readPerson_169 ar_61 (by omega) (by omega) ⟨by omega, by omega⟩ ?_
            refine go_aload_n dX2_readPerson_170 rfl ?_
            refine go_getf_p (b := 1) dX2_readPerson_171 fl_2_30 ob_45 rfl pt_45_1 ?_
            refine go_iconst dX2_readPerson_174 ?_
            refine go_bipush dX2_readPerson_175 (by decide) ?_
            have tpc_177 : TP m (wr m_143 61 (m 47 3) (vN m (m 1 12 + 3))) (m 1 12 + 4) := (TP.w tp_143 (by decide) (by decide) (by decide) (by decide))
            refine go_callV_z (as := [vi 1, vi 60]) (S := []) (b := 1) (ev_X7_wantNumeral (m := (wr m_143 61 (m 47 3) (vN m (m 1 12 + 3)))) (lo := 1) (hi := 60) (by rw [tpc_177.1, tpc_177.2.1]; have := htk.1; omega) (by first | assumption | omega | exact ⟨by omega, by omega⟩ | (constructor <;> omega)) (by first | assumption | omega | exact ⟨by omega, by omega⟩ | (constructor <;> omega))) rfl dX2_readPerson_177 cv_2_86 rfl rfl ob_1 rfl (by decide) (Nat.le_of_ble_eq_true rfl) (fun r_177 m_177 hr_177 ho_177 => ?_)
            have rwf_177 : ∀ b : Nat, b ≠ 1 → m_177 b = (wr m_143 61 (m 47 3) (vN m (m 1 12 + 3))) b := by
              rcases hr_177 with h | h
              · exact h.2.2.2
              · exact h.2.2.2
            have hF_177 : numF ((wr m_143 61 (m 47 3) (vN m (m 1 12 + 3))) 4) (vN (wr m_143 61 (m 47 3) (vN m (m 1 12 + 3)))) ((wr m_143 61 (m 47 3) (vN m (m 1 12 + 3))) 1 12) 1 60 = numF (m 4) (vN m) (m 1 12 + 4) 1 60 := by rw [tpc_177.1, tpc_177.2.2.1, vN_congr tpc_177.2.2.2.2.1]
            rw [hF_177] at hr_177
            refine go_if_ne (tgt := 185) dX2_readPerson_180 (by decide) ⟨by omega, by omega⟩ (fun h_180 => ?_) (fun h_180 => ?_)
            · obtain ⟨z_177, -, a_177⟩ := hr_177.resolve_right (fun h => h_180 h.2.1)
              have hz_177 := numF_0 z_177
              have tp_177 : TP m m_177 (m 1 12 + 5) := by have h := adv_ok tpc_177 a_177; rw [show (m 1 12 + 4) + 1 = (m 1 12 + 5) by omega] at h; exact h
              have v4_177 : m_177 1 4 = vN m (m 1 12 + 4) := by have h := tp_177.2.2.2.2.2.2.2.2.2.1; rw [show (m 1 12 + 5) - 1 = (m 1 12 + 4) by omega] at h; exact h
              have v5_177 : m_177 1 5 = m 6 (m 1 12 + 4) := by have h := tp_177.2.2.2.2.2.2.2.2.1; rw [show (m 1 12 + 5) - 1 = (m 1 12 + 4) by omega] at h; exact h
              have hlt_177 : (m 1 12 + 5) < m 1 11 := by have h := htk.lt (k := (m 1 12 + 4)) (by omega) (by omega); omega
              refine go_aload_n dX2_readPerson_185 rfl ?_
              refine go_getf_p (b := 46) dX2_readPerson_186 fl_2_17 ob_45 rfl pt_45_0 ?_
              refine go_getf_p (b := 57) dX2_readPerson_189 fl_2_102 ob_46 rfl pt_46_1 ?_
              refine go_getf_p (b := 62) dX2_readPerson_192 fl_2_148 ob_57 rfl pt_57_6 ?_
              refine go_iload_n dX2_readPerson_195 rfl ?_
              refine go_aload_n dX2_readPerson_196 rfl ?_
              refine go_getf_p (b := 1) dX2_readPerson_197 fl_2_30 ob_45 rfl pt_45_1 ?_
              refine go_getf_i (ki := 4) dX2_readPerson_200 fl_2_90 ob_1 rfl rfl (fun hf_200 => ?_)
              rw [show (m_177 1 4 : Int) = (vN m (m 1 12 + 4)) from by rw [v4_177]] at hf_200 ⊢
              refine go_iastore dX2_readPerson_203 ar_62 (by omega) (by omega) ⟨by omega, by omega⟩ ?_
              refine go_aload_n dX2_readPerson_204 rfl ?_
              refine go_getf_p (b := 46) dX2_readPerson_205 fl_2_17 ob_45 rfl pt_45_0 ?_
              refine go_getf_p (b := 47) dX2_readPerson_208 fl_2_58 ob_46 rfl pt_46_0 ?_
              refine go_getf_p (b := 52) dX2_readPerson_211 fl_2_151 ob_47 rfl pt_47_9 ?_
              refine go_iload_n dX2_readPerson_214 rfl ?_
              refine go_aload_n dX2_readPerson_215 rfl ?_
              refine go_getf_p (b := 1) dX2_readPerson_216 fl_2_30 ob_45 rfl pt_45_1 ?_
              refine go_getf_i (ki := 4) dX2_readPerson_219 fl_2_90 ob_1 rfl rfl (fun hf_219 => ?_)
              rw [show ((wr m_177 62 (m 47 3) (vN m (m 1 12 + 4))) 1 4 : Int) = (vN m (m 1 12 + 4)) from by rw [wr_na (by decide), v4_177]] at hf_219 ⊢
              refine go_iastore dX2_readPerson_222 ar_52 (by omega) (by omega) ⟨by omega, by omega⟩ ?_
              refine go_aload_n dX2_readPerson_223 rfl ?_
              refine go_getf_p (b := 46) dX2_readPerson_224 fl_2_17 ob_45 rfl pt_45_0 ?_
              refine go_getf_p (b := 47) dX2_readPerson_227 fl_2_58 ob_46 rfl pt_46_0 ?_
              refine go_dup_r dX2_readPerson_230 ?_
              refine go_getf_i (ki := 3) dX2_readPerson_231 fl_2_62 ob_47 rfl rfl (fun hf_231 => ?_)
              rw [show ((wr (wr m_177 62 (m 47 3) (vN m (m 1 12 + 4))) 52 (m 47 3) (vN m (m 1 12 + 4))) 47 3 : Int) = (m 47 3) from by rw [wr_na (by omega), wr_na (by omega), rwf_177 47 (by decide), wr_na (by omega), rwf_143 47 (by decide), wr_na (by omega), rwf_110 47 (by decide), wr_na (by omega), rwf_75 47 (by decide), wr_na (by omega), rwf_31 47 (by decide), wr_na (by omega)]] at hf_231 ⊢
              refine go_iconst dX2_readPerson_234 ?_
              refine go_iadd dX2_readPerson_235 ?_
              refine go_putf_i (ki := 3) dX2_readPerson_236 fw_2_62 ob_47 rfl rfl ⟨by omega, by omega⟩ ?_
              refine go_iconst dX2_readPerson_239 ?_
              refine go_ret (v := 1) rfl dX2_readPerson_240 (okZ (by first | exact Or.inl rfl | exact Or.inr rfl | assumption | omega)) ?_
              refine Or.inl ⟨rfl, ?_⟩
              unfold psF
              rw [if_neg (by omega), if_neg (fun h => h z_31), if_neg (fun h => h z_75), if_neg (fun h => h z_110), if_neg (fun h => h z_143), if_neg (fun h => h z_177)]
              exact ⟨rfl, hlt_177, (TP.w (TP.w (TP.w tp_177 (by decide) (by decide) (by decide) (by decide)) (by decide) (by decide) (by decide) (by decide)) (by decide) (by decide) (by decide) (by decide)), fun b hb => by funext j; simp only [psX, wr, rwf_177 b hb, rwf_143 b hb, rwf_110 b hb, rwf_75 b hb, rwf_31 b hb]⟩
            · refine go_iconst dX2_readPerson_183 ?_
              refine go_ret (v := 0) rfl dX2_readPerson_184 (okZ (by first | exact Or.inl rfl | exact Or.inr rfl | assumption | omega)) ?_
              obtain ⟨z, -, a⟩ := hr_177.resolve_left (fun h => by omega)
              refine Or.inr ⟨rfl, ?_⟩
              unfold psF
              rw [if_neg (by omega), if_neg (fun h => h z_31), if_neg (fun h => h z_75), if_neg (fun h => h z_110), if_neg (fun h => h z_143), if_pos z]
              exact ⟨z, adv_no tpc_177 a, fun b hb hb2 => by rw [rwf_177 b hb, wr_row (by omega), rwf_143 b hb, wr_row (by omega), rwf_110 b hb, wr_row (by omega), rwf_75 b hb, wr_row (by omega), rwf_31 b hb, wr_row (by omega)]⟩
          · refine go_iconst dX2_readPerson_149 ?_
            refine go_ret (v := 0) rfl dX2_readPerson_150 (okZ (by first | exact Or.inl rfl | exact Or.inr rfl | assumption | omega)) ?_
            obtain ⟨z, -, a⟩ := hr_143.resolve_left (fun h => by omega)
            refine Or.inr ⟨rfl, ?_⟩
            unfold psF
            rw [if_neg (by omega), if_neg (fun h => h z_31), if_neg (fun h => h z_75), if_neg (fun h => h z_110), if_pos z]
            exact ⟨z, adv_no tpc_143 a, fun b hb hb2 => by rw [rwf_143 b hb, wr_row (by omega), rwf_110 b hb, wr_row (by omega), rwf_75 b hb, wr_row (by omega), rwf_31 b hb, wr_row (by omega)]⟩
        · refine go_iconst dX2_readPerson_116 ?_
          refine go_ret (v := 0) rfl dX2_readPerson_117 (okZ (by first | exact Or.inl rfl | exact Or.inr rfl | assumption | omega)) ?_
          obtain ⟨z, -, a⟩ := hr_110.resolve_left (fun h => by omega)
          refine Or.inr ⟨rfl, ?_⟩
          unfold psF
          rw [if_neg (by omega), if_neg (fun h => h z_31), if_neg (fun h => h z_75), if_pos z]
          exact ⟨z, adv_no tpc_110 a, fun b hb hb2 => by rw [rwf_110 b hb, wr_row (by omega), rwf_75 b hb, wr_row (by omega), rwf_31 b hb, wr_row (by omega)]⟩
      · refine go_iconst dX2_readPerson_81 ?_
        refine go_ret (v := 0) rfl dX2_readPerson_82 (okZ (by first | exact Or.inl rfl | exact Or.inr rfl | assumption | omega)) ?_
        obtain ⟨z, -, a⟩ := hr_75.resolve_left (fun h => by omega)
        refine Or.inr ⟨rfl, ?_⟩
        unfold psF
        rw [if_neg (by omega), if_neg (fun h => h z_31), if_pos z]
        exact ⟨z, adv_no tpc_75 a, fun b hb hb2 => by rw [rwf_75 b hb, wr_row (by omega), rwf_31 b hb, wr_row (by omega)]⟩
    · refine go_iconst dX2_readPerson_37 ?_
      refine go_ret (v := 0) rfl dX2_readPerson_38 (okZ (by first | exact Or.inl rfl | exact Or.inr rfl | assumption | omega)) ?_
      obtain ⟨z, -, a⟩ := hr_31.resolve_left (fun h => by omega)
      refine Or.inr ⟨rfl, ?_⟩
      unfold psF
      rw [if_neg (by omega), if_pos z]
      exact ⟨z, adv_no tpc_31 a, fun b hb hb2 => by rw [rwf_31 b hb, wr_row (by omega)]⟩
  · refine go_aload_n dX2_readPerson_21 rfl ?_
    refine go_getf_p (b := 1) dX2_readPerson_22 fl_2_30 ob_45 rfl pt_45_1 ?_
    refine go_iconst dX2_readPerson_25 ?_
    refine go_callV_z (as := [vi 4]) (S := []) (b := 1) (ev_X7_refuse (m := (wr m 45 3 1)) (k := 4) (by first | assumption | omega | exact ⟨by omega, by omega⟩ | (constructor <;> omega))) rfl dX2_readPerson_26 cv_2_83 rfl rfl ob_1 rfl (by decide) (Nat.le_of_ble_eq_true rfl) (fun r_26 m_26 hr_26 ho_26 => ?_)
    refine go_ret (v := r_26) rfl dX2_readPerson_29 (okZ (by first | exact Or.inl rfl | exact Or.inr rfl | assumption | omega)) ?_
    rw [hr_26.2]
    refine Or.inr ⟨by omega, ?_⟩
    unfold psF
    rw [if_pos (by omega)]
    exact ⟨show (4 : Int) ≠ 0 by decide, by rw [show m 1 12 - 1 + 1 = m 1 12 by omega]; exact (TP.w (TP.rf hcu) (by decide) (by decide) (by decide) (by decide)).2.2.2.2.2.flt, fun b hb hb2 => by rw [wr_row hb, wr_row (by omega)]⟩
theorem dX2_readPoint_0 : decode mX2_readPoint.2.1 0 = .ok (.aload_n 0, 1) := by decide +kernel
theorem dX2_readPoint_1 : decode mX2_readPoint.2.1 1 = .ok (.iconst 1, 1) := by decide +kernel
theorem dX2_readPoint_2 : decode mX2_readPoint.2.1 2 = .ok (.putfield 27, 3) := by decide +kernel
theorem dX2_readPoint_5 : decode mX2_readPoint.2.1 5 = .ok (.aload_n 0, 1) := by decide +kernel
theorem dX2_readPoint_6 : decode mX2_readPoint.2.1 6 = .ok (.getfield 17, 3) := by decide +kernel
theorem dX2_readPoint_9 : decode mX2_readPoint.2.1 9 = .ok (.getfield 58, 3) := by decide +kernel
theorem dX2_readPoint_12 : decode mX2_readPoint.2.1 12 = .ok (.astore_n 1, 1) := by decide +kernel
theorem dX2_readPoint_13 : decode mX2_readPoint.2.1 13 = .ok (.aload_n 1, 1) := by decide +kernel
theorem dX2_readPoint_14 : decode mX2_readPoint.2.1 14 = .ok (.getfield 154, 3) := by decide +kernel
theorem dX2_readPoint_17 : decode mX2_readPoint.2.1 17 = .ok (.istore_n 2, 1) := by decide +kernel
theorem dX2_readPoint_18 : decode mX2_readPoint.2.1 18 = .ok (.iload_n 2, 1) := by decide +kernel
theorem dX2_readPoint_19 : decode mX2_readPoint.2.1 19 = .ok (.iconst 5, 1) := by decide +kernel
theorem dX2_readPoint_20 : decode mX2_readPoint.2.1 20 = .ok (.if_icmp .lt 12, 3) := by decide +kernel
theorem dX2_readPoint_23 : decode mX2_readPoint.2.1 23 = .ok (.aload_n 0, 1) := by decide +kernel
theorem dX2_readPoint_24 : decode mX2_readPoint.2.1 24 = .ok (.getfield 30, 3) := by decide +kernel
theorem dX2_readPoint_27 : decode mX2_readPoint.2.1 27 = .ok (.iconst 4, 1) := by decide +kernel
theorem dX2_readPoint_28 : decode mX2_readPoint.2.1 28 = .ok (.invokevirtual 83, 3) := by decide +kernel
theorem dX2_readPoint_31 : decode mX2_readPoint.2.1 31 = .ok (.ireturn, 1) := by decide +kernel
theorem dX2_readPoint_32 : decode mX2_readPoint.2.1 32 = .ok (.aload_n 0, 1) := by decide +kernel
theorem dX2_readPoint_33 : decode mX2_readPoint.2.1 33 = .ok (.invokevirtual 119, 3) := by decide +kernel
theorem dX2_readPoint_36 : decode mX2_readPoint.2.1 36 = .ok (.ifCond .ne 5, 3) := by decide +kernel
theorem dX2_readPoint_39 : decode mX2_readPoint.2.1 39 = .ok (.iconst 0, 1) := by decide +kernel
theorem dX2_readPoint_40 : decode mX2_readPoint.2.1 40 = .ok (.ireturn, 1) := by decide +kernel
theorem dX2_readPoint_41 : decode mX2_readPoint.2.1 41 = .ok (.aload_n 1, 1) := by decide +kernel
theorem dX2_readPoint_42 : decode mX2_readPoint.2.1 42 = .ok (.getfield 157, 3) := by decide +kernel
theorem dX2_readPoint_45 : decode mX2_readPoint.2.1 45 = .ok (.iload_n 2, 1) := by decide +kernel
theorem dX2_readPoint_46 : decode mX2_readPoint.2.1 46 = .ok (.aload_n 0, 1) := by decide +kernel
theorem dX2_readPoint_47 : decode mX2_readPoint.2.1 47 = .ok (.getfield 30, 3) := by decide +kernel
theorem dX2_readPoint_50 : decode mX2_readPoint.2.1 50 = .ok (.getfield 126, 3) := by decide +kernel
theorem dX2_readPoint_53 : decode mX2_readPoint.2.1 53 = .ok (.lastore, 1) := by decide +kernel
theorem dX2_readPoint_54 : decode mX2_readPoint.2.1 54 = .ok (.aload_n 0, 1) := by decide +kernel
theorem dX2_readPoint_55 : decode mX2_readPoint.2.1 55 = .ok (.getfield 30, 3) := by decide +kernel
theorem dX2_readPoint_58 : decode mX2_readPoint.2.1 58 = .ok (.iconst 0, 1) := by decide +kernel
theorem dX2_readPoint_59 : decode mX2_readPoint.2.1 59 = .ok (.aload_n 1, 1) := by decide +kernel
theorem dX2_readPoint_60 : decode mX2_readPoint.2.1 60 = .ok (.getfield 93, 3) := by decide +kernel
theorem dX2_readPoint_63 : decode mX2_readPoint.2.1 63 = .ok (.iconst 1, 1) := by decide +kernel
theorem dX2_readPoint_64 : decode mX2_readPoint.2.1 64 = .ok (.isub, 1) := by decide +kernel
theorem dX2_readPoint_65 : decode mX2_readPoint.2.1 65 = .ok (.invokevirtual 86, 3) := by decide +kernel
theorem dX2_readPoint_68 : decode mX2_readPoint.2.1 68 = .ok (.ifCond .ne 5, 3) := by decide +kernel
theorem dX2_readPoint_71 : decode mX2_readPoint.2.1 71 = .ok (.iconst 0, 1) := by decide +kernel
theorem dX2_readPoint_72 : decode mX2_readPoint.2.1 72 = .ok (.ireturn, 1) := by decide +kernel
theorem dX2_readPoint_73 : decode mX2_readPoint.2.1 73 = .ok (.aload_n 1, 1) := by decide +kernel
theorem dX2_readPoint_74 : decode mX2_readPoint.2.1 74 = .ok (.getfield 160, 3) := by decide +kernel
theorem dX2_readPoint_77 : decode mX2_readPoint.2.1 77 = .ok (.iload_n 2, 1) := by decide +kernel
theorem dX2_readPoint_78 : decode mX2_readPoint.2.1 78 = .ok (.aload_n 0, 1) := by decide +kernel
theorem dX2_readPoint_79 : decode mX2_readPoint.2.1 79 = .ok (.getfield 30, 3) := by decide +kernel
theorem dX2_readPoint_82 : decode mX2_readPoint.2.1 82 = .ok (.getfield 90, 3) := by decide +kernel
theorem dX2_readPoint_85 : decode mX2_readPoint.2.1 85 = .ok (.iastore, 1) := by decide +kernel
theorem dX2_readPoint_86 : decode mX2_readPoint.2.1 86 = .ok (.aload_n 0, 1) := by decide +kernel
theorem dX2_readPoint_87 : decode mX2_readPoint.2.1 87 = .ok (.getfield 30, 3) := by decide +kernel
theorem dX2_readPoint_90 : decode mX2_readPoint.2.1 90 = .ok (.iconst 0, 1) := by decide +kernel
theorem dX2_readPoint_91 : decode mX2_readPoint.2.1 91 = .ok (.aload_n 1, 1) := by decide +kernel
theorem dX2_readPoint_92 : decode mX2_readPoint.2.1 92 = .ok (.getfield 96, 3) := by decide +kernel
theorem dX2_readPoint_95 : decode mX2_readPoint.2.1 95 = .ok (.iconst 1, 1) := by decide +kernel
theorem dX2_readPoint_96 : decode mX2_readPoint.2.1 96 = .ok (.isub, 1) := by decide +kernel
theorem dX2_readPoint_97 : decode mX2_readPoint.2.1 97 = .ok (.invokevirtual 86, 3) := by decide +kernel
theorem dX2_readPoint_100 : decode mX2_readPoint.2.1 100 = .ok (.ifCond .ne 5, 3) := by decide +kernel
theorem dX2_readPoint_103 : decode mX2_readPoint.2.1 103 = .ok (.iconst 0, 1) := by decide +kernel
theorem dX2_readPoint_104 : decode mX2_readPoint.2.1 104 = .ok (.ireturn, 1) := by decide +kernel
theorem dX2_readPoint_105 : decode mX2_readPoint.2.1 105 = .ok (.aload_n 1, 1) := by decide +kernel
theorem dX2_readPoint_106 : decode mX2_readPoint.2.1 106 = .ok (.getfield 163, 3) := by decide +kernel
theorem dX2_readPoint_109 : decode mX2_readPoint.2.1 109 = .ok (.iload_n 2, 1) := by decide +kernel
theorem dX2_readPoint_110 : decode mX2_readPoint.2.1 110 = .ok (.aload_n 0, 1) := by decide +kernel
theorem dX2_readPoint_111 : decode mX2_readPoint.2.1 111 = .ok (.getfield 30, 3) := by decide +kernel
theorem dX2_readPoint_114 : decode mX2_readPoint.2.1 114 = .ok (.getfield 90, 3) := by decide +kernel
theorem dX2_readPoint_117 : decode mX2_readPoint.2.1 117 = .ok (.iastore, 1) := by decide +kernel
theorem dX2_readPoint_118 : decode mX2_readPoint.2.1 118 = .ok (.aload_n 0, 1) := by decide +kernel
theorem dX2_readPoint_119 : decode mX2_readPoint.2.1 119 = .ok (.getfield 30, 3) := by decide +kernel
theorem dX2_readPoint_122 : decode mX2_readPoint.2.1 122 = .ok (.iconst 0, 1) := by decide +kernel
theorem dX2_readPoint_123 : decode mX2_readPoint.2.1 123 = .ok (.iconst 3, 1) := by decide +kernel
theorem dX2_readPoint_124 : decode mX2_readPoint.2.1 124 = .ok (.invokevirtual 86, 3) := by decide +kernel
theorem dX2_readPoint_127 : decode mX2_readPoint.2.1 127 = .ok (.ifCond .ne 5, 3) := by decide +kernel
theorem dX2_readPoint_130 : decode mX2_readPoint.2.1 130 = .ok (.iconst 0, 1) := by decide +kernel
theorem dX2_readPoint_131 : decode mX2_readPoint.2.1 131 = .ok (.ireturn, 1) := by decide +kernel
theorem dX2_readPoint_132 : decode mX2_readPoint.2.1 132 = .ok (.aload_n 1, 1) := by decide +kernel
theorem dX2_readPoint_133 : decode mX2_readPoint.2.1 133 = .ok (.getfield 166, 3) := by decide +kernel
theorem dX2_readPoint_136 : decode mX2_readPoint.2.1 136 = .ok (.iload_n 2, 1) := by decide +kernel
theorem dX2_readPoint_137 : decode mX2_readPoint.2.1 137 = .ok (.aload_n 0, 1) := by decide +kernel
theorem dX2_readPoint_138 : decode mX2_readPoint.2.1 138 = .ok (.getfield 30, 3) := by decide +kernel
theorem dX2_readPoint_141 : decode mX2_readPoint.2.1 141 = .ok (.getfield 90, 3) := by decide +kernel
theorem dX2_readPoint_144 : decode mX2_readPoint.2.1 144 = .ok (.iastore, 1) := by decide +kernel
theorem dX2_readPoint_145 : decode mX2_readPoint.2.1 145 = .ok (.aload_n 1, 1) := by decide +kernel
theorem dX2_readPoint_146 : decode mX2_readPoint.2.1 146 = .ok (.dup, 1) := by decide +kernel
theorem dX2_readPoint_147 : decode mX2_readPoint.2.1 147 = .ok (.getfield 154, 3) := by decide +kernel
theorem dX2_readPoint_150 : decode mX2_readPoint.2.1 150 = .ok (.iconst 1, 1) := by decide +kernel
theorem dX2_readPoint_151 : decode mX2_readPoint.2.1 151 = .ok (.iadd, 1) := by decide +kernel
theorem dX2_readPoint_152 : decode mX2_readPoint.2.1 152 = .ok (.putfield 154, 3) := by decide +kernel
theorem dX2_readPoint_155 : decode mX2_readPoint.2.1 155 = .ok (.iconst 1, 1) := by decide +kernel
theorem dX2_readPoint_156 : decode mX2_readPoint.2.1 156 = .ok (.ireturn, 1) := by decide +kernel
set_option maxRecDepth 4000 in
theorem ev_X2_readPoint {m : Mem}  (hcu : PT m m (m 1 12) (m 1 6)) (htk : TkS m) (hi : 1 ≤ m 1 12 ∧ m 1 12 < m 1 11) (hdn : DnOk m 47) (hst : StOk m 47 57 0) : Ev 0 5 mX2_readPoint [vr 45] m (fun r m' => LnPost m r m' (ptF m (m 1 12)) (ptX m (m 1 12))) := by
  refine Ev.of (L := [vr 45, un, un]) (by decide +kernel) rfl (Nat.le_of_ble_eq_true rfl) rfl (fun t ht => by cases ht; first | exact Or.inl rfl | exact Or.inr (Or.inl rfl) | exact Or.inr (Or.inr rfl)) (fun hcan => ?_)
  obtain ⟨⟨hd0, hd1⟩, ⟨hd2, hd3⟩, ⟨hd4, hd5⟩, ⟨hd6, hd7⟩, ⟨hd8, hd9⟩, hdf, hdp, hdq⟩ := id hdn
  refine go_aload_n dX2_readPoint_0 rfl ?_
  refine go_iconst dX2_readPoint_1 ?_
  refine go_putf_z (ki := 3) dX2_readPoint_2 fw_2_27 ob_45 rfl rfl (by first | exact Or.inl rfl | exact Or.inr rfl | assumption | omega) ?_
  refine go_aload_n dX2_readPoint_5 rfl ?_
  refine go_getf_p (b := 46) dX2_readPoint_6 fl_2_17 ob_45 rfl pt_45_0 ?_
  refine go_getf_p (b := 47) dX2_readPoint_9 fl_2_58 ob_46 rfl pt_46_0 ?_
  refine go_astore_n (L' := [vr 45, vr 47, un]) dX2_readPoint_12 (by decide) rfl rfl ?_
  refine go_aload_n dX2_readPoint_13 rfl ?_
  refine go_getf_i (ki := 4) dX2_readPoint_14 fl_2_154 ob_47 rfl rfl (fun hf_14 => ?_)
  rw [show ((wr m 45 3 1) 47 4 : Int) = (m 47 4) from by rw [wr_na (by omega)]] at hf_14 ⊢
  refine go_istore_n (L' := [vr 45, vr 47, vi (m 47 4)]) dX2_readPoint_17 (by decide) rfl rfl ?_
  refine go_iload_n dX2_readPoint_18 rfl ?_
  refine go_iconst dX2_readPoint_19 ?_
  refine go_icmp_lt (tgt := 32) dX2_readPoint_20 (by decide) ⟨by omega, by omega⟩ ⟨by omega, by omega⟩ (fun h_20 => ?_) (fun h_20 => ?_)
  · refine go_aload_n dX2_readPoint_32 rfl ?_
    have tpc_33 : TP m (wr m 45 3 1) (m 1 12) := (TP.w (TP.rf hcu) (by decide) (by decide) (by decide) (by decide))
    refine go_callV_z (as := []) (S := []) (b := 45) (ev_X2_wantNewName (m := (wr m 45 3 1))  (htk.tp tpc_33) (by rw [tpc_33.1, tpc_33.2.1]; omega) (hdn.c7 (by rw [wr_row (by decide)]) (by rw [wr_row (by decide)]) (by rw [wr_row (by decide)]) (by rw [wr_row (by decide)]) (by rw [wr_row (by decide)]) (by rw [wr_row (by decide)]) (by rw [wr_row (by decide)]))) rfl dX2_readPoint_33 cv_2_119 rfl rfl ob_45 rfl (by decide) (Nat.le_of_ble_eq_true rfl) (fun r_33 m_33 hr_33 ho_33 => ?_)
    have rwf_33 : ∀ b : Nat, b ≠ 1 → m_33 b = (wr m 45 3 1) b := by
      rcases hr_33 with h | h
      · exact h.2.2.2
      · exact h.2.2.2
    have hF_33 : nmF (wr m 45 3 1) ((wr m 45 3 1) 1 12) = nmF m (m 1 12) := by rw [tpc_33.1]; exact nmF_congr tpc_33.2.2.1 tpc_33.2.2.2.2.1 (by rw [wr_row (by decide)]) (by rw [wr_row (by decide)]) (by rw [wr_row (by decide)]) (by rw [wr_row (by decide)])
    rw [hF_33] at hr_33
    refine go_if_ne (tgt := 41) dX2_readPoint_36 (by decide) ⟨by omega, by omega⟩ (fun h_36 => ?_) (fun h_36 => ?_)
    · obtain ⟨z_33, -, a_33⟩ := hr_33.resolve_right (fun h => h_36 h.2.1)
      have hz_33 := nmF_0 z_33
      have tp_33 : TP m m_33 (m 1 12 + 1) := by have h := adv_ok tpc_33 a_33; rw [show (m 1 12) + 1 = (m 1 12 + 1) by omega] at h; exact h
      have v4_33 : m_33 1 4 = vN m (m 1 12) := by have h := tp_33.2.2.2.2.2.2.2.2.2.1; rw [show (m 1 12 + 1) - 1 = (m 1 12) by omega] at h; exact h
      have v5_33 : m_33 1 5 = m 6 (m 1 12) := by have h := tp_33.2.2.2.2.2.2.2.2.1; rw [show (m 1 12 + 1) - 1 = (m 1 12) by omega] at h; exact h
      have hlt_33 : (m 1 12 + 1) < m 1 11 := by have h := htk.lt (k := (m 1 12)) (by omega) (by omega); omega
      refine go_aload_n dX2_readPoint_41 rfl ?_
      refine go_getf_p (b := 53) dX2_readPoint_42 fl_2_157 ob_47 rfl pt_47_10 ?_
      refine go_iload_n dX2_readPoint_45 rfl ?_
      refine go_aload_n dX2_readPoint_46 rfl ?_
      refine go_getf_p (b := 1) dX2_readPoint_47 fl_2_30 ob_45 rfl pt_45_1 ?_
      refine go_getf_l (ki := 5) dX2_readPoint_50 fl_2_126 ob_1 rfl rfl (fun hf_50 => ?_)
      rw [show (m_33 1 5 : Int) = (m 6 (m 1 12)) from by rw [v5_33]] at hf_50 ⊢
      refine go_lastore dX2_readPoint_53 ar_53 (by omega) (by omega) ⟨by omega, by omega⟩ ?_
      refine go_aload_n dX2_readPoint_54 rfl ?_
      refine go_getf_p (b := 1) dX2_readPoint_55 fl_2_30 ob_45 rfl pt_45_1 ?_
      refine go_iconst dX2_readPoint_58 ?_
      refine go_aload_n dX2_readPoint_59 rfl ?_
      refine go_getf_i (ki := 0) dX2_readPoint_60 fl_2_93 ob_47 rfl rfl (fun hf_60 => ?_)
      rw [show ((wr m_33 53 (m 47 4) (m 6 (m 1 12))) 47 0 : Int) = (m 47 0) from by rw [wr_na (by omega), rwf_33 47 (by decide), wr_na (by omega)]] at hf_60 ⊢
      refine go_iconst dX2_readPoint_63 ?_
      refine go_isub dX2_readPoint_64 ?_
      have tpc_65 : TP m (wr m_33 53 (m 47 4) (m 6 (m 1 12))) (m 1 12 + 1) := (TP.w tp_33 (by decide) (by decide) (by decide) (by decide))
      refine go_callV_z (as := [vi 0, vi ((m 47 0) - 1)]) (S := []) (b := 1) (ev_X7_wantNumeral (m := (wr m_33 53 (m 47 4) (m 6 (m 1 12)))) (lo := 0) (hi := ((m 47 0) - 1)) (by rw [tpc_65.1, tpc_65.2.1]; have := htk.1; omega) (by first | assumption | omega | exact ⟨by omega, by omega⟩ | (constructor <;> omega)) (by first | assumption | omega | exact ⟨by omega, by omega⟩ | (constructor <;> omega))) rfl dX2_readPoint_65 cv_2_86 rfl rfl ob_1 rfl (by decide) (Nat.le_of_ble_eq_true rfl) (fun r_65 m_65 hr_65 ho_65 => ?_)
      have rwf_65 : ∀ b : Nat, b ≠ 1 → m_65 b = (wr m_33 53 (m 47 4) (m 6 (m 1 12))) b := by
        rcases hr_65 with h | h
        · exact h.2.2.2
        · exact h.2.2.2
      have hF_65 : numF ((wr m_33 53 (m 47 4) (m 6 (m 1 12))) 4) (vN (wr m_33 53 (m 47 4) (m 6 (m 1 12)))) ((wr m_33 53 (m 47 4) (m 6 (m 1 12))) 1 12) 0 (m 47 0 - 1) = numF (m 4) (vN m) (m 1 12 + 1) 0 (m 47 0 - 1) := by rw [tpc_65.1, tpc_65.2.2.1, vN_congr tpc_65.2.2.2.2.1]
      rw [hF_65] at hr_65
      refine go_if_ne (tgt := 73) dX2_readPoint_68 (by decide) ⟨by omega, by omega⟩ (fun h_68 => ?_) (fun h_68 => ?_)
      · obtain ⟨z_65, -, a_65⟩ := hr_65.resolve_right (fun h => h_68 h.2.1)
        have hz_65 := numF_0 z_65
        have tp_65 : TP m m_65 (m 1 12 + 2) := by have h := adv_ok tpc_65 a_65; rw [show (m 1 12 + 1) + 1 = (m 1 12 + 2) by omega] at h; exact h
        have v4_65 : m_65 1 4 = vN m (m 1 12 + 1) := by have h := tp_65.2.2.2.2.2.2.2.2.2.1; rw [show (m 1 12 + 2) - 1 = (m 1 12 + 1) by omega] at h; exact h
        have v5_65 : m_65 1 5 = m 6 (m 1 12 + 1) := by have h := tp_65.2.2.2.2.2.2.2.2.1; rw [show (m 1 12 + 2) - 1 = (m 1 12 + 1) by omega] at h; exact h
        have hlt_65 : (m 1 12 + 2) < m 1 11 := by have h := htk.lt (k := (m 1 12 + 1)) (by omega) (by omega); omega
        refine go_aload_n dX2_readPoint_73 rfl ?_
        refine go_getf_p (b := 54) dX2_readPoint_74 fl_2_160 ob_47 rfl pt_47_11 ?_
        refine go_iload_n dX2_readPoint_77 rfl ?_
        refine go_aload_n dX2_readPoint_78 rfl ?_
        refine go_getf_p (b := 1) dX2_readPoint_79 fl_2_30 ob_45 rfl pt_45_1 ?_
        refine go_getf_i (ki := 4) dX2_readPoint_82 fl_2_90 ob_1 rfl rfl (fun hf_82 => ?_)
        rw [show (m_65 1 4 : Int) = (vN m (m 1 12 + 1)) from by rw [v4_65]] at hf_82 ⊢
        refine go_iastore dX2_readPoint_85 ar_54 (by omega) (by omega) ⟨by omega, by omega⟩ ?_
        refine go_aload_n dX2_readPoint_86 rfl ?_
        refine go_getf_p (b := 1) dX2_readPoint_87 fl_2_30 ob_45 rfl pt_45_1 ?_
        refine go_iconst dX2_readPoint_90 ?_
        refine go_aload_n dX2_readPoint_91 rfl ?_
        refine go_getf_i (ki := 1) dX2_readPoint_92 fl_2_96 ob_47 rfl rfl (fun hf_92 => ?_)
        rw [show ((wr m_65 54 (m 47 4) (vN m (m 1 12 + 1))) 47 1 : Int) = (m 47 1) from by rw [wr_na (by omega), rwf_65 47 (by decide), wr_na (by omega), rwf_33 47 (by decide), wr_na (by omega)]] at hf_92 ⊢
        refine go_iconst dX2_readPoint_95 ?_
        refine go_isub dX2_readPoint_96 ?_
        have tpc_97 : TP m (wr m_65 54 (m 47 4) (vN m (m 1 12 + 1))) (m 1 12 + 2) := (TP.w tp_65 (by decide) (by decide) (by decide) (by decide))
        refine go_callV_z (as := [vi 0, vi ((m 47 1) - 1)]) (S := []) (b := 1) (ev_X7_wantNumeral (m := (wr m_65 54 (m 47 4) (vN m (m 1 12 + 1)))) (lo := 0) (hi := ((m 47 1) - 1)) (by rw [tpc_97.1, tpc_97.2.1]; have := htk.1; omega) (by first | assumption | omega | exact ⟨by omega, by omega⟩ | (constructor <;> omega)) (by first | assumption | omega | exact ⟨by omega, by omega⟩ | (constructor <;> omega))) rfl dX2_readPoint_97 cv_2_86 rfl rfl ob_1 rfl (by decide) (Nat.le_of_ble_eq_true rfl) (fun r_97 m_97 hr_97 ho_97 => ?_)
        have rwf_97 : ∀ b : Nat, b ≠ 1 → m_97 b = (wr m_65 54 (m 47 4) (vN m (m 1 12 + 1))) b := by
          rcases hr_97 with h | h
          · exact h.2.2.2
          · exact h.2.2.2
        have hF_97 : numF ((wr m_65 54 (m 47 4) (vN m (m 1 12 + 1))) 4) (vN (wr m_65 54 (m 47 4) (vN m (m 1 12 + 1)))) ((wr m_65 54 (m 47 4) (vN m (m 1 12 + 1))) 1 12) 0 (m 47 1 - 1) = numF (m 4) (vN m) (m 1 12 + 2) 0 (m 47 1 - 1) := by rw [tpc_97.1, tpc_97.2.2.1, vN_congr tpc_97.2.2.2.2.1]
        rw [hF_97] at hr_97
        refine go_if_ne (tgt := 105) dX2_readPoint_100 (by decide) ⟨by omega, by omega⟩ (fun h_100 => ?_) (fun h_100 => ?_)
        · obtain ⟨z_97, -, a_97⟩ := hr_97.resolve_right (fun h => h_100 h.2.1)
          have hz_97 := numF_0 z_97
          have tp_97 : TP m m_97 (m 1 12 + 3) := by have h := adv_ok tpc_97 a_97; rw [show (m 1 12 + 2) + 1 = (m 1 12 + 3) by omega] at h; exact h
          have v4_97 : m_97 1 4 = vN m (m 1 12 + 2) := by have h := tp_97.2.2.2.2.2.2.2.2.2.1; rw [show (m 1 12 + 3) - 1 = (m 1 12 + 2) by omega] at h; exact h
          have v5_97 : m_97 1 5 = m 6 (m 1 12 + 2) := by have h := tp_97.2.2.2.2.2.2.2.2.1; rw [show (m 1 12 + 3) - 1 = (m 1 12 + 2) by omega] at h; exact h
          have hlt_97 : (m 1 12 + 3) < m 1 11 := by have h := htk.lt (k := (m 1 12 + 2)) (by omega) (by omega); omega
          refine go_aload_n dX2_readPoint_105 rfl ?_
          refine go_getf_p (b := 55) dX2_readPoint_106 fl_2_163 ob_47 rfl pt_47_12 ?_
          refine go_iload_n dX2_readPoint_109 rfl ?_
          refine go_aload_n dX2_readPoint_110 rfl ?_
          refine go_getf_p (b := 1) dX2_readPoint_111 fl_2_30 ob_45 rfl pt_45_1 ?_
          refine go_getf_i (ki := 4) dX2_readPoint_114 fl_2_90 ob_1 rfl rfl (fun hf_114 => ?_)
          rw [show (m_97 1 4 : Int) = (vN m (m 1 12 + 2)) from by rw [v4_97]] at hf_114 ⊢
          refine go_iastore dX2_readPoint_117 ar_55 (by omega) (by omega) ⟨by omega, by omega⟩ ?_
          refine go_aload_n dX2_readPoint_118 rfl ?_
          refine go_getf_p (b := 1) dX2_readPoint_119 fl_2_30 ob_45 rfl pt_45_1 ?_
          refine go_iconst dX2_readPoint_122 ?_
          refine go_iconst dX2_readPoint_123 ?_
          have tpc_124 : TP m (wr m_97 55 (m 47 4) (vN m (m 1 12 + 2))) (m 1 12 + 3) := (TP.w tp_97 (by decide) (by decide) (by decide) (by decide))
          refine go_callV_z (as := [vi 0, vi 3]) (S := []) (b := 1) (ev_X7_wantNumeral (m := (wr m_97 55 (m 47 4) (vN m (m 1 12 + 2)))) (lo := 0) (hi := 3) (by rw [tpc_124.1, tpc_124.2.1]; have := htk.1; omega) (by first | assumption | omega | exact ⟨by omega, by omega⟩ | (constructor <;> omega)) (by first | assumption | omega | exact ⟨by omega, by omega⟩ | (constructor <;> omega))) rfl dX2_readPoint_124 cv_2_86 rfl rfl ob_1 rfl (by decide) (Nat.le_of_ble_eq_true rfl) (fun r_124 m_124 hr_124 ho_124 => ?_)
          have rwf_124 : ∀ b : Nat, b ≠ 1 → m_124 b = (wr m_97 55 (m 47 4) (vN m (m 1 12 + 2))) b := by
            rcases hr_124 with h | h
            · exact h.2.2.2
            · exact h.2.2.2
          have hF_124 : numF ((wr m_97 55 (m 47 4) (vN m (m 1 12 + 2))) 4) (vN (wr m_97 55 (m 47 4) (vN m (m 1 12 + 2)))) ((wr m_97 55 (m 47 4) (vN m (m 1 12 + 2))) 1 12) 0 3 = numF (m 4) (vN m) (m 1 12 + 3) 0 3 := by rw [tpc_124.1, tpc_124.2.2.1, vN_congr tpc_124.2.2.2.2.1]
          rw [hF_124] at hr_124
          refine go_if_ne (tgt := 132) dX2_readPoint_127 (by decide) ⟨by omega, by omega⟩ (fun h_127 => ?_) (fun h_127 => ?_)
          · obtain ⟨z_124, -, a_124⟩ := hr_124.resolve_right (fun h => h_127 h.2.1)
            have hz_124 := numF_0 z_124
            have tp_124 : TP m m_124 (m 1 12 + 4) := by have h := adv_ok tpc_124 a_124; rw [show (m 1 12 + 3) + 1 = (m 1 12 + 4) by omega] at h; exact h
            have v4_124 : m_124 1 4 = vN m (m 1 12 + 3) := by have h := tp_124.2.2.2.2.2.2.2.2.2.1; rw [show (m 1 12 + 4) - 1 = (m 1 12 + 3) by omega] at h; exact h
            have v5_124 : m_124 1 5 = m 6 (m 1 12 + 3) := by have h := tp_124.2.2.2.2.2.2.2.2.1; rw [show (m 1 12 + 4) - 1 = (m 1 12 + 3) by omega] at h; exact h
            have hlt_124 : (m 1 12 + 4) < m 1 11 := by have h := htk.lt (k := (m 1 12 + 3)) (by omega) (by omega); omega
            refine go_aload_n dX2_readPoint_132 rfl ?_
            refine go_getf_p (b := 56) dX2_readPoint_133 fl_2_166 ob_47 rfl pt_47_13 ?_
            refine go_iload_n dX2_readPoint_136 rfl ?_
            refine go_aload_n dX2_readPoint_137 rfl ?_
            refine go_getf_p (b := 1) dX2_readPoint_138 fl_2_30 ob_45 rfl pt_45_1 ?_
            refine go_getf_i (ki := 4) dX2_readPoint_141 fl_2_90 ob_1 rfl rfl (fun hf_141 => ?_)
            rw [show (m_124 1 4 : Int) = (vN m (m 1 12 + 3)) from by rw [v4_124]] at hf_141 ⊢
            refine go_iastore dX2_readPoint_144 ar_56 (by omega) (by omega) ⟨by omega, by omega⟩ ?_
            refine go_aload_n dX2_readPoint_145 rfl ?_
            refine go_dup_r dX2_readPoint_146 ?_
            refine go_getf_i (ki := 4) dX2_readPoint_147 fl_2_154 ob_47 rfl rfl (fun hf_147 => ?_)
            rw [show ((wr m_124 56 (m 47 4) (vN m (m 1 12 + 3))) 47 4 : Int) = (m 47 4) from by rw [wr_na (by omega), rwf_124 47 (by decide), wr_na (by omega), rwf_97 47 (by decide), wr_na (by omega), rwf_65 47 (by decide), wr_na (by omega), rwf_33 47 (by decide), wr_na (by omega)]] at hf_147 ⊢
            refine go_iconst dX2_readPoint_150 ?_
            refine go_iadd dX2_readPoint_151 ?_
            refine go_putf_i (ki := 4) dX2_readPoint_152 fw_2_154 ob_47 rfl rfl ⟨by omega, by omega⟩ ?_
            refine go_iconst dX2_readPoint_155 ?_
            refine go_ret (v := 1) rfl dX2_readPoint_156 (okZ (by first | exact Or.inl rfl | exact Or.inr rfl | assumption | omega)) ?_
            refine Or.inl ⟨rfl, ?_⟩
            unfold ptF
            rw [if_neg (by omega), if_neg (fun h => h z_33), if_neg (fun h => h z_65), if_neg (fun h => h z_97), if_neg (fun h => h z_124)]
            exact ⟨rfl, hlt_124, (TP.w (TP.w tp_124 (by decide) (by decide) (by decide) (by decide)) (by decide) (by decide) (by decide) (by decide)), fun b hb => by funext j; simp only [ptX, wr, rwf_124 b hb, rwf_97 b hb, rwf_65 b hb, rwf_33 b hb]⟩
          · refine go_iconst dX2_readPoint_130 ?_
            refine go_ret (v := 0) rfl dX2_readPoint_131 (okZ (by first | exact Or.inl rfl | exact Or.inr rfl | assumption | omega)) ?_
            obtain ⟨z, -, a⟩ := hr_124.resolve_left (fun h => by omega)
            refine Or.inr ⟨rfl, ?_⟩
            unfold ptF
            rw [if_neg (by omega), if_neg (fun h => h z_33), if_neg (fun h => h z_65), if_neg (fun h => h z_97), if_pos z]
            exact ⟨z, adv_no tpc_124 a, fun b hb hb2 => by rw [rwf_124 b hb, wr_row (by omega), rwf_97 b hb, wr_row (by omega), rwf_65 b hb, wr_row (by omega), rwf_33 b hb, wr_row (by omega)]⟩
        · refine go_iconst dX2_readPoint_103 ?_
          refine go_ret (v := 0) rfl dX2_readPoint_104 (okZ (by first | exact Or.inl rfl | exact Or.inr rfl | assumption | omega)) ?_
          obtain ⟨z, -, a⟩ := hr_97.resolve_left (fun h => by omega)
          refine Or.inr ⟨rfl, ?_⟩
          unfold ptF
          rw [if_neg (by omega), if_neg (fun h => h z_33), if_neg (fun h => h z_65), if_pos z]
          exact ⟨z, adv_no tpc_97 a, fun b hb hb2 => by rw [rwf_97 b hb, wr_row (by omega), rwf_65 b hb, wr_row (by omega), rwf_33 b hb, wr_row (by omega)]⟩
      · refine go_iconst dX2_readPoint_71 ?_
        refine go_ret (v := 0) rfl dX2_readPoint_72 (okZ (by first | exact Or.inl rfl | exact Or.inr rfl | assumption | omega)) ?_
        obtain ⟨z, -, a⟩ := hr_65.resolve_left (fun h => by omega)
        refine Or.inr ⟨rfl, ?_⟩
        unfold ptF
        rw [if_neg (by omega), if_neg (fun h => h z_33), if_pos z]
        exact ⟨z, adv_no tpc_65 a, fun b hb hb2 => by rw [rwf_65 b hb, wr_row (by omega), rwf_33 b hb, wr_row (by omega)]⟩
    · refine go_iconst dX2_readPoint_39 ?_
      refine go_ret (v := 0) rfl dX2_readPoint_40 (okZ (by first | exact Or.inl rfl | exact Or.inr rfl | assumption | omega)) ?_
      obtain ⟨z, -, a⟩ := hr_33.resolve_left (fun h => by omega)
      refine Or.inr ⟨rfl, ?_⟩
      unfold ptF
      rw [if_neg (by omega), if_pos z]
      exact ⟨z, adv_no tpc_33 a, fun b hb hb2 => by rw [rwf_33 b hb, wr_row (by omega)]⟩
  · refine go_aload_n dX2_readPoint_23 rfl ?_
    refine go_getf_p (b := 1) dX2_readPoint_24 fl_2_30 ob_45 rfl pt_45_1 ?_
    refine go_iconst dX2_readPoint_27 ?_
    refine go_callV_z (as := [vi 4]) (S := []) (b := 1) (ev_X7_refuse (m := (wr m 45 3 1)) (k := 4) (by first | assumption | omega | exact ⟨by omega, by omega⟩ | (constructor <;> omega))) rfl dX2_readPoint_28 cv_2_83 rfl rfl ob_1 rfl (by decide) (Nat.le_of_ble_eq_true rfl) (fun r_28 m_28 hr_28 ho_28 => ?_)
    refine go_ret (v := r_28) rfl dX2_readPoint_31 (okZ (by first | exact Or.inl rfl | exact Or.inr rfl | assumption | omega)) ?_
    rw [hr_28.2]
    refine Or.inr ⟨by omega, ?_⟩
    unfold ptF
    rw [if_pos (by omega)]
    exact ⟨show (4 : Int) ≠ 0 by decide, by rw [show m 1 12 - 1 + 1 = m 1 12 by omega]; exact (TP.w (TP.rf hcu) (by decide) (by decide) (by decide) (by decide)).2.2.2.2.2.flt, fun b hb hb2 => by rw [wr_row hb, wr_row (by omega)]⟩
