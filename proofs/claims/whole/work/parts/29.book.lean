theorem pt_tr {m M M' : Mem} {j f : Int} (h : TP m M j) (ha : PT M M' (M 1 12 + 1) f) : PT m M' (j + 1) f := by
  obtain ⟨h1, h2, h3, h4, h5, h6⟩ := h
  obtain ⟨a1, a2, a3, a4, a5, a6, a7⟩ := ha
  rw [h1] at a1 a2 a3 a4 a5
  rw [h3] at a2
  rw [h4] at a3
  rw [h5] at a4 a5
  exact ⟨a1, a2, a3, a4, a5, a6, fun x b c d e f g => by rw [a7 x b c d e f g]; exact h6.2.2.2.2.2.2 x b c d e f g⟩
theorem tp_of {m M : Mem} {j : Int} (h : PT m M j (m 1 6)) (h4 : M 4 = m 4) (h5 : M 5 = m 5) (h6 : M 6 = m 6) : TP m M j := ⟨h.1, h.2.2.2.2.2.2 11 (by decide) (by decide) (by decide) (by decide) (by decide) (by decide), h4, h5, h6, h⟩
def sdF (m : Mem) (i : Int) : Int := if 209 ≤ m 4 i ∧ m 4 i ≤ 212 then 0 else 1
def ffF (m : Mem) (i : Int) : Int := if m 4 i = 3 then (if nameAt m (8 + 1) (m 6 i) (m 8 2) = -1 then 3 else 0) else 1
def deF (m : Mem) (i : Int) : Int × Int := if m 4 i = 205 then (if ffF m (i + 1) ≠ 0 then (ffF m (i + 1), i + 1) else if sdF m (i + 2) ≠ 0 then (sdF m (i + 2), i + 2) else (0, i + 3)) else if m 4 i = 206 then (if sdF m (i + 1) ≠ 0 then (sdF m (i + 1), i + 1) else (0, i + 2)) else if m 4 i = 207 then (0, i + 1) else (1, i)
def deX (m : Mem) (i : Int) : Mem := if m 4 i = 205 then wr (wr (wr m 71 (m 70 11) (m 4 i)) 73 (m 70 11) (nameAt m (8 + 1) (m 6 (i + 1)) (m 8 2))) 74 (m 70 11) (m 4 (i + 2) - 209) else if m 4 i = 206 then wr (wr m 71 (m 70 11) (m 4 i)) 74 (m 70 11) (m 4 (i + 1) - 209) else wr m 71 (m 70 11) (m 4 i)
theorem deF_205 {m : Mem} {i : Int} (h : m 4 i = 205) : deF m i = if ffF m (i + 1) ≠ 0 then (ffF m (i + 1), i + 1) else if sdF m (i + 2) ≠ 0 then (sdF m (i + 2), i + 2) else (0, i + 3) := by unfold deF; rw [if_pos h]
theorem deF_206 {m : Mem} {i : Int} (h : m 4 i = 206) : deF m i = if sdF m (i + 1) ≠ 0 then (sdF m (i + 1), i + 1) else (0, i + 2) := by unfold deF; rw [if_neg (by omega), if_pos h]
theorem deX_205 {m : Mem} {i : Int} (h : m 4 i = 205) : deX m i = wr (wr (wr m 71 (m 70 11) (m 4 i)) 73 (m 70 11) (nameAt m (8 + 1) (m 6 (i + 1)) (m 8 2))) 74 (m 70 11) (m 4 (i + 2) - 209) := by unfold deX; rw [if_pos h]
theorem deX_206 {m : Mem} {i : Int} (h : m 4 i = 206) : deX m i = wr (wr m 71 (m 70 11) (m 4 i)) 74 (m 70 11) (m 4 (i + 1) - 209) := by unfold deX; rw [if_neg (by omega), if_pos h]
def bkF (m : Mem) (i : Int) : Int × Int := if m 4 (i - 1) ≠ 3 ∧ m 4 (i - 1) ≠ 208 then (1, i - 1) else if m 4 (i - 1) = 3 ∧ nameAt m (8 + 4) (m 6 (i - 1)) (m 8 3) = -1 then (3, i - 1) else if 40 ≤ m 70 11 then (4, i - 1) else if m 4 (i - 1) = 208 then (if numF (m 4) (vN m) i 1 60 ≠ 0 then (numF (m 4) (vN m) i 1 60, i) else (0, i + 1)) else deF m i
def bkX (m : Mem) (i : Int) : Mem := if m 4 (i - 1) = 208 then wr (wr (wr m 72 (m 70 11) (-1)) 71 (m 70 11) 208) 75 (m 70 11) (vN m i) else deX (wr m 72 (m 70 11) (nameAt m (8 + 4) (m 6 (i - 1)) (m 8 3))) i
def BkPost (m : Mem) (r : Int) (m' : Mem) (F : Int × Int) (X : Mem) : Prop := (r = 1 ∧ F.1 = 0 ∧ F.2 < m 1 11 ∧ PT m m' F.2 (m 1 6) ∧ ∀ b : Nat, b ≠ 1 → m' b = X b) ∨ (r = 0 ∧ F.1 ≠ 0 ∧ PT m m' (F.2 + 1) F.1 ∧ ∀ b : Nat, b ≠ 1 → (b < 71 ∨ 76 ≤ b) → m' b = m b)
theorem nameAt_b (m : Mem) (a : Nat) (v n : Int) : -1 ≤ nameAt m a v n ∧ (nameAt m a v n < n ∨ nameAt m a v n = -1) := by
  rcases fnd_cases (fun k => decide (m a k = v)) n with ⟨h, _⟩ | ⟨h1, h2, _⟩
  · unfold nameAt; omega
  · unfold nameAt; omega
theorem deF_e {m M : Mem} {i : Int} (h4 : M 4 = m 4) (h6 : M 6 = m 6) (h8 : M 8 = m 8) (h9 : M 9 = m 9) : deF M i = deF m i := by
  unfold deF ffF sdF nameAt
  simp only [h4, h6, h8, show M (8 + 1) = m (8 + 1) from h9]

theorem dX0_readSide_0 : decode mX0_readSide.2.1 0 = .ok (.aload_n 0, 1) := by decide +kernel
theorem dX0_readSide_1 : decode mX0_readSide.2.1 1 = .ok (.getfield 47, 3) := by decide +kernel
theorem dX0_readSide_4 : decode mX0_readSide.2.1 4 = .ok (.invokevirtual 107, 3) := by decide +kernel
theorem dX0_readSide_7 : decode mX0_readSide.2.1 7 = .ok (.ifCond .ne 5, 3) := by decide +kernel
theorem dX0_readSide_10 : decode mX0_readSide.2.1 10 = .ok (.iconst 0, 1) := by decide +kernel
theorem dX0_readSide_11 : decode mX0_readSide.2.1 11 = .ok (.ireturn, 1) := by decide +kernel
theorem dX0_readSide_12 : decode mX0_readSide.2.1 12 = .ok (.aload_n 0, 1) := by decide +kernel
theorem dX0_readSide_13 : decode mX0_readSide.2.1 13 = .ok (.getfield 38, 3) := by decide +kernel
theorem dX0_readSide_16 : decode mX0_readSide.2.1 16 = .ok (.aload_n 0, 1) := by decide +kernel
theorem dX0_readSide_17 : decode mX0_readSide.2.1 17 = .ok (.getfield 44, 3) := by decide +kernel
theorem dX0_readSide_20 : decode mX0_readSide.2.1 20 = .ok (.aload_n 0, 1) := by decide +kernel
theorem dX0_readSide_21 : decode mX0_readSide.2.1 21 = .ok (.getfield 47, 3) := by decide +kernel
theorem dX0_readSide_24 : decode mX0_readSide.2.1 24 = .ok (.getfield 60, 3) := by decide +kernel
theorem dX0_readSide_27 : decode mX0_readSide.2.1 27 = .ok (.sipush 209, 3) := by decide +kernel
theorem dX0_readSide_30 : decode mX0_readSide.2.1 30 = .ok (.isub, 1) := by decide +kernel
theorem dX0_readSide_31 : decode mX0_readSide.2.1 31 = .ok (.iastore, 1) := by decide +kernel
theorem dX0_readSide_32 : decode mX0_readSide.2.1 32 = .ok (.iconst 1, 1) := by decide +kernel
theorem dX0_readSide_33 : decode mX0_readSide.2.1 33 = .ok (.ireturn, 1) := by decide +kernel
set_option maxRecDepth 4000 in
theorem ev_X0_readSide {m : Mem}  (htk : TkS m) (hi : 0 ≤ m 1 12 ∧ m 1 12 < m 1 11) (hn : 0 ≤ m 70 11 ∧ m 70 11 < 40) : Ev 0 3 mX0_readSide [vr 70] m (fun r m' => (sdF m (m 1 12) = 0 ∧ r = 1 ∧ PT m m' (m 1 12 + 1) (m 1 6) ∧ ∀ b : Nat, b ≠ 1 → m' b = wr m 74 (m 70 11) (m 4 (m 1 12) - 209) b) ∨ (sdF m (m 1 12) ≠ 0 ∧ r = 0 ∧ Adv m m' (sdF m (m 1 12)))) := by
  refine Ev.of (L := [vr 70]) (by decide +kernel) rfl (Nat.le_of_ble_eq_true rfl) rfl (fun t ht => by cases ht; first | exact Or.inl rfl | exact Or.inr (Or.inl rfl) | exact Or.inr (Or.inr rfl)) (fun hcan => ?_)
  refine go_aload_n dX0_readSide_0 rfl ?_
  refine go_getf_p (b := 1) dX0_readSide_1 fl_0_47 ob_70 rfl pt_70_5 ?_
  refine go_callV_z (as := []) (S := []) (b := 1) (ev_X7_wantSide (m := m)  (by have := htk.1; omega)) rfl dX0_readSide_4 cv_0_107 rfl rfl ob_1 rfl (by decide) (Nat.le_of_ble_eq_true rfl) (fun r_4 m_4 hr_4 ho_4 => ?_)
  have rwf_4 : ∀ b : Nat, b ≠ 1 → m_4 b = m b := by
    rcases hr_4 with h | h
    · exact h.2.2.2
    · exact h.2.2.2
  refine go_if_ne (tgt := 12) dX0_readSide_7 (by decide) ⟨by omega, by omega⟩ (fun h_7 => ?_) (fun h_7 => ?_)
  · obtain ⟨z_4, -, a_4⟩ := hr_4.resolve_right (fun h => h_7 h.2.1)
    have v2 : m_4 1 2 = m 4 (m 1 12) := by have h := a_4.1.2.1; rw [show m 1 12 + 1 - 1 = m 1 12 by omega] at h; exact h
    refine go_aload_n dX0_readSide_12 rfl ?_
    refine go_getf_p (b := 74) dX0_readSide_13 fl_0_38 ob_70 rfl pt_70_9 ?_
    refine go_aload_n dX0_readSide_16 rfl ?_
    refine go_getf_i (ki := 11) dX0_readSide_17 fl_0_44 ob_70 rfl rfl (fun hf_17 => ?_)
    rw [show (m_4 70 11 : Int) = (m 70 11) from by rw [rwf_4 70 (by decide)]] at hf_17 ⊢
    refine go_aload_n dX0_readSide_20 rfl ?_
    refine go_getf_p (b := 1) dX0_readSide_21 fl_0_47 ob_70 rfl pt_70_5 ?_
    refine go_getf_i (ki := 2) dX0_readSide_24 fl_0_60 ob_1 rfl rfl (fun hf_24 => ?_)
    rw [show (m_4 1 2 : Int) = (m 4 (m 1 12)) from v2] at hf_24 ⊢
    refine go_sipush dX0_readSide_27 (by decide) ?_
    refine go_isub dX0_readSide_30 ?_
    refine go_iastore dX0_readSide_31 ar_74 (by omega) (by omega) ⟨by omega, by omega⟩ ?_
    refine go_iconst dX0_readSide_32 ?_
    refine go_ret (v := 1) rfl dX0_readSide_33 (okZ (by first | exact Or.inl rfl | exact Or.inr rfl | assumption | omega)) ?_
    have e : sdF m (m 1 12) = 0 := by unfold sdF; rw [if_pos z_4]
    refine Or.inl ⟨e, rfl, ?_, fun b hb => by funext j; simp only [wr, rwf_4 b hb]⟩
    have h := a_4.1
    unfold PT at h ⊢
    rw [wr_row (by decide)]
    exact h
  · refine go_iconst dX0_readSide_10 ?_
    refine go_ret (v := 0) rfl dX0_readSide_11 (okZ (by first | exact Or.inl rfl | exact Or.inr rfl | assumption | omega)) ?_
    obtain ⟨z, -, a⟩ := hr_4.resolve_left (fun h => by omega)
    have e : sdF m (m 1 12) = 1 := by unfold sdF; rw [if_neg z]
    rw [e]
    exact Or.inr ⟨by omega, rfl, a⟩
theorem dX0_readFigure_0 : decode mX0_readFigure.2.1 0 = .ok (.aload_n 0, 1) := by decide +kernel
theorem dX0_readFigure_1 : decode mX0_readFigure.2.1 1 = .ok (.getfield 47, 3) := by decide +kernel
theorem dX0_readFigure_4 : decode mX0_readFigure.2.1 4 = .ok (.iconst 3, 1) := by decide +kernel
theorem dX0_readFigure_5 : decode mX0_readFigure.2.1 5 = .ok (.invokevirtual 67, 3) := by decide +kernel
theorem dX0_readFigure_8 : decode mX0_readFigure.2.1 8 = .ok (.ifCond .ne 5, 3) := by decide +kernel
theorem dX0_readFigure_11 : decode mX0_readFigure.2.1 11 = .ok (.iconst 0, 1) := by decide +kernel
theorem dX0_readFigure_12 : decode mX0_readFigure.2.1 12 = .ok (.ireturn, 1) := by decide +kernel
theorem dX0_readFigure_13 : decode mX0_readFigure.2.1 13 = .ok (.aload_n 0, 1) := by decide +kernel
theorem dX0_readFigure_14 : decode mX0_readFigure.2.1 14 = .ok (.getfield 35, 3) := by decide +kernel
theorem dX0_readFigure_17 : decode mX0_readFigure.2.1 17 = .ok (.aload_n 0, 1) := by decide +kernel
theorem dX0_readFigure_18 : decode mX0_readFigure.2.1 18 = .ok (.getfield 44, 3) := by decide +kernel
theorem dX0_readFigure_21 : decode mX0_readFigure.2.1 21 = .ok (.aload_n 1, 1) := by decide +kernel
theorem dX0_readFigure_22 : decode mX0_readFigure.2.1 22 = .ok (.aload_n 0, 1) := by decide +kernel
theorem dX0_readFigure_23 : decode mX0_readFigure.2.1 23 = .ok (.getfield 47, 3) := by decide +kernel
theorem dX0_readFigure_26 : decode mX0_readFigure.2.1 26 = .ok (.getfield 74, 3) := by decide +kernel
theorem dX0_readFigure_29 : decode mX0_readFigure.2.1 29 = .ok (.invokevirtual 104, 3) := by decide +kernel
theorem dX0_readFigure_32 : decode mX0_readFigure.2.1 32 = .ok (.iastore, 1) := by decide +kernel
theorem dX0_readFigure_33 : decode mX0_readFigure.2.1 33 = .ok (.aload_n 0, 1) := by decide +kernel
theorem dX0_readFigure_34 : decode mX0_readFigure.2.1 34 = .ok (.getfield 35, 3) := by decide +kernel
theorem dX0_readFigure_37 : decode mX0_readFigure.2.1 37 = .ok (.aload_n 0, 1) := by decide +kernel
theorem dX0_readFigure_38 : decode mX0_readFigure.2.1 38 = .ok (.getfield 44, 3) := by decide +kernel
theorem dX0_readFigure_41 : decode mX0_readFigure.2.1 41 = .ok (.iaload, 1) := by decide +kernel
theorem dX0_readFigure_42 : decode mX0_readFigure.2.1 42 = .ok (.iconst (-1), 1) := by decide +kernel
theorem dX0_readFigure_43 : decode mX0_readFigure.2.1 43 = .ok (.if_icmp .ne 14, 3) := by decide +kernel
theorem dX0_readFigure_46 : decode mX0_readFigure.2.1 46 = .ok (.aload_n 0, 1) := by decide +kernel
theorem dX0_readFigure_47 : decode mX0_readFigure.2.1 47 = .ok (.getfield 47, 3) := by decide +kernel
theorem dX0_readFigure_50 : decode mX0_readFigure.2.1 50 = .ok (.iconst 3, 1) := by decide +kernel
theorem dX0_readFigure_51 : decode mX0_readFigure.2.1 51 = .ok (.invokevirtual 71, 3) := by decide +kernel
theorem dX0_readFigure_54 : decode mX0_readFigure.2.1 54 = .ok (.ifCond .eq 7, 3) := by decide +kernel
theorem dX0_readFigure_57 : decode mX0_readFigure.2.1 57 = .ok (.iconst 1, 1) := by decide +kernel
theorem dX0_readFigure_58 : decode mX0_readFigure.2.1 58 = .ok (.goto 4, 3) := by decide +kernel
theorem dX0_readFigure_61 : decode mX0_readFigure.2.1 61 = .ok (.iconst 0, 1) := by decide +kernel
theorem dX0_readFigure_62 : decode mX0_readFigure.2.1 62 = .ok (.ireturn, 1) := by decide +kernel
set_option maxRecDepth 4000 in
theorem ev_X0_readFigure {m : Mem}  (htk : TkS m) (hi : 0 ≤ m 1 12 ∧ m 1 12 < m 1 11) (hn : 0 ≤ m 70 11 ∧ m 70 11 < 40) (hdn : DnOk m 8) : Ev 0 3 mX0_readFigure [vr 70, vr 8] m (fun r m' => (ffF m (m 1 12) = 0 ∧ r = 1 ∧ PT m m' (m 1 12 + 1) (m 1 6) ∧ ∀ b : Nat, b ≠ 1 → m' b = wr m 73 (m 70 11) (nameAt m (8 + 1) (m 6 (m 1 12)) (m 8 2)) b) ∨ (ffF m (m 1 12) ≠ 0 ∧ r = 0 ∧ PT m m' (m 1 12 + 1) (ffF m (m 1 12)) ∧ ∀ b : Nat, b ≠ 1 → b ≠ 73 → m' b = m b)) := by
  refine Ev.of (L := [vr 70, vr 8]) (by decide +kernel) rfl (Nat.le_of_ble_eq_true rfl) rfl (fun t ht => by cases ht; first | exact Or.inl rfl | exact Or.inr (Or.inl rfl) | exact Or.inr (Or.inr rfl)) (fun hcan => ?_)
  obtain ⟨⟨hd0, hd1⟩, ⟨hd2, hd3⟩, ⟨hd4, hd5⟩, ⟨hd6, hd7⟩, ⟨hd8, hd9⟩, hdf, hdp, hdq⟩ := id hdn
  refine go_aload_n dX0_readFigure_0 rfl ?_
  refine go_getf_p (b := 1) dX0_readFigure_1 fl_0_47 ob_70 rfl pt_70_5 ?_
  refine go_iconst dX0_readFigure_4 ?_
  refine go_callV_z (as := [vi 3]) (S := []) (b := 1) (ev_X7_wantKind (m := m) (k := 3) (by have := htk.1; omega) (by first | assumption | omega | exact ⟨by omega, by omega⟩ | (constructor <;> omega))) rfl dX0_readFigure_5 cv_0_67 rfl rfl ob_1 rfl (by decide) (Nat.le_of_ble_eq_true rfl) (fun r_5 m_5 hr_5 ho_5 => ?_)
  have rwf_5 : ∀ b : Nat, b ≠ 1 → m_5 b = m b := by
    rcases hr_5 with h | h
    · exact h.2.2.2
    · exact h.2.2.2
  refine go_if_ne (tgt := 13) dX0_readFigure_8 (by decide) ⟨by omega, by omega⟩ (fun h_8 => ?_) (fun h_8 => ?_)
  · obtain ⟨z_5, -, a_5⟩ := hr_5.resolve_right (fun h => h_8 h.2.1)
    have v5 : m_5 1 5 = m 6 (m 1 12) := by have h := a_5.1.2.2.2.1; rw [show m 1 12 + 1 - 1 = m 1 12 by omega] at h; exact h
    have hpt : PT m (wr m_5 73 (m 70 11) (nameAt m (8 + 1) (m 6 (m 1 12)) (m 8 2))) (m 1 12 + 1) (m 1 6) := by have h := a_5.1; unfold PT at h ⊢; rw [wr_row (by decide)]; exact h
    refine go_aload_n dX0_readFigure_13 rfl ?_
    refine go_getf_p (b := 73) dX0_readFigure_14 fl_0_35 ob_70 rfl pt_70_8 ?_
    refine go_aload_n dX0_readFigure_17 rfl ?_
    refine go_getf_i (ki := 11) dX0_readFigure_18 fl_0_44 ob_70 rfl rfl (fun hf_18 => ?_)
    rw [show (m_5 70 11 : Int) = (m 70 11) from by rw [rwf_5 70 (by decide)]] at hf_18 ⊢
    refine go_aload_n dX0_readFigure_21 rfl ?_
    refine go_aload_n dX0_readFigure_22 rfl ?_
    refine go_getf_p (b := 1) dX0_readFigure_23 fl_0_47 ob_70 rfl pt_70_5 ?_
    refine go_getf_l (ki := 5) dX0_readFigure_26 fl_0_74 ob_1 rfl rfl (fun hf_26 => ?_)
    rw [show (m_5 1 5 : Int) = (m 6 (m 1 12)) from v5] at hf_26 ⊢
    refine go_callVp_i (as := [vl (m 6 (m 1 12))]) (S := [vi (m 70 11), vr 73]) (b := 8) (ev_X1_figureNamed (m := m_5) (d := 8) (v := (m 6 (m 1 12))) isDn_8 (by rw [rwf_5 8 (by decide)]; omega) (by first | assumption | omega | exact ⟨by omega, by omega⟩ | (constructor <;> omega))) rfl dX0_readFigure_29 cv_0_104 rfl rfl ob_8 rfl (by decide) (Nat.le_of_ble_eq_true rfl) (fun r_29 hr_29 ho_29 => ?_)
    have hr_29 : r_29 = nameAt m (8 + 1) (m 6 (m 1 12)) (m 8 2) := by rw [hr_29]; unfold nameAt; rw [rwf_5 8 (by decide), rwf_5 (8 + 1) (by decide)]
    have hnb := nameAt_b m (8 + 1) (m 6 (m 1 12)) (m 8 2)
    rw [← hr_29] at hnb
    refine go_iastore dX0_readFigure_32 ar_73 (by omega) (by omega) ⟨by omega, by omega⟩ ?_
    refine go_aload_n dX0_readFigure_33 rfl ?_
    refine go_getf_p (b := 73) dX0_readFigure_34 fl_0_35 ob_70 rfl pt_70_8 ?_
    refine go_aload_n dX0_readFigure_37 rfl ?_
    refine go_getf_i (ki := 11) dX0_readFigure_38 fl_0_44 ob_70 rfl rfl (fun hf_38 => ?_)
    rw [show ((wr m_5 73 (m 70 11) r_29) 70 11 : Int) = (m 70 11) from by rw [wr_na (by omega), rwf_5 70 (by decide)]] at hf_38 ⊢
    refine go_iaload dX0_readFigure_41 ar_73 (by omega) (by omega) (fun he_41 => ?_)
    rw [show ((wr m_5 73 (m 70 11) r_29) 73 (m 70 11) : Int) = r_29 from by rw [wr_self]] at he_41 ⊢
    refine go_iconst dX0_readFigure_42 ?_
    refine go_icmp_ne (tgt := 57) dX0_readFigure_43 (by decide) ⟨by omega, by omega⟩ ⟨by omega, by omega⟩ (fun h_43 => ?_) (fun h_43 => ?_)
    · refine go_iconst dX0_readFigure_57 ?_
      refine go_goto (tgt := 62) dX0_readFigure_58 (by decide) ?_
      refine go_ret (v := 1) rfl dX0_readFigure_62 (okZ (by first | exact Or.inl rfl | exact Or.inr rfl | assumption | omega)) ?_
      first
      | (exfalso; omega)
      | (have e : ffF m (m 1 12) = 0 := (by unfold ffF; rw [if_pos z_5, if_neg (by omega)])
         rw [hr_29]
         exact Or.inl ⟨e, rfl, hpt, fun b hb => by funext j; simp only [wr, rwf_5 b hb]⟩)
      | (have e : ffF m (m 1 12) = 3 := (by unfold ffF; rw [if_pos z_5, if_pos (by omega)])
         rw [e]
         refine Or.inr ⟨by omega, rfl, by rw [hr_51.2, hr_29]; exact hpt.flt, fun b hb h73 => ?_⟩
         rw [hr_51.2, wr_row hb, wr_row h73, rwf_5 b hb])
    · refine go_aload_n dX0_readFigure_46 rfl ?_
      refine go_getf_p (b := 1) dX0_readFigure_47 fl_0_47 ob_70 rfl pt_70_5 ?_
      refine go_iconst dX0_readFigure_50 ?_
      refine go_callV_z (as := [vi 3]) (S := []) (b := 1) (ev_X7_refuse (m := (wr m_5 73 (m 70 11) r_29)) (k := 3) (by first | assumption | omega | exact ⟨by omega, by omega⟩ | (constructor <;> omega))) rfl dX0_readFigure_51 cv_0_71 rfl rfl ob_1 rfl (by decide) (Nat.le_of_ble_eq_true rfl) (fun r_51 m_51 hr_51 ho_51 => ?_)
      refine go_if_eq (tgt := 61) dX0_readFigure_54 (by decide) ⟨by omega, by omega⟩ (fun h_54 => ?_) (fun h_54 => ?_)
      · refine go_iconst dX0_readFigure_61 ?_
        refine go_ret (v := 0) rfl dX0_readFigure_62 (okZ (by first | exact Or.inl rfl | exact Or.inr rfl | assumption | omega)) ?_
        first
        | (exfalso; omega)
        | (have e : ffF m (m 1 12) = 0 := (by unfold ffF; rw [if_pos z_5, if_neg (by omega)])
           rw [hr_29]
           exact Or.inl ⟨e, rfl, hpt, fun b hb => by funext j; simp only [wr, rwf_5 b hb]⟩)
        | (have e : ffF m (m 1 12) = 3 := (by unfold ffF; rw [if_pos z_5, if_pos (by omega)])
           rw [e]
           refine Or.inr ⟨by omega, rfl, by rw [hr_51.2, hr_29]; exact hpt.flt, fun b hb h73 => ?_⟩
           rw [hr_51.2, wr_row hb, wr_row h73, rwf_5 b hb])
      · refine go_iconst dX0_readFigure_57 ?_
        refine go_goto (tgt := 62) dX0_readFigure_58 (by decide) ?_
        refine go_ret (v := 1) rfl dX0_readFigure_62 (okZ (by first | exact Or.inl rfl | exact Or.inr rfl | assumption | omega)) ?_
        first
        | (exfalso; omega)
        | (have e : ffF m (m 1 12) = 0 := (by unfold ffF; rw [if_pos z_5, if_neg (by omega)])
           rw [hr_29]
           exact Or.inl ⟨e, rfl, hpt, fun b hb => by funext j; simp only [wr, rwf_5 b hb]⟩)
        | (have e : ffF m (m 1 12) = 3 := (by unfold ffF; rw [if_pos z_5, if_pos (by omega)])
           rw [e]
           refine Or.inr ⟨by omega, rfl, by rw [hr_51.2, hr_29]; exact hpt.flt, fun b hb h73 => ?_⟩
           rw [hr_51.2, wr_row hb, wr_row h73, rwf_5 b hb])
  · refine go_iconst dX0_readFigure_11 ?_
    refine go_ret (v := 0) rfl dX0_readFigure_12 (okZ (by first | exact Or.inl rfl | exact Or.inr rfl | assumption | omega)) ?_
    obtain ⟨z, -, a⟩ := hr_5.resolve_left (fun h => by omega)
    have e : ffF m (m 1 12) = 1 := by unfold ffF; rw [if_neg z]
    rw [e]
    exact Or.inr ⟨by omega, rfl, a.1, fun b hb _ => rwf_5 b hb⟩
theorem dX0_readDeed_0 : decode mX0_readDeed.2.1 0 = .ok (.aload_n 0, 1) := by decide +kernel
theorem dX0_readDeed_1 : decode mX0_readDeed.2.1 1 = .ok (.getfield 47, 3) := by decide +kernel
theorem dX0_readDeed_4 : decode mX0_readDeed.2.1 4 = .ok (.invokevirtual 57, 3) := by decide +kernel
theorem dX0_readDeed_7 : decode mX0_readDeed.2.1 7 = .ok (.aload_n 0, 1) := by decide +kernel
theorem dX0_readDeed_8 : decode mX0_readDeed.2.1 8 = .ok (.getfield 28, 3) := by decide +kernel
theorem dX0_readDeed_11 : decode mX0_readDeed.2.1 11 = .ok (.aload_n 0, 1) := by decide +kernel
theorem dX0_readDeed_12 : decode mX0_readDeed.2.1 12 = .ok (.getfield 44, 3) := by decide +kernel
theorem dX0_readDeed_15 : decode mX0_readDeed.2.1 15 = .ok (.aload_n 0, 1) := by decide +kernel
theorem dX0_readDeed_16 : decode mX0_readDeed.2.1 16 = .ok (.getfield 47, 3) := by decide +kernel
theorem dX0_readDeed_19 : decode mX0_readDeed.2.1 19 = .ok (.getfield 60, 3) := by decide +kernel
theorem dX0_readDeed_22 : decode mX0_readDeed.2.1 22 = .ok (.iastore, 1) := by decide +kernel
theorem dX0_readDeed_23 : decode mX0_readDeed.2.1 23 = .ok (.aload_n 0, 1) := by decide +kernel
theorem dX0_readDeed_24 : decode mX0_readDeed.2.1 24 = .ok (.getfield 47, 3) := by decide +kernel
theorem dX0_readDeed_27 : decode mX0_readDeed.2.1 27 = .ok (.getfield 60, 3) := by decide +kernel
theorem dX0_readDeed_30 : decode mX0_readDeed.2.1 30 = .ok (.tableswitch 54 205 207 #[26, 47, 52], 26) := by decide +kernel
theorem dX0_readDeed_56 : decode mX0_readDeed.2.1 56 = .ok (.aload_n 0, 1) := by decide +kernel
theorem dX0_readDeed_57 : decode mX0_readDeed.2.1 57 = .ok (.aload_n 1, 1) := by decide +kernel
theorem dX0_readDeed_58 : decode mX0_readDeed.2.1 58 = .ok (.invokevirtual 98, 3) := by decide +kernel
theorem dX0_readDeed_61 : decode mX0_readDeed.2.1 61 = .ok (.ifCond .eq 14, 3) := by decide +kernel
theorem dX0_readDeed_64 : decode mX0_readDeed.2.1 64 = .ok (.aload_n 0, 1) := by decide +kernel
theorem dX0_readDeed_65 : decode mX0_readDeed.2.1 65 = .ok (.invokevirtual 101, 3) := by decide +kernel
theorem dX0_readDeed_68 : decode mX0_readDeed.2.1 68 = .ok (.ifCond .eq 7, 3) := by decide +kernel
theorem dX0_readDeed_71 : decode mX0_readDeed.2.1 71 = .ok (.iconst 1, 1) := by decide +kernel
theorem dX0_readDeed_72 : decode mX0_readDeed.2.1 72 = .ok (.goto 4, 3) := by decide +kernel
theorem dX0_readDeed_75 : decode mX0_readDeed.2.1 75 = .ok (.iconst 0, 1) := by decide +kernel
theorem dX0_readDeed_76 : decode mX0_readDeed.2.1 76 = .ok (.ireturn, 1) := by decide +kernel
theorem dX0_readDeed_77 : decode mX0_readDeed.2.1 77 = .ok (.aload_n 0, 1) := by decide +kernel
theorem dX0_readDeed_78 : decode mX0_readDeed.2.1 78 = .ok (.invokevirtual 101, 3) := by decide +kernel
theorem dX0_readDeed_81 : decode mX0_readDeed.2.1 81 = .ok (.ireturn, 1) := by decide +kernel
theorem dX0_readDeed_82 : decode mX0_readDeed.2.1 82 = .ok (.iconst 1, 1) := by decide +kernel
theorem dX0_readDeed_83 : decode mX0_readDeed.2.1 83 = .ok (.ireturn, 1) := by decide +kernel
theorem dX0_readDeed_84 : decode mX0_readDeed.2.1 84 = .ok (.aload_n 0, 1) := by decide +kernel
theorem dX0_readDeed_85 : decode mX0_readDeed.2.1 85 = .ok (.getfield 47, 3) := by decide +kernel
theorem dX0_readDeed_88 : decode mX0_readDeed.2.1 88 = .ok (.iconst 1, 1) := by decide +kernel
theorem dX0_readDeed_89 : decode mX0_readDeed.2.1 89 = .ok (.invokevirtual 71, 3) := by decide +kernel
theorem dX0_readDeed_92 : decode mX0_readDeed.2.1 92 = .ok (.ireturn, 1) := by decide +kernel
set_option maxRecDepth 4000 in
theorem ev_X0_readDeed {m : Mem}  (hcu : PT m m (m 1 12) (m 1 6)) (htk : TkS m) (hi : 0 ≤ m 1 12 ∧ m 1 12 < m 1 11) (hn : 0 ≤ m 70 11 ∧ m 70 11 < 40) (hdn : DnOk m 8) : Ev 0 4 mX0_readDeed [vr 70, vr 8] m (fun r m' => BkPost m r m' (deF m (m 1 12)) (deX m (m 1 12))) := by
  refine Ev.of (L := [vr 70, vr 8]) (by decide +kernel) rfl (Nat.le_of_ble_eq_true rfl) rfl (fun t ht => by cases ht; first | exact Or.inl rfl | exact Or.inr (Or.inl rfl) | exact Or.inr (Or.inr rfl)) (fun hcan => ?_)
  obtain ⟨⟨hd0, hd1⟩, ⟨hd2, hd3⟩, ⟨hd4, hd5⟩, ⟨hd6, hd7⟩, ⟨hd8, hd9⟩, hdf, hdp, hdq⟩ := id hdn
  have hna := nxt_adv m
  have rwn : ∀ b : Nat, b ≠ 1 → nxt m b = m b := hna.2
  have tpn : TP m (nxt m) (m 1 12 + 1) := adv_ok (TP.rf hcu) hna
  have v2n : nxt m 1 2 = m 4 (m 1 12) := by have h := hna.1.2.1; rw [show m 1 12 + 1 - 1 = m 1 12 by omega] at h; exact h
  have tpd : TP m (wr (nxt m) 71 (m 70 11) (m 4 (m 1 12))) (m 1 12 + 1) := TP.w tpn (by decide) (by decide) (by decide) (by decide)
  have rwd : ∀ b : Nat, b ≠ 1 → b ≠ 71 → (wr (nxt m) 71 (m 70 11) (m 4 (m 1 12))) b = m b := fun b h1 h2 => by rw [wr_row h2, rwn b h1]
  have hltd : 2 ≤ m 4 (m 1 12) → m 1 12 + 1 < m 1 11 := fun h => htk.lt (by omega) h
  refine go_aload_n dX0_readDeed_0 rfl ?_
  refine go_getf_p (b := 1) dX0_readDeed_1 fl_0_47 ob_70 rfl pt_70_5 ?_
  refine go_callV_v (as := []) (S := []) (b := 1) (ev_X7_next (m := m)  (by have := htk.1; omega)) rfl dX0_readDeed_4 cv_0_57 rfl rfl ob_1 rfl (by decide) (Nat.le_of_ble_eq_true rfl) (fun m_4 hr_4 => ?_)
  subst hr_4
  refine go_aload_n dX0_readDeed_7 rfl ?_
  refine go_getf_p (b := 71) dX0_readDeed_8 fl_0_28 ob_70 rfl pt_70_6 ?_
  refine go_aload_n dX0_readDeed_11 rfl ?_
  refine go_getf_i (ki := 11) dX0_readDeed_12 fl_0_44 ob_70 rfl rfl (fun hf_12 => ?_)
  rw [show ((nxt m) 70 11 : Int) = (m 70 11) from by rw [rwn 70 (by decide)]] at hf_12 ⊢
  refine go_aload_n dX0_readDeed_15 rfl ?_
  refine go_getf_p (b := 1) dX0_readDeed_16 fl_0_47 ob_70 rfl pt_70_5 ?_
  refine go_getf_i (ki := 2) dX0_readDeed_19 fl_0_60 ob_1 rfl rfl (fun hf_19 => ?_)
  rw [show ((nxt m) 1 2 : Int) = (m 4 (m 1 12)) from v2n] at hf_19 ⊢
  refine go_iastore dX0_readDeed_22 ar_71 (by omega) (by omega) ⟨by omega, by omega⟩ ?_
  refine go_aload_n dX0_readDeed_23 rfl ?_
  refine go_getf_p (b := 1) dX0_readDeed_24 fl_0_47 ob_70 rfl pt_70_5 ?_
  refine go_getf_i (ki := 2) dX0_readDeed_27 fl_0_60 ob_1 rfl rfl (fun hf_27 => ?_)
  rw [show ((wr (nxt m) 71 (m 70 11) (m 4 (m 1 12))) 1 2 : Int) = (m 4 (m 1 12)) from by rw [wr_na (by decide), v2n]] at hf_27 ⊢
  refine go_tswitch (tgt := 84) dX0_readDeed_30 ⟨by omega, by omega⟩ (by decide) (fun n_30 h_30 hb_30 => ?_) (fun h_30 => ?_)
  · match n_30, h_30, hb_30 with
    | 0, h_30, hb_30 =>
      refine ⟨26, 56, rfl, by decide, ?_⟩
      refine go_aload_n dX0_readDeed_56 rfl ?_
      refine go_aload_n dX0_readDeed_57 rfl ?_
      refine go_callV_z (as := [vr 8]) (S := []) (b := 70) (ev_X0_readFigure (m := (wr (nxt m) 71 (m 70 11) (m 4 (m 1 12))))  (htk.tp tpd) (by rw [tpd.1, tpd.2.1]; have := hltd (by omega); omega) (by rw [rwd 70 (by decide) (by decide)]; exact hn) (hdn.congr (fun k hk => rwd _ (by omega) (by omega)))) rfl dX0_readDeed_58 cv_0_98 rfl rfl ob_70 rfl (by decide) (Nat.le_of_ble_eq_true rfl) (fun r_58 m_58 hr_58 ho_58 => ?_)
      have eff : ffF (wr (nxt m) 71 (m 70 11) (m 4 (m 1 12))) ((wr (nxt m) 71 (m 70 11) (m 4 (m 1 12))) 1 12) = ffF m (m 1 12 + 1) := by rw [tpd.1]; unfold ffF nameAt; rw [tpd.2.2.1, tpd.2.2.2.2.1, rwd 8 (by decide) (by decide), rwd (8 + 1) (by decide) (by decide)]
      rw [eff] at hr_58
      refine go_if_eq (tgt := 75) dX0_readDeed_61 (by decide) ⟨by omega, by omega⟩ (fun h_61 => ?_) (fun h_61 => ?_)
      · refine go_iconst dX0_readDeed_75 ?_
        refine go_ret (v := 0) rfl dX0_readDeed_76 (okZ (by first | exact Or.inl rfl | exact Or.inr rfl | assumption | omega)) ?_
        have e205 : m 4 (m 1 12) = 205 := by omega
        rw [deF_205 e205, deX_205 e205]
        first
        | (obtain ⟨w1, -, w2⟩ := hr_65.resolve_left (fun h => by omega)
           refine Or.inr ⟨rfl, ?_⟩
           rw [if_neg (fun h => h x1), if_pos w1]
           refine ⟨w1, ?_, fun b hb h2 => ?_⟩
           · have h := adv_no tpf w2
             exact h
           · rw [w2.2 b hb, x3 b hb, wr_row (by omega), wr_row (by omega), rwn b hb])
        | (obtain ⟨w1, -, w2, w3⟩ := hr_58.resolve_left (fun h => by omega)
           refine Or.inr ⟨rfl, ?_⟩
           rw [if_pos w1]
           refine ⟨w1, pt_tr tpd w2, fun b hb h2 => ?_⟩
           rw [w3 b hb (by omega), wr_row (by omega), rwn b hb])
      · obtain ⟨x1, -, x2, x3⟩ := hr_58.resolve_right (fun h => h_61 h.2.1)
        have tpf : TP m m_58 (m 1 12 + 2) := by
          have h := pt_tr tpd x2
          rw [show (wr (nxt m) 71 (m 70 11) (m 4 (m 1 12))) 1 6 = m 1 6 from tpd.2.2.2.2.2.2.2.2.2.2.1, show m 1 12 + 1 + 1 = m 1 12 + 2 by omega] at h
          exact tp_of h (by rw [x3 4 (by decide), wr_row (by decide)]; exact tpd.2.2.1) (by rw [x3 5 (by decide), wr_row (by decide)]; exact tpd.2.2.2.1) (by rw [x3 6 (by decide), wr_row (by decide)]; exact tpd.2.2.2.2.1)
        have hk1 : m 4 (m 1 12 + 1) = 3 := by unfold ffF at x1; split at x1; assumption; omega
        have hlt2 : m 1 12 + 2 < m 1 11 := by have h := htk.lt (k := m 1 12 + 1) (hltd (by omega)) (by omega); omega
        refine go_aload_n dX0_readDeed_64 rfl ?_
        refine go_callV_z (as := []) (S := []) (b := 70) (ev_X0_readSide (m := m_58)  (htk.tp tpf) (by rw [tpf.1, tpf.2.1]; omega) (by rw [x3 70 (by decide), wr_row (by decide), rwd 70 (by decide) (by decide)]; exact hn)) rfl dX0_readDeed_65 cv_0_101 rfl rfl ob_70 rfl (by decide) (Nat.le_of_ble_eq_true rfl) (fun r_65 m_65 hr_65 ho_65 => ?_)
        have esd : sdF m_58 (m_58 1 12) = sdF m (m 1 12 + 2) := by rw [tpf.1]; unfold sdF; rw [tpf.2.2.1]
        rw [esd] at hr_65
        refine go_if_eq (tgt := 75) dX0_readDeed_68 (by decide) ⟨by omega, by omega⟩ (fun h_68 => ?_) (fun h_68 => ?_)
        · refine go_iconst dX0_readDeed_75 ?_
          refine go_ret (v := 0) rfl dX0_readDeed_76 (okZ (by first | exact Or.inl rfl | exact Or.inr rfl | assumption | omega)) ?_
          have e205 : m 4 (m 1 12) = 205 := by omega
          rw [deF_205 e205, deX_205 e205]
          first
          | (obtain ⟨w1, -, w2⟩ := hr_65.resolve_left (fun h => by omega)
             refine Or.inr ⟨rfl, ?_⟩
             rw [if_neg (fun h => h x1), if_pos w1]
             refine ⟨w1, ?_, fun b hb h2 => ?_⟩
             · have h := adv_no tpf w2
               exact h
             · rw [w2.2 b hb, x3 b hb, wr_row (by omega), wr_row (by omega), rwn b hb])
          | (obtain ⟨w1, -, w2, w3⟩ := hr_58.resolve_left (fun h => by omega)
             refine Or.inr ⟨rfl, ?_⟩
             rw [if_pos w1]
             refine ⟨w1, pt_tr tpd w2, fun b hb h2 => ?_⟩
             rw [w3 b hb (by omega), wr_row (by omega), rwn b hb])
        · refine go_iconst dX0_readDeed_71 ?_
          refine go_goto (tgt := 76) dX0_readDeed_72 (by decide) ?_
          refine go_ret (v := 1) rfl dX0_readDeed_76 (okZ (by first | exact Or.inl rfl | exact Or.inr rfl | assumption | omega)) ?_
          have e205 : m 4 (m 1 12) = 205 := by omega
          rw [deF_205 e205, deX_205 e205]
          obtain ⟨w1, -, w2, w3⟩ := hr_65.resolve_right (fun h => h_68 h.2.1)
          refine Or.inl ⟨rfl, ?_⟩
          rw [if_neg (fun h => h x1), if_neg (fun h => h w1)]
          have hk2 : 209 ≤ m 4 (m 1 12 + 2) := by unfold sdF at w1; split at w1 <;> omega
          have hlt3 := htk.lt (k := m 1 12 + 2) hlt2 (by omega)
          refine ⟨rfl, (show m 1 12 + 3 < m 1 11 by omega), ?_, fun b hb => ?_⟩
          · have h := pt_tr tpf w2
            rw [show m_58 1 6 = m 1 6 from tpf.2.2.2.2.2.2.2.2.2.2.1, show m 1 12 + 2 + 1 = m 1 12 + 3 by omega] at h
            exact h
          · have y70 : m_58 70 = m 70 := by rw [x3 70 (by decide), wr_row (by decide), rwd 70 (by decide) (by decide)]
            have yn : nameAt (wr (nxt m) 71 (m 70 11) (m 4 (m 1 12))) (8 + 1) ((wr (nxt m) 71 (m 70 11) (m 4 (m 1 12))) 6 ((wr (nxt m) 71 (m 70 11) (m 4 (m 1 12))) 1 12)) ((wr (nxt m) 71 (m 70 11) (m 4 (m 1 12))) 8 2) = nameAt m (8 + 1) (m 6 (m 1 12 + 1)) (m 8 2) := by unfold nameAt; rw [tpd.1, tpd.2.2.2.2.1, rwd 8 (by decide) (by decide), rwd (8 + 1) (by decide) (by decide)]
            have x3b := x3 b hb
            rw [yn, rwd 70 (by decide) (by decide)] at x3b
            rw [w3 b hb, y70, tpf.1, tpf.2.2.1]
            funext j
            simp only [wr, x3b, rwn b hb]
    | 1, h_30, hb_30 =>
      refine ⟨47, 77, rfl, by decide, ?_⟩
      refine go_aload_n dX0_readDeed_77 rfl ?_
      refine go_callV_z (as := []) (S := []) (b := 70) (ev_X0_readSide (m := (wr (nxt m) 71 (m 70 11) (m 4 (m 1 12))))  (htk.tp tpd) (by rw [tpd.1, tpd.2.1]; have := hltd (by omega); omega) (by rw [rwd 70 (by decide) (by decide)]; exact hn)) rfl dX0_readDeed_78 cv_0_101 rfl rfl ob_70 rfl (by decide) (Nat.le_of_ble_eq_true rfl) (fun r_78 m_78 hr_78 ho_78 => ?_)
      have esd : sdF (wr (nxt m) 71 (m 70 11) (m 4 (m 1 12))) ((wr (nxt m) 71 (m 70 11) (m 4 (m 1 12))) 1 12) = sdF m (m 1 12 + 1) := by rw [tpd.1]; unfold sdF; rw [tpd.2.2.1]
      rw [esd] at hr_78
      refine go_ret (v := r_78) rfl dX0_readDeed_81 (okZ (by first | exact Or.inl rfl | exact Or.inr rfl | assumption | omega)) ?_
      have e206 : m 4 (m 1 12) = 206 := by omega
      rw [deF_206 e206, deX_206 e206]
      rcases hr_78 with ⟨w1, w0, w2, w3⟩ | ⟨w1, w0, w2⟩
      · rw [w0]
        refine Or.inl ⟨rfl, ?_⟩
        rw [if_neg (fun h => h w1)]
        have hk2 : 209 ≤ m 4 (m 1 12 + 1) := by unfold sdF at w1; split at w1 <;> omega
        have hlt3 := htk.lt (k := m 1 12 + 1) (hltd (by omega)) (by omega)
        refine ⟨rfl, show m 1 12 + 2 < m 1 11 by omega, ?_, fun b hb => ?_⟩
        · have h := pt_tr tpd w2
          rw [show (wr (nxt m) 71 (m 70 11) (m 4 (m 1 12))) 1 6 = m 1 6 from tpd.2.2.2.2.2.2.2.2.2.2.1, show m 1 12 + 1 + 1 = m 1 12 + 2 by omega] at h
          exact h
        · rw [w3 b hb, rwd 70 (by decide) (by decide), tpd.1, tpd.2.2.1]
          funext j
          simp only [wr, rwn b hb]
      · rw [w0]
        refine Or.inr ⟨rfl, ?_⟩
        rw [if_pos w1]
        refine ⟨w1, adv_no tpd w2, fun b hb h2 => ?_⟩
        rw [w2.2 b hb, wr_row (by omega), rwn b hb]
    | 2, h_30, hb_30 =>
      refine ⟨52, 82, rfl, by decide, ?_⟩
      refine go_iconst dX0_readDeed_82 ?_
      refine go_ret (v := 1) rfl dX0_readDeed_83 (okZ (by first | exact Or.inl rfl | exact Or.inr rfl | assumption | omega)) ?_
      rw [show deF m (m 1 12) = (0, m 1 12 + 1) by unfold deF; rw [if_neg (by omega), if_neg (by omega), if_pos (by omega)], show deX m (m 1 12) = wr m 71 (m 70 11) (m 4 (m 1 12)) by unfold deX; rw [if_neg (by omega), if_neg (by omega)]]
      exact Or.inl ⟨rfl, rfl, (show m 1 12 + 1 < m 1 11 from hltd (by omega)), tpd.2.2.2.2.2, fun b hb => by funext j; simp only [wr, rwn b hb]⟩
    | k + 3, h_30, hb_30 => exfalso; omega
  · refine go_aload_n dX0_readDeed_84 rfl ?_
    refine go_getf_p (b := 1) dX0_readDeed_85 fl_0_47 ob_70 rfl pt_70_5 ?_
    refine go_iconst dX0_readDeed_88 ?_
    refine go_callV_z (as := [vi 1]) (S := []) (b := 1) (ev_X7_refuse (m := (wr (nxt m) 71 (m 70 11) (m 4 (m 1 12)))) (k := 1) (by first | assumption | omega | exact ⟨by omega, by omega⟩ | (constructor <;> omega))) rfl dX0_readDeed_89 cv_0_71 rfl rfl ob_1 rfl (by decide) (Nat.le_of_ble_eq_true rfl) (fun r_89 m_89 hr_89 ho_89 => ?_)
    refine go_ret (v := r_89) rfl dX0_readDeed_92 (okZ (by first | exact Or.inl rfl | exact Or.inr rfl | assumption | omega)) ?_
    rw [hr_89.2]
    rw [show deF m (m 1 12) = (1, m 1 12) by unfold deF; rw [if_neg (by omega), if_neg (by omega), if_neg (by omega)]]
    exact Or.inr ⟨by omega, (show (1 : Int) ≠ 0 by decide), tpd.2.2.2.2.2.flt, fun b hb h2 => by rw [wr_row hb, wr_row (by omega), rwn b hb]⟩
theorem dX0_readHours_0 : decode mX0_readHours.2.1 0 = .ok (.aload_n 0, 1) := by decide +kernel
theorem dX0_readHours_1 : decode mX0_readHours.2.1 1 = .ok (.getfield 28, 3) := by decide +kernel
theorem dX0_readHours_4 : decode mX0_readHours.2.1 4 = .ok (.aload_n 0, 1) := by decide +kernel
theorem dX0_readHours_5 : decode mX0_readHours.2.1 5 = .ok (.getfield 44, 3) := by decide +kernel
theorem dX0_readHours_8 : decode mX0_readHours.2.1 8 = .ok (.sipush 208, 3) := by decide +kernel
theorem dX0_readHours_11 : decode mX0_readHours.2.1 11 = .ok (.iastore, 1) := by decide +kernel
theorem dX0_readHours_12 : decode mX0_readHours.2.1 12 = .ok (.aload_n 0, 1) := by decide +kernel
theorem dX0_readHours_13 : decode mX0_readHours.2.1 13 = .ok (.getfield 47, 3) := by decide +kernel
theorem dX0_readHours_16 : decode mX0_readHours.2.1 16 = .ok (.iconst 1, 1) := by decide +kernel
theorem dX0_readHours_17 : decode mX0_readHours.2.1 17 = .ok (.bipush 60, 2) := by decide +kernel
theorem dX0_readHours_19 : decode mX0_readHours.2.1 19 = .ok (.invokevirtual 91, 3) := by decide +kernel
theorem dX0_readHours_22 : decode mX0_readHours.2.1 22 = .ok (.ifCond .ne 5, 3) := by decide +kernel
theorem dX0_readHours_25 : decode mX0_readHours.2.1 25 = .ok (.iconst 0, 1) := by decide +kernel
theorem dX0_readHours_26 : decode mX0_readHours.2.1 26 = .ok (.ireturn, 1) := by decide +kernel
theorem dX0_readHours_27 : decode mX0_readHours.2.1 27 = .ok (.aload_n 0, 1) := by decide +kernel
theorem dX0_readHours_28 : decode mX0_readHours.2.1 28 = .ok (.getfield 41, 3) := by decide +kernel
theorem dX0_readHours_31 : decode mX0_readHours.2.1 31 = .ok (.aload_n 0, 1) := by decide +kernel
theorem dX0_readHours_32 : decode mX0_readHours.2.1 32 = .ok (.getfield 44, 3) := by decide +kernel
theorem dX0_readHours_35 : decode mX0_readHours.2.1 35 = .ok (.aload_n 0, 1) := by decide +kernel
theorem dX0_readHours_36 : decode mX0_readHours.2.1 36 = .ok (.getfield 47, 3) := by decide +kernel
theorem dX0_readHours_39 : decode mX0_readHours.2.1 39 = .ok (.getfield 95, 3) := by decide +kernel
theorem dX0_readHours_42 : decode mX0_readHours.2.1 42 = .ok (.iastore, 1) := by decide +kernel
theorem dX0_readHours_43 : decode mX0_readHours.2.1 43 = .ok (.iconst 1, 1) := by decide +kernel
theorem dX0_readHours_44 : decode mX0_readHours.2.1 44 = .ok (.ireturn, 1) := by decide +kernel
set_option maxRecDepth 4000 in
theorem ev_X0_readHours {m : Mem}  (hcu : PT m m (m 1 12) (m 1 6)) (htk : TkS m) (hi : 0 ≤ m 1 12 ∧ m 1 12 < m 1 11) (hn : 0 ≤ m 70 11 ∧ m 70 11 < 40) : Ev 0 4 mX0_readHours [vr 70] m (fun r m' => BkPost m r m' (if numF (m 4) (vN m) (m 1 12) 1 60 ≠ 0 then (numF (m 4) (vN m) (m 1 12) 1 60, m 1 12) else (0, m 1 12 + 1)) (wr (wr m 71 (m 70 11) 208) 75 (m 70 11) (vN m (m 1 12)))) := by
  refine Ev.of (L := [vr 70]) (by decide +kernel) rfl (Nat.le_of_ble_eq_true rfl) rfl (fun t ht => by cases ht; first | exact Or.inl rfl | exact Or.inr (Or.inl rfl) | exact Or.inr (Or.inr rfl)) (fun hcan => ?_)
  have tph : TP m (wr m 71 (m 70 11) 208) (m 1 12) := TP.w (TP.rf hcu) (by decide) (by decide) (by decide) (by decide)
  refine go_aload_n dX0_readHours_0 rfl ?_
  refine go_getf_p (b := 71) dX0_readHours_1 fl_0_28 ob_70 rfl pt_70_6 ?_
  refine go_aload_n dX0_readHours_4 rfl ?_
  refine go_getf_i (ki := 11) dX0_readHours_5 fl_0_44 ob_70 rfl rfl (fun hf_5 => ?_)
  refine go_sipush dX0_readHours_8 (by decide) ?_
  refine go_iastore dX0_readHours_11 ar_71 (by omega) (by omega) ⟨by omega, by omega⟩ ?_
  refine go_aload_n dX0_readHours_12 rfl ?_
  refine go_getf_p (b := 1) dX0_readHours_13 fl_0_47 ob_70 rfl pt_70_5 ?_
  refine go_iconst dX0_readHours_16 ?_
  refine go_bipush dX0_readHours_17 (by decide) ?_
  refine go_callV_z (as := [vi 1, vi 60]) (S := []) (b := 1) (ev_X7_wantNumeral (m := (wr m 71 (m 70 11) 208)) (lo := 1) (hi := 60) (by rw [tph.1, tph.2.1]; have := htk.1; omega) (by first | assumption | omega | exact ⟨by omega, by omega⟩ | (constructor <;> omega)) (by first | assumption | omega | exact ⟨by omega, by omega⟩ | (constructor <;> omega))) rfl dX0_readHours_19 cv_0_91 rfl rfl ob_1 rfl (by decide) (Nat.le_of_ble_eq_true rfl) (fun r_19 m_19 hr_19 ho_19 => ?_)
  have rwf_19 : ∀ b : Nat, b ≠ 1 → m_19 b = (wr m 71 (m 70 11) 208) b := by
    rcases hr_19 with h | h
    · exact h.2.2.2
    · exact h.2.2.2
  have hF : numF ((wr m 71 (m 70 11) 208) 4) (vN (wr m 71 (m 70 11) 208)) ((wr m 71 (m 70 11) 208) 1 12) 1 60 = numF (m 4) (vN m) (m 1 12) 1 60 := by rw [tph.1, tph.2.2.1, vN_congr tph.2.2.2.2.1]
  rw [hF] at hr_19
  refine go_if_ne (tgt := 27) dX0_readHours_22 (by decide) ⟨by omega, by omega⟩ (fun h_22 => ?_) (fun h_22 => ?_)
  · obtain ⟨z_19, -, a_19⟩ := hr_19.resolve_right (fun h => h_22 h.2.1)
    have hz := numF_0 z_19
    have tp2 := adv_ok tph a_19
    have v4 : m_19 1 4 = vN m (m 1 12) := by have h := tp2.2.2.2.2.2.2.2.2.2.1; rw [show m 1 12 + 1 - 1 = m 1 12 by omega] at h; exact h
    refine go_aload_n dX0_readHours_27 rfl ?_
    refine go_getf_p (b := 75) dX0_readHours_28 fl_0_41 ob_70 rfl pt_70_10 ?_
    refine go_aload_n dX0_readHours_31 rfl ?_
    refine go_getf_i (ki := 11) dX0_readHours_32 fl_0_44 ob_70 rfl rfl (fun hf_32 => ?_)
    rw [show (m_19 70 11 : Int) = (m 70 11) from by rw [rwf_19 70 (by decide), wr_na (by omega)]] at hf_32 ⊢
    refine go_aload_n dX0_readHours_35 rfl ?_
    refine go_getf_p (b := 1) dX0_readHours_36 fl_0_47 ob_70 rfl pt_70_5 ?_
    refine go_getf_i (ki := 4) dX0_readHours_39 fl_0_95 ob_1 rfl rfl (fun hf_39 => ?_)
    rw [show (m_19 1 4 : Int) = (vN m (m 1 12)) from v4] at hf_39 ⊢
    refine go_iastore dX0_readHours_42 ar_75 (by omega) (by omega) ⟨by omega, by omega⟩ ?_
    refine go_iconst dX0_readHours_43 ?_
    refine go_ret (v := 1) rfl dX0_readHours_44 (okZ (by first | exact Or.inl rfl | exact Or.inr rfl | assumption | omega)) ?_
    refine Or.inl ⟨rfl, ?_⟩
    rw [if_neg (fun h => h z_19)]
    exact ⟨rfl, (show m 1 12 + 1 < m 1 11 from htk.lt (by omega) (by omega)), (TP.w tp2 (by decide) (by decide) (by decide) (by decide)).2.2.2.2.2, fun b hb => by funext j; simp only [wr, rwf_19 b hb]⟩
  · refine go_iconst dX0_readHours_25 ?_
    refine go_ret (v := 0) rfl dX0_readHours_26 (okZ (by first | exact Or.inl rfl | exact Or.inr rfl | assumption | omega)) ?_
    obtain ⟨z, -, a⟩ := hr_19.resolve_left (fun h => by omega)
    refine Or.inr ⟨rfl, ?_⟩
    rw [if_pos z]
    exact ⟨z, adv_no tph a, fun b hb h2 => by rw [rwf_19 b hb, wr_row (by omega)]⟩
