def hs8 (i : Int) : Nat := 99 + 8 * i.toNat
theorem sp98 : ∀ k : Nat, k < 8 → sp 98 k = 99 + 8 * k := by decide +kernel
theorem sp98i {i : Int} (h0 : 0 ≤ i) (h1 : i < 8) : sp 98 i.toNat = hs8 i := sp98 _ (by omega)
theorem isSt_h {i : Int} (h0 : 0 ≤ i) (h1 : i < 8) : isSt (hs8 i) := by
  have : i = 0 ∨ i = 1 ∨ i = 2 ∨ i = 3 ∨ i = 4 ∨ i = 5 ∨ i = 6 ∨ i = 7 := by omega
  rcases this with rfl | rfl | rfl | rfl | rfl | rfl | rfl | rfl
  · exact isSt_99
  · exact isSt_107
  · exact isSt_115
  · exact isSt_123
  · exact isSt_131
  · exact isSt_139
  · exact isSt_147
  · exact isSt_155
theorem hs8_b {i : Int} (h0 : 0 ≤ i) (h1 : i < 8) : 99 ≤ hs8 i ∧ hs8 i + 8 ≤ 163 := by unfold hs8; omega
def HiOk (m : Mem) : Prop := (0 ≤ m 97 1 ∧ m 97 1 < 8) ∧ 0 ≤ m 97 2 ∧ m 97 2 ≤ 8
def keepC (m : Mem) (st : Nat) : Mem := wr (wr (rows m (hs8 (m 97 1)) st 8) 97 1 ((m 97 1 + 1) % 8)) 97 2 (min 8 (m 97 2 + 1))
theorem rows_out {m : Mem} {a o n b : Nat} (h : b < a ∨ a + n ≤ b) : rows m a o n b = m b := by unfold rows; rw [if_neg (by omega)]
theorem rows_in {m : Mem} {a o n k : Nat} (h : k < n) : rows m a o n (a + k) = m (o + k) := by unfold rows; rw [if_pos (by omega), show a + k - a = k by omega]
theorem keepC_row {m : Mem} {st b : Nat} (h : HiOk m) (hb : b < 97 ∨ 163 ≤ b) : keepC m st b = m b := by
  have := hs8_b h.1.1 h.1.2
  unfold keepC
  rw [wr_row (by omega), wr_row (by omega), rows_out (by omega)]
theorem keepC_dn {m : Mem} {st d : Nat} (h : HiOk m) (hd : d + 10 ≤ 97 ∨ 163 ≤ d) (hk : DnOk m d) : DnOk (keepC m st) d := hk.congr (fun k hk => keepC_row h (by omega))
theorem keepC_st {m : Mem} {st d s : Nat} {B : Int} (h : HiOk m) (hd : d + 10 ≤ 97 ∨ 163 ≤ d) (hs : s + 8 ≤ 97 ∨ 163 ≤ s) (hk : StOk m d s B) : StOk (keepC m st) d s B := hk.congr (keepC_row h (by omega)) (keepC_row h (by omega)) (fun k hk => keepC_row h (by omega))
def backC (m : Mem) (st : Nat) : Mem := wr (rows (wr m 97 1 ((m 97 1 + 7) % 8)) st (hs8 ((m 97 1 + 7) % 8)) 8) 97 2 (m 97 2 - 1)
def okSay (m : Mem) (p f s : Int) : Prop := 0 ≤ p ∧ p < m 8 3 ∧ 0 ≤ f ∧ f < m 8 2 ∧ 0 ≤ s ∧ s < 4

theorem dX3_keep_0 : decode mX3_keep.2.1 0 = .ok (.aload_n 0, 1) := by decide +kernel
theorem dX3_keep_1 : decode mX3_keep.2.1 1 = .ok (.getfield 11, 3) := by decide +kernel
theorem dX3_keep_4 : decode mX3_keep.2.1 4 = .ok (.aload_n 0, 1) := by decide +kernel
theorem dX3_keep_5 : decode mX3_keep.2.1 5 = .ok (.getfield 17, 3) := by decide +kernel
theorem dX3_keep_8 : decode mX3_keep.2.1 8 = .ok (.aaload, 1) := by decide +kernel
theorem dX3_keep_9 : decode mX3_keep.2.1 9 = .ok (.aload_n 1, 1) := by decide +kernel
theorem dX3_keep_10 : decode mX3_keep.2.1 10 = .ok (.invokevirtual 25, 3) := by decide +kernel
theorem dX3_keep_13 : decode mX3_keep.2.1 13 = .ok (.aload_n 0, 1) := by decide +kernel
theorem dX3_keep_14 : decode mX3_keep.2.1 14 = .ok (.aload_n 0, 1) := by decide +kernel
theorem dX3_keep_15 : decode mX3_keep.2.1 15 = .ok (.getfield 17, 3) := by decide +kernel
theorem dX3_keep_18 : decode mX3_keep.2.1 18 = .ok (.iconst 1, 1) := by decide +kernel
theorem dX3_keep_19 : decode mX3_keep.2.1 19 = .ok (.iadd, 1) := by decide +kernel
theorem dX3_keep_20 : decode mX3_keep.2.1 20 = .ok (.bipush 8, 2) := by decide +kernel
theorem dX3_keep_22 : decode mX3_keep.2.1 22 = .ok (.irem, 1) := by decide +kernel
theorem dX3_keep_23 : decode mX3_keep.2.1 23 = .ok (.putfield 17, 3) := by decide +kernel
theorem dX3_keep_26 : decode mX3_keep.2.1 26 = .ok (.aload_n 0, 1) := by decide +kernel
theorem dX3_keep_27 : decode mX3_keep.2.1 27 = .ok (.bipush 8, 2) := by decide +kernel
theorem dX3_keep_29 : decode mX3_keep.2.1 29 = .ok (.aload_n 0, 1) := by decide +kernel
theorem dX3_keep_30 : decode mX3_keep.2.1 30 = .ok (.getfield 21, 3) := by decide +kernel
theorem dX3_keep_33 : decode mX3_keep.2.1 33 = .ok (.iconst 1, 1) := by decide +kernel
theorem dX3_keep_34 : decode mX3_keep.2.1 34 = .ok (.iadd, 1) := by decide +kernel
theorem dX3_keep_35 : decode mX3_keep.2.1 35 = .ok (.invokestatic 29, 3) := by decide +kernel
theorem dX3_keep_38 : decode mX3_keep.2.1 38 = .ok (.putfield 21, 3) := by decide +kernel
theorem dX3_keep_41 : decode mX3_keep.2.1 41 = .ok (.return_, 1) := by decide +kernel
set_option maxRecDepth 4000 in
theorem ev_X3_keep {m : Mem} {st : Nat} (hs : isSt st) (hx : st + 8 ≤ 97 ∨ 163 ≤ st) (hhi : HiOk m) : Ev 0 5 mX3_keep [vr 97, vr st] m (fun r m' => m' = keepC m st) := by
  refine Ev.of (L := [vr 97, vr st]) (by decide +kernel) rfl (Nat.le_of_ble_eq_true rfl) rfl (fun t ht => by cases ht) (fun hcan => ?_)
  have hb8 := hs8_b hhi.1.1 hhi.1.2
  obtain ⟨⟨hh0, hh1⟩, hh2, hh3⟩ := id hhi
  refine go_aload_n dX3_keep_0 rfl ?_
  refine go_getf_p (b := 98) dX3_keep_1 fl_3_11 ob_97 rfl pt_97_0 ?_
  refine go_aload_n dX3_keep_4 rfl ?_
  refine go_getf_i (ki := 1) dX3_keep_5 fl_3_17 ob_97 rfl rfl (fun hf_5 => ?_)
  refine go_aaload (b := (hs8 (m 97 1))) dX3_keep_8 ar_98 (by decide) (by omega) (by omega) (sp98i hh0 hh1) ?_
  refine go_aload_n dX3_keep_9 rfl ?_
  refine go_callV_v (as := [vr st]) (S := []) (b := (hs8 (m 97 1))) (ev_X6_copyFrom (m := m) (st := (hs8 (m 97 1))) (ot := st) (isSt_h hh0 hh1) hs (by omega)) rfl dX3_keep_10 cv_3_25 rfl rfl (isSt_h hhi.1.1 hhi.1.2).o rfl (by decide) (Nat.le_of_ble_eq_true rfl) (fun m_10 hr_10 => ?_)
  subst hr_10
  refine go_aload_n dX3_keep_13 rfl ?_
  refine go_aload_n dX3_keep_14 rfl ?_
  refine go_getf_i (ki := 1) dX3_keep_15 fl_3_17 ob_97 rfl rfl (fun hf_15 => ?_)
  rw [show ((rows m (hs8 (m 97 1)) st 8) 97 1 : Int) = (m 97 1) from by rw [rows_out (by omega)]] at hf_15 ⊢
  refine go_iconst dX3_keep_18 ?_
  refine go_iadd dX3_keep_19 ?_
  refine go_bipush dX3_keep_20 (by decide) ?_
  refine go_irem dX3_keep_22 ⟨by omega, by omega⟩ ⟨by omega, by omega⟩ (by omega) (by omega) ?_
  refine go_putf_i (ki := 1) dX3_keep_23 fw_3_17 ob_97 rfl rfl ⟨by omega, by omega⟩ ?_
  refine go_aload_n dX3_keep_26 rfl ?_
  refine go_bipush dX3_keep_27 (by decide) ?_
  refine go_aload_n dX3_keep_29 rfl ?_
  refine go_getf_i (ki := 2) dX3_keep_30 fl_3_21 ob_97 rfl rfl (fun hf_30 => ?_)
  rw [show ((wr (rows m (hs8 (m 97 1)) st 8) 97 1 (((m 97 1) + 1) % 8)) 97 2 : Int) = (m 97 2) from by rw [wr_ni (by decide), rows_out (by omega)]] at hf_30 ⊢
  refine go_iconst dX3_keep_33 ?_
  refine go_iadd dX3_keep_34 ?_
  refine go_min dX3_keep_35 jl_3_29 ⟨by omega, by omega⟩ ⟨by omega, by omega⟩ (by decide) (Nat.le_of_ble_eq_true rfl) ?_
  refine go_putf_i (ki := 2) dX3_keep_38 fw_3_21 ob_97 rfl rfl ⟨by omega, by omega⟩ ?_
  exact go_ret (v := 0) rfl dX3_keep_41 rfl (by first | assumption | rfl | omega)
theorem dX3_takeBack_0 : decode mX3_takeBack.2.1 0 = .ok (.aload_n 0, 1) := by decide +kernel
theorem dX3_takeBack_1 : decode mX3_takeBack.2.1 1 = .ok (.getfield 21, 3) := by decide +kernel
theorem dX3_takeBack_4 : decode mX3_takeBack.2.1 4 = .ok (.ifCond .ne 5, 3) := by decide +kernel
theorem dX3_takeBack_7 : decode mX3_takeBack.2.1 7 = .ok (.iconst (-1), 1) := by decide +kernel
theorem dX3_takeBack_8 : decode mX3_takeBack.2.1 8 = .ok (.ireturn, 1) := by decide +kernel
theorem dX3_takeBack_9 : decode mX3_takeBack.2.1 9 = .ok (.aload_n 0, 1) := by decide +kernel
theorem dX3_takeBack_10 : decode mX3_takeBack.2.1 10 = .ok (.aload_n 0, 1) := by decide +kernel
theorem dX3_takeBack_11 : decode mX3_takeBack.2.1 11 = .ok (.getfield 17, 3) := by decide +kernel
theorem dX3_takeBack_14 : decode mX3_takeBack.2.1 14 = .ok (.bipush 8, 2) := by decide +kernel
theorem dX3_takeBack_16 : decode mX3_takeBack.2.1 16 = .ok (.iadd, 1) := by decide +kernel
theorem dX3_takeBack_17 : decode mX3_takeBack.2.1 17 = .ok (.iconst 1, 1) := by decide +kernel
theorem dX3_takeBack_18 : decode mX3_takeBack.2.1 18 = .ok (.isub, 1) := by decide +kernel
theorem dX3_takeBack_19 : decode mX3_takeBack.2.1 19 = .ok (.bipush 8, 2) := by decide +kernel
theorem dX3_takeBack_21 : decode mX3_takeBack.2.1 21 = .ok (.irem, 1) := by decide +kernel
theorem dX3_takeBack_22 : decode mX3_takeBack.2.1 22 = .ok (.putfield 17, 3) := by decide +kernel
theorem dX3_takeBack_25 : decode mX3_takeBack.2.1 25 = .ok (.aload_n 1, 1) := by decide +kernel
theorem dX3_takeBack_26 : decode mX3_takeBack.2.1 26 = .ok (.aload_n 0, 1) := by decide +kernel
theorem dX3_takeBack_27 : decode mX3_takeBack.2.1 27 = .ok (.getfield 11, 3) := by decide +kernel
theorem dX3_takeBack_30 : decode mX3_takeBack.2.1 30 = .ok (.aload_n 0, 1) := by decide +kernel
theorem dX3_takeBack_31 : decode mX3_takeBack.2.1 31 = .ok (.getfield 17, 3) := by decide +kernel
theorem dX3_takeBack_34 : decode mX3_takeBack.2.1 34 = .ok (.aaload, 1) := by decide +kernel
theorem dX3_takeBack_35 : decode mX3_takeBack.2.1 35 = .ok (.invokevirtual 25, 3) := by decide +kernel
theorem dX3_takeBack_38 : decode mX3_takeBack.2.1 38 = .ok (.aload_n 0, 1) := by decide +kernel
theorem dX3_takeBack_39 : decode mX3_takeBack.2.1 39 = .ok (.dup, 1) := by decide +kernel
theorem dX3_takeBack_40 : decode mX3_takeBack.2.1 40 = .ok (.getfield 21, 3) := by decide +kernel
theorem dX3_takeBack_43 : decode mX3_takeBack.2.1 43 = .ok (.iconst 1, 1) := by decide +kernel
theorem dX3_takeBack_44 : decode mX3_takeBack.2.1 44 = .ok (.isub, 1) := by decide +kernel
theorem dX3_takeBack_45 : decode mX3_takeBack.2.1 45 = .ok (.putfield 21, 3) := by decide +kernel
theorem dX3_takeBack_48 : decode mX3_takeBack.2.1 48 = .ok (.aload_n 0, 1) := by decide +kernel
theorem dX3_takeBack_49 : decode mX3_takeBack.2.1 49 = .ok (.getfield 21, 3) := by decide +kernel
theorem dX3_takeBack_52 : decode mX3_takeBack.2.1 52 = .ok (.ireturn, 1) := by decide +kernel
set_option maxRecDepth 4000 in
theorem ev_X3_takeBack {m : Mem} {st : Nat} (hs : isSt st) (hx : st + 8 ≤ 97 ∨ 163 ≤ st) (hhi : HiOk m) : Ev 0 5 mX3_takeBack [vr 97, vr st] m (fun r m' => (m 97 2 = 0 ∧ r = -1 ∧ m' = m) ∨ (m 97 2 ≠ 0 ∧ r = m 97 2 - 1 ∧ m' = backC m st)) := by
  refine Ev.of (L := [vr 97, vr st]) (by decide +kernel) rfl (Nat.le_of_ble_eq_true rfl) rfl (fun t ht => by cases ht; first | exact Or.inl rfl | exact Or.inr (Or.inl rfl) | exact Or.inr (Or.inr rfl)) (fun hcan => ?_)
  obtain ⟨⟨hh0, hh1⟩, hh2, hh3⟩ := id hhi
  have hb8 := hs8_b (i := (m 97 1 + 7) % 8) (by omega) (by omega)
  refine go_aload_n dX3_takeBack_0 rfl ?_
  refine go_getf_i (ki := 2) dX3_takeBack_1 fl_3_21 ob_97 rfl rfl (fun hf_1 => ?_)
  refine go_if_ne (tgt := 9) dX3_takeBack_4 (by decide) ⟨by omega, by omega⟩ (fun h_4 => ?_) (fun h_4 => ?_)
  · refine go_aload_n dX3_takeBack_9 rfl ?_
    refine go_aload_n dX3_takeBack_10 rfl ?_
    refine go_getf_i (ki := 1) dX3_takeBack_11 fl_3_17 ob_97 rfl rfl (fun hf_11 => ?_)
    refine go_bipush dX3_takeBack_14 (by decide) ?_
    refine go_iadd dX3_takeBack_16 ?_
    refine go_iconst dX3_takeBack_17 ?_
    refine go_isub dX3_takeBack_18 ?_
    rw [show (((m 97 1) + 8) - 1 : Int) = (m 97 1 + 7) from (by omega)]
    refine go_bipush dX3_takeBack_19 (by decide) ?_
    refine go_irem dX3_takeBack_21 ⟨by omega, by omega⟩ ⟨by omega, by omega⟩ (by omega) (by omega) ?_
    refine go_putf_i (ki := 1) dX3_takeBack_22 fw_3_17 ob_97 rfl rfl ⟨by omega, by omega⟩ ?_
    refine go_aload_n dX3_takeBack_25 rfl ?_
    refine go_aload_n dX3_takeBack_26 rfl ?_
    refine go_getf_p (b := 98) dX3_takeBack_27 fl_3_11 ob_97 rfl pt_97_0 ?_
    refine go_aload_n dX3_takeBack_30 rfl ?_
    refine go_getf_i (ki := 1) dX3_takeBack_31 fl_3_17 ob_97 rfl rfl (fun hf_31 => ?_)
    rw [show ((wr m 97 1 ((m 97 1 + 7) % 8)) 97 1 : Int) = ((m 97 1 + 7) % 8) from by rw [wr_self]] at hf_31 ⊢
    refine go_aaload (b := (hs8 ((m 97 1 + 7) % 8))) dX3_takeBack_34 ar_98 (by decide) (by omega) (by omega) (sp98i (by omega) (by omega)) ?_
    refine go_callV_v (as := [vr (hs8 ((m 97 1 + 7) % 8))]) (S := []) (b := st) (ev_X6_copyFrom (m := (wr m 97 1 ((m 97 1 + 7) % 8))) (st := st) (ot := (hs8 ((m 97 1 + 7) % 8))) hs (isSt_h (by omega) (by omega)) (by omega)) rfl dX3_takeBack_35 cv_3_25 rfl rfl hs.o rfl (by decide) (Nat.le_of_ble_eq_true rfl) (fun m_35 hr_35 => ?_)
    subst hr_35
    refine go_aload_n dX3_takeBack_38 rfl ?_
    refine go_dup_r dX3_takeBack_39 ?_
    refine go_getf_i (ki := 2) dX3_takeBack_40 fl_3_21 ob_97 rfl rfl (fun hf_40 => ?_)
    rw [show ((rows (wr m 97 1 ((m 97 1 + 7) % 8)) st (hs8 ((m 97 1 + 7) % 8)) 8) 97 2 : Int) = (m 97 2) from by rw [rows_out (by omega), wr_ni (by decide)]] at hf_40 ⊢
    refine go_iconst dX3_takeBack_43 ?_
    refine go_isub dX3_takeBack_44 ?_
    refine go_putf_i (ki := 2) dX3_takeBack_45 fw_3_21 ob_97 rfl rfl ⟨by omega, by omega⟩ ?_
    refine go_aload_n dX3_takeBack_48 rfl ?_
    refine go_getf_i (ki := 2) dX3_takeBack_49 fl_3_21 ob_97 rfl rfl (fun hf_49 => ?_)
    rw [show ((wr (rows (wr m 97 1 ((m 97 1 + 7) % 8)) st (hs8 ((m 97 1 + 7) % 8)) 8) 97 2 ((m 97 2) - 1)) 97 2 : Int) = ((m 97 2) - 1) from by rw [wr_self]] at hf_49 ⊢
    exact go_ret (v := ((m 97 2) - 1)) rfl dX3_takeBack_52 (okI ⟨by omega, by omega⟩) (Or.inr ⟨by omega, rfl, rfl⟩)
  · refine go_iconst dX3_takeBack_7 ?_
    exact go_ret (v := (-1)) rfl dX3_takeBack_8 (okI ⟨by omega, by omega⟩) (Or.inl ⟨by omega, rfl, rfl⟩)
theorem dX3_clear_0 : decode mX3_clear.2.1 0 = .ok (.aload_n 0, 1) := by decide +kernel
theorem dX3_clear_1 : decode mX3_clear.2.1 1 = .ok (.iconst 0, 1) := by decide +kernel
theorem dX3_clear_2 : decode mX3_clear.2.1 2 = .ok (.putfield 21, 3) := by decide +kernel
theorem dX3_clear_5 : decode mX3_clear.2.1 5 = .ok (.return_, 1) := by decide +kernel
set_option maxRecDepth 4000 in
theorem ev_X3_clear {m : Mem}   : Ev 0 1 mX3_clear [vr 97] m (fun r m' => m' = wr m 97 2 0) := by
  refine Ev.of (L := [vr 97]) (by decide +kernel) rfl (Nat.le_of_ble_eq_true rfl) rfl (fun t ht => by cases ht) (fun hcan => ?_)
  refine go_aload_n dX3_clear_0 rfl ?_
  refine go_iconst dX3_clear_1 ?_
  refine go_putf_i (ki := 2) dX3_clear_2 fw_3_21 ob_97 rfl rfl ⟨by omega, by omega⟩ ?_
  exact go_ret (v := 0) rfl dX3_clear_5 rfl (by first | assumption | rfl | omega)
theorem dX10_copyFrom_0 : decode mX10_copyFrom.2.1 0 = .ok (.aload_n 0, 1) := by decide +kernel
theorem dX10_copyFrom_1 : decode mX10_copyFrom.2.1 1 = .ok (.getfield 29, 3) := by decide +kernel
theorem dX10_copyFrom_4 : decode mX10_copyFrom.2.1 4 = .ok (.aload_n 1, 1) := by decide +kernel
theorem dX10_copyFrom_5 : decode mX10_copyFrom.2.1 5 = .ok (.getfield 29, 3) := by decide +kernel
theorem dX10_copyFrom_8 : decode mX10_copyFrom.2.1 8 = .ok (.invokevirtual 40, 3) := by decide +kernel
theorem dX10_copyFrom_11 : decode mX10_copyFrom.2.1 11 = .ok (.aload_n 0, 1) := by decide +kernel
theorem dX10_copyFrom_12 : decode mX10_copyFrom.2.1 12 = .ok (.getfield 12, 3) := by decide +kernel
theorem dX10_copyFrom_15 : decode mX10_copyFrom.2.1 15 = .ok (.aload_n 1, 1) := by decide +kernel
theorem dX10_copyFrom_16 : decode mX10_copyFrom.2.1 16 = .ok (.getfield 12, 3) := by decide +kernel
theorem dX10_copyFrom_19 : decode mX10_copyFrom.2.1 19 = .ok (.invokevirtual 44, 3) := by decide +kernel
theorem dX10_copyFrom_22 : decode mX10_copyFrom.2.1 22 = .ok (.aload_n 0, 1) := by decide +kernel
theorem dX10_copyFrom_23 : decode mX10_copyFrom.2.1 23 = .ok (.getfield 21, 3) := by decide +kernel
theorem dX10_copyFrom_26 : decode mX10_copyFrom.2.1 26 = .ok (.aload_n 1, 1) := by decide +kernel
theorem dX10_copyFrom_27 : decode mX10_copyFrom.2.1 27 = .ok (.getfield 21, 3) := by decide +kernel
theorem dX10_copyFrom_30 : decode mX10_copyFrom.2.1 30 = .ok (.invokevirtual 47, 3) := by decide +kernel
theorem dX10_copyFrom_33 : decode mX10_copyFrom.2.1 33 = .ok (.return_, 1) := by decide +kernel
set_option maxRecDepth 4000 in
theorem ev_X10_copyFrom {m : Mem} {w : Nat} {d : Nat} {st : Nat} {o : Nat} {od : Nat} {os : Nat} (hw : isWd w d st) (ho : isWd o od os) (hx : (od + 10 ≤ d ∨ d + 10 ≤ od) ∧ (os + 13 ≤ st ∨ st + 13 ≤ os)) : Ev 0 5 mX10_copyFrom [vr w, vr o] m (fun r m' => m' = rows (rows (rows m d od 10) st os 8) (st + 8) (os + 8) 4) := by
  refine Ev.of (L := [vr w, vr o]) (by decide +kernel) rfl (Nat.le_of_ble_eq_true rfl) rfl (fun t ht => by cases ht) (fun hcan => ?_)
  refine go_aload_n dX10_copyFrom_0 rfl ?_
  refine go_getf_p (b := d) dX10_copyFrom_1 fl_10_29 hw.o rfl hw.p0 ?_
  refine go_aload_n dX10_copyFrom_4 rfl ?_
  refine go_getf_p (b := od) dX10_copyFrom_5 fl_10_29 ho.o rfl ho.p0 ?_
  refine go_callV_v (as := [vr od]) (S := []) (b := d) (ev_X1_copyFrom (m := m) (d := d) (o := od) hw.dn ho.dn hx.1) rfl dX10_copyFrom_8 cv_10_40 rfl rfl hw.dn.o rfl (by decide) (Nat.le_of_ble_eq_true rfl) (fun m_8 hr_8 => ?_)
  refine go_aload_n dX10_copyFrom_11 rfl ?_
  refine go_getf_p (b := st) dX10_copyFrom_12 fl_10_12 hw.o rfl hw.p1 ?_
  refine go_aload_n dX10_copyFrom_15 rfl ?_
  refine go_getf_p (b := os) dX10_copyFrom_16 fl_10_12 ho.o rfl ho.p1 ?_
  refine go_callV_v (as := [vr os]) (S := []) (b := st) (ev_X6_copyFrom (m := m_8) (st := st) (ot := os) hw.st ho.st (by omega)) rfl dX10_copyFrom_19 cv_10_44 rfl rfl hw.st.o rfl (by decide) (Nat.le_of_ble_eq_true rfl) (fun m_19 hr_19 => ?_)
  refine go_aload_n dX10_copyFrom_22 rfl ?_
  refine go_getf_p (b := (st + 8)) dX10_copyFrom_23 fl_10_21 hw.o rfl hw.p2 ?_
  refine go_aload_n dX10_copyFrom_26 rfl ?_
  refine go_getf_p (b := (os + 8)) dX10_copyFrom_27 fl_10_21 ho.o rfl ho.p2 ?_
  refine go_callV_v (as := [vr (os + 8)]) (S := []) (b := (st + 8)) (ev_X5_copyFrom (m := m_19) (e := (st + 8)) (o := (os + 8)) hw.se ho.se (by omega)) rfl dX10_copyFrom_30 cv_10_47 rfl rfl hw.se.o rfl (by decide) (Nat.le_of_ble_eq_true rfl) (fun m_30 hr_30 => ?_)
  exact go_ret (v := 0) rfl dX10_copyFrom_33 rfl (by rw [hr_30, hr_19, hr_8])
theorem dX10_clear_0 : decode mX10_clear.2.1 0 = .ok (.aload_n 0, 1) := by decide +kernel
theorem dX10_clear_1 : decode mX10_clear.2.1 1 = .ok (.getfield 29, 3) := by decide +kernel
theorem dX10_clear_4 : decode mX10_clear.2.1 4 = .ok (.invokevirtual 33, 3) := by decide +kernel
theorem dX10_clear_7 : decode mX10_clear.2.1 7 = .ok (.aload_n 0, 1) := by decide +kernel
theorem dX10_clear_8 : decode mX10_clear.2.1 8 = .ok (.getfield 12, 3) := by decide +kernel
theorem dX10_clear_11 : decode mX10_clear.2.1 11 = .ok (.invokevirtual 38, 3) := by decide +kernel
theorem dX10_clear_14 : decode mX10_clear.2.1 14 = .ok (.aload_n 0, 1) := by decide +kernel
theorem dX10_clear_15 : decode mX10_clear.2.1 15 = .ok (.getfield 21, 3) := by decide +kernel
theorem dX10_clear_18 : decode mX10_clear.2.1 18 = .ok (.invokevirtual 39, 3) := by decide +kernel
theorem dX10_clear_21 : decode mX10_clear.2.1 21 = .ok (.return_, 1) := by decide +kernel
set_option maxRecDepth 4000 in
theorem ev_X10_clear {m : Mem} {w : Nat} {d : Nat} {st : Nat} (hw : isWd w d st) : Ev 0 5 mX10_clear [vr w] m (fun r m' => m' = zse (zst (zdn m d) st) (st + 8)) := by
  refine Ev.of (L := [vr w]) (by decide +kernel) rfl (Nat.le_of_ble_eq_true rfl) rfl (fun t ht => by cases ht) (fun hcan => ?_)
  refine go_aload_n dX10_clear_0 rfl ?_
  refine go_getf_p (b := d) dX10_clear_1 fl_10_29 hw.o rfl hw.p0 ?_
  refine go_callV_v (as := []) (S := []) (b := d) (ev_X1_clear (m := m) (d := d) hw.dn) rfl dX10_clear_4 cv_10_33 rfl rfl hw.dn.o rfl (by decide) (Nat.le_of_ble_eq_true rfl) (fun m_4 hr_4 => ?_)
  refine go_aload_n dX10_clear_7 rfl ?_
  refine go_getf_p (b := st) dX10_clear_8 fl_10_12 hw.o rfl hw.p1 ?_
  refine go_callV_v (as := []) (S := []) (b := st) (ev_X6_clear (m := m_4) (st := st) hw.st) rfl dX10_clear_11 cv_10_38 rfl rfl hw.st.o rfl (by decide) (Nat.le_of_ble_eq_true rfl) (fun m_11 hr_11 => ?_)
  refine go_aload_n dX10_clear_14 rfl ?_
  refine go_getf_p (b := (st + 8)) dX10_clear_15 fl_10_21 hw.o rfl hw.p2 ?_
  refine go_callV_v (as := []) (S := []) (b := (st + 8)) (ev_X5_clear (m := m_11) (e := (st + 8)) hw.se) rfl dX10_clear_18 cv_10_39 rfl rfl hw.se.o rfl (by decide) (Nat.le_of_ble_eq_true rfl) (fun m_18 hr_18 => ?_)
  exact go_ret (v := 0) rfl dX10_clear_21 rfl (by rw [hr_18, hr_11, hr_4])
theorem dX11_end_0 : decode mX11_end.2.1 0 = .ok (.iload_n 1, 1) := by decide +kernel
theorem dX11_end_1 : decode mX11_end.2.1 1 = .ok (.ifCond .lt 14, 3) := by decide +kernel
theorem dX11_end_4 : decode mX11_end.2.1 4 = .ok (.iload_n 1, 1) := by decide +kernel
theorem dX11_end_5 : decode mX11_end.2.1 5 = .ok (.aload_n 0, 1) := by decide +kernel
theorem dX11_end_6 : decode mX11_end.2.1 6 = .ok (.getfield 12, 3) := by decide +kernel
theorem dX11_end_9 : decode mX11_end.2.1 9 = .ok (.getfield 102, 3) := by decide +kernel
theorem dX11_end_12 : decode mX11_end.2.1 12 = .ok (.if_icmp .le 5, 3) := by decide +kernel
theorem dX11_end_15 : decode mX11_end.2.1 15 = .ok (.iconst 0, 1) := by decide +kernel
theorem dX11_end_16 : decode mX11_end.2.1 16 = .ok (.ireturn, 1) := by decide +kernel
theorem dX11_end_17 : decode mX11_end.2.1 17 = .ok (.aload_n 0, 1) := by decide +kernel
theorem dX11_end_18 : decode mX11_end.2.1 18 = .ok (.getfield 12, 3) := by decide +kernel
theorem dX11_end_21 : decode mX11_end.2.1 21 = .ok (.iload_n 1, 1) := by decide +kernel
theorem dX11_end_22 : decode mX11_end.2.1 22 = .ok (.putfield 102, 3) := by decide +kernel
theorem dX11_end_25 : decode mX11_end.2.1 25 = .ok (.iconst 1, 1) := by decide +kernel
theorem dX11_end_26 : decode mX11_end.2.1 26 = .ok (.ireturn, 1) := by decide +kernel
set_option maxRecDepth 4000 in
theorem ev_X11_end {m : Mem} {n : Int} (hn : InR n) : Ev 0 1 mX11_end [vr 0, vi n] m (fun r m' => (0 ≤ n ∧ n ≤ m 1 1 ∧ r = 1 ∧ m' = wr m 1 1 n) ∨ (¬ (0 ≤ n ∧ n ≤ m 1 1) ∧ r = 0 ∧ m' = m)) := by
  refine Ev.of (L := [vr 0, vi n]) (by decide +kernel) rfl (Nat.le_of_ble_eq_true rfl) rfl (fun t ht => by cases ht; first | exact Or.inl rfl | exact Or.inr (Or.inl rfl) | exact Or.inr (Or.inr rfl)) (fun hcan => ?_)
  refine go_iload_n dX11_end_0 rfl ?_
  refine go_if_lt (tgt := 15) dX11_end_1 (by decide) ⟨by omega, by omega⟩ (fun h_1 => ?_) (fun h_1 => ?_)
  · refine go_iconst dX11_end_15 ?_
    exact go_ret (v := 0) rfl dX11_end_16 (okZ (by first | exact Or.inl rfl | exact Or.inr rfl | assumption | omega)) (Or.inr ⟨by omega, rfl, rfl⟩)
  · refine go_iload_n dX11_end_4 rfl ?_
    refine go_aload_n dX11_end_5 rfl ?_
    refine go_getf_p (b := 1) dX11_end_6 fl_11_12 ob_0 rfl pt_0_0 ?_
    refine go_getf_i (ki := 1) dX11_end_9 fl_11_102 ob_1 rfl rfl (fun hf_9 => ?_)
    refine go_icmp_le (tgt := 17) dX11_end_12 (by decide) ⟨by omega, by omega⟩ ⟨by omega, by omega⟩ (fun h_12 => ?_) (fun h_12 => ?_)
    · refine go_aload_n dX11_end_17 rfl ?_
      refine go_getf_p (b := 1) dX11_end_18 fl_11_12 ob_0 rfl pt_0_0 ?_
      refine go_iload_n dX11_end_21 rfl ?_
      refine go_putf_i (ki := 1) dX11_end_22 fw_11_102 ob_1 rfl rfl ⟨by omega, by omega⟩ ?_
      refine go_iconst dX11_end_25 ?_
      exact go_ret (v := 1) rfl dX11_end_26 (okZ (by first | exact Or.inl rfl | exact Or.inr rfl | assumption | omega)) (Or.inl ⟨by omega, by omega, rfl, rfl⟩)
    · refine go_iconst dX11_end_15 ?_
      exact go_ret (v := 0) rfl dX11_end_16 (okZ (by first | exact Or.inl rfl | exact Or.inr rfl | assumption | omega)) (Or.inr ⟨by omega, rfl, rfl⟩)
theorem dX11_fault_0 : decode mX11_fault.2.1 0 = .ok (.aload_n 0, 1) := by decide +kernel
theorem dX11_fault_1 : decode mX11_fault.2.1 1 = .ok (.getfield 12, 3) := by decide +kernel
theorem dX11_fault_4 : decode mX11_fault.2.1 4 = .ok (.getfield 126, 3) := by decide +kernel
theorem dX11_fault_7 : decode mX11_fault.2.1 7 = .ok (.ireturn, 1) := by decide +kernel
set_option maxRecDepth 4000 in
theorem ev_X11_fault {m : Mem}   : Ev 0 1 mX11_fault [vr 0] m (fun r m' => m' = m ∧ (r = m 1 6)) := by
  refine Ev.of (L := [vr 0]) (by decide +kernel) rfl (Nat.le_of_ble_eq_true rfl) rfl (fun t ht => by cases ht; first | exact Or.inl rfl | exact Or.inr (Or.inl rfl) | exact Or.inr (Or.inr rfl)) (fun hcan => ?_)
  refine go_aload_n dX11_fault_0 rfl ?_
  refine go_getf_p (b := 1) dX11_fault_1 fl_11_12 ob_0 rfl pt_0_0 ?_
  refine go_getf_i (ki := 6) dX11_fault_4 fl_11_126 ob_1 rfl rfl (fun hf_4 => ?_)
  exact go_ret (v := (m 1 6)) rfl dX11_fault_7 (okI ⟨by omega, by omega⟩) ⟨rfl, (by first | assumption | rfl | omega)⟩
theorem dX11_figure_0 : decode mX11_figure.2.1 0 = .ok (.aload_n 0, 1) := by decide +kernel
theorem dX11_figure_1 : decode mX11_figure.2.1 1 = .ok (.getfield 24, 3) := by decide +kernel
theorem dX11_figure_4 : decode mX11_figure.2.1 4 = .ok (.iload_n 1, 1) := by decide +kernel
theorem dX11_figure_5 : decode mX11_figure.2.1 5 = .ok (.invokevirtual 164, 3) := by decide +kernel
theorem dX11_figure_8 : decode mX11_figure.2.1 8 = .ok (.ifCond .ne 5, 3) := by decide +kernel
theorem dX11_figure_11 : decode mX11_figure.2.1 11 = .ok (.iconst (-1), 1) := by decide +kernel
theorem dX11_figure_12 : decode mX11_figure.2.1 12 = .ok (.ireturn, 1) := by decide +kernel
theorem dX11_figure_13 : decode mX11_figure.2.1 13 = .ok (.iload_n 2, 1) := by decide +kernel
theorem dX11_figure_14 : decode mX11_figure.2.1 14 = .ok (.tableswitch 64 0 2 #[26, 39, 52], 26) := by decide +kernel
theorem dX11_figure_40 : decode mX11_figure.2.1 40 = .ok (.aload_n 0, 1) := by decide +kernel
theorem dX11_figure_41 : decode mX11_figure.2.1 41 = .ok (.getfield 24, 3) := by decide +kernel
theorem dX11_figure_44 : decode mX11_figure.2.1 44 = .ok (.getfield 28, 3) := by decide +kernel
theorem dX11_figure_47 : decode mX11_figure.2.1 47 = .ok (.getfield 167, 3) := by decide +kernel
theorem dX11_figure_50 : decode mX11_figure.2.1 50 = .ok (.iload_n 1, 1) := by decide +kernel
theorem dX11_figure_51 : decode mX11_figure.2.1 51 = .ok (.iaload, 1) := by decide +kernel
theorem dX11_figure_52 : decode mX11_figure.2.1 52 = .ok (.ireturn, 1) := by decide +kernel
theorem dX11_figure_53 : decode mX11_figure.2.1 53 = .ok (.aload_n 0, 1) := by decide +kernel
theorem dX11_figure_54 : decode mX11_figure.2.1 54 = .ok (.getfield 24, 3) := by decide +kernel
theorem dX11_figure_57 : decode mX11_figure.2.1 57 = .ok (.getfield 28, 3) := by decide +kernel
theorem dX11_figure_60 : decode mX11_figure.2.1 60 = .ok (.getfield 170, 3) := by decide +kernel
theorem dX11_figure_63 : decode mX11_figure.2.1 63 = .ok (.iload_n 1, 1) := by decide +kernel
theorem dX11_figure_64 : decode mX11_figure.2.1 64 = .ok (.iaload, 1) := by decide +kernel
theorem dX11_figure_65 : decode mX11_figure.2.1 65 = .ok (.ireturn, 1) := by decide +kernel
theorem dX11_figure_66 : decode mX11_figure.2.1 66 = .ok (.aload_n 0, 1) := by decide +kernel
theorem dX11_figure_67 : decode mX11_figure.2.1 67 = .ok (.getfield 24, 3) := by decide +kernel
theorem dX11_figure_70 : decode mX11_figure.2.1 70 = .ok (.getfield 28, 3) := by decide +kernel
theorem dX11_figure_73 : decode mX11_figure.2.1 73 = .ok (.iload_n 1, 1) := by decide +kernel
theorem dX11_figure_74 : decode mX11_figure.2.1 74 = .ok (.invokevirtual 173, 3) := by decide +kernel
theorem dX11_figure_77 : decode mX11_figure.2.1 77 = .ok (.ireturn, 1) := by decide +kernel
theorem dX11_figure_78 : decode mX11_figure.2.1 78 = .ok (.iconst (-1), 1) := by decide +kernel
theorem dX11_figure_79 : decode mX11_figure.2.1 79 = .ok (.ireturn, 1) := by decide +kernel
set_option maxRecDepth 4000 in
theorem ev_X11_figure {m : Mem} {f : Int} {v : Int} (hdn : DnOk m 8) (hf : InR f) (hv : InR v) : Ev 0 5 mX11_figure [vr 0, vi f, vi v] m (fun r m' => m' = m ∧ (r = if 0 ≤ f ∧ f < m 8 2 then (if v = 0 then m 10 f else if v = 1 then m 11 f else if v = 2 then max 1 (m 10 f + m 11 f) else -1) else -1)) := by
  refine Ev.of (L := [vr 0, vi f, vi v]) (by decide +kernel) rfl (Nat.le_of_ble_eq_true rfl) rfl (fun t ht => by cases ht; first | exact Or.inl rfl | exact Or.inr (Or.inl rfl) | exact Or.inr (Or.inr rfl)) (fun hcan => ?_)
  obtain ⟨⟨hd0, hd1⟩, ⟨hd2, hd3⟩, ⟨hd4, hd5⟩, ⟨hd6, hd7⟩, ⟨hd8, hd9⟩, hdf, hdp, hdq⟩ := id hdn
  refine go_aload_n dX11_figure_0 rfl ?_
  refine go_getf_p (b := 7) dX11_figure_1 fl_11_24 ob_0 rfl pt_0_1 ?_
  refine go_iload_n dX11_figure_4 rfl ?_
  refine go_callVp_z (as := [vi f]) (S := []) (b := 7) (ev_X10_hasFigure (m := m) (w := 7) (f := f) (d := 8) (st := 18) isWd_7 (by first | assumption | omega | exact ⟨by omega, by omega⟩ | (constructor <;> omega))) rfl dX11_figure_5 cv_11_164 rfl rfl ob_7 rfl (by decide) (Nat.le_of_ble_eq_true rfl) (fun r_5 hr_5 ho_5 => ?_)
  refine go_if_ne (tgt := 13) dX11_figure_8 (by decide) ⟨by omega, by omega⟩ (fun h_8 => ?_) (fun h_8 => ?_)
  · refine go_iload_n dX11_figure_13 rfl ?_
    refine go_tswitch (tgt := 78) dX11_figure_14 ⟨by omega, by omega⟩ (by decide) (fun n_14 h_14 hb_14 => ?_) (fun h_14 => ?_)
    · match n_14, h_14, hb_14 with
      | 0, h_14, hb_14 =>
        refine ⟨26, 40, rfl, by decide, ?_⟩
        refine go_aload_n dX11_figure_40 rfl ?_
        refine go_getf_p (b := 7) dX11_figure_41 fl_11_24 ob_0 rfl pt_0_1 ?_
        refine go_getf_p (b := 8) dX11_figure_44 fl_11_28 ob_7 rfl pt_7_0 ?_
        refine go_getf_p (b := 10) dX11_figure_47 fl_11_167 ob_8 rfl pt_8_6 ?_
        refine go_iload_n dX11_figure_50 rfl ?_
        refine go_iaload dX11_figure_51 ar_10 (by omega) (by omega) (fun he_51 => ?_)
        exact go_ret (v := (m 10 f)) rfl dX11_figure_52 (okI ⟨by omega, by omega⟩) ⟨rfl, (by first | assumption | rfl | omega)⟩
      | 1, h_14, hb_14 =>
        refine ⟨39, 53, rfl, by decide, ?_⟩
        refine go_aload_n dX11_figure_53 rfl ?_
        refine go_getf_p (b := 7) dX11_figure_54 fl_11_24 ob_0 rfl pt_0_1 ?_
        refine go_getf_p (b := 8) dX11_figure_57 fl_11_28 ob_7 rfl pt_7_0 ?_
        refine go_getf_p (b := 11) dX11_figure_60 fl_11_170 ob_8 rfl pt_8_7 ?_
        refine go_iload_n dX11_figure_63 rfl ?_
        refine go_iaload dX11_figure_64 ar_11 (by omega) (by omega) (fun he_64 => ?_)
        exact go_ret (v := (m 11 f)) rfl dX11_figure_65 (okI ⟨by omega, by omega⟩) ⟨rfl, (by first | assumption | rfl | omega)⟩
      | 2, h_14, hb_14 =>
        refine ⟨52, 66, rfl, by decide, ?_⟩
        refine go_aload_n dX11_figure_66 rfl ?_
        refine go_getf_p (b := 7) dX11_figure_67 fl_11_24 ob_0 rfl pt_0_1 ?_
        refine go_getf_p (b := 8) dX11_figure_70 fl_11_28 ob_7 rfl pt_7_0 ?_
        refine go_iload_n dX11_figure_73 rfl ?_
        refine go_callVp_i (as := [vi f]) (S := []) (b := 8) (ev_X1_cost (m := m) (d := 8) (f := f) isDn_8 (by first | assumption | omega | exact ⟨by omega, by omega⟩ | (constructor <;> omega)) (hdf f (by omega) (by omega))) rfl dX11_figure_74 cv_11_173 rfl rfl ob_8 rfl (by decide) (Nat.le_of_ble_eq_true rfl) (fun r_74 hr_74 ho_74 => ?_)
        have hr_74 : r_74 = max 1 (m 10 f + m 11 f) := hr_74
        exact go_ret (v := r_74) rfl dX11_figure_77 (okI ⟨by omega, by omega⟩) ⟨rfl, (by first | assumption | rfl | omega)⟩
      | k + 3, h_14, hb_14 => exfalso; omega
    · refine go_iconst dX11_figure_78 ?_
      exact go_ret (v := (-1)) rfl dX11_figure_79 (okI ⟨by omega, by omega⟩) ⟨rfl, (by first | assumption | rfl | omega)⟩
  · refine go_iconst dX11_figure_11 ?_
    exact go_ret (v := (-1)) rfl dX11_figure_12 (okI ⟨by omega, by omega⟩) ⟨rfl, (by first | assumption | rfl | omega)⟩
theorem dX11_point_0 : decode mX11_point.2.1 0 = .ok (.aload_n 0, 1) := by decide +kernel
theorem dX11_point_1 : decode mX11_point.2.1 1 = .ok (.getfield 24, 3) := by decide +kernel
theorem dX11_point_4 : decode mX11_point.2.1 4 = .ok (.iload_n 1, 1) := by decide +kernel
theorem dX11_point_5 : decode mX11_point.2.1 5 = .ok (.invokevirtual 177, 3) := by decide +kernel
theorem dX11_point_8 : decode mX11_point.2.1 8 = .ok (.ifCond .ne 5, 3) := by decide +kernel
theorem dX11_point_11 : decode mX11_point.2.1 11 = .ok (.iconst (-1), 1) := by decide +kernel
theorem dX11_point_12 : decode mX11_point.2.1 12 = .ok (.ireturn, 1) := by decide +kernel
theorem dX11_point_13 : decode mX11_point.2.1 13 = .ok (.iload_n 2, 1) := by decide +kernel
theorem dX11_point_14 : decode mX11_point.2.1 14 = .ok (.tableswitch 78 0 3 #[30, 43, 56, 69], 30) := by decide +kernel
theorem dX11_point_44 : decode mX11_point.2.1 44 = .ok (.aload_n 0, 1) := by decide +kernel
theorem dX11_point_45 : decode mX11_point.2.1 45 = .ok (.getfield 24, 3) := by decide +kernel
theorem dX11_point_48 : decode mX11_point.2.1 48 = .ok (.getfield 28, 3) := by decide +kernel
theorem dX11_point_51 : decode mX11_point.2.1 51 = .ok (.getfield 180, 3) := by decide +kernel
theorem dX11_point_54 : decode mX11_point.2.1 54 = .ok (.iload_n 1, 1) := by decide +kernel
theorem dX11_point_55 : decode mX11_point.2.1 55 = .ok (.iaload, 1) := by decide +kernel
theorem dX11_point_56 : decode mX11_point.2.1 56 = .ok (.ireturn, 1) := by decide +kernel
theorem dX11_point_57 : decode mX11_point.2.1 57 = .ok (.aload_n 0, 1) := by decide +kernel
theorem dX11_point_58 : decode mX11_point.2.1 58 = .ok (.getfield 24, 3) := by decide +kernel
theorem dX11_point_61 : decode mX11_point.2.1 61 = .ok (.getfield 28, 3) := by decide +kernel
theorem dX11_point_64 : decode mX11_point.2.1 64 = .ok (.getfield 183, 3) := by decide +kernel
theorem dX11_point_67 : decode mX11_point.2.1 67 = .ok (.iload_n 1, 1) := by decide +kernel
theorem dX11_point_68 : decode mX11_point.2.1 68 = .ok (.iaload, 1) := by decide +kernel
theorem dX11_point_69 : decode mX11_point.2.1 69 = .ok (.ireturn, 1) := by decide +kernel
theorem dX11_point_70 : decode mX11_point.2.1 70 = .ok (.aload_n 0, 1) := by decide +kernel
theorem dX11_point_71 : decode mX11_point.2.1 71 = .ok (.getfield 24, 3) := by decide +kernel
theorem dX11_point_74 : decode mX11_point.2.1 74 = .ok (.getfield 28, 3) := by decide +kernel
theorem dX11_point_77 : decode mX11_point.2.1 77 = .ok (.getfield 186, 3) := by decide +kernel
theorem dX11_point_80 : decode mX11_point.2.1 80 = .ok (.iload_n 1, 1) := by decide +kernel
theorem dX11_point_81 : decode mX11_point.2.1 81 = .ok (.iaload, 1) := by decide +kernel
theorem dX11_point_82 : decode mX11_point.2.1 82 = .ok (.ireturn, 1) := by decide +kernel
theorem dX11_point_83 : decode mX11_point.2.1 83 = .ok (.aload_n 0, 1) := by decide +kernel
theorem dX11_point_84 : decode mX11_point.2.1 84 = .ok (.getfield 24, 3) := by decide +kernel
theorem dX11_point_87 : decode mX11_point.2.1 87 = .ok (.iload_n 1, 1) := by decide +kernel
theorem dX11_point_88 : decode mX11_point.2.1 88 = .ok (.invokevirtual 189, 3) := by decide +kernel
theorem dX11_point_91 : decode mX11_point.2.1 91 = .ok (.ireturn, 1) := by decide +kernel
theorem dX11_point_92 : decode mX11_point.2.1 92 = .ok (.iconst (-1), 1) := by decide +kernel
theorem dX11_point_93 : decode mX11_point.2.1 93 = .ok (.ireturn, 1) := by decide +kernel
set_option maxRecDepth 4000 in
theorem ev_X11_point {m : Mem} {f : Int} {v : Int} (hdn : DnOk m 8) (hf : InR f) (hv : InR v) : Ev 0 2 mX11_point [vr 0, vi f, vi v] m (fun r m' => m' = m ∧ (r = if 0 ≤ f ∧ f < m 8 4 then (if v = 0 then m 15 f else if v = 1 then m 16 f else if v = 2 then m 17 f else if v = 3 then fwN m 18 f (m 8 3).toNat else -1) else -1)) := by
  refine Ev.of (L := [vr 0, vi f, vi v]) (by decide +kernel) rfl (Nat.le_of_ble_eq_true rfl) rfl (fun t ht => by cases ht; first | exact Or.inl rfl | exact Or.inr (Or.inl rfl) | exact Or.inr (Or.inr rfl)) (fun hcan => ?_)
  obtain ⟨⟨hd0, hd1⟩, ⟨hd2, hd3⟩, ⟨hd4, hd5⟩, ⟨hd6, hd7⟩, ⟨hd8, hd9⟩, hdf, hdp, hdq⟩ := id hdn
  refine go_aload_n dX11_point_0 rfl ?_
  refine go_getf_p (b := 7) dX11_point_1 fl_11_24 ob_0 rfl pt_0_1 ?_
  refine go_iload_n dX11_point_4 rfl ?_
  refine go_callVp_z (as := [vi f]) (S := []) (b := 7) (ev_X10_hasPoint (m := m) (w := 7) (f := f) (d := 8) (st := 18) isWd_7 (by first | assumption | omega | exact ⟨by omega, by omega⟩ | (constructor <;> omega))) rfl dX11_point_5 cv_11_177 rfl rfl ob_7 rfl (by decide) (Nat.le_of_ble_eq_true rfl) (fun r_5 hr_5 ho_5 => ?_)
  refine go_if_ne (tgt := 13) dX11_point_8 (by decide) ⟨by omega, by omega⟩ (fun h_8 => ?_) (fun h_8 => ?_)
  · refine go_iload_n dX11_point_13 rfl ?_
    refine go_tswitch (tgt := 92) dX11_point_14 ⟨by omega, by omega⟩ (by decide) (fun n_14 h_14 hb_14 => ?_) (fun h_14 => ?_)
    · match n_14, h_14, hb_14 with
      | 0, h_14, hb_14 =>
        refine ⟨30, 44, rfl, by decide, ?_⟩
        refine go_aload_n dX11_point_44 rfl ?_
        refine go_getf_p (b := 7) dX11_point_45 fl_11_24 ob_0 rfl pt_0_1 ?_
        refine go_getf_p (b := 8) dX11_point_48 fl_11_28 ob_7 rfl pt_7_0 ?_
        refine go_getf_p (b := 15) dX11_point_51 fl_11_180 ob_8 rfl pt_8_11 ?_
        refine go_iload_n dX11_point_54 rfl ?_
        refine go_iaload dX11_point_55 ar_15 (by omega) (by omega) (fun he_55 => ?_)
        exact go_ret (v := (m 15 f)) rfl dX11_point_56 (okI ⟨by omega, by omega⟩) ⟨rfl, (by first | assumption | rfl | omega)⟩
      | 1, h_14, hb_14 =>
        refine ⟨43, 57, rfl, by decide, ?_⟩
        refine go_aload_n dX11_point_57 rfl ?_
        refine go_getf_p (b := 7) dX11_point_58 fl_11_24 ob_0 rfl pt_0_1 ?_
        refine go_getf_p (b := 8) dX11_point_61 fl_11_28 ob_7 rfl pt_7_0 ?_
        refine go_getf_p (b := 16) dX11_point_64 fl_11_183 ob_8 rfl pt_8_12 ?_
        refine go_iload_n dX11_point_67 rfl ?_
        refine go_iaload dX11_point_68 ar_16 (by omega) (by omega) (fun he_68 => ?_)
        exact go_ret (v := (m 16 f)) rfl dX11_point_69 (okI ⟨by omega, by omega⟩) ⟨rfl, (by first | assumption | rfl | omega)⟩
      | 2, h_14, hb_14 =>
        refine ⟨56, 70, rfl, by decide, ?_⟩
        refine go_aload_n dX11_point_70 rfl ?_
        refine go_getf_p (b := 7) dX11_point_71 fl_11_24 ob_0 rfl pt_0_1 ?_
        refine go_getf_p (b := 8) dX11_point_74 fl_11_28 ob_7 rfl pt_7_0 ?_
        refine go_getf_p (b := 17) dX11_point_77 fl_11_186 ob_8 rfl pt_8_13 ?_
        refine go_iload_n dX11_point_80 rfl ?_
        refine go_iaload dX11_point_81 ar_17 (by omega) (by omega) (fun he_81 => ?_)
        exact go_ret (v := (m 17 f)) rfl dX11_point_82 (okI ⟨by omega, by omega⟩) ⟨rfl, (by first | assumption | rfl | omega)⟩
      | 3, h_14, hb_14 =>
        refine ⟨69, 83, rfl, by decide, ?_⟩
        refine go_aload_n dX11_point_83 rfl ?_
        refine go_getf_p (b := 7) dX11_point_84 fl_11_24 ob_0 rfl pt_0_1 ?_
        refine go_iload_n dX11_point_87 rfl ?_
        refine go_callVp_i (as := [vi f]) (S := []) (b := 7) (ev_X10_forWhomCame (m := m) (w := 7) (q := f) (d := 8) (st := 18) isWd_7 (by first | assumption | omega | exact ⟨by omega, by omega⟩ | (constructor <;> omega)) (by first | assumption | omega | exact ⟨by omega, by omega⟩ | (constructor <;> omega))) rfl dX11_point_88 cv_11_189 rfl rfl ob_7 rfl (by decide) (Nat.le_of_ble_eq_true rfl) (fun r_88 hr_88 ho_88 => ?_)
        exact go_ret (v := r_88) rfl dX11_point_91 (okI ⟨by omega, by omega⟩) ⟨rfl, (by first | assumption | rfl | omega)⟩
      | k + 4, h_14, hb_14 => exfalso; omega
    · refine go_iconst dX11_point_92 ?_
      exact go_ret (v := (-1)) rfl dX11_point_93 (okI ⟨by omega, by omega⟩) ⟨rfl, (by first | assumption | rfl | omega)⟩
  · refine go_iconst dX11_point_11 ?_
    exact go_ret (v := (-1)) rfl dX11_point_12 (okI ⟨by omega, by omega⟩) ⟨rfl, (by first | assumption | rfl | omega)⟩
theorem dX11_cell_0 : decode mX11_cell.2.1 0 = .ok (.aload_n 0, 1) := by decide +kernel
theorem dX11_cell_1 : decode mX11_cell.2.1 1 = .ok (.getfield 24, 3) := by decide +kernel
theorem dX11_cell_4 : decode mX11_cell.2.1 4 = .ok (.getfield 28, 3) := by decide +kernel
theorem dX11_cell_7 : decode mX11_cell.2.1 7 = .ok (.iload_n 1, 1) := by decide +kernel
theorem dX11_cell_8 : decode mX11_cell.2.1 8 = .ok (.iload_n 2, 1) := by decide +kernel
theorem dX11_cell_9 : decode mX11_cell.2.1 9 = .ok (.invokevirtual 192, 3) := by decide +kernel
theorem dX11_cell_12 : decode mX11_cell.2.1 12 = .ok (.ifCond .ne 5, 3) := by decide +kernel
theorem dX11_cell_15 : decode mX11_cell.2.1 15 = .ok (.iconst (-1), 1) := by decide +kernel
theorem dX11_cell_16 : decode mX11_cell.2.1 16 = .ok (.ireturn, 1) := by decide +kernel
theorem dX11_cell_17 : decode mX11_cell.2.1 17 = .ok (.iload_n 3, 1) := by decide +kernel
theorem dX11_cell_18 : decode mX11_cell.2.1 18 = .ok (.tableswitch 66 0 2 #[26, 43, 53], 26) := by decide +kernel
theorem dX11_cell_44 : decode mX11_cell.2.1 44 = .ok (.aload_n 0, 1) := by decide +kernel
theorem dX11_cell_45 : decode mX11_cell.2.1 45 = .ok (.getfield 24, 3) := by decide +kernel
theorem dX11_cell_48 : decode mX11_cell.2.1 48 = .ok (.getfield 136, 3) := by decide +kernel
theorem dX11_cell_51 : decode mX11_cell.2.1 51 = .ok (.getfield 196, 3) := by decide +kernel
theorem dX11_cell_54 : decode mX11_cell.2.1 54 = .ok (.iload_n 1, 1) := by decide +kernel
theorem dX11_cell_55 : decode mX11_cell.2.1 55 = .ok (.iload_n 2, 1) := by decide +kernel
theorem dX11_cell_56 : decode mX11_cell.2.1 56 = .ok (.invokestatic 199, 3) := by decide +kernel
theorem dX11_cell_59 : decode mX11_cell.2.1 59 = .ok (.iaload, 1) := by decide +kernel
theorem dX11_cell_60 : decode mX11_cell.2.1 60 = .ok (.ireturn, 1) := by decide +kernel
theorem dX11_cell_61 : decode mX11_cell.2.1 61 = .ok (.aload_n 0, 1) := by decide +kernel
theorem dX11_cell_62 : decode mX11_cell.2.1 62 = .ok (.getfield 24, 3) := by decide +kernel
theorem dX11_cell_65 : decode mX11_cell.2.1 65 = .ok (.iload_n 1, 1) := by decide +kernel
theorem dX11_cell_66 : decode mX11_cell.2.1 66 = .ok (.iload_n 2, 1) := by decide +kernel
theorem dX11_cell_67 : decode mX11_cell.2.1 67 = .ok (.invokevirtual 203, 3) := by decide +kernel
theorem dX11_cell_70 : decode mX11_cell.2.1 70 = .ok (.ireturn, 1) := by decide +kernel
theorem dX11_cell_71 : decode mX11_cell.2.1 71 = .ok (.aload_n 0, 1) := by decide +kernel
theorem dX11_cell_72 : decode mX11_cell.2.1 72 = .ok (.getfield 24, 3) := by decide +kernel
theorem dX11_cell_75 : decode mX11_cell.2.1 75 = .ok (.getfield 28, 3) := by decide +kernel
theorem dX11_cell_78 : decode mX11_cell.2.1 78 = .ok (.iload_n 1, 1) := by decide +kernel
theorem dX11_cell_79 : decode mX11_cell.2.1 79 = .ok (.iload_n 2, 1) := by decide +kernel
theorem dX11_cell_80 : decode mX11_cell.2.1 80 = .ok (.invokevirtual 206, 3) := by decide +kernel
theorem dX11_cell_83 : decode mX11_cell.2.1 83 = .ok (.ireturn, 1) := by decide +kernel
theorem dX11_cell_84 : decode mX11_cell.2.1 84 = .ok (.iconst (-1), 1) := by decide +kernel
theorem dX11_cell_85 : decode mX11_cell.2.1 85 = .ok (.ireturn, 1) := by decide +kernel
set_option maxRecDepth 4000 in
theorem ev_X11_cell {m : Mem} {x : Int} {y : Int} {v : Int} (hdn : DnOk m 8) (hx : InR x) (hy : InR y) (hv : InR v) : Ev 0 2 mX11_cell [vr 0, vi x, vi y, vi v] m (fun r m' => m' = m ∧ (r = if insC m 8 x y then (if v = 0 then m 19 (9 * y + x) else if v = 1 then whoC m 8 18 x y else if v = 2 then ptsAt m 8 x y else -1) else -1)) := by
  refine Ev.of (L := [vr 0, vi x, vi y, vi v]) (by decide +kernel) rfl (Nat.le_of_ble_eq_true rfl) rfl (fun t ht => by cases ht; first | exact Or.inl rfl | exact Or.inr (Or.inl rfl) | exact Or.inr (Or.inr rfl)) (fun hcan => ?_)
  obtain ⟨⟨hd0, hd1⟩, ⟨hd2, hd3⟩, ⟨hd4, hd5⟩, ⟨hd6, hd7⟩, ⟨hd8, hd9⟩, hdf, hdp, hdq⟩ := id hdn
  refine go_aload_n dX11_cell_0 rfl ?_
  refine go_getf_p (b := 7) dX11_cell_1 fl_11_24 ob_0 rfl pt_0_1 ?_
  refine go_getf_p (b := 8) dX11_cell_4 fl_11_28 ob_7 rfl pt_7_0 ?_
  refine go_iload_n dX11_cell_7 rfl ?_
  refine go_iload_n dX11_cell_8 rfl ?_
  refine go_callVp_z (as := [vi x, vi y]) (S := []) (b := 8) (ev_X1_isInside (m := m) (d := 8) (x := x) (y := y) isDn_8 (by first | assumption | omega | exact ⟨by omega, by omega⟩ | (constructor <;> omega)) (by first | assumption | omega | exact ⟨by omega, by omega⟩ | (constructor <;> omega))) rfl dX11_cell_9 cv_11_192 rfl rfl ob_8 rfl (by decide) (Nat.le_of_ble_eq_true rfl) (fun r_9 hr_9 ho_9 => ?_)
  refine go_if_ne (tgt := 17) dX11_cell_12 (by decide) ⟨by omega, by omega⟩ (fun h_12 => ?_) (fun h_12 => ?_)
  · refine go_iload_n dX11_cell_17 rfl ?_
    refine go_tswitch (tgt := 84) dX11_cell_18 ⟨by omega, by omega⟩ (by decide) (fun n_18 h_18 hb_18 => ?_) (fun h_18 => ?_)
    · match n_18, h_18, hb_18 with
      | 0, h_18, hb_18 =>
        refine ⟨26, 44, rfl, by decide, ?_⟩
        refine go_aload_n dX11_cell_44 rfl ?_
        refine go_getf_p (b := 7) dX11_cell_45 fl_11_24 ob_0 rfl pt_0_1 ?_
        refine go_getf_p (b := 18) dX11_cell_48 fl_11_136 ob_7 rfl pt_7_1 ?_
        refine go_getf_p (b := 19) dX11_cell_51 fl_11_196 ob_18 rfl pt_18_2 ?_
        refine go_iload_n dX11_cell_54 rfl ?_
        refine go_iload_n dX11_cell_55 rfl ?_
        refine go_callSp_i (as := [vi x, vi y]) (S := [vr 19]) (ev_X11_cellOf (m := m) (x := x) (y := y) (by first | assumption | omega | exact ⟨by omega, by omega⟩ | (constructor <;> omega)) (by first | assumption | omega | exact ⟨by omega, by omega⟩ | (constructor <;> omega))) rfl dX11_cell_56 cs_11_199 rfl rfl (by decide) (Nat.le_of_ble_eq_true rfl) (fun r_56 hr_56 ho_56 => ?_)
        subst hr_56
        refine go_iaload dX11_cell_59 ar_19 (by omega) (by omega) (fun he_59 => ?_)
        exact go_ret (v := (m 19 (9 * y + x))) rfl dX11_cell_60 (okI ⟨by omega, by omega⟩) ⟨rfl, (by first | assumption | rfl | omega)⟩
      | 1, h_18, hb_18 =>
        refine ⟨43, 61, rfl, by decide, ?_⟩
        refine go_aload_n dX11_cell_61 rfl ?_
        refine go_getf_p (b := 7) dX11_cell_62 fl_11_24 ob_0 rfl pt_0_1 ?_
        refine go_iload_n dX11_cell_65 rfl ?_
        refine go_iload_n dX11_cell_66 rfl ?_
        refine go_callVp_i (as := [vi x, vi y]) (S := []) (b := 7) (ev_X10_whoIsAt (m := m) (w := 7) (x := x) (y := y) (d := 8) (st := 18) isWd_7 (by first | assumption | omega | exact ⟨by omega, by omega⟩ | (constructor <;> omega)) (by first | assumption | omega | exact ⟨by omega, by omega⟩ | (constructor <;> omega)) (by first | assumption | omega | exact ⟨by omega, by omega⟩ | (constructor <;> omega))) rfl dX11_cell_67 cv_11_203 rfl rfl ob_7 rfl (by decide) (Nat.le_of_ble_eq_true rfl) (fun r_67 hr_67 ho_67 => ?_)
        exact go_ret (v := r_67) rfl dX11_cell_70 (okI ⟨by omega, by omega⟩) ⟨rfl, (by first | assumption | rfl | omega)⟩
      | 2, h_18, hb_18 =>
        refine ⟨53, 71, rfl, by decide, ?_⟩
        refine go_aload_n dX11_cell_71 rfl ?_
        refine go_getf_p (b := 7) dX11_cell_72 fl_11_24 ob_0 rfl pt_0_1 ?_
        refine go_getf_p (b := 8) dX11_cell_75 fl_11_28 ob_7 rfl pt_7_0 ?_
        refine go_iload_n dX11_cell_78 rfl ?_
        refine go_iload_n dX11_cell_79 rfl ?_
        refine go_callVp_i (as := [vi x, vi y]) (S := []) (b := 8) (ev_X1_pointsAt (m := m) (d := 8) (x := x) (y := y) isDn_8 (by first | assumption | omega | exact ⟨by omega, by omega⟩ | (constructor <;> omega)) (by first | assumption | omega | exact ⟨by omega, by omega⟩ | (constructor <;> omega)) (by first | assumption | omega | exact ⟨by omega, by omega⟩ | (constructor <;> omega))) rfl dX11_cell_80 cv_11_206 rfl rfl ob_8 rfl (by decide) (Nat.le_of_ble_eq_true rfl) (fun r_80 hr_80 ho_80 => ?_)
        exact go_ret (v := r_80) rfl dX11_cell_83 (okI ⟨by omega, by omega⟩) ⟨rfl, (by first | assumption | rfl | omega)⟩
      | k + 3, h_18, hb_18 => exfalso; omega
    · refine go_iconst dX11_cell_84 ?_
      exact go_ret (v := (-1)) rfl dX11_cell_85 (okI ⟨by omega, by omega⟩) ⟨rfl, (by first | assumption | rfl | omega)⟩
  · refine go_iconst dX11_cell_15 ?_
    exact go_ret (v := (-1)) rfl dX11_cell_16 (okI ⟨by omega, by omega⟩) ⟨rfl, (by first | assumption | rfl | omega)⟩
theorem dX11_now_0 : decode mX11_now.2.1 0 = .ok (.iload_n 1, 1) := by decide +kernel
theorem dX11_now_1 : decode mX11_now.2.1 1 = .ok (.tableswitch 117 0 7 #[47, 58, 66, 74, 85, 93, 101, 109], 47) := by decide +kernel
theorem dX11_now_48 : decode mX11_now.2.1 48 = .ok (.aload_n 0, 1) := by decide +kernel
theorem dX11_now_49 : decode mX11_now.2.1 49 = .ok (.getfield 24, 3) := by decide +kernel
theorem dX11_now_52 : decode mX11_now.2.1 52 = .ok (.getfield 136, 3) := by decide +kernel
theorem dX11_now_55 : decode mX11_now.2.1 55 = .ok (.getfield 209, 3) := by decide +kernel
theorem dX11_now_58 : decode mX11_now.2.1 58 = .ok (.ireturn, 1) := by decide +kernel
theorem dX11_now_59 : decode mX11_now.2.1 59 = .ok (.aload_n 0, 1) := by decide +kernel
theorem dX11_now_60 : decode mX11_now.2.1 60 = .ok (.getfield 24, 3) := by decide +kernel
theorem dX11_now_63 : decode mX11_now.2.1 63 = .ok (.invokevirtual 212, 3) := by decide +kernel
theorem dX11_now_66 : decode mX11_now.2.1 66 = .ok (.ireturn, 1) := by decide +kernel
theorem dX11_now_67 : decode mX11_now.2.1 67 = .ok (.aload_n 0, 1) := by decide +kernel
theorem dX11_now_68 : decode mX11_now.2.1 68 = .ok (.getfield 24, 3) := by decide +kernel
theorem dX11_now_71 : decode mX11_now.2.1 71 = .ok (.invokevirtual 215, 3) := by decide +kernel
theorem dX11_now_74 : decode mX11_now.2.1 74 = .ok (.ireturn, 1) := by decide +kernel
theorem dX11_now_75 : decode mX11_now.2.1 75 = .ok (.aload_n 0, 1) := by decide +kernel
theorem dX11_now_76 : decode mX11_now.2.1 76 = .ok (.getfield 24, 3) := by decide +kernel
theorem dX11_now_79 : decode mX11_now.2.1 79 = .ok (.getfield 136, 3) := by decide +kernel
theorem dX11_now_82 : decode mX11_now.2.1 82 = .ok (.getfield 218, 3) := by decide +kernel
theorem dX11_now_85 : decode mX11_now.2.1 85 = .ok (.ireturn, 1) := by decide +kernel
theorem dX11_now_86 : decode mX11_now.2.1 86 = .ok (.aload_n 0, 1) := by decide +kernel
theorem dX11_now_87 : decode mX11_now.2.1 87 = .ok (.getfield 24, 3) := by decide +kernel
theorem dX11_now_90 : decode mX11_now.2.1 90 = .ok (.invokevirtual 221, 3) := by decide +kernel
theorem dX11_now_93 : decode mX11_now.2.1 93 = .ok (.ireturn, 1) := by decide +kernel
theorem dX11_now_94 : decode mX11_now.2.1 94 = .ok (.aload_n 0, 1) := by decide +kernel
theorem dX11_now_95 : decode mX11_now.2.1 95 = .ok (.getfield 24, 3) := by decide +kernel
theorem dX11_now_98 : decode mX11_now.2.1 98 = .ok (.invokevirtual 224, 3) := by decide +kernel
theorem dX11_now_101 : decode mX11_now.2.1 101 = .ok (.ireturn, 1) := by decide +kernel
theorem dX11_now_102 : decode mX11_now.2.1 102 = .ok (.aload_n 0, 1) := by decide +kernel
theorem dX11_now_103 : decode mX11_now.2.1 103 = .ok (.getfield 24, 3) := by decide +kernel
theorem dX11_now_106 : decode mX11_now.2.1 106 = .ok (.invokevirtual 227, 3) := by decide +kernel
theorem dX11_now_109 : decode mX11_now.2.1 109 = .ok (.ireturn, 1) := by decide +kernel
theorem dX11_now_110 : decode mX11_now.2.1 110 = .ok (.aload_n 0, 1) := by decide +kernel
theorem dX11_now_111 : decode mX11_now.2.1 111 = .ok (.getfield 24, 3) := by decide +kernel
theorem dX11_now_114 : decode mX11_now.2.1 114 = .ok (.invokevirtual 230, 3) := by decide +kernel
theorem dX11_now_117 : decode mX11_now.2.1 117 = .ok (.ireturn, 1) := by decide +kernel
theorem dX11_now_118 : decode mX11_now.2.1 118 = .ok (.iconst (-1), 1) := by decide +kernel
theorem dX11_now_119 : decode mX11_now.2.1 119 = .ok (.ireturn, 1) := by decide +kernel
set_option maxRecDepth 4000 in
theorem ev_X11_now {m : Mem} {v : Int} {B : Int} (hdn : DnOk m 8) (hst : StOk m 8 18 B) (hB : 0 ≤ B ∧ B ≤ 100000000) (hv : InR v) : Ev 0 3 mX11_now [vr 0, vi v] m (fun r m' => m' = m ∧ (r = if v = 0 then m 18 0 else if v = 1 then sumI (m (18 + 1)) 81 else if v = 2 then sumI (m (18 + 7)) (m 8 3) else if v = 3 then m 18 1 else if v = 4 then comeN 0 (fun p => decide (m (18 + 5) p = 0)) (m 8 3).toNat else if v = 5 then comeN 0 (setlC m 8 18) (m 8 3).toNat else if v = 6 then comeN 0 (fun p => decide (m (18 + 4) p = 0)) (m 8 3).toNat else if v = 7 then sumI (m (18 + 5)) (m 8 3) else -1)) := by
  refine Ev.of (L := [vr 0, vi v]) (by decide +kernel) rfl (Nat.le_of_ble_eq_true rfl) rfl (fun t ht => by cases ht; first | exact Or.inl rfl | exact Or.inr (Or.inl rfl) | exact Or.inr (Or.inr rfl)) (fun hcan => ?_)
  refine go_iload_n dX11_now_0 rfl ?_
  refine go_tswitch (tgt := 118) dX11_now_1 ⟨by omega, by omega⟩ (by decide) (fun n_1 h_1 hb_1 => ?_) (fun h_1 => ?_)
  · match n_1, h_1, hb_1 with
    | 0, h_1, hb_1 =>
      refine ⟨47, 48, rfl, by decide, ?_⟩
      refine go_aload_n dX11_now_48 rfl ?_
      refine go_getf_p (b := 7) dX11_now_49 fl_11_24 ob_0 rfl pt_0_1 ?_
      refine go_getf_p (b := 18) dX11_now_52 fl_11_136 ob_7 rfl pt_7_1 ?_
      refine go_getf_i (ki := 0) dX11_now_55 fl_11_209 ob_18 rfl rfl (fun hf_55 => ?_)
      exact go_ret (v := (m 18 0)) rfl dX11_now_58 (okI ⟨by omega, by omega⟩) ⟨rfl, (by first | assumption | rfl | omega)⟩
    | 1, h_1, hb_1 =>
      refine ⟨58, 59, rfl, by decide, ?_⟩
      refine go_aload_n dX11_now_59 rfl ?_
      refine go_getf_p (b := 7) dX11_now_60 fl_11_24 ob_0 rfl pt_0_1 ?_
      refine go_callVp_i (as := []) (S := []) (b := 7) (ev_X10_allWalls (m := m) (w := 7) (B := B) (d := 8) (st := 18) isWd_7 (by first | assumption | omega | exact ⟨by omega, by omega⟩ | (constructor <;> omega))) rfl dX11_now_63 cv_11_212 rfl rfl ob_7 rfl (by decide) (Nat.le_of_ble_eq_true rfl) (fun r_63 hr_63 ho_63 => ?_)
      exact go_ret (v := r_63) rfl dX11_now_66 (okI ⟨by omega, by omega⟩) ⟨rfl, (by first | assumption | rfl | omega)⟩
    | 2, h_1, hb_1 =>
      refine ⟨66, 67, rfl, by decide, ?_⟩
      refine go_aload_n dX11_now_67 rfl ?_
      refine go_getf_p (b := 7) dX11_now_68 fl_11_24 ob_0 rfl pt_0_1 ?_
      refine go_callVp_i (as := []) (S := []) (b := 7) (ev_X10_allSpoken (m := m) (w := 7) (B := B) (d := 8) (st := 18) isWd_7 (by first | assumption | omega | exact ⟨by omega, by omega⟩ | (constructor <;> omega)) (by first | assumption | omega | exact ⟨by omega, by omega⟩ | (constructor <;> omega)) (by first | assumption | omega | exact ⟨by omega, by omega⟩ | (constructor <;> omega))) rfl dX11_now_71 cv_11_215 rfl rfl ob_7 rfl (by decide) (Nat.le_of_ble_eq_true rfl) (fun r_71 hr_71 ho_71 => ?_)
      exact go_ret (v := r_71) rfl dX11_now_74 (okI ⟨by omega, by omega⟩) ⟨rfl, (by first | assumption | rfl | omega)⟩
    | 3, h_1, hb_1 =>
      refine ⟨74, 75, rfl, by decide, ?_⟩
      refine go_aload_n dX11_now_75 rfl ?_
      refine go_getf_p (b := 7) dX11_now_76 fl_11_24 ob_0 rfl pt_0_1 ?_
      refine go_getf_p (b := 18) dX11_now_79 fl_11_136 ob_7 rfl pt_7_1 ?_
      refine go_getf_i (ki := 1) dX11_now_82 fl_11_218 ob_18 rfl rfl (fun hf_82 => ?_)
      exact go_ret (v := (m 18 1)) rfl dX11_now_85 (okI ⟨by omega, by omega⟩) ⟨rfl, (by first | assumption | rfl | omega)⟩
    | 4, h_1, hb_1 =>
      refine ⟨85, 86, rfl, by decide, ?_⟩
      refine go_aload_n dX11_now_86 rfl ?_
      refine go_getf_p (b := 7) dX11_now_87 fl_11_24 ob_0 rfl pt_0_1 ?_
      refine go_callVp_i (as := []) (S := []) (b := 7) (ev_X10_whoIsSpent (m := m) (w := 7) (d := 8) (st := 18) isWd_7 (by first | assumption | omega | exact ⟨by omega, by omega⟩ | (constructor <;> omega))) rfl dX11_now_90 cv_11_221 rfl rfl ob_7 rfl (by decide) (Nat.le_of_ble_eq_true rfl) (fun r_90 hr_90 ho_90 => ?_)
      exact go_ret (v := r_90) rfl dX11_now_93 (okI ⟨by omega, by omega⟩) ⟨rfl, (by first | assumption | rfl | omega)⟩
    | 5, h_1, hb_1 =>
      refine ⟨93, 94, rfl, by decide, ?_⟩
      refine go_aload_n dX11_now_94 rfl ?_
      refine go_getf_p (b := 7) dX11_now_95 fl_11_24 ob_0 rfl pt_0_1 ?_
      refine go_callVp_i (as := []) (S := []) (b := 7) (ev_X10_whoIsSettled (m := m) (w := 7) (d := 8) (st := 18) isWd_7 (by first | assumption | omega | exact ⟨by omega, by omega⟩ | (constructor <;> omega))) rfl dX11_now_98 cv_11_224 rfl rfl ob_7 rfl (by decide) (Nat.le_of_ble_eq_true rfl) (fun r_98 hr_98 ho_98 => ?_)
      exact go_ret (v := r_98) rfl dX11_now_101 (okI ⟨by omega, by omega⟩) ⟨rfl, (by first | assumption | rfl | omega)⟩
    | 6, h_1, hb_1 =>
      refine ⟨101, 102, rfl, by decide, ?_⟩
      refine go_aload_n dX11_now_102 rfl ?_
      refine go_getf_p (b := 7) dX11_now_103 fl_11_24 ob_0 rfl pt_0_1 ?_
      refine go_callVp_i (as := []) (S := []) (b := 7) (ev_X10_whoIsUpright (m := m) (w := 7) (d := 8) (st := 18) isWd_7 (by first | assumption | omega | exact ⟨by omega, by omega⟩ | (constructor <;> omega))) rfl dX11_now_106 cv_11_227 rfl rfl ob_7 rfl (by decide) (Nat.le_of_ble_eq_true rfl) (fun r_106 hr_106 ho_106 => ?_)
      exact go_ret (v := r_106) rfl dX11_now_109 (okI ⟨by omega, by omega⟩) ⟨rfl, (by first | assumption | rfl | omega)⟩
    | 7, h_1, hb_1 =>
      refine ⟨109, 110, rfl, by decide, ?_⟩
      refine go_aload_n dX11_now_110 rfl ?_
      refine go_getf_p (b := 7) dX11_now_111 fl_11_24 ob_0 rfl pt_0_1 ?_
      refine go_callVp_i (as := []) (S := []) (b := 7) (ev_X10_allBreath (m := m) (w := 7) (B := B) (d := 8) (st := 18) isWd_7 (by first | assumption | omega | exact ⟨by omega, by omega⟩ | (constructor <;> omega)) (by first | assumption | omega | exact ⟨by omega, by omega⟩ | (constructor <;> omega))) rfl dX11_now_114 cv_11_230 rfl rfl ob_7 rfl (by decide) (Nat.le_of_ble_eq_true rfl) (fun r_114 hr_114 ho_114 => ?_)
      exact go_ret (v := r_114) rfl dX11_now_117 (okI ⟨by omega, by omega⟩) ⟨rfl, (by first | assumption | rfl | omega)⟩
    | k + 8, h_1, hb_1 => exfalso; omega
  · refine go_iconst dX11_now_118 ?_
    exact go_ret (v := (-1)) rfl dX11_now_119 (okI ⟨by omega, by omega⟩) ⟨rfl, (by first | assumption | rfl | omega)⟩
theorem dX11_say_0 : decode mX11_say.2.1 0 = .ok (.aload_n 0, 1) := by decide +kernel
theorem dX11_say_1 : decode mX11_say.2.1 1 = .ok (.getfield 24, 3) := by decide +kernel
theorem dX11_say_4 : decode mX11_say.2.1 4 = .ok (.iload_n 1, 1) := by decide +kernel
theorem dX11_say_5 : decode mX11_say.2.1 5 = .ok (.invokevirtual 129, 3) := by decide +kernel
theorem dX11_say_8 : decode mX11_say.2.1 8 = .ok (.ifCond .eq 21, 3) := by decide +kernel
theorem dX11_say_11 : decode mX11_say.2.1 11 = .ok (.aload_n 0, 1) := by decide +kernel
theorem dX11_say_12 : decode mX11_say.2.1 12 = .ok (.getfield 24, 3) := by decide +kernel
theorem dX11_say_15 : decode mX11_say.2.1 15 = .ok (.iload_n 2, 1) := by decide +kernel
theorem dX11_say_16 : decode mX11_say.2.1 16 = .ok (.invokevirtual 164, 3) := by decide +kernel
theorem dX11_say_19 : decode mX11_say.2.1 19 = .ok (.ifCond .eq 10, 3) := by decide +kernel
theorem dX11_say_22 : decode mX11_say.2.1 22 = .ok (.iload_n 3, 1) := by decide +kernel
theorem dX11_say_23 : decode mX11_say.2.1 23 = .ok (.invokestatic 233, 3) := by decide +kernel
theorem dX11_say_26 : decode mX11_say.2.1 26 = .ok (.ifCond .ne 5, 3) := by decide +kernel
theorem dX11_say_29 : decode mX11_say.2.1 29 = .ok (.iconst (-1), 1) := by decide +kernel
theorem dX11_say_30 : decode mX11_say.2.1 30 = .ok (.ireturn, 1) := by decide +kernel
theorem dX11_say_31 : decode mX11_say.2.1 31 = .ok (.aload_n 0, 1) := by decide +kernel
theorem dX11_say_32 : decode mX11_say.2.1 32 = .ok (.getfield 24, 3) := by decide +kernel
theorem dX11_say_35 : decode mX11_say.2.1 35 = .ok (.iload_n 1, 1) := by decide +kernel
theorem dX11_say_36 : decode mX11_say.2.1 36 = .ok (.iload_n 2, 1) := by decide +kernel
theorem dX11_say_37 : decode mX11_say.2.1 37 = .ok (.iload_n 3, 1) := by decide +kernel
theorem dX11_say_38 : decode mX11_say.2.1 38 = .ok (.invokevirtual 236, 3) := by decide +kernel
theorem dX11_say_41 : decode mX11_say.2.1 41 = .ok (.istore 4, 2) := by decide +kernel
theorem dX11_say_43 : decode mX11_say.2.1 43 = .ok (.iload 4, 2) := by decide +kernel
theorem dX11_say_45 : decode mX11_say.2.1 45 = .ok (.ifCond .ne 27, 3) := by decide +kernel
theorem dX11_say_48 : decode mX11_say.2.1 48 = .ok (.aload_n 0, 1) := by decide +kernel
theorem dX11_say_49 : decode mX11_say.2.1 49 = .ok (.getfield 82, 3) := by decide +kernel
theorem dX11_say_52 : decode mX11_say.2.1 52 = .ok (.aload_n 0, 1) := by decide +kernel
theorem dX11_say_53 : decode mX11_say.2.1 53 = .ok (.getfield 24, 3) := by decide +kernel
theorem dX11_say_56 : decode mX11_say.2.1 56 = .ok (.getfield 136, 3) := by decide +kernel
theorem dX11_say_59 : decode mX11_say.2.1 59 = .ok (.invokevirtual 240, 3) := by decide +kernel
theorem dX11_say_62 : decode mX11_say.2.1 62 = .ok (.aload_n 0, 1) := by decide +kernel
theorem dX11_say_63 : decode mX11_say.2.1 63 = .ok (.getfield 24, 3) := by decide +kernel
theorem dX11_say_66 : decode mX11_say.2.1 66 = .ok (.iload_n 1, 1) := by decide +kernel
theorem dX11_say_67 : decode mX11_say.2.1 67 = .ok (.iload_n 2, 1) := by decide +kernel
theorem dX11_say_68 : decode mX11_say.2.1 68 = .ok (.iload_n 3, 1) := by decide +kernel
theorem dX11_say_69 : decode mX11_say.2.1 69 = .ok (.invokevirtual 244, 3) := by decide +kernel
theorem dX11_say_72 : decode mX11_say.2.1 72 = .ok (.iload 4, 2) := by decide +kernel
theorem dX11_say_74 : decode mX11_say.2.1 74 = .ok (.ireturn, 1) := by decide +kernel
set_option maxRecDepth 4000 in
theorem ev_X11_say {m : Mem} {p : Int} {f : Int} {s : Int} {B : Int} (hdn : DnOk m 8) (hst : StOk m 8 18 B) (hB : 0 ≤ B ∧ B ≤ 100000000) (hhi : HiOk m) (hp : InR p) (hf : InR f) (hs : InR s) : Ev 0 6 mX11_say [vr 0, vi p, vi f, vi s] m (fun r m' => (okSay m p f s ∧ r = whySayC m 8 18 p f s ∧ m' = if whySayC m 8 18 p f s = 0 then sayC (keepC m 18) 8 18 p f s else m) ∨ (¬ okSay m p f s ∧ r = -1 ∧ m' = m)) := by
  refine Ev.of (L := [vr 0, vi p, vi f, vi s, un]) (by decide +kernel) rfl (Nat.le_of_ble_eq_true rfl) rfl (fun t ht => by cases ht; first | exact Or.inl rfl | exact Or.inr (Or.inl rfl) | exact Or.inr (Or.inr rfl)) (fun hcan => ?_)
  refine go_aload_n dX11_say_0 rfl ?_
  refine go_getf_p (b := 7) dX11_say_1 fl_11_24 ob_0 rfl pt_0_1 ?_
  refine go_iload_n dX11_say_4 rfl ?_
  refine go_callVp_z (as := [vi p]) (S := []) (b := 7) (ev_X10_hasPerson (m := m) (w := 7) (f := p) (d := 8) (st := 18) isWd_7 (by first | assumption | omega | exact ⟨by omega, by omega⟩ | (constructor <;> omega))) rfl dX11_say_5 cv_11_129 rfl rfl ob_7 rfl (by decide) (Nat.le_of_ble_eq_true rfl) (fun r_5 hr_5 ho_5 => ?_)
  refine go_if_eq (tgt := 29) dX11_say_8 (by decide) ⟨by omega, by omega⟩ (fun h_8 => ?_) (fun h_8 => ?_)
  · refine go_iconst dX11_say_29 ?_
    exact go_ret (v := (-1)) rfl dX11_say_30 (okI ⟨by omega, by omega⟩) (Or.inr ⟨by unfold okSay; omega, rfl, rfl⟩)
  · refine go_aload_n dX11_say_11 rfl ?_
    refine go_getf_p (b := 7) dX11_say_12 fl_11_24 ob_0 rfl pt_0_1 ?_
    refine go_iload_n dX11_say_15 rfl ?_
    refine go_callVp_z (as := [vi f]) (S := []) (b := 7) (ev_X10_hasFigure (m := m) (w := 7) (f := f) (d := 8) (st := 18) isWd_7 (by first | assumption | omega | exact ⟨by omega, by omega⟩ | (constructor <;> omega))) rfl dX11_say_16 cv_11_164 rfl rfl ob_7 rfl (by decide) (Nat.le_of_ble_eq_true rfl) (fun r_16 hr_16 ho_16 => ?_)
    refine go_if_eq (tgt := 29) dX11_say_19 (by decide) ⟨by omega, by omega⟩ (fun h_19 => ?_) (fun h_19 => ?_)
    · refine go_iconst dX11_say_29 ?_
      exact go_ret (v := (-1)) rfl dX11_say_30 (okI ⟨by omega, by omega⟩) (Or.inr ⟨by unfold okSay; omega, rfl, rfl⟩)
    · refine go_iload_n dX11_say_22 rfl ?_
      refine go_callSp_z (as := [vi s]) (S := []) (ev_X11_isSide (m := m) (n := s) (by first | assumption | omega | exact ⟨by omega, by omega⟩ | (constructor <;> omega))) rfl dX11_say_23 cs_11_233 rfl rfl (by decide) (Nat.le_of_ble_eq_true rfl) (fun r_23 hr_23 ho_23 => ?_)
      refine go_if_ne (tgt := 31) dX11_say_26 (by decide) ⟨by omega, by omega⟩ (fun h_26 => ?_) (fun h_26 => ?_)
      · refine go_aload_n dX11_say_31 rfl ?_
        refine go_getf_p (b := 7) dX11_say_32 fl_11_24 ob_0 rfl pt_0_1 ?_
        refine go_iload_n dX11_say_35 rfl ?_
        refine go_iload_n dX11_say_36 rfl ?_
        refine go_iload_n dX11_say_37 rfl ?_
        refine go_callVp_i (as := [vi p, vi f, vi s]) (S := []) (b := 7) (ev_X10_whyNotSay (m := m) (w := 7) (p := p) (f := f) (s := s) (B := B) (d := 8) (st := 18) isWd_7 (by first | assumption | omega | exact ⟨by omega, by omega⟩ | (constructor <;> omega)) (by first | assumption | omega | exact ⟨by omega, by omega⟩ | (constructor <;> omega)) (by first | assumption | omega | exact ⟨by omega, by omega⟩ | (constructor <;> omega)) (by first | assumption | omega | exact ⟨by omega, by omega⟩ | (constructor <;> omega)) (by first | assumption | omega | exact ⟨by omega, by omega⟩ | (constructor <;> omega))) rfl dX11_say_38 cv_11_236 rfl rfl ob_7 rfl (by decide) (Nat.le_of_ble_eq_true rfl) (fun r_38 hr_38 ho_38 => ?_)
        refine go_istore (L' := [vr 0, vi p, vi f, vi s, vi r_38]) dX11_say_41 (by decide) rfl rfl ?_
        refine go_iload dX11_say_43 rfl ?_
        refine go_if_ne (tgt := 72) dX11_say_45 (by decide) ⟨by omega, by omega⟩ (fun h_45 => ?_) (fun h_45 => ?_)
        · refine go_iload dX11_say_72 rfl ?_
          exact go_ret (v := r_38) rfl dX11_say_74 (okI ⟨by omega, by omega⟩) (Or.inl ⟨by unfold okSay; omega, hr_38, by first | (rw [if_neg (by omega)]) | (rw [if_pos (by omega)]; exact hr_69)⟩)
        · refine go_aload_n dX11_say_48 rfl ?_
          refine go_getf_p (b := 97) dX11_say_49 fl_11_82 ob_0 rfl pt_0_9 ?_
          refine go_aload_n dX11_say_52 rfl ?_
          refine go_getf_p (b := 7) dX11_say_53 fl_11_24 ob_0 rfl pt_0_1 ?_
          refine go_getf_p (b := 18) dX11_say_56 fl_11_136 ob_7 rfl pt_7_1 ?_
          refine go_callV_v (as := [vr 18]) (S := []) (b := 97) (ev_X3_keep (m := m) (st := 18) isSt_18 (by first | assumption | omega | exact ⟨by omega, by omega⟩ | (constructor <;> omega)) (by first | assumption | omega | exact ⟨by omega, by omega⟩ | (constructor <;> omega))) rfl dX11_say_59 cv_11_240 rfl rfl ob_97 rfl (by decide) (Nat.le_of_ble_eq_true rfl) (fun m_59 hr_59 => ?_)
          subst hr_59
          refine go_aload_n dX11_say_62 rfl ?_
          refine go_getf_p (b := 7) dX11_say_63 fl_11_24 ob_0 rfl pt_0_1 ?_
          refine go_iload_n dX11_say_66 rfl ?_
          refine go_iload_n dX11_say_67 rfl ?_
          refine go_iload_n dX11_say_68 rfl ?_
          refine go_callV_v (as := [vi p, vi f, vi s]) (S := []) (b := 7) (ev_X10_doSay (m := (keepC m 18)) (w := 7) (p := p) (f := f) (s := s) (B := B) (d := 8) (st := 18) isWd_7 (keepC_dn hhi (by omega) hdn) (keepC_st hhi (by omega) (by omega) hst) (by rw [keepC_row hhi (by omega)]; omega) (by rw [keepC_row hhi (by omega)]; omega) (by first | assumption | omega | exact ⟨by omega, by omega⟩ | (constructor <;> omega)) (by first | assumption | omega | exact ⟨by omega, by omega⟩ | (constructor <;> omega))) rfl dX11_say_69 cv_11_244 rfl rfl ob_7 rfl (by decide) (Nat.le_of_ble_eq_true rfl) (fun m_69 hr_69 => ?_)
          refine go_iload dX11_say_72 rfl ?_
          exact go_ret (v := r_38) rfl dX11_say_74 (okI ⟨by omega, by omega⟩) (Or.inl ⟨by unfold okSay; omega, hr_38, by first | (rw [if_neg (by omega)]) | (rw [if_pos (by omega)]; exact hr_69)⟩)
      · refine go_iconst dX11_say_29 ?_
        exact go_ret (v := (-1)) rfl dX11_say_30 (okI ⟨by omega, by omega⟩) (Or.inr ⟨by unfold okSay; omega, rfl, rfl⟩)
theorem dX11_kick_0 : decode mX11_kick.2.1 0 = .ok (.aload_n 0, 1) := by decide +kernel
theorem dX11_kick_1 : decode mX11_kick.2.1 1 = .ok (.getfield 24, 3) := by decide +kernel
theorem dX11_kick_4 : decode mX11_kick.2.1 4 = .ok (.iload_n 1, 1) := by decide +kernel
theorem dX11_kick_5 : decode mX11_kick.2.1 5 = .ok (.invokevirtual 129, 3) := by decide +kernel
theorem dX11_kick_8 : decode mX11_kick.2.1 8 = .ok (.ifCond .eq 10, 3) := by decide +kernel
theorem dX11_kick_11 : decode mX11_kick.2.1 11 = .ok (.iload_n 2, 1) := by decide +kernel
theorem dX11_kick_12 : decode mX11_kick.2.1 12 = .ok (.invokestatic 233, 3) := by decide +kernel
theorem dX11_kick_15 : decode mX11_kick.2.1 15 = .ok (.ifCond .ne 5, 3) := by decide +kernel
theorem dX11_kick_18 : decode mX11_kick.2.1 18 = .ok (.iconst (-1), 1) := by decide +kernel
theorem dX11_kick_19 : decode mX11_kick.2.1 19 = .ok (.ireturn, 1) := by decide +kernel
theorem dX11_kick_20 : decode mX11_kick.2.1 20 = .ok (.aload_n 0, 1) := by decide +kernel
theorem dX11_kick_21 : decode mX11_kick.2.1 21 = .ok (.getfield 24, 3) := by decide +kernel
theorem dX11_kick_24 : decode mX11_kick.2.1 24 = .ok (.iload_n 1, 1) := by decide +kernel
theorem dX11_kick_25 : decode mX11_kick.2.1 25 = .ok (.iload_n 2, 1) := by decide +kernel
theorem dX11_kick_26 : decode mX11_kick.2.1 26 = .ok (.invokevirtual 248, 3) := by decide +kernel
theorem dX11_kick_29 : decode mX11_kick.2.1 29 = .ok (.istore_n 3, 1) := by decide +kernel
theorem dX11_kick_30 : decode mX11_kick.2.1 30 = .ok (.iload_n 3, 1) := by decide +kernel
theorem dX11_kick_31 : decode mX11_kick.2.1 31 = .ok (.ifCond .ne 26, 3) := by decide +kernel
theorem dX11_kick_34 : decode mX11_kick.2.1 34 = .ok (.aload_n 0, 1) := by decide +kernel
theorem dX11_kick_35 : decode mX11_kick.2.1 35 = .ok (.getfield 82, 3) := by decide +kernel
theorem dX11_kick_38 : decode mX11_kick.2.1 38 = .ok (.aload_n 0, 1) := by decide +kernel
theorem dX11_kick_39 : decode mX11_kick.2.1 39 = .ok (.getfield 24, 3) := by decide +kernel
theorem dX11_kick_42 : decode mX11_kick.2.1 42 = .ok (.getfield 136, 3) := by decide +kernel
theorem dX11_kick_45 : decode mX11_kick.2.1 45 = .ok (.invokevirtual 240, 3) := by decide +kernel
theorem dX11_kick_48 : decode mX11_kick.2.1 48 = .ok (.aload_n 0, 1) := by decide +kernel
theorem dX11_kick_49 : decode mX11_kick.2.1 49 = .ok (.getfield 24, 3) := by decide +kernel
theorem dX11_kick_52 : decode mX11_kick.2.1 52 = .ok (.iload_n 1, 1) := by decide +kernel
theorem dX11_kick_53 : decode mX11_kick.2.1 53 = .ok (.iload_n 2, 1) := by decide +kernel
theorem dX11_kick_54 : decode mX11_kick.2.1 54 = .ok (.invokevirtual 251, 3) := by decide +kernel
theorem dX11_kick_57 : decode mX11_kick.2.1 57 = .ok (.iload_n 3, 1) := by decide +kernel
theorem dX11_kick_58 : decode mX11_kick.2.1 58 = .ok (.ireturn, 1) := by decide +kernel
set_option maxRecDepth 4000 in
theorem ev_X11_kick {m : Mem} {p : Int} {s : Int} {B : Int} (hdn : DnOk m 8) (hst : StOk m 8 18 B) (hB : 0 ≤ B ∧ B ≤ 100000000) (hhi : HiOk m) (hp : InR p) (hs : InR s) : Ev 0 6 mX11_kick [vr 0, vi p, vi s] m (fun r m' => ((0 ≤ p ∧ p < m 8 3 ∧ 0 ≤ s ∧ s < 4) ∧ r = whyKickC m 8 18 p s ∧ m' = if whyKickC m 8 18 p s = 0 then kickC (keepC m 18) 18 p s else m) ∨ (¬ (0 ≤ p ∧ p < m 8 3 ∧ 0 ≤ s ∧ s < 4) ∧ r = -1 ∧ m' = m)) := by
  refine Ev.of (L := [vr 0, vi p, vi s, un]) (by decide +kernel) rfl (Nat.le_of_ble_eq_true rfl) rfl (fun t ht => by cases ht; first | exact Or.inl rfl | exact Or.inr (Or.inl rfl) | exact Or.inr (Or.inr rfl)) (fun hcan => ?_)
  refine go_aload_n dX11_kick_0 rfl ?_
  refine go_getf_p (b := 7) dX11_kick_1 fl_11_24 ob_0 rfl pt_0_1 ?_
  refine go_iload_n dX11_kick_4 rfl ?_
  refine go_callVp_z (as := [vi p]) (S := []) (b := 7) (ev_X10_hasPerson (m := m) (w := 7) (f := p) (d := 8) (st := 18) isWd_7 (by first | assumption | omega | exact ⟨by omega, by omega⟩ | (constructor <;> omega))) rfl dX11_kick_5 cv_11_129 rfl rfl ob_7 rfl (by decide) (Nat.le_of_ble_eq_true rfl) (fun r_5 hr_5 ho_5 => ?_)
  refine go_if_eq (tgt := 18) dX11_kick_8 (by decide) ⟨by omega, by omega⟩ (fun h_8 => ?_) (fun h_8 => ?_)
  · refine go_iconst dX11_kick_18 ?_
    exact go_ret (v := (-1)) rfl dX11_kick_19 (okI ⟨by omega, by omega⟩) (Or.inr ⟨by omega, rfl, rfl⟩)
  · refine go_iload_n dX11_kick_11 rfl ?_
    refine go_callSp_z (as := [vi s]) (S := []) (ev_X11_isSide (m := m) (n := s) (by first | assumption | omega | exact ⟨by omega, by omega⟩ | (constructor <;> omega))) rfl dX11_kick_12 cs_11_233 rfl rfl (by decide) (Nat.le_of_ble_eq_true rfl) (fun r_12 hr_12 ho_12 => ?_)
    refine go_if_ne (tgt := 20) dX11_kick_15 (by decide) ⟨by omega, by omega⟩ (fun h_15 => ?_) (fun h_15 => ?_)
    · refine go_aload_n dX11_kick_20 rfl ?_
      refine go_getf_p (b := 7) dX11_kick_21 fl_11_24 ob_0 rfl pt_0_1 ?_
      refine go_iload_n dX11_kick_24 rfl ?_
      refine go_iload_n dX11_kick_25 rfl ?_
      refine go_callVp_i (as := [vi p, vi s]) (S := []) (b := 7) (ev_X10_whyNotKick (m := m) (w := 7) (p := p) (s := s) (B := B) (d := 8) (st := 18) isWd_7 (by first | assumption | omega | exact ⟨by omega, by omega⟩ | (constructor <;> omega)) (by first | assumption | omega | exact ⟨by omega, by omega⟩ | (constructor <;> omega)) (by first | assumption | omega | exact ⟨by omega, by omega⟩ | (constructor <;> omega)) (by first | assumption | omega | exact ⟨by omega, by omega⟩ | (constructor <;> omega))) rfl dX11_kick_26 cv_11_248 rfl rfl ob_7 rfl (by decide) (Nat.le_of_ble_eq_true rfl) (fun r_26 hr_26 ho_26 => ?_)
      refine go_istore_n (L' := [vr 0, vi p, vi s, vi r_26]) dX11_kick_29 (by decide) rfl rfl ?_
      refine go_iload_n dX11_kick_30 rfl ?_
      refine go_if_ne (tgt := 57) dX11_kick_31 (by decide) ⟨by omega, by omega⟩ (fun h_31 => ?_) (fun h_31 => ?_)
      · refine go_iload_n dX11_kick_57 rfl ?_
        exact go_ret (v := r_26) rfl dX11_kick_58 (okI ⟨by omega, by omega⟩) (Or.inl ⟨by omega, hr_26, by first | (rw [if_neg (by omega)]) | (rw [if_pos (by omega)]; exact hr_54)⟩)
      · refine go_aload_n dX11_kick_34 rfl ?_
        refine go_getf_p (b := 97) dX11_kick_35 fl_11_82 ob_0 rfl pt_0_9 ?_
        refine go_aload_n dX11_kick_38 rfl ?_
        refine go_getf_p (b := 7) dX11_kick_39 fl_11_24 ob_0 rfl pt_0_1 ?_
        refine go_getf_p (b := 18) dX11_kick_42 fl_11_136 ob_7 rfl pt_7_1 ?_
        refine go_callV_v (as := [vr 18]) (S := []) (b := 97) (ev_X3_keep (m := m) (st := 18) isSt_18 (by first | assumption | omega | exact ⟨by omega, by omega⟩ | (constructor <;> omega)) (by first | assumption | omega | exact ⟨by omega, by omega⟩ | (constructor <;> omega))) rfl dX11_kick_45 cv_11_240 rfl rfl ob_97 rfl (by decide) (Nat.le_of_ble_eq_true rfl) (fun m_45 hr_45 => ?_)
        subst hr_45
        refine go_aload_n dX11_kick_48 rfl ?_
        refine go_getf_p (b := 7) dX11_kick_49 fl_11_24 ob_0 rfl pt_0_1 ?_
        refine go_iload_n dX11_kick_52 rfl ?_
        refine go_iload_n dX11_kick_53 rfl ?_
        refine go_callV_v (as := [vi p, vi s]) (S := []) (b := 7) (ev_X10_doKick (m := (keepC m 18)) (w := 7) (p := p) (s := s) (B := B) (d := 8) (st := 18) isWd_7 (keepC_dn hhi (by omega) hdn) (keepC_st hhi (by omega) (by omega) hst) (by rw [keepC_row hhi (by omega)]; omega) (by first | assumption | omega | exact ⟨by omega, by omega⟩ | (constructor <;> omega)) (by first | assumption | omega | exact ⟨by omega, by omega⟩ | (constructor <;> omega)) (by have h1 := (kick_end (show whyKickC m 8 18 p s = 0 by omega)).2.1; unfold insC at *; rw [keepC_row hhi (by omega), keepC_row hhi (by omega), keepC_row hhi (by omega)]; exact h1)) rfl dX11_kick_54 cv_11_251 rfl rfl ob_7 rfl (by decide) (Nat.le_of_ble_eq_true rfl) (fun m_54 hr_54 => ?_)
        refine go_iload_n dX11_kick_57 rfl ?_
        exact go_ret (v := r_26) rfl dX11_kick_58 (okI ⟨by omega, by omega⟩) (Or.inl ⟨by omega, hr_26, by first | (rw [if_neg (by omega)]) | (rw [if_pos (by omega)]; exact hr_54)⟩)
    · refine go_iconst dX11_kick_18 ?_
      exact go_ret (v := (-1)) rfl dX11_kick_19 (okI ⟨by omega, by omega⟩) (Or.inr ⟨by omega, rfl, rfl⟩)
theorem dX11_rest_0 : decode mX11_rest.2.1 0 = .ok (.aload_n 0, 1) := by decide +kernel
theorem dX11_rest_1 : decode mX11_rest.2.1 1 = .ok (.getfield 24, 3) := by decide +kernel
theorem dX11_rest_4 : decode mX11_rest.2.1 4 = .ok (.iload_n 1, 1) := by decide +kernel
theorem dX11_rest_5 : decode mX11_rest.2.1 5 = .ok (.invokevirtual 129, 3) := by decide +kernel
theorem dX11_rest_8 : decode mX11_rest.2.1 8 = .ok (.ifCond .ne 5, 3) := by decide +kernel
theorem dX11_rest_11 : decode mX11_rest.2.1 11 = .ok (.iconst (-1), 1) := by decide +kernel
theorem dX11_rest_12 : decode mX11_rest.2.1 12 = .ok (.ireturn, 1) := by decide +kernel
theorem dX11_rest_13 : decode mX11_rest.2.1 13 = .ok (.aload_n 0, 1) := by decide +kernel
theorem dX11_rest_14 : decode mX11_rest.2.1 14 = .ok (.getfield 24, 3) := by decide +kernel
theorem dX11_rest_17 : decode mX11_rest.2.1 17 = .ok (.iload_n 1, 1) := by decide +kernel
theorem dX11_rest_18 : decode mX11_rest.2.1 18 = .ok (.invokevirtual 255, 3) := by decide +kernel
theorem dX11_rest_21 : decode mX11_rest.2.1 21 = .ok (.istore_n 2, 1) := by decide +kernel
theorem dX11_rest_22 : decode mX11_rest.2.1 22 = .ok (.iload_n 2, 1) := by decide +kernel
theorem dX11_rest_23 : decode mX11_rest.2.1 23 = .ok (.ifCond .ne 25, 3) := by decide +kernel
theorem dX11_rest_26 : decode mX11_rest.2.1 26 = .ok (.aload_n 0, 1) := by decide +kernel
theorem dX11_rest_27 : decode mX11_rest.2.1 27 = .ok (.getfield 82, 3) := by decide +kernel
theorem dX11_rest_30 : decode mX11_rest.2.1 30 = .ok (.aload_n 0, 1) := by decide +kernel
theorem dX11_rest_31 : decode mX11_rest.2.1 31 = .ok (.getfield 24, 3) := by decide +kernel
theorem dX11_rest_34 : decode mX11_rest.2.1 34 = .ok (.getfield 136, 3) := by decide +kernel
theorem dX11_rest_37 : decode mX11_rest.2.1 37 = .ok (.invokevirtual 240, 3) := by decide +kernel
theorem dX11_rest_40 : decode mX11_rest.2.1 40 = .ok (.aload_n 0, 1) := by decide +kernel
theorem dX11_rest_41 : decode mX11_rest.2.1 41 = .ok (.getfield 24, 3) := by decide +kernel
theorem dX11_rest_44 : decode mX11_rest.2.1 44 = .ok (.iload_n 1, 1) := by decide +kernel
theorem dX11_rest_45 : decode mX11_rest.2.1 45 = .ok (.invokevirtual 258, 3) := by decide +kernel
theorem dX11_rest_48 : decode mX11_rest.2.1 48 = .ok (.iload_n 2, 1) := by decide +kernel
theorem dX11_rest_49 : decode mX11_rest.2.1 49 = .ok (.ireturn, 1) := by decide +kernel
set_option maxRecDepth 4000 in
theorem ev_X11_rest {m : Mem} {p : Int} {B : Int} (hdn : DnOk m 8) (hst : StOk m 8 18 B) (hB : 0 ≤ B ∧ B ≤ 100000000) (hhi : HiOk m) (hp : InR p) : Ev 0 6 mX11_rest [vr 0, vi p] m (fun r m' => ((0 ≤ p ∧ p < m 8 3) ∧ r = (if m 23 p = m 13 p then 1 else 0) ∧ m' = if m 23 p = m 13 p then m else restC (keepC m 18) 8 18 p) ∨ (¬ (0 ≤ p ∧ p < m 8 3) ∧ r = -1 ∧ m' = m)) := by
  refine Ev.of (L := [vr 0, vi p, un]) (by decide +kernel) rfl (Nat.le_of_ble_eq_true rfl) rfl (fun t ht => by cases ht; first | exact Or.inl rfl | exact Or.inr (Or.inl rfl) | exact Or.inr (Or.inr rfl)) (fun hcan => ?_)
  obtain ⟨⟨hd0, hd1⟩, ⟨hd2, hd3⟩, ⟨hd4, hd5⟩, ⟨hd6, hd7⟩, ⟨hd8, hd9⟩, hdf, hdp, hdq⟩ := id hdn
  refine go_aload_n dX11_rest_0 rfl ?_
  refine go_getf_p (b := 7) dX11_rest_1 fl_11_24 ob_0 rfl pt_0_1 ?_
  refine go_iload_n dX11_rest_4 rfl ?_
  refine go_callVp_z (as := [vi p]) (S := []) (b := 7) (ev_X10_hasPerson (m := m) (w := 7) (f := p) (d := 8) (st := 18) isWd_7 (by first | assumption | omega | exact ⟨by omega, by omega⟩ | (constructor <;> omega))) rfl dX11_rest_5 cv_11_129 rfl rfl ob_7 rfl (by decide) (Nat.le_of_ble_eq_true rfl) (fun r_5 hr_5 ho_5 => ?_)
  refine go_if_ne (tgt := 13) dX11_rest_8 (by decide) ⟨by omega, by omega⟩ (fun h_8 => ?_) (fun h_8 => ?_)
  · refine go_aload_n dX11_rest_13 rfl ?_
    refine go_getf_p (b := 7) dX11_rest_14 fl_11_24 ob_0 rfl pt_0_1 ?_
    refine go_iload_n dX11_rest_17 rfl ?_
    refine go_callVp_i (as := [vi p]) (S := []) (b := 7) (ev_X10_whyNotRest (m := m) (w := 7) (p := p) (d := 8) (st := 18) isWd_7 (by first | assumption | omega | exact ⟨by omega, by omega⟩ | (constructor <;> omega))) rfl dX11_rest_18 cv_11_255 rfl rfl ob_7 rfl (by decide) (Nat.le_of_ble_eq_true rfl) (fun r_18 hr_18 ho_18 => ?_)
    have hr_18 : r_18 = if m 23 p = m 13 p then 1 else 0 := hr_18
    refine go_istore_n (L' := [vr 0, vi p, vi r_18]) dX11_rest_21 (by decide) rfl rfl ?_
    refine go_iload_n dX11_rest_22 rfl ?_
    refine go_if_ne (tgt := 48) dX11_rest_23 (by decide) ⟨by omega, by omega⟩ (fun h_23 => ?_) (fun h_23 => ?_)
    · refine go_iload_n dX11_rest_48 rfl ?_
      exact go_ret (v := r_18) rfl dX11_rest_49 (okI ⟨by omega, by omega⟩) (Or.inl ⟨by omega, hr_18, by first | (rw [if_neg (by omega)]; exact hr_45) | (rw [if_pos (by omega)])⟩)
    · refine go_aload_n dX11_rest_26 rfl ?_
      refine go_getf_p (b := 97) dX11_rest_27 fl_11_82 ob_0 rfl pt_0_9 ?_
      refine go_aload_n dX11_rest_30 rfl ?_
      refine go_getf_p (b := 7) dX11_rest_31 fl_11_24 ob_0 rfl pt_0_1 ?_
      refine go_getf_p (b := 18) dX11_rest_34 fl_11_136 ob_7 rfl pt_7_1 ?_
      refine go_callV_v (as := [vr 18]) (S := []) (b := 97) (ev_X3_keep (m := m) (st := 18) isSt_18 (by first | assumption | omega | exact ⟨by omega, by omega⟩ | (constructor <;> omega)) (by first | assumption | omega | exact ⟨by omega, by omega⟩ | (constructor <;> omega))) rfl dX11_rest_37 cv_11_240 rfl rfl ob_97 rfl (by decide) (Nat.le_of_ble_eq_true rfl) (fun m_37 hr_37 => ?_)
      subst hr_37
      refine go_aload_n dX11_rest_40 rfl ?_
      refine go_getf_p (b := 7) dX11_rest_41 fl_11_24 ob_0 rfl pt_0_1 ?_
      refine go_iload_n dX11_rest_44 rfl ?_
      refine go_callV_v (as := [vi p]) (S := []) (b := 7) (ev_X10_doRest (m := (keepC m 18)) (w := 7) (p := p) (d := 8) (st := 18) isWd_7 (by first | assumption | omega | exact ⟨by omega, by omega⟩ | (constructor <;> omega))) rfl dX11_rest_45 cv_11_258 rfl rfl ob_7 rfl (by decide) (Nat.le_of_ble_eq_true rfl) (fun m_45 hr_45 => ?_)
      refine go_iload_n dX11_rest_48 rfl ?_
      exact go_ret (v := r_18) rfl dX11_rest_49 (okI ⟨by omega, by omega⟩) (Or.inl ⟨by omega, hr_18, by first | (rw [if_neg (by omega)]; exact hr_45) | (rw [if_pos (by omega)])⟩)
  · refine go_iconst dX11_rest_11 ?_
    exact go_ret (v := (-1)) rfl dX11_rest_12 (okI ⟨by omega, by omega⟩) (Or.inr ⟨by omega, rfl, rfl⟩)
theorem dX11_hours_0 : decode mX11_hours.2.1 0 = .ok (.iload_n 1, 1) := by decide +kernel
theorem dX11_hours_1 : decode mX11_hours.2.1 1 = .ok (.iconst 1, 1) := by decide +kernel
theorem dX11_hours_2 : decode mX11_hours.2.1 2 = .ok (.bipush 60, 2) := by decide +kernel
theorem dX11_hours_4 : decode mX11_hours.2.1 4 = .ok (.invokestatic 261, 3) := by decide +kernel
theorem dX11_hours_7 : decode mX11_hours.2.1 7 = .ok (.ifCond .ne 5, 3) := by decide +kernel
theorem dX11_hours_10 : decode mX11_hours.2.1 10 = .ok (.iconst (-1), 1) := by decide +kernel
theorem dX11_hours_11 : decode mX11_hours.2.1 11 = .ok (.ireturn, 1) := by decide +kernel
theorem dX11_hours_12 : decode mX11_hours.2.1 12 = .ok (.iload_n 1, 1) := by decide +kernel
theorem dX11_hours_13 : decode mX11_hours.2.1 13 = .ok (.aload_n 0, 1) := by decide +kernel
theorem dX11_hours_14 : decode mX11_hours.2.1 14 = .ok (.getfield 24, 3) := by decide +kernel
theorem dX11_hours_17 : decode mX11_hours.2.1 17 = .ok (.invokevirtual 265, 3) := by decide +kernel
theorem dX11_hours_20 : decode mX11_hours.2.1 20 = .ok (.invokestatic 268, 3) := by decide +kernel
theorem dX11_hours_23 : decode mX11_hours.2.1 23 = .ok (.istore_n 2, 1) := by decide +kernel
theorem dX11_hours_24 : decode mX11_hours.2.1 24 = .ok (.iload_n 2, 1) := by decide +kernel
theorem dX11_hours_25 : decode mX11_hours.2.1 25 = .ok (.ifCond .le 25, 3) := by decide +kernel
theorem dX11_hours_28 : decode mX11_hours.2.1 28 = .ok (.aload_n 0, 1) := by decide +kernel
theorem dX11_hours_29 : decode mX11_hours.2.1 29 = .ok (.getfield 82, 3) := by decide +kernel
theorem dX11_hours_32 : decode mX11_hours.2.1 32 = .ok (.aload_n 0, 1) := by decide +kernel
theorem dX11_hours_33 : decode mX11_hours.2.1 33 = .ok (.getfield 24, 3) := by decide +kernel
theorem dX11_hours_36 : decode mX11_hours.2.1 36 = .ok (.getfield 136, 3) := by decide +kernel
theorem dX11_hours_39 : decode mX11_hours.2.1 39 = .ok (.invokevirtual 240, 3) := by decide +kernel
theorem dX11_hours_42 : decode mX11_hours.2.1 42 = .ok (.aload_n 0, 1) := by decide +kernel
theorem dX11_hours_43 : decode mX11_hours.2.1 43 = .ok (.getfield 24, 3) := by decide +kernel
theorem dX11_hours_46 : decode mX11_hours.2.1 46 = .ok (.iload_n 2, 1) := by decide +kernel
theorem dX11_hours_47 : decode mX11_hours.2.1 47 = .ok (.invokevirtual 273, 3) := by decide +kernel
theorem dX11_hours_50 : decode mX11_hours.2.1 50 = .ok (.iload_n 2, 1) := by decide +kernel
theorem dX11_hours_51 : decode mX11_hours.2.1 51 = .ok (.ireturn, 1) := by decide +kernel
set_option maxRecDepth 4000 in
theorem ev_X11_hours {m : Mem} {n : Int} {B : Int} (hdn : DnOk m 8) (hst : StOk m 8 18 B) (hB : 0 ≤ B ∧ B ≤ 100000000) (hhi : HiOk m) (hn : InR n) : Ev 0 6 mX11_hours [vr 0, vi n] m (fun r m' => ((1 ≤ n ∧ n ≤ 60) ∧ r = min n (400 - m 18 0) ∧ m' = if 0 < min n (400 - m 18 0) then passC (keepC m 18) 8 18 (min n (400 - m 18 0)) else m) ∨ (¬ (1 ≤ n ∧ n ≤ 60) ∧ r = -1 ∧ m' = m)) := by
  refine Ev.of (L := [vr 0, vi n, un]) (by decide +kernel) rfl (Nat.le_of_ble_eq_true rfl) rfl (fun t ht => by cases ht; first | exact Or.inl rfl | exact Or.inr (Or.inl rfl) | exact Or.inr (Or.inr rfl)) (fun hcan => ?_)
  have hs00 := hst.1
  refine go_iload_n dX11_hours_0 rfl ?_
  refine go_iconst dX11_hours_1 ?_
  refine go_bipush dX11_hours_2 (by decide) ?_
  refine go_callSp_z (as := [vi n, vi 1, vi 60]) (S := []) (ev_X11_isIn (m := m) (n := n) (lo := 1) (hi := 60) (by first | assumption | omega | exact ⟨by omega, by omega⟩ | (constructor <;> omega)) (by first | assumption | omega | exact ⟨by omega, by omega⟩ | (constructor <;> omega)) (by first | assumption | omega | exact ⟨by omega, by omega⟩ | (constructor <;> omega))) rfl dX11_hours_4 cs_11_261 rfl rfl (by decide) (Nat.le_of_ble_eq_true rfl) (fun r_4 hr_4 ho_4 => ?_)
  refine go_if_ne (tgt := 12) dX11_hours_7 (by decide) ⟨by omega, by omega⟩ (fun h_7 => ?_) (fun h_7 => ?_)
  · refine go_iload_n dX11_hours_12 rfl ?_
    refine go_aload_n dX11_hours_13 rfl ?_
    refine go_getf_p (b := 7) dX11_hours_14 fl_11_24 ob_0 rfl pt_0_1 ?_
    refine go_callVp_i (as := []) (S := [vi n]) (b := 7) (ev_X10_hoursLeft (m := m) (w := 7) (d := 8) (st := 18) isWd_7 (by first | assumption | omega | exact ⟨by omega, by omega⟩ | (constructor <;> omega))) rfl dX11_hours_17 cv_11_265 rfl rfl ob_7 rfl (by decide) (Nat.le_of_ble_eq_true rfl) (fun r_17 hr_17 ho_17 => ?_)
    subst hr_17
    refine go_min dX11_hours_20 jl_11_268 ⟨by omega, by omega⟩ ⟨by omega, by omega⟩ (by decide) (Nat.le_of_ble_eq_true rfl) ?_
    refine go_istore_n (L' := [vr 0, vi n, vi (min n (400 - m 18 0))]) dX11_hours_23 (by decide) rfl rfl ?_
    refine go_iload_n dX11_hours_24 rfl ?_
    refine go_if_le (tgt := 50) dX11_hours_25 (by decide) ⟨by omega, by omega⟩ (fun h_25 => ?_) (fun h_25 => ?_)
    · refine go_iload_n dX11_hours_50 rfl ?_
      exact go_ret (v := (min n (400 - m 18 0))) rfl dX11_hours_51 (okI ⟨by omega, by omega⟩) (Or.inl ⟨by omega, rfl, by first | (rw [if_neg (by omega)]) | (rw [if_pos (by omega)]; exact hr_47)⟩)
    · refine go_aload_n dX11_hours_28 rfl ?_
      refine go_getf_p (b := 97) dX11_hours_29 fl_11_82 ob_0 rfl pt_0_9 ?_
      refine go_aload_n dX11_hours_32 rfl ?_
      refine go_getf_p (b := 7) dX11_hours_33 fl_11_24 ob_0 rfl pt_0_1 ?_
      refine go_getf_p (b := 18) dX11_hours_36 fl_11_136 ob_7 rfl pt_7_1 ?_
      refine go_callV_v (as := [vr 18]) (S := []) (b := 97) (ev_X3_keep (m := m) (st := 18) isSt_18 (by first | assumption | omega | exact ⟨by omega, by omega⟩ | (constructor <;> omega)) (by first | assumption | omega | exact ⟨by omega, by omega⟩ | (constructor <;> omega))) rfl dX11_hours_39 cv_11_240 rfl rfl ob_97 rfl (by decide) (Nat.le_of_ble_eq_true rfl) (fun m_39 hr_39 => ?_)
      subst hr_39
      refine go_aload_n dX11_hours_42 rfl ?_
      refine go_getf_p (b := 7) dX11_hours_43 fl_11_24 ob_0 rfl pt_0_1 ?_
      refine go_iload_n dX11_hours_46 rfl ?_
      refine go_callV_v (as := [vi (min n (400 - m 18 0))]) (S := []) (b := 7) (ev_X10_passHours (m := (keepC m 18)) (w := 7) (n := (min n (400 - m 18 0))) (B := B) (d := 8) (st := 18) isWd_7 (keepC_dn hhi (by omega) hdn) (keepC_st hhi (by omega) (by omega) hst) (by first | assumption | omega | exact ⟨by omega, by omega⟩ | (constructor <;> omega))) rfl dX11_hours_47 cv_11_273 rfl rfl ob_7 rfl (by decide) (Nat.le_of_ble_eq_true rfl) (fun m_47 hr_47 => ?_)
      refine go_iload_n dX11_hours_50 rfl ?_
      exact go_ret (v := (min n (400 - m 18 0))) rfl dX11_hours_51 (okI ⟨by omega, by omega⟩) (Or.inl ⟨by omega, rfl, by first | (rw [if_neg (by omega)]) | (rw [if_pos (by omega)]; exact hr_47)⟩)
  · refine go_iconst dX11_hours_10 ?_
    exact go_ret (v := (-1)) rfl dX11_hours_11 (okI ⟨by omega, by omega⟩) (Or.inr ⟨by omega, rfl, rfl⟩)
theorem dX11_undo_0 : decode mX11_undo.2.1 0 = .ok (.aload_n 0, 1) := by decide +kernel
theorem dX11_undo_1 : decode mX11_undo.2.1 1 = .ok (.getfield 82, 3) := by decide +kernel
theorem dX11_undo_4 : decode mX11_undo.2.1 4 = .ok (.aload_n 0, 1) := by decide +kernel
theorem dX11_undo_5 : decode mX11_undo.2.1 5 = .ok (.getfield 24, 3) := by decide +kernel
theorem dX11_undo_8 : decode mX11_undo.2.1 8 = .ok (.getfield 136, 3) := by decide +kernel
theorem dX11_undo_11 : decode mX11_undo.2.1 11 = .ok (.invokevirtual 276, 3) := by decide +kernel
theorem dX11_undo_14 : decode mX11_undo.2.1 14 = .ok (.ireturn, 1) := by decide +kernel
set_option maxRecDepth 4000 in
theorem ev_X11_undo {m : Mem}  (hhi : HiOk m) : Ev 0 6 mX11_undo [vr 0] m (fun r m' => (m 97 2 = 0 ∧ r = -1 ∧ m' = m) ∨ (m 97 2 ≠ 0 ∧ r = m 97 2 - 1 ∧ m' = backC m 18)) := by
  refine Ev.of (L := [vr 0]) (by decide +kernel) rfl (Nat.le_of_ble_eq_true rfl) rfl (fun t ht => by cases ht; first | exact Or.inl rfl | exact Or.inr (Or.inl rfl) | exact Or.inr (Or.inr rfl)) (fun hcan => ?_)
  refine go_aload_n dX11_undo_0 rfl ?_
  refine go_getf_p (b := 97) dX11_undo_1 fl_11_82 ob_0 rfl pt_0_9 ?_
  refine go_aload_n dX11_undo_4 rfl ?_
  refine go_getf_p (b := 7) dX11_undo_5 fl_11_24 ob_0 rfl pt_0_1 ?_
  refine go_getf_p (b := 18) dX11_undo_8 fl_11_136 ob_7 rfl pt_7_1 ?_
  refine go_callV_i (as := [vr 18]) (S := []) (b := 97) (ev_X3_takeBack (m := m) (st := 18) isSt_18 (by first | assumption | omega | exact ⟨by omega, by omega⟩ | (constructor <;> omega)) (by first | assumption | omega | exact ⟨by omega, by omega⟩ | (constructor <;> omega))) rfl dX11_undo_11 cv_11_276 rfl rfl ob_97 rfl (by decide) (Nat.le_of_ble_eq_true rfl) (fun r_11 m_11 hr_11 ho_11 => ?_)
  exact go_ret (v := r_11) rfl dX11_undo_14 (okI ⟨by omega, by omega⟩) (by first | assumption | rfl | omega)
