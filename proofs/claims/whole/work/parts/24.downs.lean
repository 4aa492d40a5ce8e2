def nameAt (m : Mem) (a : Nat) (v n : Int) : Int := fnd (fun k => decide (m a k = v)) n
abbrev knC (m : Mem) (d : Nat) (v : Int) : Prop := nameAt m (d + 1) v (m d 2) ≠ -1 ∨ nameAt m (d + 4) v (m d 3) ≠ -1 ∨ nameAt m (d + 6) v (m d 4) ≠ -1
def TP (m M : Mem) (j : Int) : Prop := M 1 12 = j ∧ M 1 11 = m 1 11 ∧ M 4 = m 4 ∧ M 5 = m 5 ∧ M 6 = m 6 ∧ PT m M j (m 1 6)
theorem TP.rf {m : Mem} (h : PT m m (m 1 12) (m 1 6)) : TP m m (m 1 12) := ⟨rfl, rfl, rfl, rfl, rfl, h⟩
theorem adv_no {m M M' : Mem} {j f : Int} (h : TP m M j) (ha : Adv M M' f) : PT m M' (j + 1) f := by
  obtain ⟨h1, h2, h3, h4, h5, h6⟩ := h
  obtain ⟨⟨a1, a2, a3, a4, a5, a6, a7⟩, a8⟩ := ha
  rw [h1] at a1 a2 a3 a4 a5
  rw [h3] at a2
  rw [h4] at a3
  rw [h5] at a4 a5
  exact ⟨a1, a2, a3, a4, a5, a6, fun x b c d e f g => by rw [a7 x b c d e f g]; exact h6.2.2.2.2.2.2 x b c d e f g⟩
theorem adv_ok {m M M' : Mem} {j : Int} (h : TP m M j) (ha : Adv M M' (M 1 6)) : TP m M' (j + 1) := by
  have hp := adv_no h ha
  obtain ⟨h1, h2, h3, h4, h5, h6⟩ := h
  have e6 : M 1 6 = m 1 6 := h6.2.2.2.2.2.1
  rw [e6] at hp
  exact ⟨hp.1, hp.2.2.2.2.2.2 11 (by decide) (by decide) (by decide) (by decide) (by decide) (by decide), by rw [ha.2 4 (by decide)]; exact h3, by rw [ha.2 5 (by decide)]; exact h4, by rw [ha.2 6 (by decide)]; exact h5, hp⟩
theorem TP.w {m M : Mem} {j i x : Int} {b : Nat} (h : TP m M j) (h1 : b ≠ 1) (h4 : b ≠ 4) (h5 : b ≠ 5) (h6 : b ≠ 6) : TP m (wr M b i x) j := by
  obtain ⟨g1, g2, g3, g4, g5, g6⟩ := h
  have r1 : wr M b i x 1 = M 1 := wr_row (fun e => h1 e.symm)
  refine ⟨by rw [r1]; exact g1, by rw [r1]; exact g2, by rw [wr_row (fun e => h4 e.symm)]; exact g3, by rw [wr_row (fun e => h5 e.symm)]; exact g4, by rw [wr_row (fun e => h6 e.symm)]; exact g5, ?_⟩
  unfold PT
  rw [r1]
  exact g6
def TkS (m : Mem) : Prop := (1 ≤ m 1 11 ∧ m 1 11 ≤ 901) ∧ (m 4 (m 1 11 - 1) = 0 ∨ m 4 (m 1 11 - 1) = 1) ∧ ∀ k : Int, 0 ≤ k → k < m 1 11 → InR (w32 (m 6 k))
theorem TkS.lt {m : Mem} (h : TkS m) {k : Int} (h1 : k < m 1 11) (h2 : 2 ≤ m 4 k) : k + 1 < m 1 11 := by
  by_cases e : k = m 1 11 - 1
  · rw [e] at h2; rcases h.2.1 with q | q <;> omega
  · omega
theorem numF_0 {K V : Int → Int} {i lo hi : Int} (h : numF K V i lo hi = 0) : K i = 2 ∧ lo ≤ V i ∧ V i ≤ hi := by
  unfold numF at h
  split at h
  · split at h
    · exact ⟨by assumption, by assumption⟩
    · omega
  · omega

theorem dX1_placeOf_0 : decode mX1_placeOf.2.1 0 = .ok (.iconst 0, 1) := by decide +kernel
theorem dX1_placeOf_1 : decode mX1_placeOf.2.1 1 = .ok (.istore 4, 2) := by decide +kernel
theorem dX1_placeOf_3 : decode mX1_placeOf.2.1 3 = .ok (.iload 4, 2) := by decide +kernel
theorem dX1_placeOf_5 : decode mX1_placeOf.2.1 5 = .ok (.iload_n 3, 1) := by decide +kernel
theorem dX1_placeOf_6 : decode mX1_placeOf.2.1 6 = .ok (.if_icmp .ge 28, 3) := by decide +kernel
theorem dX1_placeOf_9 : decode mX1_placeOf.2.1 9 = .ok (.iload 4, 2) := by decide +kernel
theorem dX1_placeOf_11 : decode mX1_placeOf.2.1 11 = .ok (.aload_n 2, 1) := by decide +kernel
theorem dX1_placeOf_12 : decode mX1_placeOf.2.1 12 = .ok (.arraylength, 1) := by decide +kernel
theorem dX1_placeOf_13 : decode mX1_placeOf.2.1 13 = .ok (.if_icmp .ge 21, 3) := by decide +kernel
theorem dX1_placeOf_16 : decode mX1_placeOf.2.1 16 = .ok (.aload_n 2, 1) := by decide +kernel
theorem dX1_placeOf_17 : decode mX1_placeOf.2.1 17 = .ok (.iload 4, 2) := by decide +kernel
theorem dX1_placeOf_19 : decode mX1_placeOf.2.1 19 = .ok (.laload, 1) := by decide +kernel
theorem dX1_placeOf_20 : decode mX1_placeOf.2.1 20 = .ok (.lload_n 0, 1) := by decide +kernel
theorem dX1_placeOf_21 : decode mX1_placeOf.2.1 21 = .ok (.lcmp, 1) := by decide +kernel
theorem dX1_placeOf_22 : decode mX1_placeOf.2.1 22 = .ok (.ifCond .ne 6, 3) := by decide +kernel
theorem dX1_placeOf_25 : decode mX1_placeOf.2.1 25 = .ok (.iload 4, 2) := by decide +kernel
theorem dX1_placeOf_27 : decode mX1_placeOf.2.1 27 = .ok (.ireturn, 1) := by decide +kernel
theorem dX1_placeOf_28 : decode mX1_placeOf.2.1 28 = .ok (.iinc 4 1, 3) := by decide +kernel
theorem dX1_placeOf_31 : decode mX1_placeOf.2.1 31 = .ok (.goto (-28), 3) := by decide +kernel
theorem dX1_placeOf_34 : decode mX1_placeOf.2.1 34 = .ok (.iconst (-1), 1) := by decide +kernel
theorem dX1_placeOf_35 : decode mX1_placeOf.2.1 35 = .ok (.ireturn, 1) := by decide +kernel
set_option maxRecDepth 4000 in
theorem ev_X1_placeOf {m : Mem} {v : Int} {a : Nat} {n : Nat} {k : Int} (ha : ar a 3 n) (hk : 0 ≤ k ∧ k ≤ n) (hv : InL v) : Ev 0 1 mX1_placeOf [vl v, vr a, vi k] m (fun r m' => m' = m ∧ (r = nameAt m a v k)) := by
  refine Ev.of (L := [vl v, un, vr a, vi k, un]) (by decide +kernel) rfl (Nat.le_of_ble_eq_true rfl) rfl (fun t ht => by cases ht; first | exact Or.inl rfl | exact Or.inr (Or.inl rfl) | exact Or.inr (Or.inr rfl)) (fun hcan => ?_)
  have hn := ha.2.2.2
  refine go_iconst dX1_placeOf_0 ?_
  refine go_istore (L' := [vl v, un, vr a, vi k, vi 0]) dX1_placeOf_1 (by decide) rfl rfl ?_
  have lp_3 : ∀ (n_3 : Nat) (j : Int) , (0 ≤ j) → (j ≤ k) → (∀ i : Int, 0 ≤ i → i < j → decide (m a i = v) = false) → (k - j).toNat < n_3 → Go 0 1 mX1_placeOf (fun r m' => m' = m ∧ (r = nameAt m a v k)) 3 [vl v, un, vr a, vi k, vi j] [] m := by
    intro n_3
    induction n_3 with
    | zero => intro j hj0 hj1 hno hmu; exact absurd hmu (Nat.not_lt_zero _)
    | succ n_3 ih_3 =>
      intro j hj0 hj1 hno hmu
      refine go_iload dX1_placeOf_3 rfl ?_
      refine go_iload_n dX1_placeOf_5 rfl ?_
      refine go_icmp_ge (tgt := 34) dX1_placeOf_6 (by decide) ⟨by omega, by omega⟩ ⟨by omega, by omega⟩ (fun h_6 => ?_) (fun h_6 => ?_)
      · refine go_iconst dX1_placeOf_34 ?_
        exact go_ret (v := (-1)) rfl dX1_placeOf_35 (okI ⟨by omega, by omega⟩) ⟨rfl, (fnd_none (fun i a b => hno i a (by omega))).symm⟩
      · refine go_iload dX1_placeOf_9 rfl ?_
        refine go_aload_n dX1_placeOf_11 rfl ?_
        refine go_alen (x := n) dX1_placeOf_12 ha (by decide) rfl ?_
        refine go_icmp_ge (tgt := 34) dX1_placeOf_13 (by decide) ⟨by omega, by omega⟩ ⟨by omega, by omega⟩ (fun h_13 => ?_) (fun h_13 => ?_)
        · exfalso; omega
        · refine go_aload_n dX1_placeOf_16 rfl ?_
          refine go_iload dX1_placeOf_17 rfl ?_
          refine go_laload dX1_placeOf_19 ha (by omega) (by omega) (fun he_19 => ?_)
          refine go_lload_n dX1_placeOf_20 rfl ?_
          refine go_lcmp dX1_placeOf_21 he_19 hv ?_
          have hlc : lcmpI (m a j) v = 0 ↔ m a j = v := by unfold lcmpI; split <;> (try split) <;> omega
          refine go_if_ne (tgt := 28) dX1_placeOf_22 (by decide) (by unfold lcmpI; split <;> (try split) <;> exact ⟨by omega, by omega⟩) (fun h_22 => ?_) (fun h_22 => ?_)
          · refine go_iinc (L' := [vl v, un, vr a, vi k, vi (j + 1)]) dX1_placeOf_28 rfl (by decide) rfl rfl ?_
            refine go_goto (tgt := 3) dX1_placeOf_31 (by decide) ?_
            exact ih_3 (j + 1) (by first | assumption | omega | rfl) (by first | assumption | omega | rfl) (stp hno (by rw [decide_eq_false_iff_not, ← hlc]; exact h_22)) (by omega)
          · refine go_iload dX1_placeOf_25 rfl ?_
            exact go_ret (v := j) rfl dX1_placeOf_27 (okI ⟨by omega, by omega⟩) ⟨rfl, (fnd_some hj0 (by omega) (by rw [decide_eq_true_eq, ← hlc]; exact h_22) hno).symm⟩
  exact lp_3 _ 0 (by first | assumption | omega | rfl) (by first | assumption | omega | rfl) (fun i a b => by omega) (Nat.lt_succ_self _)
theorem dX1_figureNamed_0 : decode mX1_figureNamed.2.1 0 = .ok (.lload_n 1, 1) := by decide +kernel
theorem dX1_figureNamed_1 : decode mX1_figureNamed.2.1 1 = .ok (.aload_n 0, 1) := by decide +kernel
theorem dX1_figureNamed_2 : decode mX1_figureNamed.2.1 2 = .ok (.getfield 27, 3) := by decide +kernel
theorem dX1_figureNamed_5 : decode mX1_figureNamed.2.1 5 = .ok (.aload_n 0, 1) := by decide +kernel
theorem dX1_figureNamed_6 : decode mX1_figureNamed.2.1 6 = .ok (.getfield 18, 3) := by decide +kernel
theorem dX1_figureNamed_9 : decode mX1_figureNamed.2.1 9 = .ok (.invokestatic 71, 3) := by decide +kernel
theorem dX1_figureNamed_12 : decode mX1_figureNamed.2.1 12 = .ok (.ireturn, 1) := by decide +kernel
set_option maxRecDepth 4000 in
theorem ev_X1_figureNamed {m : Mem} {d : Nat} {v : Int} (hd : isDn d) (hn : 0 ≤ m d 2 ∧ m d 2 ≤ 6) (hv : InL v) : Ev 0 2 mX1_figureNamed [vr d, vl v] m (fun r m' => m' = m ∧ (r = nameAt m (d + 1) v (m d 2))) := by
  refine Ev.of (L := [vr d, vl v, un]) (by decide +kernel) rfl (Nat.le_of_ble_eq_true rfl) rfl (fun t ht => by cases ht; first | exact Or.inl rfl | exact Or.inr (Or.inl rfl) | exact Or.inr (Or.inr rfl)) (fun hcan => ?_)
  refine go_lload_n dX1_figureNamed_0 rfl ?_
  refine go_aload_n dX1_figureNamed_1 rfl ?_
  refine go_getf_p (b := (d + 1)) dX1_figureNamed_2 fl_1_27 hd.o rfl hd.p5 ?_
  refine go_aload_n dX1_figureNamed_5 rfl ?_
  refine go_getf_i (ki := 2) dX1_figureNamed_6 fl_1_18 hd.o rfl rfl (fun hf_6 => ?_)
  refine go_callSp_i (as := [vl v, vr (d + 1), vi (m d 2)]) (S := []) (ev_X1_placeOf (m := m) (v := v) (a := (d + 1)) (k := (m d 2)) (n := 6) hd.a1 (by first | assumption | omega | exact ⟨by omega, by omega⟩ | (constructor <;> omega)) (by first | assumption | omega | exact ⟨by omega, by omega⟩ | (constructor <;> omega))) rfl dX1_figureNamed_9 cs_1_71 rfl rfl (by decide) (Nat.le_of_ble_eq_true rfl) (fun r_9 hr_9 ho_9 => ?_)
  exact go_ret (v := r_9) rfl dX1_figureNamed_12 (okI ⟨by omega, by omega⟩) ⟨rfl, (by first | assumption | rfl | omega)⟩
theorem dX1_personNamed_0 : decode mX1_personNamed.2.1 0 = .ok (.lload_n 1, 1) := by decide +kernel
theorem dX1_personNamed_1 : decode mX1_personNamed.2.1 1 = .ok (.aload_n 0, 1) := by decide +kernel
theorem dX1_personNamed_2 : decode mX1_personNamed.2.1 2 = .ok (.getfield 38, 3) := by decide +kernel
theorem dX1_personNamed_5 : decode mX1_personNamed.2.1 5 = .ok (.aload_n 0, 1) := by decide +kernel
theorem dX1_personNamed_6 : decode mX1_personNamed.2.1 6 = .ok (.getfield 21, 3) := by decide +kernel
theorem dX1_personNamed_9 : decode mX1_personNamed.2.1 9 = .ok (.invokestatic 71, 3) := by decide +kernel
theorem dX1_personNamed_12 : decode mX1_personNamed.2.1 12 = .ok (.ireturn, 1) := by decide +kernel
set_option maxRecDepth 4000 in
theorem ev_X1_personNamed {m : Mem} {d : Nat} {v : Int} (hd : isDn d) (hn : 0 ≤ m d 3 ∧ m d 3 ≤ 5) (hv : InL v) : Ev 0 2 mX1_personNamed [vr d, vl v] m (fun r m' => m' = m ∧ (r = nameAt m (d + 4) v (m d 3))) := by
  refine Ev.of (L := [vr d, vl v, un]) (by decide +kernel) rfl (Nat.le_of_ble_eq_true rfl) rfl (fun t ht => by cases ht; first | exact Or.inl rfl | exact Or.inr (Or.inl rfl) | exact Or.inr (Or.inr rfl)) (fun hcan => ?_)
  refine go_lload_n dX1_personNamed_0 rfl ?_
  refine go_aload_n dX1_personNamed_1 rfl ?_
  refine go_getf_p (b := (d + 4)) dX1_personNamed_2 fl_1_38 hd.o rfl hd.p8 ?_
  refine go_aload_n dX1_personNamed_5 rfl ?_
  refine go_getf_i (ki := 3) dX1_personNamed_6 fl_1_21 hd.o rfl rfl (fun hf_6 => ?_)
  refine go_callSp_i (as := [vl v, vr (d + 4), vi (m d 3)]) (S := []) (ev_X1_placeOf (m := m) (v := v) (a := (d + 4)) (k := (m d 3)) (n := 5) hd.a4 (by first | assumption | omega | exact ⟨by omega, by omega⟩ | (constructor <;> omega)) (by first | assumption | omega | exact ⟨by omega, by omega⟩ | (constructor <;> omega))) rfl dX1_personNamed_9 cs_1_71 rfl rfl (by decide) (Nat.le_of_ble_eq_true rfl) (fun r_9 hr_9 ho_9 => ?_)
  exact go_ret (v := r_9) rfl dX1_personNamed_12 (okI ⟨by omega, by omega⟩) ⟨rfl, (by first | assumption | rfl | omega)⟩
theorem dX1_pointNamed_0 : decode mX1_pointNamed.2.1 0 = .ok (.lload_n 1, 1) := by decide +kernel
theorem dX1_pointNamed_1 : decode mX1_pointNamed.2.1 1 = .ok (.aload_n 0, 1) := by decide +kernel
theorem dX1_pointNamed_2 : decode mX1_pointNamed.2.1 2 = .ok (.getfield 44, 3) := by decide +kernel
theorem dX1_pointNamed_5 : decode mX1_pointNamed.2.1 5 = .ok (.aload_n 0, 1) := by decide +kernel
theorem dX1_pointNamed_6 : decode mX1_pointNamed.2.1 6 = .ok (.getfield 24, 3) := by decide +kernel
theorem dX1_pointNamed_9 : decode mX1_pointNamed.2.1 9 = .ok (.invokestatic 71, 3) := by decide +kernel
theorem dX1_pointNamed_12 : decode mX1_pointNamed.2.1 12 = .ok (.ireturn, 1) := by decide +kernel
set_option maxRecDepth 4000 in
theorem ev_X1_pointNamed {m : Mem} {d : Nat} {v : Int} (hd : isDn d) (hn : 0 ≤ m d 4 ∧ m d 4 ≤ 5) (hv : InL v) : Ev 0 2 mX1_pointNamed [vr d, vl v] m (fun r m' => m' = m ∧ (r = nameAt m (d + 6) v (m d 4))) := by
  refine Ev.of (L := [vr d, vl v, un]) (by decide +kernel) rfl (Nat.le_of_ble_eq_true rfl) rfl (fun t ht => by cases ht; first | exact Or.inl rfl | exact Or.inr (Or.inl rfl) | exact Or.inr (Or.inr rfl)) (fun hcan => ?_)
  refine go_lload_n dX1_pointNamed_0 rfl ?_
  refine go_aload_n dX1_pointNamed_1 rfl ?_
  refine go_getf_p (b := (d + 6)) dX1_pointNamed_2 fl_1_44 hd.o rfl hd.p10 ?_
  refine go_aload_n dX1_pointNamed_5 rfl ?_
  refine go_getf_i (ki := 4) dX1_pointNamed_6 fl_1_24 hd.o rfl rfl (fun hf_6 => ?_)
  refine go_callSp_i (as := [vl v, vr (d + 6), vi (m d 4)]) (S := []) (ev_X1_placeOf (m := m) (v := v) (a := (d + 6)) (k := (m d 4)) (n := 5) hd.a6 (by first | assumption | omega | exact ⟨by omega, by omega⟩ | (constructor <;> omega)) (by first | assumption | omega | exact ⟨by omega, by omega⟩ | (constructor <;> omega))) rfl dX1_pointNamed_9 cs_1_71 rfl rfl (by decide) (Nat.le_of_ble_eq_true rfl) (fun r_9 hr_9 ho_9 => ?_)
  exact go_ret (v := r_9) rfl dX1_pointNamed_12 (okI ⟨by omega, by omega⟩) ⟨rfl, (by first | assumption | rfl | omega)⟩
theorem dX1_isNamed_0 : decode mX1_isNamed.2.1 0 = .ok (.aload_n 0, 1) := by decide +kernel
theorem dX1_isNamed_1 : decode mX1_isNamed.2.1 1 = .ok (.lload_n 1, 1) := by decide +kernel
theorem dX1_isNamed_2 : decode mX1_isNamed.2.1 2 = .ok (.invokevirtual 75, 3) := by decide +kernel
theorem dX1_isNamed_5 : decode mX1_isNamed.2.1 5 = .ok (.iconst (-1), 1) := by decide +kernel
theorem dX1_isNamed_6 : decode mX1_isNamed.2.1 6 = .ok (.if_icmp .ne 21, 3) := by decide +kernel
theorem dX1_isNamed_9 : decode mX1_isNamed.2.1 9 = .ok (.aload_n 0, 1) := by decide +kernel
theorem dX1_isNamed_10 : decode mX1_isNamed.2.1 10 = .ok (.lload_n 1, 1) := by decide +kernel
theorem dX1_isNamed_11 : decode mX1_isNamed.2.1 11 = .ok (.invokevirtual 79, 3) := by decide +kernel
theorem dX1_isNamed_14 : decode mX1_isNamed.2.1 14 = .ok (.iconst (-1), 1) := by decide +kernel
theorem dX1_isNamed_15 : decode mX1_isNamed.2.1 15 = .ok (.if_icmp .ne 12, 3) := by decide +kernel
theorem dX1_isNamed_18 : decode mX1_isNamed.2.1 18 = .ok (.aload_n 0, 1) := by decide +kernel
theorem dX1_isNamed_19 : decode mX1_isNamed.2.1 19 = .ok (.lload_n 1, 1) := by decide +kernel
theorem dX1_isNamed_20 : decode mX1_isNamed.2.1 20 = .ok (.invokevirtual 82, 3) := by decide +kernel
theorem dX1_isNamed_23 : decode mX1_isNamed.2.1 23 = .ok (.iconst (-1), 1) := by decide +kernel
theorem dX1_isNamed_24 : decode mX1_isNamed.2.1 24 = .ok (.if_icmp .eq 7, 3) := by decide +kernel
theorem dX1_isNamed_27 : decode mX1_isNamed.2.1 27 = .ok (.iconst 1, 1) := by decide +kernel
theorem dX1_isNamed_28 : decode mX1_isNamed.2.1 28 = .ok (.goto 4, 3) := by decide +kernel
theorem dX1_isNamed_31 : decode mX1_isNamed.2.1 31 = .ok (.iconst 0, 1) := by decide +kernel
theorem dX1_isNamed_32 : decode mX1_isNamed.2.1 32 = .ok (.ireturn, 1) := by decide +kernel
set_option maxRecDepth 4000 in
theorem ev_X1_isNamed {m : Mem} {d : Nat} {v : Int} (hd : isDn d) (hdn : DnOk m d) (hv : InL v) : Ev 0 3 mX1_isNamed [vr d, vl v] m (fun r m' => m' = m ∧ ((r = 1 ∧ knC m d v) ∨ (r = 0 ∧ ¬ knC m d v))) := by
  refine Ev.of (L := [vr d, vl v, un]) (by decide +kernel) rfl (Nat.le_of_ble_eq_true rfl) rfl (fun t ht => by cases ht; first | exact Or.inl rfl | exact Or.inr (Or.inl rfl) | exact Or.inr (Or.inr rfl)) (fun hcan => ?_)
  obtain ⟨⟨hd0, hd1⟩, ⟨hd2, hd3⟩, ⟨hd4, hd5⟩, ⟨hd6, hd7⟩, ⟨hd8, hd9⟩, hdf, hdp, hdq⟩ := id hdn
  refine go_aload_n dX1_isNamed_0 rfl ?_
  refine go_lload_n dX1_isNamed_1 rfl ?_
  refine go_callVp_i (as := [vl v]) (S := []) (b := d) (ev_X1_figureNamed (m := m) (d := d) (v := v) (by first | assumption | omega | exact ⟨by omega, by omega⟩ | (constructor <;> omega)) (by first | assumption | omega | exact ⟨by omega, by omega⟩ | (constructor <;> omega)) (by first | assumption | omega | exact ⟨by omega, by omega⟩ | (constructor <;> omega))) rfl dX1_isNamed_2 cv_1_75 rfl rfl hd.o rfl (by decide) (Nat.le_of_ble_eq_true rfl) (fun r_2 hr_2 ho_2 => ?_)
  refine go_iconst dX1_isNamed_5 ?_
  refine go_icmp_ne (tgt := 27) dX1_isNamed_6 (by decide) ⟨by omega, by omega⟩ ⟨by omega, by omega⟩ (fun h_6 => ?_) (fun h_6 => ?_)
  · refine go_iconst dX1_isNamed_27 ?_
    refine go_goto (tgt := 32) dX1_isNamed_28 (by decide) ?_
    exact go_ret (v := 1) rfl dX1_isNamed_32 (okZ (by first | exact Or.inl rfl | exact Or.inr rfl | assumption | omega)) ⟨rfl, (by unfold knC; omega)⟩
  · refine go_aload_n dX1_isNamed_9 rfl ?_
    refine go_lload_n dX1_isNamed_10 rfl ?_
    refine go_callVp_i (as := [vl v]) (S := []) (b := d) (ev_X1_personNamed (m := m) (d := d) (v := v) (by first | assumption | omega | exact ⟨by omega, by omega⟩ | (constructor <;> omega)) (by first | assumption | omega | exact ⟨by omega, by omega⟩ | (constructor <;> omega)) (by first | assumption | omega | exact ⟨by omega, by omega⟩ | (constructor <;> omega))) rfl dX1_isNamed_11 cv_1_79 rfl rfl hd.o rfl (by decide) (Nat.le_of_ble_eq_true rfl) (fun r_11 hr_11 ho_11 => ?_)
    refine go_iconst dX1_isNamed_14 ?_
    refine go_icmp_ne (tgt := 27) dX1_isNamed_15 (by decide) ⟨by omega, by omega⟩ ⟨by omega, by omega⟩ (fun h_15 => ?_) (fun h_15 => ?_)
    · refine go_iconst dX1_isNamed_27 ?_
      refine go_goto (tgt := 32) dX1_isNamed_28 (by decide) ?_
      exact go_ret (v := 1) rfl dX1_isNamed_32 (okZ (by first | exact Or.inl rfl | exact Or.inr rfl | assumption | omega)) ⟨rfl, (by unfold knC; omega)⟩
    · refine go_aload_n dX1_isNamed_18 rfl ?_
      refine go_lload_n dX1_isNamed_19 rfl ?_
      refine go_callVp_i (as := [vl v]) (S := []) (b := d) (ev_X1_pointNamed (m := m) (d := d) (v := v) (by first | assumption | omega | exact ⟨by omega, by omega⟩ | (constructor <;> omega)) (by first | assumption | omega | exact ⟨by omega, by omega⟩ | (constructor <;> omega)) (by first | assumption | omega | exact ⟨by omega, by omega⟩ | (constructor <;> omega))) rfl dX1_isNamed_20 cv_1_82 rfl rfl hd.o rfl (by decide) (Nat.le_of_ble_eq_true rfl) (fun r_20 hr_20 ho_20 => ?_)
      refine go_iconst dX1_isNamed_23 ?_
      refine go_icmp_eq (tgt := 31) dX1_isNamed_24 (by decide) ⟨by omega, by omega⟩ ⟨by omega, by omega⟩ (fun h_24 => ?_) (fun h_24 => ?_)
      · refine go_iconst dX1_isNamed_31 ?_
        exact go_ret (v := 0) rfl dX1_isNamed_32 (okZ (by first | exact Or.inl rfl | exact Or.inr rfl | assumption | omega)) ⟨rfl, (by unfold knC; omega)⟩
      · refine go_iconst dX1_isNamed_27 ?_
        refine go_goto (tgt := 32) dX1_isNamed_28 (by decide) ?_
        exact go_ret (v := 1) rfl dX1_isNamed_32 (okZ (by first | exact Or.inl rfl | exact Or.inr rfl | assumption | omega)) ⟨rfl, (by unfold knC; omega)⟩
