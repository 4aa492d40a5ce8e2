theorem dx_b {s : Int} (h0 : 0 ≤ s) (h1 : s < 4) : -1 ≤ dx s ∧ dx s ≤ 1 := by
  have : s = 0 ∨ s = 1 ∨ s = 2 ∨ s = 3 := by omega
  rcases this with rfl | rfl | rfl | rfl <;> decide
theorem dy_b {s : Int} (h0 : 0 ≤ s) (h1 : s < 4) : -1 ≤ dy s ∧ dy s ≤ 1 := by
  have : s = 0 ∨ s = 1 ∨ s = 2 ∨ s = 3 := by omega
  rcases this with rfl | rfl | rfl | rfl <;> decide
theorem mul_b {k u : Int} (h0 : 0 ≤ k) (h1 : -1 ≤ u ∧ u ≤ 1) : -k ≤ k * u ∧ k * u ≤ k := by
  have : u = -1 ∨ u = 0 ∨ u = 1 := by omega
  rcases this with rfl | rfl | rfl <;> omega
def barC (m : Mem) (d st : Nat) (x y : Int) : Int := if insC m d x y then (if 0 < m (st + 1) (9 * y + x) then 3 else if whoC m d st x y = -1 then 0 else 4) else 2
def lwC (m : Mem) (d st : Nat) (x y u v : Int) : Nat → Int
  | 0 => 0
  | n + 1 => if barC m d st (x + (n + 1 : Int) * u) (y + (n + 1 : Int) * v) ≠ 0 ∧ (lwC m d st x y u v n = 0 ∨ barC m d st (x + (n + 1 : Int) * u) (y + (n + 1 : Int) * v) < lwC m d st x y u v n) then barC m d st (x + (n + 1 : Int) * u) (y + (n + 1 : Int) * v) else lwC m d st x y u v n
theorem barC_b (m : Mem) (d st : Nat) (x y : Int) : 0 ≤ barC m d st x y ∧ barC m d st x y ≤ 4 := by
  unfold barC; split <;> (try split) <;> (try split) <;> omega
theorem lwC_b (m : Mem) (d st : Nat) (x y u v : Int) (n : Nat) : 0 ≤ lwC m d st x y u v n ∧ lwC m d st x y u v n ≤ 4 := by
  induction n with
  | zero => simp [lwC]
  | succ n ih =>
    have := barC_b m d st (x + (n + 1 : Int) * u) (y + (n + 1 : Int) * v)
    simp only [lwC]; split <;> omega
theorem lwC_s {m : Mem} {d st : Nat} {x y u v k : Int} (h : 1 ≤ k) : lwC m d st x y u v k.toNat = if barC m d st (x + k * u) (y + k * v) ≠ 0 ∧ (lwC m d st x y u v (k - 1).toNat = 0 ∨ barC m d st (x + k * u) (y + k * v) < lwC m d st x y u v (k - 1).toNat) then barC m d st (x + k * u) (y + k * v) else lwC m d st x y u v (k - 1).toNat := by
  obtain ⟨n, rfl⟩ : ∃ n : Nat, k = (n : Int) + 1 := ⟨(k - 1).toNat, by omega⟩
  rw [show ((n : Int) + 1).toNat = n + 1 by omega, show ((n : Int) + 1 - 1).toNat = n by omega]
  rfl
def whySayC (m : Mem) (d st : Nat) (p f s : Int) : Int := if m (st + 5) p < costC m d f then 1 else lwC m d st (m (st + 2) p) (m (st + 3) p) (dx s) (dy s) (m (d + 3) f).toNat
def wallC (m : Mem) (d st : Nat) (x y : Int) : Int := if insC m d x y then m (st + 1) (9 * y + x) else 0
def whyKickC (m : Mem) (d st : Nat) (p s : Int) : Int := if m (st + 5) p = 0 then 1 else if 0 < wallC m d st (m (st + 2) p + dx s) (m (st + 3) p + dy s) then 0 else 2

theorem dX10_hasFigure_0 : decode mX10_hasFigure.2.1 0 = .ok (.iload_n 1, 1) := by decide +kernel
theorem dX10_hasFigure_1 : decode mX10_hasFigure.2.1 1 = .ok (.ifCond .lt 18, 3) := by decide +kernel
theorem dX10_hasFigure_4 : decode mX10_hasFigure.2.1 4 = .ok (.iload_n 1, 1) := by decide +kernel
theorem dX10_hasFigure_5 : decode mX10_hasFigure.2.1 5 = .ok (.aload_n 0, 1) := by decide +kernel
theorem dX10_hasFigure_6 : decode mX10_hasFigure.2.1 6 = .ok (.getfield 29, 3) := by decide +kernel
theorem dX10_hasFigure_9 : decode mX10_hasFigure.2.1 9 = .ok (.getfield 50, 3) := by decide +kernel
theorem dX10_hasFigure_12 : decode mX10_hasFigure.2.1 12 = .ok (.if_icmp .ge 7, 3) := by decide +kernel
theorem dX10_hasFigure_15 : decode mX10_hasFigure.2.1 15 = .ok (.iconst 1, 1) := by decide +kernel
theorem dX10_hasFigure_16 : decode mX10_hasFigure.2.1 16 = .ok (.goto 4, 3) := by decide +kernel
theorem dX10_hasFigure_19 : decode mX10_hasFigure.2.1 19 = .ok (.iconst 0, 1) := by decide +kernel
theorem dX10_hasFigure_20 : decode mX10_hasFigure.2.1 20 = .ok (.ireturn, 1) := by decide +kernel
set_option maxRecDepth 4000 in
theorem ev_X10_hasFigure {m : Mem} {w : Nat} {d : Nat} {st : Nat} {f : Int} (hw : isWd w d st) (hf : InR f) : Ev 0 1 mX10_hasFigure [vr w, vi f] m (fun r m' => m' = m ∧ ((r = 1 ∧ 0 ≤ f ∧ f < m d 2) ∨ (r = 0 ∧ ¬ (0 ≤ f ∧ f < m d 2)))) := by
  refine Ev.of (L := [vr w, vi f]) (by decide +kernel) rfl (Nat.le_of_ble_eq_true rfl) rfl (fun t ht => by cases ht; first | exact Or.inl rfl | exact Or.inr (Or.inl rfl) | exact Or.inr (Or.inr rfl)) (fun hcan => ?_)
  refine go_iload_n dX10_hasFigure_0 rfl ?_
  refine go_if_lt (tgt := 19) dX10_hasFigure_1 (by decide) ⟨by omega, by omega⟩ (fun h_1 => ?_) (fun h_1 => ?_)
  · refine go_iconst dX10_hasFigure_19 ?_
    exact go_ret (v := 0) rfl dX10_hasFigure_20 (okZ (by first | exact Or.inl rfl | exact Or.inr rfl | assumption | omega)) ⟨rfl, (by first | assumption | rfl | omega)⟩
  · refine go_iload_n dX10_hasFigure_4 rfl ?_
    refine go_aload_n dX10_hasFigure_5 rfl ?_
    refine go_getf_p (b := d) dX10_hasFigure_6 fl_10_29 hw.o rfl hw.p0 ?_
    refine go_getf_i (ki := 2) dX10_hasFigure_9 fl_10_50 hw.dn.o rfl rfl (fun hf_9 => ?_)
    refine go_icmp_ge (tgt := 19) dX10_hasFigure_12 (by decide) ⟨by omega, by omega⟩ ⟨by omega, by omega⟩ (fun h_12 => ?_) (fun h_12 => ?_)
    · refine go_iconst dX10_hasFigure_19 ?_
      exact go_ret (v := 0) rfl dX10_hasFigure_20 (okZ (by first | exact Or.inl rfl | exact Or.inr rfl | assumption | omega)) ⟨rfl, (by first | assumption | rfl | omega)⟩
    · refine go_iconst dX10_hasFigure_15 ?_
      refine go_goto (tgt := 20) dX10_hasFigure_16 (by decide) ?_
      exact go_ret (v := 1) rfl dX10_hasFigure_20 (okZ (by first | exact Or.inl rfl | exact Or.inr rfl | assumption | omega)) ⟨rfl, (by first | assumption | rfl | omega)⟩
theorem dX10_hasPerson_0 : decode mX10_hasPerson.2.1 0 = .ok (.iload_n 1, 1) := by decide +kernel
theorem dX10_hasPerson_1 : decode mX10_hasPerson.2.1 1 = .ok (.ifCond .lt 18, 3) := by decide +kernel
theorem dX10_hasPerson_4 : decode mX10_hasPerson.2.1 4 = .ok (.iload_n 1, 1) := by decide +kernel
theorem dX10_hasPerson_5 : decode mX10_hasPerson.2.1 5 = .ok (.aload_n 0, 1) := by decide +kernel
theorem dX10_hasPerson_6 : decode mX10_hasPerson.2.1 6 = .ok (.getfield 29, 3) := by decide +kernel
theorem dX10_hasPerson_9 : decode mX10_hasPerson.2.1 9 = .ok (.getfield 53, 3) := by decide +kernel
theorem dX10_hasPerson_12 : decode mX10_hasPerson.2.1 12 = .ok (.if_icmp .ge 7, 3) := by decide +kernel
theorem dX10_hasPerson_15 : decode mX10_hasPerson.2.1 15 = .ok (.iconst 1, 1) := by decide +kernel
theorem dX10_hasPerson_16 : decode mX10_hasPerson.2.1 16 = .ok (.goto 4, 3) := by decide +kernel
theorem dX10_hasPerson_19 : decode mX10_hasPerson.2.1 19 = .ok (.iconst 0, 1) := by decide +kernel
theorem dX10_hasPerson_20 : decode mX10_hasPerson.2.1 20 = .ok (.ireturn, 1) := by decide +kernel
set_option maxRecDepth 4000 in
theorem ev_X10_hasPerson {m : Mem} {w : Nat} {d : Nat} {st : Nat} {f : Int} (hw : isWd w d st) (hf : InR f) : Ev 0 1 mX10_hasPerson [vr w, vi f] m (fun r m' => m' = m ∧ ((r = 1 ∧ 0 ≤ f ∧ f < m d 3) ∨ (r = 0 ∧ ¬ (0 ≤ f ∧ f < m d 3)))) := by
  refine Ev.of (L := [vr w, vi f]) (by decide +kernel) rfl (Nat.le_of_ble_eq_true rfl) rfl (fun t ht => by cases ht; first | exact Or.inl rfl | exact Or.inr (Or.inl rfl) | exact Or.inr (Or.inr rfl)) (fun hcan => ?_)
  refine go_iload_n dX10_hasPerson_0 rfl ?_
  refine go_if_lt (tgt := 19) dX10_hasPerson_1 (by decide) ⟨by omega, by omega⟩ (fun h_1 => ?_) (fun h_1 => ?_)
  · refine go_iconst dX10_hasPerson_19 ?_
    exact go_ret (v := 0) rfl dX10_hasPerson_20 (okZ (by first | exact Or.inl rfl | exact Or.inr rfl | assumption | omega)) ⟨rfl, (by first | assumption | rfl | omega)⟩
  · refine go_iload_n dX10_hasPerson_4 rfl ?_
    refine go_aload_n dX10_hasPerson_5 rfl ?_
    refine go_getf_p (b := d) dX10_hasPerson_6 fl_10_29 hw.o rfl hw.p0 ?_
    refine go_getf_i (ki := 3) dX10_hasPerson_9 fl_10_53 hw.dn.o rfl rfl (fun hf_9 => ?_)
    refine go_icmp_ge (tgt := 19) dX10_hasPerson_12 (by decide) ⟨by omega, by omega⟩ ⟨by omega, by omega⟩ (fun h_12 => ?_) (fun h_12 => ?_)
    · refine go_iconst dX10_hasPerson_19 ?_
      exact go_ret (v := 0) rfl dX10_hasPerson_20 (okZ (by first | exact Or.inl rfl | exact Or.inr rfl | assumption | omega)) ⟨rfl, (by first | assumption | rfl | omega)⟩
    · refine go_iconst dX10_hasPerson_15 ?_
      refine go_goto (tgt := 20) dX10_hasPerson_16 (by decide) ?_
      exact go_ret (v := 1) rfl dX10_hasPerson_20 (okZ (by first | exact Or.inl rfl | exact Or.inr rfl | assumption | omega)) ⟨rfl, (by first | assumption | rfl | omega)⟩
theorem dX10_hasPoint_0 : decode mX10_hasPoint.2.1 0 = .ok (.iload_n 1, 1) := by decide +kernel
theorem dX10_hasPoint_1 : decode mX10_hasPoint.2.1 1 = .ok (.ifCond .lt 18, 3) := by decide +kernel
theorem dX10_hasPoint_4 : decode mX10_hasPoint.2.1 4 = .ok (.iload_n 1, 1) := by decide +kernel
theorem dX10_hasPoint_5 : decode mX10_hasPoint.2.1 5 = .ok (.aload_n 0, 1) := by decide +kernel
theorem dX10_hasPoint_6 : decode mX10_hasPoint.2.1 6 = .ok (.getfield 29, 3) := by decide +kernel
theorem dX10_hasPoint_9 : decode mX10_hasPoint.2.1 9 = .ok (.getfield 56, 3) := by decide +kernel
theorem dX10_hasPoint_12 : decode mX10_hasPoint.2.1 12 = .ok (.if_icmp .ge 7, 3) := by decide +kernel
theorem dX10_hasPoint_15 : decode mX10_hasPoint.2.1 15 = .ok (.iconst 1, 1) := by decide +kernel
theorem dX10_hasPoint_16 : decode mX10_hasPoint.2.1 16 = .ok (.goto 4, 3) := by decide +kernel
theorem dX10_hasPoint_19 : decode mX10_hasPoint.2.1 19 = .ok (.iconst 0, 1) := by decide +kernel
theorem dX10_hasPoint_20 : decode mX10_hasPoint.2.1 20 = .ok (.ireturn, 1) := by decide +kernel
set_option maxRecDepth 4000 in
theorem ev_X10_hasPoint {m : Mem} {w : Nat} {d : Nat} {st : Nat} {f : Int} (hw : isWd w d st) (hf : InR f) : Ev 0 1 mX10_hasPoint [vr w, vi f] m (fun r m' => m' = m ∧ ((r = 1 ∧ 0 ≤ f ∧ f < m d 4) ∨ (r = 0 ∧ ¬ (0 ≤ f ∧ f < m d 4)))) := by
  refine Ev.of (L := [vr w, vi f]) (by decide +kernel) rfl (Nat.le_of_ble_eq_true rfl) rfl (fun t ht => by cases ht; first | exact Or.inl rfl | exact Or.inr (Or.inl rfl) | exact Or.inr (Or.inr rfl)) (fun hcan => ?_)
  refine go_iload_n dX10_hasPoint_0 rfl ?_
  refine go_if_lt (tgt := 19) dX10_hasPoint_1 (by decide) ⟨by omega, by omega⟩ (fun h_1 => ?_) (fun h_1 => ?_)
  · refine go_iconst dX10_hasPoint_19 ?_
    exact go_ret (v := 0) rfl dX10_hasPoint_20 (okZ (by first | exact Or.inl rfl | exact Or.inr rfl | assumption | omega)) ⟨rfl, (by first | assumption | rfl | omega)⟩
  · refine go_iload_n dX10_hasPoint_4 rfl ?_
    refine go_aload_n dX10_hasPoint_5 rfl ?_
    refine go_getf_p (b := d) dX10_hasPoint_6 fl_10_29 hw.o rfl hw.p0 ?_
    refine go_getf_i (ki := 4) dX10_hasPoint_9 fl_10_56 hw.dn.o rfl rfl (fun hf_9 => ?_)
    refine go_icmp_ge (tgt := 19) dX10_hasPoint_12 (by decide) ⟨by omega, by omega⟩ ⟨by omega, by omega⟩ (fun h_12 => ?_) (fun h_12 => ?_)
    · refine go_iconst dX10_hasPoint_19 ?_
      exact go_ret (v := 0) rfl dX10_hasPoint_20 (okZ (by first | exact Or.inl rfl | exact Or.inr rfl | assumption | omega)) ⟨rfl, (by first | assumption | rfl | omega)⟩
    · refine go_iconst dX10_hasPoint_15 ?_
      refine go_goto (tgt := 20) dX10_hasPoint_16 (by decide) ?_
      exact go_ret (v := 1) rfl dX10_hasPoint_20 (okZ (by first | exact Or.inl rfl | exact Or.inr rfl | assumption | omega)) ⟨rfl, (by first | assumption | rfl | omega)⟩
theorem dX10_wallAt_0 : decode mX10_wallAt.2.1 0 = .ok (.aload_n 0, 1) := by decide +kernel
theorem dX10_wallAt_1 : decode mX10_wallAt.2.1 1 = .ok (.getfield 29, 3) := by decide +kernel
theorem dX10_wallAt_4 : decode mX10_wallAt.2.1 4 = .ok (.iload_n 1, 1) := by decide +kernel
theorem dX10_wallAt_5 : decode mX10_wallAt.2.1 5 = .ok (.iload_n 2, 1) := by decide +kernel
theorem dX10_wallAt_6 : decode mX10_wallAt.2.1 6 = .ok (.invokevirtual 66, 3) := by decide +kernel
theorem dX10_wallAt_9 : decode mX10_wallAt.2.1 9 = .ok (.ifCond .eq 19, 3) := by decide +kernel
theorem dX10_wallAt_12 : decode mX10_wallAt.2.1 12 = .ok (.aload_n 0, 1) := by decide +kernel
theorem dX10_wallAt_13 : decode mX10_wallAt.2.1 13 = .ok (.getfield 12, 3) := by decide +kernel
theorem dX10_wallAt_16 : decode mX10_wallAt.2.1 16 = .ok (.getfield 70, 3) := by decide +kernel
theorem dX10_wallAt_19 : decode mX10_wallAt.2.1 19 = .ok (.iload_n 1, 1) := by decide +kernel
theorem dX10_wallAt_20 : decode mX10_wallAt.2.1 20 = .ok (.iload_n 2, 1) := by decide +kernel
theorem dX10_wallAt_21 : decode mX10_wallAt.2.1 21 = .ok (.invokestatic 73, 3) := by decide +kernel
theorem dX10_wallAt_24 : decode mX10_wallAt.2.1 24 = .ok (.iaload, 1) := by decide +kernel
theorem dX10_wallAt_25 : decode mX10_wallAt.2.1 25 = .ok (.goto 4, 3) := by decide +kernel
theorem dX10_wallAt_28 : decode mX10_wallAt.2.1 28 = .ok (.iconst 0, 1) := by decide +kernel
theorem dX10_wallAt_29 : decode mX10_wallAt.2.1 29 = .ok (.ireturn, 1) := by decide +kernel
set_option maxRecDepth 4000 in
theorem ev_X10_wallAt {m : Mem} {w : Nat} {d : Nat} {st : Nat} {x : Int} {y : Int} (hw : isWd w d st) (hdn : DnOk m d) (hx : -100 ≤ x ∧ x ≤ 100) (hy : -100 ≤ y ∧ y ≤ 100) : Ev 0 2 mX10_wallAt [vr w, vi x, vi y] m (fun r m' => m' = m ∧ (r = wallC m d st x y)) := by
  refine Ev.of (L := [vr w, vi x, vi y]) (by decide +kernel) rfl (Nat.le_of_ble_eq_true rfl) rfl (fun t ht => by cases ht; first | exact Or.inl rfl | exact Or.inr (Or.inl rfl) | exact Or.inr (Or.inr rfl)) (fun hcan => ?_)
  obtain ⟨⟨hd0, hd1⟩, ⟨hd2, hd3⟩, ⟨hd4, hd5⟩, ⟨hd6, hd7⟩, ⟨hd8, hd9⟩, hdf, hdp, hdq⟩ := id hdn
  refine go_aload_n dX10_wallAt_0 rfl ?_
  refine go_getf_p (b := d) dX10_wallAt_1 fl_10_29 hw.o rfl hw.p0 ?_
  refine go_iload_n dX10_wallAt_4 rfl ?_
  refine go_iload_n dX10_wallAt_5 rfl ?_
  refine go_callVp_z (as := [vi x, vi y]) (S := []) (b := d) (ev_X1_isInside (m := m) (d := d) (x := x) (y := y) hw.dn (by first | assumption | omega | exact ⟨by omega, by omega⟩ | (constructor <;> omega)) (by first | assumption | omega | exact ⟨by omega, by omega⟩ | (constructor <;> omega))) rfl dX10_wallAt_6 cv_10_66 rfl rfl hw.dn.o rfl (by decide) (Nat.le_of_ble_eq_true rfl) (fun r_6 hr_6 ho_6 => ?_)
  refine go_if_eq (tgt := 28) dX10_wallAt_9 (by decide) ⟨by omega, by omega⟩ (fun h_9 => ?_) (fun h_9 => ?_)
  · refine go_iconst dX10_wallAt_28 ?_
    exact go_ret (v := 0) rfl dX10_wallAt_29 (okI ⟨by omega, by omega⟩) ⟨rfl, (by unfold wallC; first | rw [if_pos (by omega), hr_21] | rw [if_neg (by omega)])⟩
  · refine go_aload_n dX10_wallAt_12 rfl ?_
    refine go_getf_p (b := st) dX10_wallAt_13 fl_10_12 hw.o rfl hw.p1 ?_
    refine go_getf_p (b := (st + 1)) dX10_wallAt_16 fl_10_70 hw.st.o rfl hw.st.p2 ?_
    refine go_iload_n dX10_wallAt_19 rfl ?_
    refine go_iload_n dX10_wallAt_20 rfl ?_
    refine go_callSp_i (as := [vi x, vi y]) (S := [vr (st + 1)]) (ev_X11_cellOf (m := m) (x := x) (y := y) (by first | assumption | omega | exact ⟨by omega, by omega⟩ | (constructor <;> omega)) (by first | assumption | omega | exact ⟨by omega, by omega⟩ | (constructor <;> omega))) rfl dX10_wallAt_21 cs_10_73 rfl rfl (by decide) (Nat.le_of_ble_eq_true rfl) (fun r_21 hr_21 ho_21 => ?_)
    refine go_iaload dX10_wallAt_24 hw.st.a1 (by omega) (by omega) (fun he_24 => ?_)
    refine go_goto (tgt := 29) dX10_wallAt_25 (by decide) ?_
    exact go_ret (v := (m (st + 1) r_21)) rfl dX10_wallAt_29 (okI ⟨by omega, by omega⟩) ⟨rfl, (by unfold wallC; first | rw [if_pos (by omega), hr_21] | rw [if_neg (by omega)])⟩
theorem dX10_whatBars_0 : decode mX10_whatBars.2.1 0 = .ok (.aload_n 0, 1) := by decide +kernel
theorem dX10_whatBars_1 : decode mX10_whatBars.2.1 1 = .ok (.getfield 29, 3) := by decide +kernel
theorem dX10_whatBars_4 : decode mX10_whatBars.2.1 4 = .ok (.iload_n 1, 1) := by decide +kernel
theorem dX10_whatBars_5 : decode mX10_whatBars.2.1 5 = .ok (.iload_n 2, 1) := by decide +kernel
theorem dX10_whatBars_6 : decode mX10_whatBars.2.1 6 = .ok (.invokevirtual 66, 3) := by decide +kernel
theorem dX10_whatBars_9 : decode mX10_whatBars.2.1 9 = .ok (.ifCond .ne 5, 3) := by decide +kernel
theorem dX10_whatBars_12 : decode mX10_whatBars.2.1 12 = .ok (.iconst 2, 1) := by decide +kernel
theorem dX10_whatBars_13 : decode mX10_whatBars.2.1 13 = .ok (.ireturn, 1) := by decide +kernel
theorem dX10_whatBars_14 : decode mX10_whatBars.2.1 14 = .ok (.aload_n 0, 1) := by decide +kernel
theorem dX10_whatBars_15 : decode mX10_whatBars.2.1 15 = .ok (.getfield 12, 3) := by decide +kernel
theorem dX10_whatBars_18 : decode mX10_whatBars.2.1 18 = .ok (.getfield 70, 3) := by decide +kernel
theorem dX10_whatBars_21 : decode mX10_whatBars.2.1 21 = .ok (.iload_n 1, 1) := by decide +kernel
theorem dX10_whatBars_22 : decode mX10_whatBars.2.1 22 = .ok (.iload_n 2, 1) := by decide +kernel
theorem dX10_whatBars_23 : decode mX10_whatBars.2.1 23 = .ok (.invokestatic 73, 3) := by decide +kernel
theorem dX10_whatBars_26 : decode mX10_whatBars.2.1 26 = .ok (.iaload, 1) := by decide +kernel
theorem dX10_whatBars_27 : decode mX10_whatBars.2.1 27 = .ok (.ifCond .le 5, 3) := by decide +kernel
theorem dX10_whatBars_30 : decode mX10_whatBars.2.1 30 = .ok (.iconst 3, 1) := by decide +kernel
theorem dX10_whatBars_31 : decode mX10_whatBars.2.1 31 = .ok (.ireturn, 1) := by decide +kernel
theorem dX10_whatBars_32 : decode mX10_whatBars.2.1 32 = .ok (.aload_n 0, 1) := by decide +kernel
theorem dX10_whatBars_33 : decode mX10_whatBars.2.1 33 = .ok (.iload_n 1, 1) := by decide +kernel
theorem dX10_whatBars_34 : decode mX10_whatBars.2.1 34 = .ok (.iload_n 2, 1) := by decide +kernel
theorem dX10_whatBars_35 : decode mX10_whatBars.2.1 35 = .ok (.invokevirtual 96, 3) := by decide +kernel
theorem dX10_whatBars_38 : decode mX10_whatBars.2.1 38 = .ok (.iconst (-1), 1) := by decide +kernel
theorem dX10_whatBars_39 : decode mX10_whatBars.2.1 39 = .ok (.if_icmp .ne 7, 3) := by decide +kernel
theorem dX10_whatBars_42 : decode mX10_whatBars.2.1 42 = .ok (.iconst 0, 1) := by decide +kernel
theorem dX10_whatBars_43 : decode mX10_whatBars.2.1 43 = .ok (.goto 4, 3) := by decide +kernel
theorem dX10_whatBars_46 : decode mX10_whatBars.2.1 46 = .ok (.iconst 4, 1) := by decide +kernel
theorem dX10_whatBars_47 : decode mX10_whatBars.2.1 47 = .ok (.ireturn, 1) := by decide +kernel
set_option maxRecDepth 4000 in
theorem ev_X10_whatBars {m : Mem} {w : Nat} {d : Nat} {st : Nat} {x : Int} {y : Int} (hw : isWd w d st) (hdn : DnOk m d) (hx : -100 ≤ x ∧ x ≤ 100) (hy : -100 ≤ y ∧ y ≤ 100) : Ev 0 2 mX10_whatBars [vr w, vi x, vi y] m (fun r m' => m' = m ∧ (r = barC m d st x y)) := by
  refine Ev.of (L := [vr w, vi x, vi y]) (by decide +kernel) rfl (Nat.le_of_ble_eq_true rfl) rfl (fun t ht => by cases ht; first | exact Or.inl rfl | exact Or.inr (Or.inl rfl) | exact Or.inr (Or.inr rfl)) (fun hcan => ?_)
  obtain ⟨⟨hd0, hd1⟩, ⟨hd2, hd3⟩, ⟨hd4, hd5⟩, ⟨hd6, hd7⟩, ⟨hd8, hd9⟩, hdf, hdp, hdq⟩ := id hdn
  refine go_aload_n dX10_whatBars_0 rfl ?_
  refine go_getf_p (b := d) dX10_whatBars_1 fl_10_29 hw.o rfl hw.p0 ?_
  refine go_iload_n dX10_whatBars_4 rfl ?_
  refine go_iload_n dX10_whatBars_5 rfl ?_
  refine go_callVp_z (as := [vi x, vi y]) (S := []) (b := d) (ev_X1_isInside (m := m) (d := d) (x := x) (y := y) hw.dn (by first | assumption | omega | exact ⟨by omega, by omega⟩ | (constructor <;> omega)) (by first | assumption | omega | exact ⟨by omega, by omega⟩ | (constructor <;> omega))) rfl dX10_whatBars_6 cv_10_66 rfl rfl hw.dn.o rfl (by decide) (Nat.le_of_ble_eq_true rfl) (fun r_6 hr_6 ho_6 => ?_)
  refine go_if_ne (tgt := 14) dX10_whatBars_9 (by decide) ⟨by omega, by omega⟩ (fun h_9 => ?_) (fun h_9 => ?_)
  · refine go_aload_n dX10_whatBars_14 rfl ?_
    refine go_getf_p (b := st) dX10_whatBars_15 fl_10_12 hw.o rfl hw.p1 ?_
    refine go_getf_p (b := (st + 1)) dX10_whatBars_18 fl_10_70 hw.st.o rfl hw.st.p2 ?_
    refine go_iload_n dX10_whatBars_21 rfl ?_
    refine go_iload_n dX10_whatBars_22 rfl ?_
    refine go_callSp_i (as := [vi x, vi y]) (S := [vr (st + 1)]) (ev_X11_cellOf (m := m) (x := x) (y := y) (by first | assumption | omega | exact ⟨by omega, by omega⟩ | (constructor <;> omega)) (by first | assumption | omega | exact ⟨by omega, by omega⟩ | (constructor <;> omega))) rfl dX10_whatBars_23 cs_10_73 rfl rfl (by decide) (Nat.le_of_ble_eq_true rfl) (fun r_23 hr_23 ho_23 => ?_)
    refine go_iaload dX10_whatBars_26 hw.st.a1 (by omega) (by omega) (fun he_26 => ?_)
    refine go_if_le (tgt := 32) dX10_whatBars_27 (by decide) ⟨by omega, by omega⟩ (fun h_27 => ?_) (fun h_27 => ?_)
    · refine go_aload_n dX10_whatBars_32 rfl ?_
      refine go_iload_n dX10_whatBars_33 rfl ?_
      refine go_iload_n dX10_whatBars_34 rfl ?_
      refine go_callVp_i (as := [vi x, vi y]) (S := []) (b := w) (ev_X10_whoIsAt (m := m) (w := w) (x := x) (y := y) (d := d) (st := st) (by first | assumption | omega | exact ⟨by omega, by omega⟩ | (constructor <;> omega)) (by first | assumption | omega | exact ⟨by omega, by omega⟩ | (constructor <;> omega)) (by first | assumption | omega | exact ⟨by omega, by omega⟩ | (constructor <;> omega)) (by first | assumption | omega | exact ⟨by omega, by omega⟩ | (constructor <;> omega))) rfl dX10_whatBars_35 cv_10_96 rfl rfl hw.o rfl (by decide) (Nat.le_of_ble_eq_true rfl) (fun r_35 hr_35 ho_35 => ?_)
      refine go_iconst dX10_whatBars_38 ?_
      refine go_icmp_ne (tgt := 46) dX10_whatBars_39 (by decide) ⟨by omega, by omega⟩ ⟨by omega, by omega⟩ (fun h_39 => ?_) (fun h_39 => ?_)
      · refine go_iconst dX10_whatBars_46 ?_
        exact go_ret (v := 4) rfl dX10_whatBars_47 (okI ⟨by omega, by omega⟩) ⟨rfl, (by unfold barC; rw [if_pos (by omega), ← hr_23, if_neg (by omega), ← hr_35]; first | rw [if_pos (by omega)] | rw [if_neg (by omega)])⟩
      · refine go_iconst dX10_whatBars_42 ?_
        refine go_goto (tgt := 47) dX10_whatBars_43 (by decide) ?_
        exact go_ret (v := 0) rfl dX10_whatBars_47 (okI ⟨by omega, by omega⟩) ⟨rfl, (by unfold barC; rw [if_pos (by omega), ← hr_23, if_neg (by omega), ← hr_35]; first | rw [if_pos (by omega)] | rw [if_neg (by omega)])⟩
    · refine go_iconst dX10_whatBars_30 ?_
      exact go_ret (v := 3) rfl dX10_whatBars_31 (okI ⟨by omega, by omega⟩) ⟨rfl, (by unfold barC; rw [if_pos (by omega), ← hr_23, if_pos (by omega)])⟩
  · refine go_iconst dX10_whatBars_12 ?_
    exact go_ret (v := 2) rfl dX10_whatBars_13 (okI ⟨by omega, by omega⟩) ⟨rfl, (by unfold barC; rw [if_neg (by omega)])⟩
theorem dX10_whyNotSay_0 : decode mX10_whyNotSay.2.1 0 = .ok (.aload_n 0, 1) := by decide +kernel
theorem dX10_whyNotSay_1 : decode mX10_whyNotSay.2.1 1 = .ok (.getfield 12, 3) := by decide +kernel
theorem dX10_whyNotSay_4 : decode mX10_whyNotSay.2.1 4 = .ok (.getfield 77, 3) := by decide +kernel
theorem dX10_whyNotSay_7 : decode mX10_whyNotSay.2.1 7 = .ok (.iload_n 1, 1) := by decide +kernel
theorem dX10_whyNotSay_8 : decode mX10_whyNotSay.2.1 8 = .ok (.iaload, 1) := by decide +kernel
theorem dX10_whyNotSay_9 : decode mX10_whyNotSay.2.1 9 = .ok (.aload_n 0, 1) := by decide +kernel
theorem dX10_whyNotSay_10 : decode mX10_whyNotSay.2.1 10 = .ok (.getfield 29, 3) := by decide +kernel
theorem dX10_whyNotSay_13 : decode mX10_whyNotSay.2.1 13 = .ok (.iload_n 2, 1) := by decide +kernel
theorem dX10_whyNotSay_14 : decode mX10_whyNotSay.2.1 14 = .ok (.invokevirtual 80, 3) := by decide +kernel
theorem dX10_whyNotSay_17 : decode mX10_whyNotSay.2.1 17 = .ok (.if_icmp .ge 5, 3) := by decide +kernel
theorem dX10_whyNotSay_20 : decode mX10_whyNotSay.2.1 20 = .ok (.iconst 1, 1) := by decide +kernel
theorem dX10_whyNotSay_21 : decode mX10_whyNotSay.2.1 21 = .ok (.ireturn, 1) := by decide +kernel
theorem dX10_whyNotSay_22 : decode mX10_whyNotSay.2.1 22 = .ok (.iconst 0, 1) := by decide +kernel
theorem dX10_whyNotSay_23 : decode mX10_whyNotSay.2.1 23 = .ok (.istore 4, 2) := by decide +kernel
theorem dX10_whyNotSay_25 : decode mX10_whyNotSay.2.1 25 = .ok (.iconst 1, 1) := by decide +kernel
theorem dX10_whyNotSay_26 : decode mX10_whyNotSay.2.1 26 = .ok (.istore 5, 2) := by decide +kernel
theorem dX10_whyNotSay_28 : decode mX10_whyNotSay.2.1 28 = .ok (.iload 5, 2) := by decide +kernel
theorem dX10_whyNotSay_30 : decode mX10_whyNotSay.2.1 30 = .ok (.aload_n 0, 1) := by decide +kernel
theorem dX10_whyNotSay_31 : decode mX10_whyNotSay.2.1 31 = .ok (.getfield 29, 3) := by decide +kernel
theorem dX10_whyNotSay_34 : decode mX10_whyNotSay.2.1 34 = .ok (.getfield 84, 3) := by decide +kernel
theorem dX10_whyNotSay_37 : decode mX10_whyNotSay.2.1 37 = .ok (.iload_n 2, 1) := by decide +kernel
theorem dX10_whyNotSay_38 : decode mX10_whyNotSay.2.1 38 = .ok (.iaload, 1) := by decide +kernel
theorem dX10_whyNotSay_39 : decode mX10_whyNotSay.2.1 39 = .ok (.if_icmp .gt 72, 3) := by decide +kernel
theorem dX10_whyNotSay_42 : decode mX10_whyNotSay.2.1 42 = .ok (.aload_n 0, 1) := by decide +kernel
theorem dX10_whyNotSay_43 : decode mX10_whyNotSay.2.1 43 = .ok (.aload_n 0, 1) := by decide +kernel
theorem dX10_whyNotSay_44 : decode mX10_whyNotSay.2.1 44 = .ok (.getfield 12, 3) := by decide +kernel
theorem dX10_whyNotSay_47 : decode mX10_whyNotSay.2.1 47 = .ok (.getfield 59, 3) := by decide +kernel
theorem dX10_whyNotSay_50 : decode mX10_whyNotSay.2.1 50 = .ok (.iload_n 1, 1) := by decide +kernel
theorem dX10_whyNotSay_51 : decode mX10_whyNotSay.2.1 51 = .ok (.iaload, 1) := by decide +kernel
theorem dX10_whyNotSay_52 : decode mX10_whyNotSay.2.1 52 = .ok (.iload 5, 2) := by decide +kernel
theorem dX10_whyNotSay_54 : decode mX10_whyNotSay.2.1 54 = .ok (.getstatic 87, 3) := by decide +kernel
theorem dX10_whyNotSay_57 : decode mX10_whyNotSay.2.1 57 = .ok (.iload_n 3, 1) := by decide +kernel
theorem dX10_whyNotSay_58 : decode mX10_whyNotSay.2.1 58 = .ok (.iaload, 1) := by decide +kernel
theorem dX10_whyNotSay_59 : decode mX10_whyNotSay.2.1 59 = .ok (.imul, 1) := by decide +kernel
theorem dX10_whyNotSay_60 : decode mX10_whyNotSay.2.1 60 = .ok (.iadd, 1) := by decide +kernel
theorem dX10_whyNotSay_61 : decode mX10_whyNotSay.2.1 61 = .ok (.aload_n 0, 1) := by decide +kernel
theorem dX10_whyNotSay_62 : decode mX10_whyNotSay.2.1 62 = .ok (.getfield 12, 3) := by decide +kernel
theorem dX10_whyNotSay_65 : decode mX10_whyNotSay.2.1 65 = .ok (.getfield 63, 3) := by decide +kernel
theorem dX10_whyNotSay_68 : decode mX10_whyNotSay.2.1 68 = .ok (.iload_n 1, 1) := by decide +kernel
theorem dX10_whyNotSay_69 : decode mX10_whyNotSay.2.1 69 = .ok (.iaload, 1) := by decide +kernel
theorem dX10_whyNotSay_70 : decode mX10_whyNotSay.2.1 70 = .ok (.iload 5, 2) := by decide +kernel
theorem dX10_whyNotSay_72 : decode mX10_whyNotSay.2.1 72 = .ok (.getstatic 90, 3) := by decide +kernel
theorem dX10_whyNotSay_75 : decode mX10_whyNotSay.2.1 75 = .ok (.iload_n 3, 1) := by decide +kernel
theorem dX10_whyNotSay_76 : decode mX10_whyNotSay.2.1 76 = .ok (.iaload, 1) := by decide +kernel
theorem dX10_whyNotSay_77 : decode mX10_whyNotSay.2.1 77 = .ok (.imul, 1) := by decide +kernel
theorem dX10_whyNotSay_78 : decode mX10_whyNotSay.2.1 78 = .ok (.iadd, 1) := by decide +kernel
theorem dX10_whyNotSay_79 : decode mX10_whyNotSay.2.1 79 = .ok (.invokevirtual 93, 3) := by decide +kernel
theorem dX10_whyNotSay_82 : decode mX10_whyNotSay.2.1 82 = .ok (.istore 6, 2) := by decide +kernel
theorem dX10_whyNotSay_84 : decode mX10_whyNotSay.2.1 84 = .ok (.iload 6, 2) := by decide +kernel
theorem dX10_whyNotSay_86 : decode mX10_whyNotSay.2.1 86 = .ok (.ifCond .eq 19, 3) := by decide +kernel
theorem dX10_whyNotSay_89 : decode mX10_whyNotSay.2.1 89 = .ok (.iload 4, 2) := by decide +kernel
theorem dX10_whyNotSay_91 : decode mX10_whyNotSay.2.1 91 = .ok (.ifCond .eq 10, 3) := by decide +kernel
theorem dX10_whyNotSay_94 : decode mX10_whyNotSay.2.1 94 = .ok (.iload 6, 2) := by decide +kernel
theorem dX10_whyNotSay_96 : decode mX10_whyNotSay.2.1 96 = .ok (.iload 4, 2) := by decide +kernel
theorem dX10_whyNotSay_98 : decode mX10_whyNotSay.2.1 98 = .ok (.if_icmp .ge 7, 3) := by decide +kernel
theorem dX10_whyNotSay_101 : decode mX10_whyNotSay.2.1 101 = .ok (.iload 6, 2) := by decide +kernel
theorem dX10_whyNotSay_103 : decode mX10_whyNotSay.2.1 103 = .ok (.istore 4, 2) := by decide +kernel
theorem dX10_whyNotSay_105 : decode mX10_whyNotSay.2.1 105 = .ok (.iinc 5 1, 3) := by decide +kernel
theorem dX10_whyNotSay_108 : decode mX10_whyNotSay.2.1 108 = .ok (.goto (-80), 3) := by decide +kernel
theorem dX10_whyNotSay_111 : decode mX10_whyNotSay.2.1 111 = .ok (.iload 4, 2) := by decide +kernel
theorem dX10_whyNotSay_113 : decode mX10_whyNotSay.2.1 113 = .ok (.ireturn, 1) := by decide +kernel
set_option maxRecDepth 4000 in
theorem ev_X10_whyNotSay {m : Mem} {w : Nat} {d : Nat} {st : Nat} {p : Int} {f : Int} {s : Int} {B : Int} (hw : isWd w d st) (hdn : DnOk m d) (hst : StOk m d st B) (hp : 0 ≤ p ∧ p < m d 3) (hf : 0 ≤ f ∧ f < m d 2) (hs : 0 ≤ s ∧ s < 4) : Ev 0 5 mX10_whyNotSay [vr w, vi p, vi f, vi s] m (fun r m' => m' = m ∧ (r = whySayC m d st p f s)) := by
  refine Ev.of (L := [vr w, vi p, vi f, vi s, un, un, un]) (by decide +kernel) rfl (Nat.le_of_ble_eq_true rfl) rfl (fun t ht => by cases ht; first | exact Or.inl rfl | exact Or.inr (Or.inl rfl) | exact Or.inr (Or.inr rfl)) (fun hcan => ?_)
  obtain ⟨⟨hd0, hd1⟩, ⟨hd2, hd3⟩, ⟨hd4, hd5⟩, ⟨hd6, hd7⟩, ⟨hd8, hd9⟩, hdf, hdp, hdq⟩ := id hdn
  obtain ⟨⟨hs0, hs1⟩, ⟨hs2, hs3⟩, hsw, hsp, hsd, hsz⟩ := id hst
  have hff := hdf f hf.1 hf.2
  have hpp := hsp p hp.1 hp.2
  have hdx := dx_b hs.1 hs.2
  have hdy := dy_b hs.1 hs.2
  refine go_aload_n dX10_whyNotSay_0 rfl ?_
  refine go_getf_p (b := st) dX10_whyNotSay_1 fl_10_12 hw.o rfl hw.p1 ?_
  refine go_getf_p (b := (st + 5)) dX10_whyNotSay_4 fl_10_77 hw.st.o rfl hw.st.p6 ?_
  refine go_iload_n dX10_whyNotSay_7 rfl ?_
  refine go_iaload dX10_whyNotSay_8 hw.st.a5 (by omega) (by omega) (fun he_8 => ?_)
  refine go_aload_n dX10_whyNotSay_9 rfl ?_
  refine go_getf_p (b := d) dX10_whyNotSay_10 fl_10_29 hw.o rfl hw.p0 ?_
  refine go_iload_n dX10_whyNotSay_13 rfl ?_
  refine go_callVp_i (as := [vi f]) (S := [vi (m (st + 5) p)]) (b := d) (ev_X1_cost (m := m) (d := d) (f := f) hw.dn (by first | assumption | omega | exact ⟨by omega, by omega⟩ | (constructor <;> omega)) (by first | assumption | omega | exact ⟨by omega, by omega⟩ | (constructor <;> omega))) rfl dX10_whyNotSay_14 cv_10_80 rfl rfl hw.dn.o rfl (by decide) (Nat.le_of_ble_eq_true rfl) (fun r_14 hr_14 ho_14 => ?_)
  refine go_icmp_ge (tgt := 22) dX10_whyNotSay_17 (by decide) ⟨by omega, by omega⟩ ⟨by omega, by omega⟩ (fun h_17 => ?_) (fun h_17 => ?_)
  · refine go_iconst dX10_whyNotSay_22 ?_
    refine go_istore (L' := [vr w, vi p, vi f, vi s, vi 0, un, un]) dX10_whyNotSay_23 (by decide) rfl rfl ?_
    refine go_iconst dX10_whyNotSay_25 ?_
    refine go_istore (L' := [vr w, vi p, vi f, vi s, vi 0, vi 1, un]) dX10_whyNotSay_26 (by decide) rfl rfl ?_
    have lp_28 : ∀ (n_28 : Nat) (a : Int) (k : Int), (1 ≤ k) → (k ≤ m (d + 3) f + 1) → (a = lwC m d st (m (st + 2) p) (m (st + 3) p) (dx s) (dy s) (k - 1).toNat) → (m (d + 3) f + 1 - k).toNat < n_28 → Go 0 5 mX10_whyNotSay (fun r m' => m' = m ∧ (r = whySayC m d st p f s)) 28 [vr w, vi p, vi f, vi s, vi a, vi k, un] [] m := by
      intro n_28
      induction n_28 with
      | zero => intro a k hk0 hk1 ha hmu; exact absurd hmu (Nat.not_lt_zero _)
      | succ n_28 ih_28 =>
        intro a k hk0 hk1 ha hmu
        have hab := lwC_b m d st (m (st + 2) p) (m (st + 3) p) (dx s) (dy s) (k - 1).toNat
        rw [← ha] at hab
        have hkx := mul_b (k := k) (u := dx s) (by omega) hdx
        have hky := mul_b (k := k) (u := dy s) (by omega) hdy
        refine go_iload dX10_whyNotSay_28 rfl ?_
        refine go_aload_n dX10_whyNotSay_30 rfl ?_
        refine go_getf_p (b := d) dX10_whyNotSay_31 fl_10_29 hw.o rfl hw.p0 ?_
        refine go_getf_p (b := (d + 3)) dX10_whyNotSay_34 fl_10_84 hw.dn.o rfl hw.dn.p7 ?_
        refine go_iload_n dX10_whyNotSay_37 rfl ?_
        refine go_iaload dX10_whyNotSay_38 hw.dn.a3 (by omega) (by omega) (fun he_38 => ?_)
        refine go_icmp_gt (tgt := 111) dX10_whyNotSay_39 (by decide) ⟨by omega, by omega⟩ ⟨by omega, by omega⟩ (fun h_39 => ?_) (fun h_39 => ?_)
        · refine go_iload dX10_whyNotSay_111 rfl ?_
          exact go_ret (v := a) rfl dX10_whyNotSay_113 (okI ⟨by omega, by omega⟩) ⟨rfl, (by unfold whySayC; rw [if_neg (by omega), ha, show k - 1 = m (d + 3) f by omega])⟩
        · refine go_aload_n dX10_whyNotSay_42 rfl ?_
          refine go_aload_n dX10_whyNotSay_43 rfl ?_
          refine go_getf_p (b := st) dX10_whyNotSay_44 fl_10_12 hw.o rfl hw.p1 ?_
          refine go_getf_p (b := (st + 2)) dX10_whyNotSay_47 fl_10_59 hw.st.o rfl hw.st.p3 ?_
          refine go_iload_n dX10_whyNotSay_50 rfl ?_
          refine go_iaload dX10_whyNotSay_51 hw.st.a2 (by omega) (by omega) (fun he_51 => ?_)
          refine go_iload dX10_whyNotSay_52 rfl ?_
          refine go_stepX dX10_whyNotSay_54 sl_10_87 ?_
          refine go_iload_n dX10_whyNotSay_57 rfl ?_
          refine go_dx dX10_whyNotSay_58 (by omega) (by omega) ?_
          refine go_imul dX10_whyNotSay_59 ?_
          refine go_iadd dX10_whyNotSay_60 ?_
          refine go_aload_n dX10_whyNotSay_61 rfl ?_
          refine go_getf_p (b := st) dX10_whyNotSay_62 fl_10_12 hw.o rfl hw.p1 ?_
          refine go_getf_p (b := (st + 3)) dX10_whyNotSay_65 fl_10_63 hw.st.o rfl hw.st.p4 ?_
          refine go_iload_n dX10_whyNotSay_68 rfl ?_
          refine go_iaload dX10_whyNotSay_69 hw.st.a3 (by omega) (by omega) (fun he_69 => ?_)
          refine go_iload dX10_whyNotSay_70 rfl ?_
          refine go_stepY dX10_whyNotSay_72 sl_10_90 ?_
          refine go_iload_n dX10_whyNotSay_75 rfl ?_
          refine go_dy dX10_whyNotSay_76 (by omega) (by omega) ?_
          refine go_imul dX10_whyNotSay_77 ?_
          refine go_iadd dX10_whyNotSay_78 ?_
          refine go_callVp_i (as := [vi ((m (st + 2) p) + (k * (dx s))), vi ((m (st + 3) p) + (k * (dy s)))]) (S := []) (b := w) (ev_X10_whatBars (m := m) (w := w) (x := ((m (st + 2) p) + (k * (dx s)))) (y := ((m (st + 3) p) + (k * (dy s)))) (d := d) (st := st) (by first | assumption | omega | exact ⟨by omega, by omega⟩ | (constructor <;> omega)) (by first | assumption | omega | exact ⟨by omega, by omega⟩ | (constructor <;> omega)) (by first | assumption | omega | exact ⟨by omega, by omega⟩ | (constructor <;> omega)) (by first | assumption | omega | exact ⟨by omega, by omega⟩ | (constructor <;> omega))) rfl dX10_whyNotSay_79 cv_10_93 rfl rfl hw.o rfl (by decide) (Nat.le_of_ble_eq_true rfl) (fun r_79 hr_79 ho_79 => ?_)
          have hbb := barC_b m d st (m (st + 2) p + k * dx s) (m (st + 3) p + k * dy s)
          rw [← hr_79] at hbb
          refine go_istore (L' := [vr w, vi p, vi f, vi s, vi a, vi k, vi r_79]) dX10_whyNotSay_82 (by decide) rfl rfl ?_
          refine go_iload dX10_whyNotSay_84 rfl ?_
          refine go_if_eq (tgt := 105) dX10_whyNotSay_86 (by decide) ⟨by omega, by omega⟩ (fun h_86 => ?_) (fun h_86 => ?_)
          · refine go_iinc (L' := [vr w, vi p, vi f, vi s, vi a, vi (k + 1), vi r_79]) dX10_whyNotSay_105 rfl (by decide) rfl rfl ?_
            refine go_goto (tgt := 28) dX10_whyNotSay_108 (by decide) ?_
            refine go_drop (j := 6) (L' := [vr w, vi p, vi f, vi s, vi a, vi (k + 1), un]) rfl ?_
            exact ih_28 a (k + 1) (by first | assumption | omega | rfl) (by first | assumption | omega | rfl) (by rw [show k + 1 - 1 = k by omega, lwC_s hk0, ← ha, ← hr_79]; first | rw [if_pos (by omega)] | rw [if_neg (by omega)]) (by omega)
          · refine go_iload dX10_whyNotSay_89 rfl ?_
            refine go_if_eq (tgt := 101) dX10_whyNotSay_91 (by decide) ⟨by omega, by omega⟩ (fun h_91 => ?_) (fun h_91 => ?_)
            · refine go_iload dX10_whyNotSay_101 rfl ?_
              refine go_istore (L' := [vr w, vi p, vi f, vi s, vi r_79, vi k, vi r_79]) dX10_whyNotSay_103 (by decide) rfl rfl ?_
              refine go_iinc (L' := [vr w, vi p, vi f, vi s, vi r_79, vi (k + 1), vi r_79]) dX10_whyNotSay_105 rfl (by decide) rfl rfl ?_
              refine go_goto (tgt := 28) dX10_whyNotSay_108 (by decide) ?_
              refine go_drop (j := 6) (L' := [vr w, vi p, vi f, vi s, vi r_79, vi (k + 1), un]) rfl ?_
              exact ih_28 r_79 (k + 1) (by first | assumption | omega | rfl) (by first | assumption | omega | rfl) (by rw [show k + 1 - 1 = k by omega, lwC_s hk0, ← ha, ← hr_79]; first | rw [if_pos (by omega)] | rw [if_neg (by omega)]) (by omega)
            · refine go_iload dX10_whyNotSay_94 rfl ?_
              refine go_iload dX10_whyNotSay_96 rfl ?_
              refine go_icmp_ge (tgt := 105) dX10_whyNotSay_98 (by decide) ⟨by omega, by omega⟩ ⟨by omega, by omega⟩ (fun h_98 => ?_) (fun h_98 => ?_)
              · refine go_iinc (L' := [vr w, vi p, vi f, vi s, vi a, vi (k + 1), vi r_79]) dX10_whyNotSay_105 rfl (by decide) rfl rfl ?_
                refine go_goto (tgt := 28) dX10_whyNotSay_108 (by decide) ?_
                refine go_drop (j := 6) (L' := [vr w, vi p, vi f, vi s, vi a, vi (k + 1), un]) rfl ?_
                exact ih_28 a (k + 1) (by first | assumption | omega | rfl) (by first | assumption | omega | rfl) (by rw [show k + 1 - 1 = k by omega, lwC_s hk0, ← ha, ← hr_79]; first | rw [if_pos (by omega)] | rw [if_neg (by omega)]) (by omega)
              · refine go_iload dX10_whyNotSay_101 rfl ?_
                refine go_istore (L' := [vr w, vi p, vi f, vi s, vi r_79, vi k, vi r_79]) dX10_whyNotSay_103 (by decide) rfl rfl ?_
                refine go_iinc (L' := [vr w, vi p, vi f, vi s, vi r_79, vi (k + 1), vi r_79]) dX10_whyNotSay_105 rfl (by decide) rfl rfl ?_
                refine go_goto (tgt := 28) dX10_whyNotSay_108 (by decide) ?_
                refine go_drop (j := 6) (L' := [vr w, vi p, vi f, vi s, vi r_79, vi (k + 1), un]) rfl ?_
                exact ih_28 r_79 (k + 1) (by first | assumption | omega | rfl) (by first | assumption | omega | rfl) (by rw [show k + 1 - 1 = k by omega, lwC_s hk0, ← ha, ← hr_79]; first | rw [if_pos (by omega)] | rw [if_neg (by omega)]) (by omega)
    exact lp_28 _ 0 1 (by first | assumption | omega | rfl) (by first | assumption | omega | rfl) (by first | assumption | omega | rfl) (Nat.lt_succ_self _)
  · refine go_iconst dX10_whyNotSay_20 ?_
    exact go_ret (v := 1) rfl dX10_whyNotSay_21 (okI ⟨by omega, by omega⟩) ⟨rfl, (by unfold whySayC; rw [if_pos (by omega)])⟩
theorem dX10_whyNotKick_0 : decode mX10_whyNotKick.2.1 0 = .ok (.aload_n 0, 1) := by decide +kernel
theorem dX10_whyNotKick_1 : decode mX10_whyNotKick.2.1 1 = .ok (.getfield 12, 3) := by decide +kernel
theorem dX10_whyNotKick_4 : decode mX10_whyNotKick.2.1 4 = .ok (.getfield 77, 3) := by decide +kernel
theorem dX10_whyNotKick_7 : decode mX10_whyNotKick.2.1 7 = .ok (.iload_n 1, 1) := by decide +kernel
theorem dX10_whyNotKick_8 : decode mX10_whyNotKick.2.1 8 = .ok (.iaload, 1) := by decide +kernel
theorem dX10_whyNotKick_9 : decode mX10_whyNotKick.2.1 9 = .ok (.ifCond .ne 5, 3) := by decide +kernel
theorem dX10_whyNotKick_12 : decode mX10_whyNotKick.2.1 12 = .ok (.iconst 1, 1) := by decide +kernel
theorem dX10_whyNotKick_13 : decode mX10_whyNotKick.2.1 13 = .ok (.ireturn, 1) := by decide +kernel
theorem dX10_whyNotKick_14 : decode mX10_whyNotKick.2.1 14 = .ok (.aload_n 0, 1) := by decide +kernel
theorem dX10_whyNotKick_15 : decode mX10_whyNotKick.2.1 15 = .ok (.aload_n 0, 1) := by decide +kernel
theorem dX10_whyNotKick_16 : decode mX10_whyNotKick.2.1 16 = .ok (.getfield 12, 3) := by decide +kernel
theorem dX10_whyNotKick_19 : decode mX10_whyNotKick.2.1 19 = .ok (.getfield 59, 3) := by decide +kernel
theorem dX10_whyNotKick_22 : decode mX10_whyNotKick.2.1 22 = .ok (.iload_n 1, 1) := by decide +kernel
theorem dX10_whyNotKick_23 : decode mX10_whyNotKick.2.1 23 = .ok (.iaload, 1) := by decide +kernel
theorem dX10_whyNotKick_24 : decode mX10_whyNotKick.2.1 24 = .ok (.getstatic 87, 3) := by decide +kernel
theorem dX10_whyNotKick_27 : decode mX10_whyNotKick.2.1 27 = .ok (.iload_n 2, 1) := by decide +kernel
theorem dX10_whyNotKick_28 : decode mX10_whyNotKick.2.1 28 = .ok (.iaload, 1) := by decide +kernel
theorem dX10_whyNotKick_29 : decode mX10_whyNotKick.2.1 29 = .ok (.iadd, 1) := by decide +kernel
theorem dX10_whyNotKick_30 : decode mX10_whyNotKick.2.1 30 = .ok (.aload_n 0, 1) := by decide +kernel
theorem dX10_whyNotKick_31 : decode mX10_whyNotKick.2.1 31 = .ok (.getfield 12, 3) := by decide +kernel
theorem dX10_whyNotKick_34 : decode mX10_whyNotKick.2.1 34 = .ok (.getfield 63, 3) := by decide +kernel
theorem dX10_whyNotKick_37 : decode mX10_whyNotKick.2.1 37 = .ok (.iload_n 1, 1) := by decide +kernel
theorem dX10_whyNotKick_38 : decode mX10_whyNotKick.2.1 38 = .ok (.iaload, 1) := by decide +kernel
theorem dX10_whyNotKick_39 : decode mX10_whyNotKick.2.1 39 = .ok (.getstatic 90, 3) := by decide +kernel
theorem dX10_whyNotKick_42 : decode mX10_whyNotKick.2.1 42 = .ok (.iload_n 2, 1) := by decide +kernel
theorem dX10_whyNotKick_43 : decode mX10_whyNotKick.2.1 43 = .ok (.iaload, 1) := by decide +kernel
theorem dX10_whyNotKick_44 : decode mX10_whyNotKick.2.1 44 = .ok (.iadd, 1) := by decide +kernel
theorem dX10_whyNotKick_45 : decode mX10_whyNotKick.2.1 45 = .ok (.invokevirtual 124, 3) := by decide +kernel
theorem dX10_whyNotKick_48 : decode mX10_whyNotKick.2.1 48 = .ok (.ifCond .le 7, 3) := by decide +kernel
theorem dX10_whyNotKick_51 : decode mX10_whyNotKick.2.1 51 = .ok (.iconst 0, 1) := by decide +kernel
theorem dX10_whyNotKick_52 : decode mX10_whyNotKick.2.1 52 = .ok (.goto 4, 3) := by decide +kernel
theorem dX10_whyNotKick_55 : decode mX10_whyNotKick.2.1 55 = .ok (.iconst 2, 1) := by decide +kernel
theorem dX10_whyNotKick_56 : decode mX10_whyNotKick.2.1 56 = .ok (.ireturn, 1) := by decide +kernel
set_option maxRecDepth 4000 in
theorem ev_X10_whyNotKick {m : Mem} {w : Nat} {d : Nat} {st : Nat} {p : Int} {s : Int} {B : Int} (hw : isWd w d st) (hdn : DnOk m d) (hst : StOk m d st B) (hp : 0 ≤ p ∧ p < m d 3) (hs : 0 ≤ s ∧ s < 4) : Ev 0 3 mX10_whyNotKick [vr w, vi p, vi s] m (fun r m' => m' = m ∧ (r = whyKickC m d st p s)) := by
  refine Ev.of (L := [vr w, vi p, vi s]) (by decide +kernel) rfl (Nat.le_of_ble_eq_true rfl) rfl (fun t ht => by cases ht; first | exact Or.inl rfl | exact Or.inr (Or.inl rfl) | exact Or.inr (Or.inr rfl)) (fun hcan => ?_)
  obtain ⟨⟨hd0, hd1⟩, ⟨hd2, hd3⟩, ⟨hd4, hd5⟩, ⟨hd6, hd7⟩, ⟨hd8, hd9⟩, hdf, hdp, hdq⟩ := id hdn
  obtain ⟨⟨hs0, hs1⟩, ⟨hs2, hs3⟩, hsw, hsp, hsd, hsz⟩ := id hst
  have hpp := hsp p hp.1 hp.2
  have hdx := dx_b hs.1 hs.2
  have hdy := dy_b hs.1 hs.2
  refine go_aload_n dX10_whyNotKick_0 rfl ?_
  refine go_getf_p (b := st) dX10_whyNotKick_1 fl_10_12 hw.o rfl hw.p1 ?_
  refine go_getf_p (b := (st + 5)) dX10_whyNotKick_4 fl_10_77 hw.st.o rfl hw.st.p6 ?_
  refine go_iload_n dX10_whyNotKick_7 rfl ?_
  refine go_iaload dX10_whyNotKick_8 hw.st.a5 (by omega) (by omega) (fun he_8 => ?_)
  refine go_if_ne (tgt := 14) dX10_whyNotKick_9 (by decide) ⟨by omega, by omega⟩ (fun h_9 => ?_) (fun h_9 => ?_)
  · refine go_aload_n dX10_whyNotKick_14 rfl ?_
    refine go_aload_n dX10_whyNotKick_15 rfl ?_
    refine go_getf_p (b := st) dX10_whyNotKick_16 fl_10_12 hw.o rfl hw.p1 ?_
    refine go_getf_p (b := (st + 2)) dX10_whyNotKick_19 fl_10_59 hw.st.o rfl hw.st.p3 ?_
    refine go_iload_n dX10_whyNotKick_22 rfl ?_
    refine go_iaload dX10_whyNotKick_23 hw.st.a2 (by omega) (by omega) (fun he_23 => ?_)
    refine go_stepX dX10_whyNotKick_24 sl_10_87 ?_
    refine go_iload_n dX10_whyNotKick_27 rfl ?_
    refine go_dx dX10_whyNotKick_28 (by omega) (by omega) ?_
    refine go_iadd dX10_whyNotKick_29 ?_
    refine go_aload_n dX10_whyNotKick_30 rfl ?_
    refine go_getf_p (b := st) dX10_whyNotKick_31 fl_10_12 hw.o rfl hw.p1 ?_
    refine go_getf_p (b := (st + 3)) dX10_whyNotKick_34 fl_10_63 hw.st.o rfl hw.st.p4 ?_
    refine go_iload_n dX10_whyNotKick_37 rfl ?_
    refine go_iaload dX10_whyNotKick_38 hw.st.a3 (by omega) (by omega) (fun he_38 => ?_)
    refine go_stepY dX10_whyNotKick_39 sl_10_90 ?_
    refine go_iload_n dX10_whyNotKick_42 rfl ?_
    refine go_dy dX10_whyNotKick_43 (by omega) (by omega) ?_
    refine go_iadd dX10_whyNotKick_44 ?_
    refine go_callVp_i (as := [vi ((m (st + 2) p) + (dx s)), vi ((m (st + 3) p) + (dy s))]) (S := []) (b := w) (ev_X10_wallAt (m := m) (w := w) (x := ((m (st + 2) p) + (dx s))) (y := ((m (st + 3) p) + (dy s))) (d := d) (st := st) (by first | assumption | omega | exact ⟨by omega, by omega⟩ | (constructor <;> omega)) (by first | assumption | omega | exact ⟨by omega, by omega⟩ | (constructor <;> omega)) (by first | assumption | omega | exact ⟨by omega, by omega⟩ | (constructor <;> omega)) (by first | assumption | omega | exact ⟨by omega, by omega⟩ | (constructor <;> omega))) rfl dX10_whyNotKick_45 cv_10_124 rfl rfl hw.o rfl (by decide) (Nat.le_of_ble_eq_true rfl) (fun r_45 hr_45 ho_45 => ?_)
    refine go_if_le (tgt := 55) dX10_whyNotKick_48 (by decide) ⟨by omega, by omega⟩ (fun h_48 => ?_) (fun h_48 => ?_)
    · refine go_iconst dX10_whyNotKick_55 ?_
      exact go_ret (v := 2) rfl dX10_whyNotKick_56 (okI ⟨by omega, by omega⟩) ⟨rfl, (by unfold whyKickC; rw [if_neg (by omega), ← hr_45]; first | rw [if_pos (by omega)] | rw [if_neg (by omega)])⟩
    · refine go_iconst dX10_whyNotKick_51 ?_
      refine go_goto (tgt := 56) dX10_whyNotKick_52 (by decide) ?_
      exact go_ret (v := 0) rfl dX10_whyNotKick_56 (okI ⟨by omega, by omega⟩) ⟨rfl, (by unfold whyKickC; rw [if_neg (by omega), ← hr_45]; first | rw [if_pos (by omega)] | rw [if_neg (by omega)])⟩
  · refine go_iconst dX10_whyNotKick_12 ?_
    exact go_ret (v := 1) rfl dX10_whyNotKick_13 (okI ⟨by omega, by omega⟩) ⟨rfl, (by unfold whyKickC; rw [if_pos (by omega)])⟩
theorem dX10_whyNotRest_0 : decode mX10_whyNotRest.2.1 0 = .ok (.aload_n 0, 1) := by decide +kernel
theorem dX10_whyNotRest_1 : decode mX10_whyNotRest.2.1 1 = .ok (.getfield 12, 3) := by decide +kernel
theorem dX10_whyNotRest_4 : decode mX10_whyNotRest.2.1 4 = .ok (.getfield 77, 3) := by decide +kernel
theorem dX10_whyNotRest_7 : decode mX10_whyNotRest.2.1 7 = .ok (.iload_n 1, 1) := by decide +kernel
theorem dX10_whyNotRest_8 : decode mX10_whyNotRest.2.1 8 = .ok (.iaload, 1) := by decide +kernel
theorem dX10_whyNotRest_9 : decode mX10_whyNotRest.2.1 9 = .ok (.aload_n 0, 1) := by decide +kernel
theorem dX10_whyNotRest_10 : decode mX10_whyNotRest.2.1 10 = .ok (.getfield 29, 3) := by decide +kernel
theorem dX10_whyNotRest_13 : decode mX10_whyNotRest.2.1 13 = .ok (.getfield 130, 3) := by decide +kernel
theorem dX10_whyNotRest_16 : decode mX10_whyNotRest.2.1 16 = .ok (.iload_n 1, 1) := by decide +kernel
theorem dX10_whyNotRest_17 : decode mX10_whyNotRest.2.1 17 = .ok (.iaload, 1) := by decide +kernel
theorem dX10_whyNotRest_18 : decode mX10_whyNotRest.2.1 18 = .ok (.if_icmp .ne 7, 3) := by decide +kernel
theorem dX10_whyNotRest_21 : decode mX10_whyNotRest.2.1 21 = .ok (.iconst 1, 1) := by decide +kernel
theorem dX10_whyNotRest_22 : decode mX10_whyNotRest.2.1 22 = .ok (.goto 4, 3) := by decide +kernel
theorem dX10_whyNotRest_25 : decode mX10_whyNotRest.2.1 25 = .ok (.iconst 0, 1) := by decide +kernel
theorem dX10_whyNotRest_26 : decode mX10_whyNotRest.2.1 26 = .ok (.ireturn, 1) := by decide +kernel
set_option maxRecDepth 4000 in
theorem ev_X10_whyNotRest {m : Mem} {w : Nat} {d : Nat} {st : Nat} {p : Int} (hw : isWd w d st) (hp : 0 ≤ p ∧ p < 5) : Ev 0 1 mX10_whyNotRest [vr w, vi p] m (fun r m' => m' = m ∧ (r = if m (st + 5) p = m (d + 5) p then 1 else 0)) := by
  refine Ev.of (L := [vr w, vi p]) (by decide +kernel) rfl (Nat.le_of_ble_eq_true rfl) rfl (fun t ht => by cases ht; first | exact Or.inl rfl | exact Or.inr (Or.inl rfl) | exact Or.inr (Or.inr rfl)) (fun hcan => ?_)
  refine go_aload_n dX10_whyNotRest_0 rfl ?_
  refine go_getf_p (b := st) dX10_whyNotRest_1 fl_10_12 hw.o rfl hw.p1 ?_
  refine go_getf_p (b := (st + 5)) dX10_whyNotRest_4 fl_10_77 hw.st.o rfl hw.st.p6 ?_
  refine go_iload_n dX10_whyNotRest_7 rfl ?_
  refine go_iaload dX10_whyNotRest_8 hw.st.a5 (by omega) (by omega) (fun he_8 => ?_)
  refine go_aload_n dX10_whyNotRest_9 rfl ?_
  refine go_getf_p (b := d) dX10_whyNotRest_10 fl_10_29 hw.o rfl hw.p0 ?_
  refine go_getf_p (b := (d + 5)) dX10_whyNotRest_13 fl_10_130 hw.dn.o rfl hw.dn.p9 ?_
  refine go_iload_n dX10_whyNotRest_16 rfl ?_
  refine go_iaload dX10_whyNotRest_17 hw.dn.a5 (by omega) (by omega) (fun he_17 => ?_)
  refine go_icmp_ne (tgt := 25) dX10_whyNotRest_18 (by decide) ⟨by omega, by omega⟩ ⟨by omega, by omega⟩ (fun h_18 => ?_) (fun h_18 => ?_)
  · refine go_iconst dX10_whyNotRest_25 ?_
    exact go_ret (v := 0) rfl dX10_whyNotRest_26 (okI ⟨by omega, by omega⟩) ⟨rfl, (by first | assumption | rfl | omega)⟩
  · refine go_iconst dX10_whyNotRest_21 ?_
    refine go_goto (tgt := 26) dX10_whyNotRest_22 (by decide) ?_
    exact go_ret (v := 1) rfl dX10_whyNotRest_26 (okI ⟨by omega, by omega⟩) ⟨rfl, (by first | assumption | rfl | omega)⟩
theorem dX10_hoursLeft_0 : decode mX10_hoursLeft.2.1 0 = .ok (.sipush 400, 3) := by decide +kernel
theorem dX10_hoursLeft_3 : decode mX10_hoursLeft.2.1 3 = .ok (.aload_n 0, 1) := by decide +kernel
theorem dX10_hoursLeft_4 : decode mX10_hoursLeft.2.1 4 = .ok (.getfield 12, 3) := by decide +kernel
theorem dX10_hoursLeft_7 : decode mX10_hoursLeft.2.1 7 = .ok (.getfield 133, 3) := by decide +kernel
theorem dX10_hoursLeft_10 : decode mX10_hoursLeft.2.1 10 = .ok (.isub, 1) := by decide +kernel
theorem dX10_hoursLeft_11 : decode mX10_hoursLeft.2.1 11 = .ok (.ireturn, 1) := by decide +kernel
set_option maxRecDepth 4000 in
theorem ev_X10_hoursLeft {m : Mem} {w : Nat} {d : Nat} {st : Nat} (hw : isWd w d st) (hh : 0 ≤ m st 0 ∧ m st 0 ≤ 400) : Ev 0 1 mX10_hoursLeft [vr w] m (fun r m' => m' = m ∧ (r = 400 - m st 0)) := by
  refine Ev.of (L := [vr w]) (by decide +kernel) rfl (Nat.le_of_ble_eq_true rfl) rfl (fun t ht => by cases ht; first | exact Or.inl rfl | exact Or.inr (Or.inl rfl) | exact Or.inr (Or.inr rfl)) (fun hcan => ?_)
  refine go_sipush dX10_hoursLeft_0 (by decide) ?_
  refine go_aload_n dX10_hoursLeft_3 rfl ?_
  refine go_getf_p (b := st) dX10_hoursLeft_4 fl_10_12 hw.o rfl hw.p1 ?_
  refine go_getf_i (ki := 0) dX10_hoursLeft_7 fl_10_133 hw.st.o rfl rfl (fun hf_7 => ?_)
  refine go_isub dX10_hoursLeft_10 ?_
  exact go_ret (v := (400 - (m st 0))) rfl dX10_hoursLeft_11 (okI ⟨by omega, by omega⟩) ⟨rfl, (by first | assumption | rfl | omega)⟩
