/-! ===== the constructors ===== -/
theorem tg_0 : ∀ j, tyG (cty 0 j) = true := by
  intro j
  show tyG (tyX0 j) = true
  unfold tyX0
  split <;> rfl
theorem tg_1 : ∀ j, tyG (cty 1 j) = true := by
  intro j
  show tyG (tyX1 j) = true
  unfold tyX1
  split <;> rfl
theorem tg_2 : ∀ j, tyG (cty 2 j) = true := by
  intro j
  show tyG (tyX2 j) = true
  unfold tyX2
  split <;> rfl
theorem tg_3 : ∀ j, tyG (cty 3 j) = true := by
  intro j
  show tyG (tyX3 j) = true
  unfold tyX3
  split <;> rfl
theorem tg_4 : ∀ j, tyG (cty 4 j) = true := by
  intro j
  show tyG (tyX4 j) = true
  unfold tyX4
  split <;> rfl
theorem tg_5 : ∀ j, tyG (cty 5 j) = true := by
  intro j
  show tyG (tyX5 j) = true
  unfold tyX5
  split <;> rfl
theorem tg_6 : ∀ j, tyG (cty 6 j) = true := by
  intro j
  show tyG (tyX6 j) = true
  unfold tyX6
  split <;> rfl
theorem tg_7 : ∀ j, tyG (cty 7 j) = true := by
  intro j
  show tyG (tyX7 j) = true
  unfold tyX7
  split <;> rfl
theorem tg_8 : ∀ j, tyG (cty 8 j) = true := by
  intro j
  show tyG (tyX8 j) = true
  unfold tyX8
  split <;> rfl
theorem tg_9 : ∀ j, tyG (cty 9 j) = true := by
  intro j
  show tyG (tyX9 j) = true
  unfold tyX9
  split <;> rfl
theorem tg_10 : ∀ j, tyG (cty 10 j) = true := by
  intro j
  show tyG (tyX10 j) = true
  unfold tyX10
  split <;> rfl
theorem tg_11 : ∀ j, tyG (cty 11 j) = true := by
  intro j
  show tyG (tyX11 j) = true
  unfold tyX11
  split <;> rfl
theorem tg_12 : ∀ j, tyG (cty 12 j) = true := by
  intro j
  show tyG (tyX12 j) = true
  unfold tyX12
  split <;> rfl
theorem dX6_init_0 : decode mX6_init.2.1 0 = .ok (.aload_n 0, 1) := by decide +kernel
theorem dX6_init_1 : decode mX6_init.2.1 1 = .ok (.invokespecial 3, 3) := by decide +kernel
theorem dX6_init_4 : decode mX6_init.2.1 4 = .ok (.aload_n 0, 1) := by decide +kernel
theorem dX6_init_5 : decode mX6_init.2.1 5 = .ok (.iconst 0, 1) := by decide +kernel
theorem dX6_init_6 : decode mX6_init.2.1 6 = .ok (.putfield 9, 3) := by decide +kernel
theorem dX6_init_9 : decode mX6_init.2.1 9 = .ok (.aload_n 0, 1) := by decide +kernel
theorem dX6_init_10 : decode mX6_init.2.1 10 = .ok (.iconst 0, 1) := by decide +kernel
theorem dX6_init_11 : decode mX6_init.2.1 11 = .ok (.putfield 15, 3) := by decide +kernel
theorem dX6_init_14 : decode mX6_init.2.1 14 = .ok (.aload_n 0, 1) := by decide +kernel
theorem dX6_init_15 : decode mX6_init.2.1 15 = .ok (.bipush 81, 2) := by decide +kernel
theorem dX6_init_17 : decode mX6_init.2.1 17 = .ok (.newarray .int, 2) := by decide +kernel
theorem dX6_init_19 : decode mX6_init.2.1 19 = .ok (.putfield 18, 3) := by decide +kernel
theorem dX6_init_22 : decode mX6_init.2.1 22 = .ok (.aload_n 0, 1) := by decide +kernel
theorem dX6_init_23 : decode mX6_init.2.1 23 = .ok (.iconst 5, 1) := by decide +kernel
theorem dX6_init_24 : decode mX6_init.2.1 24 = .ok (.newarray .int, 2) := by decide +kernel
theorem dX6_init_26 : decode mX6_init.2.1 26 = .ok (.putfield 22, 3) := by decide +kernel
theorem dX6_init_29 : decode mX6_init.2.1 29 = .ok (.aload_n 0, 1) := by decide +kernel
theorem dX6_init_30 : decode mX6_init.2.1 30 = .ok (.iconst 5, 1) := by decide +kernel
theorem dX6_init_31 : decode mX6_init.2.1 31 = .ok (.newarray .int, 2) := by decide +kernel
theorem dX6_init_33 : decode mX6_init.2.1 33 = .ok (.putfield 25, 3) := by decide +kernel
theorem dX6_init_36 : decode mX6_init.2.1 36 = .ok (.aload_n 0, 1) := by decide +kernel
theorem dX6_init_37 : decode mX6_init.2.1 37 = .ok (.iconst 5, 1) := by decide +kernel
theorem dX6_init_38 : decode mX6_init.2.1 38 = .ok (.newarray .int, 2) := by decide +kernel
theorem dX6_init_40 : decode mX6_init.2.1 40 = .ok (.putfield 28, 3) := by decide +kernel
theorem dX6_init_43 : decode mX6_init.2.1 43 = .ok (.aload_n 0, 1) := by decide +kernel
theorem dX6_init_44 : decode mX6_init.2.1 44 = .ok (.iconst 5, 1) := by decide +kernel
theorem dX6_init_45 : decode mX6_init.2.1 45 = .ok (.newarray .int, 2) := by decide +kernel
theorem dX6_init_47 : decode mX6_init.2.1 47 = .ok (.putfield 31, 3) := by decide +kernel
theorem dX6_init_50 : decode mX6_init.2.1 50 = .ok (.aload_n 0, 1) := by decide +kernel
theorem dX6_init_51 : decode mX6_init.2.1 51 = .ok (.iconst 5, 1) := by decide +kernel
theorem dX6_init_52 : decode mX6_init.2.1 52 = .ok (.newarray .int, 2) := by decide +kernel
theorem dX6_init_54 : decode mX6_init.2.1 54 = .ok (.putfield 34, 3) := by decide +kernel
theorem dX6_init_57 : decode mX6_init.2.1 57 = .ok (.aload_n 0, 1) := by decide +kernel
theorem dX6_init_58 : decode mX6_init.2.1 58 = .ok (.iconst 5, 1) := by decide +kernel
theorem dX6_init_59 : decode mX6_init.2.1 59 = .ok (.newarray .int, 2) := by decide +kernel
theorem dX6_init_61 : decode mX6_init.2.1 61 = .ok (.putfield 37, 3) := by decide +kernel
theorem dX6_init_64 : decode mX6_init.2.1 64 = .ok (.return_, 1) := by decide +kernel
def pSt (π : Nat → Nat → Nat) (a : Nat) : Nat → Nat → Nat := (pw (pw (pw (pw (pw (pw (pw π a 2 ((a + 1) + 1)) a 3 ((a + 2) + 1)) a 4 ((a + 3) + 1)) a 5 ((a + 4) + 1)) a 6 ((a + 5) + 1)) a 7 ((a + 6) + 1)) a 8 ((a + 7) + 1))
set_option maxRecDepth 4000 in
theorem evc_X6 {π : Nat → Nat → Nat} {m : Mem} {a : Nat} (hs : isSt a) (hz : ∀ i : Int, m a i = 0) : EvC 7 1 mX6_init [vr a] ((a + 1), π, m) (fun _ w' => w' = ((a + 8), pSt π a, m)) := by
  refine EvC.of (L := [vr a]) (by decide +kernel) (Nat.le_of_ble_eq_true rfl) rfl (fun t ht => by cases ht) (fun t ht => by cases ht) (fun hcan => ?_)
  refine gc_aload_n dX6_init_0 rfl ?_
  show Gc 7 1 mX6_init _ 1 [vr a] [vr a] ((a + 1), π, m)
  refine gc_obj dX6_init_1 oj_6 ob_in ob_co (by decide) (Nat.le_of_ble_eq_true rfl) ?_
  show Gc 7 1 mX6_init _ 4 [vr a] [] ((a + 1), π, m)
  refine gc_aload_n dX6_init_4 rfl ?_
  show Gc 7 1 mX6_init _ 5 [vr a] [vr a] ((a + 1), π, m)
  refine gc_iconst dX6_init_5 ?_
  show Gc 7 1 mX6_init _ 6 [vr a] [vi 0, vr a] ((a + 1), π, m)
  refine gc_put0 dX6_init_6 fw_6_9 hs.o (show a < (a + 1) by omega) (Or.inl ⟨rfl, Or.inl rfl⟩) (by first | exact hz _ | (dsimp only; rw [wr_ni (by omega), wr_ni (by omega)]; exact hz _)) ?_
  show Gc 7 1 mX6_init _ 9 [vr a] [] ((a + 1), π, m)
  refine gc_aload_n dX6_init_9 rfl ?_
  show Gc 7 1 mX6_init _ 10 [vr a] [vr a] ((a + 1), π, m)
  refine gc_iconst dX6_init_10 ?_
  show Gc 7 1 mX6_init _ 11 [vr a] [vi 0, vr a] ((a + 1), π, m)
  refine gc_put0 dX6_init_11 fw_6_15 hs.o (show a < (a + 1) by omega) (Or.inl ⟨rfl, Or.inl rfl⟩) (by first | exact hz _ | (dsimp only; rw [wr_ni (by omega), wr_ni (by omega)]; exact hz _)) ?_
  show Gc 7 1 mX6_init _ 14 [vr a] [] ((a + 1), π, m)
  refine gc_aload_n dX6_init_14 rfl ?_
  show Gc 7 1 mX6_init _ 15 [vr a] [vr a] ((a + 1), π, m)
  refine gc_bipush dX6_init_15 (by decide) ?_
  show Gc 7 1 mX6_init _ 17 [vr a] [vi 81, vr a] ((a + 1), π, m)
  refine gc_newI (kd := 0) (N := 81) dX6_init_17 rfl (Or.inl rfl) aw_0 hs.a1 (by decide) rfl (by first | rfl | (simp only [okA, List.all_cons, List.all_nil, Bool.and_true, Bool.or_eq_true, Bool.and_eq_true, decide_eq_true_eq]; omega)) (by first | rfl | (simp only [okA, List.all_cons, List.all_nil, Bool.and_true, Bool.or_eq_true, Bool.and_eq_true, decide_eq_true_eq]; omega)) (fun hz1 => ?_)
  show Gc 6 1 mX6_init _ 19 [vr a] [vr (a + 1), vr a] ((a + 2), π, m)
  refine gc_putP dX6_init_19 fl_6_18 ff_6_18 rfl fk_6_18 hs.o (show a < (a + 2) by omega) (show (a + 1) < (a + 2) by omega) rfl ?_
  show Gc 6 1 mX6_init _ 22 [vr a] [] ((a + 2), (pw π a 2 ((a + 1) + 1)), m)
  refine gc_aload_n dX6_init_22 rfl ?_
  show Gc 6 1 mX6_init _ 23 [vr a] [vr a] ((a + 2), (pw π a 2 ((a + 1) + 1)), m)
  refine gc_iconst dX6_init_23 ?_
  show Gc 6 1 mX6_init _ 24 [vr a] [vi 5, vr a] ((a + 2), (pw π a 2 ((a + 1) + 1)), m)
  refine gc_newI (kd := 0) (N := 5) dX6_init_24 rfl (Or.inl rfl) aw_0 hs.a2 (by decide) rfl (by first | rfl | (simp only [okA, List.all_cons, List.all_nil, Bool.and_true, Bool.or_eq_true, Bool.and_eq_true, decide_eq_true_eq]; omega)) (by first | rfl | (simp only [okA, List.all_cons, List.all_nil, Bool.and_true, Bool.or_eq_true, Bool.and_eq_true, decide_eq_true_eq]; omega)) (fun hz2 => ?_)
  show Gc 5 1 mX6_init _ 26 [vr a] [vr (a + 2), vr a] ((a + 3), (pw π a 2 ((a + 1) + 1)), m)
  refine gc_putP dX6_init_26 fl_6_22 ff_6_22 rfl fk_6_22 hs.o (show a < (a + 3) by omega) (show (a + 2) < (a + 3) by omega) rfl ?_
  show Gc 5 1 mX6_init _ 29 [vr a] [] ((a + 3), (pw (pw π a 2 ((a + 1) + 1)) a 3 ((a + 2) + 1)), m)
  refine gc_aload_n dX6_init_29 rfl ?_
  show Gc 5 1 mX6_init _ 30 [vr a] [vr a] ((a + 3), (pw (pw π a 2 ((a + 1) + 1)) a 3 ((a + 2) + 1)), m)
  refine gc_iconst dX6_init_30 ?_
  show Gc 5 1 mX6_init _ 31 [vr a] [vi 5, vr a] ((a + 3), (pw (pw π a 2 ((a + 1) + 1)) a 3 ((a + 2) + 1)), m)
  refine gc_newI (kd := 0) (N := 5) dX6_init_31 rfl (Or.inl rfl) aw_0 hs.a3 (by decide) rfl (by first | rfl | (simp only [okA, List.all_cons, List.all_nil, Bool.and_true, Bool.or_eq_true, Bool.and_eq_true, decide_eq_true_eq]; omega)) (by first | rfl | (simp only [okA, List.all_cons, List.all_nil, Bool.and_true, Bool.or_eq_true, Bool.and_eq_true, decide_eq_true_eq]; omega)) (fun hz3 => ?_)
  show Gc 4 1 mX6_init _ 33 [vr a] [vr (a + 3), vr a] ((a + 4), (pw (pw π a 2 ((a + 1) + 1)) a 3 ((a + 2) + 1)), m)
  refine gc_putP dX6_init_33 fl_6_25 ff_6_25 rfl fk_6_25 hs.o (show a < (a + 4) by omega) (show (a + 3) < (a + 4) by omega) rfl ?_
  show Gc 4 1 mX6_init _ 36 [vr a] [] ((a + 4), (pw (pw (pw π a 2 ((a + 1) + 1)) a 3 ((a + 2) + 1)) a 4 ((a + 3) + 1)), m)
  refine gc_aload_n dX6_init_36 rfl ?_
  show Gc 4 1 mX6_init _ 37 [vr a] [vr a] ((a + 4), (pw (pw (pw π a 2 ((a + 1) + 1)) a 3 ((a + 2) + 1)) a 4 ((a + 3) + 1)), m)
  refine gc_iconst dX6_init_37 ?_
  show Gc 4 1 mX6_init _ 38 [vr a] [vi 5, vr a] ((a + 4), (pw (pw (pw π a 2 ((a + 1) + 1)) a 3 ((a + 2) + 1)) a 4 ((a + 3) + 1)), m)
  refine gc_newI (kd := 0) (N := 5) dX6_init_38 rfl (Or.inl rfl) aw_0 hs.a4 (by decide) rfl (by first | rfl | (simp only [okA, List.all_cons, List.all_nil, Bool.and_true, Bool.or_eq_true, Bool.and_eq_true, decide_eq_true_eq]; omega)) (by first | rfl | (simp only [okA, List.all_cons, List.all_nil, Bool.and_true, Bool.or_eq_true, Bool.and_eq_true, decide_eq_true_eq]; omega)) (fun hz4 => ?_)
  show Gc 3 1 mX6_init _ 40 [vr a] [vr (a + 4), vr a] ((a + 5), (pw (pw (pw π a 2 ((a + 1) + 1)) a 3 ((a + 2) + 1)) a 4 ((a + 3) + 1)), m)
  refine gc_putP dX6_init_40 fl_6_28 ff_6_28 rfl fk_6_28 hs.o (show a < (a + 5) by omega) (show (a + 4) < (a + 5) by omega) rfl ?_
  show Gc 3 1 mX6_init _ 43 [vr a] [] ((a + 5), (pw (pw (pw (pw π a 2 ((a + 1) + 1)) a 3 ((a + 2) + 1)) a 4 ((a + 3) + 1)) a 5 ((a + 4) + 1)), m)
  refine gc_aload_n dX6_init_43 rfl ?_
  show Gc 3 1 mX6_init _ 44 [vr a] [vr a] ((a + 5), (pw (pw (pw (pw π a 2 ((a + 1) + 1)) a 3 ((a + 2) + 1)) a 4 ((a + 3) + 1)) a 5 ((a + 4) + 1)), m)
  refine gc_iconst dX6_init_44 ?_
  show Gc 3 1 mX6_init _ 45 [vr a] [vi 5, vr a] ((a + 5), (pw (pw (pw (pw π a 2 ((a + 1) + 1)) a 3 ((a + 2) + 1)) a 4 ((a + 3) + 1)) a 5 ((a + 4) + 1)), m)
  refine gc_newI (kd := 0) (N := 5) dX6_init_45 rfl (Or.inl rfl) aw_0 hs.a5 (by decide) rfl (by first | rfl | (simp only [okA, List.all_cons, List.all_nil, Bool.and_true, Bool.or_eq_true, Bool.and_eq_true, decide_eq_true_eq]; omega)) (by first | rfl | (simp only [okA, List.all_cons, List.all_nil, Bool.and_true, Bool.or_eq_true, Bool.and_eq_true, decide_eq_true_eq]; omega)) (fun hz5 => ?_)
  show Gc 2 1 mX6_init _ 47 [vr a] [vr (a + 5), vr a] ((a + 6), (pw (pw (pw (pw π a 2 ((a + 1) + 1)) a 3 ((a + 2) + 1)) a 4 ((a + 3) + 1)) a 5 ((a + 4) + 1)), m)
  refine gc_putP dX6_init_47 fl_6_31 ff_6_31 rfl fk_6_31 hs.o (show a < (a + 6) by omega) (show (a + 5) < (a + 6) by omega) rfl ?_
  show Gc 2 1 mX6_init _ 50 [vr a] [] ((a + 6), (pw (pw (pw (pw (pw π a 2 ((a + 1) + 1)) a 3 ((a + 2) + 1)) a 4 ((a + 3) + 1)) a 5 ((a + 4) + 1)) a 6 ((a + 5) + 1)), m)
  refine gc_aload_n dX6_init_50 rfl ?_
  show Gc 2 1 mX6_init _ 51 [vr a] [vr a] ((a + 6), (pw (pw (pw (pw (pw π a 2 ((a + 1) + 1)) a 3 ((a + 2) + 1)) a 4 ((a + 3) + 1)) a 5 ((a + 4) + 1)) a 6 ((a + 5) + 1)), m)
  refine gc_iconst dX6_init_51 ?_
  show Gc 2 1 mX6_init _ 52 [vr a] [vi 5, vr a] ((a + 6), (pw (pw (pw (pw (pw π a 2 ((a + 1) + 1)) a 3 ((a + 2) + 1)) a 4 ((a + 3) + 1)) a 5 ((a + 4) + 1)) a 6 ((a + 5) + 1)), m)
  refine gc_newI (kd := 0) (N := 5) dX6_init_52 rfl (Or.inl rfl) aw_0 hs.a6 (by decide) rfl (by first | rfl | (simp only [okA, List.all_cons, List.all_nil, Bool.and_true, Bool.or_eq_true, Bool.and_eq_true, decide_eq_true_eq]; omega)) (by first | rfl | (simp only [okA, List.all_cons, List.all_nil, Bool.and_true, Bool.or_eq_true, Bool.and_eq_true, decide_eq_true_eq]; omega)) (fun hz6 => ?_)
  show Gc 1 1 mX6_init _ 54 [vr a] [vr (a + 6), vr a] ((a + 7), (pw (pw (pw (pw (pw π a 2 ((a + 1) + 1)) a 3 ((a + 2) + 1)) a 4 ((a + 3) + 1)) a 5 ((a + 4) + 1)) a 6 ((a + 5) + 1)), m)
  refine gc_putP dX6_init_54 fl_6_34 ff_6_34 rfl fk_6_34 hs.o (show a < (a + 7) by omega) (show (a + 6) < (a + 7) by omega) rfl ?_
  show Gc 1 1 mX6_init _ 57 [vr a] [] ((a + 7), (pw (pw (pw (pw (pw (pw π a 2 ((a + 1) + 1)) a 3 ((a + 2) + 1)) a 4 ((a + 3) + 1)) a 5 ((a + 4) + 1)) a 6 ((a + 5) + 1)) a 7 ((a + 6) + 1)), m)
  refine gc_aload_n dX6_init_57 rfl ?_
  show Gc 1 1 mX6_init _ 58 [vr a] [vr a] ((a + 7), (pw (pw (pw (pw (pw (pw π a 2 ((a + 1) + 1)) a 3 ((a + 2) + 1)) a 4 ((a + 3) + 1)) a 5 ((a + 4) + 1)) a 6 ((a + 5) + 1)) a 7 ((a + 6) + 1)), m)
  refine gc_iconst dX6_init_58 ?_
  show Gc 1 1 mX6_init _ 59 [vr a] [vi 5, vr a] ((a + 7), (pw (pw (pw (pw (pw (pw π a 2 ((a + 1) + 1)) a 3 ((a + 2) + 1)) a 4 ((a + 3) + 1)) a 5 ((a + 4) + 1)) a 6 ((a + 5) + 1)) a 7 ((a + 6) + 1)), m)
  refine gc_newI (kd := 0) (N := 5) dX6_init_59 rfl (Or.inl rfl) aw_0 hs.a7 (by decide) rfl (by first | rfl | (simp only [okA, List.all_cons, List.all_nil, Bool.and_true, Bool.or_eq_true, Bool.and_eq_true, decide_eq_true_eq]; omega)) (by first | rfl | (simp only [okA, List.all_cons, List.all_nil, Bool.and_true, Bool.or_eq_true, Bool.and_eq_true, decide_eq_true_eq]; omega)) (fun hz7 => ?_)
  show Gc 0 1 mX6_init _ 61 [vr a] [vr (a + 7), vr a] ((a + 8), (pw (pw (pw (pw (pw (pw π a 2 ((a + 1) + 1)) a 3 ((a + 2) + 1)) a 4 ((a + 3) + 1)) a 5 ((a + 4) + 1)) a 6 ((a + 5) + 1)) a 7 ((a + 6) + 1)), m)
  refine gc_putP dX6_init_61 fl_6_37 ff_6_37 rfl fk_6_37 hs.o (show a < (a + 8) by omega) (show (a + 7) < (a + 8) by omega) rfl ?_
  show Gc 0 1 mX6_init _ 64 [vr a] [] ((a + 8), (pw (pw (pw (pw (pw (pw (pw π a 2 ((a + 1) + 1)) a 3 ((a + 2) + 1)) a 4 ((a + 3) + 1)) a 5 ((a + 4) + 1)) a 6 ((a + 5) + 1)) a 7 ((a + 6) + 1)) a 8 ((a + 7) + 1)), m)
  exact gc_ret (v := 0) rfl dX6_init_64 rfl rfl
theorem dX5_init_0 : decode mX5_init.2.1 0 = .ok (.aload_n 0, 1) := by decide +kernel
theorem dX5_init_1 : decode mX5_init.2.1 1 = .ok (.invokespecial 3, 3) := by decide +kernel
theorem dX5_init_4 : decode mX5_init.2.1 4 = .ok (.aload_n 0, 1) := by decide +kernel
theorem dX5_init_5 : decode mX5_init.2.1 5 = .ok (.iconst 0, 1) := by decide +kernel
theorem dX5_init_6 : decode mX5_init.2.1 6 = .ok (.putfield 9, 3) := by decide +kernel
theorem dX5_init_9 : decode mX5_init.2.1 9 = .ok (.aload_n 0, 1) := by decide +kernel
theorem dX5_init_10 : decode mX5_init.2.1 10 = .ok (.iconst 0, 1) := by decide +kernel
theorem dX5_init_11 : decode mX5_init.2.1 11 = .ok (.putfield 15, 3) := by decide +kernel
theorem dX5_init_14 : decode mX5_init.2.1 14 = .ok (.aload_n 0, 1) := by decide +kernel
theorem dX5_init_15 : decode mX5_init.2.1 15 = .ok (.bipush 40, 2) := by decide +kernel
theorem dX5_init_17 : decode mX5_init.2.1 17 = .ok (.newarray .int, 2) := by decide +kernel
theorem dX5_init_19 : decode mX5_init.2.1 19 = .ok (.putfield 18, 3) := by decide +kernel
theorem dX5_init_22 : decode mX5_init.2.1 22 = .ok (.aload_n 0, 1) := by decide +kernel
theorem dX5_init_23 : decode mX5_init.2.1 23 = .ok (.bipush 40, 2) := by decide +kernel
theorem dX5_init_25 : decode mX5_init.2.1 25 = .ok (.newarray .int, 2) := by decide +kernel
theorem dX5_init_27 : decode mX5_init.2.1 27 = .ok (.putfield 22, 3) := by decide +kernel
theorem dX5_init_30 : decode mX5_init.2.1 30 = .ok (.aload_n 0, 1) := by decide +kernel
theorem dX5_init_31 : decode mX5_init.2.1 31 = .ok (.bipush 40, 2) := by decide +kernel
theorem dX5_init_33 : decode mX5_init.2.1 33 = .ok (.newarray .int, 2) := by decide +kernel
theorem dX5_init_35 : decode mX5_init.2.1 35 = .ok (.putfield 25, 3) := by decide +kernel
theorem dX5_init_38 : decode mX5_init.2.1 38 = .ok (.aload_n 0, 1) := by decide +kernel
theorem dX5_init_39 : decode mX5_init.2.1 39 = .ok (.bipush 40, 2) := by decide +kernel
theorem dX5_init_41 : decode mX5_init.2.1 41 = .ok (.newarray .boolean, 2) := by decide +kernel
theorem dX5_init_43 : decode mX5_init.2.1 43 = .ok (.putfield 28, 3) := by decide +kernel
theorem dX5_init_46 : decode mX5_init.2.1 46 = .ok (.return_, 1) := by decide +kernel
def pSe (π : Nat → Nat → Nat) (a : Nat) : Nat → Nat → Nat := (pw (pw (pw (pw π a 2 ((a + 1) + 1)) a 3 ((a + 2) + 1)) a 4 ((a + 3) + 1)) a 5 ((a + 4) + 1))
set_option maxRecDepth 4000 in
theorem evc_X5 {π : Nat → Nat → Nat} {m : Mem} {a : Nat} (hs : isSe a) (hz : ∀ i : Int, m a i = 0) : EvC 4 1 mX5_init [vr a] ((a + 1), π, m) (fun _ w' => w' = ((a + 5), pSe π a, m)) := by
  refine EvC.of (L := [vr a]) (by decide +kernel) (Nat.le_of_ble_eq_true rfl) rfl (fun t ht => by cases ht) (fun t ht => by cases ht) (fun hcan => ?_)
  refine gc_aload_n dX5_init_0 rfl ?_
  show Gc 4 1 mX5_init _ 1 [vr a] [vr a] ((a + 1), π, m)
  refine gc_obj dX5_init_1 oj_5 ob_in ob_co (by decide) (Nat.le_of_ble_eq_true rfl) ?_
  show Gc 4 1 mX5_init _ 4 [vr a] [] ((a + 1), π, m)
  refine gc_aload_n dX5_init_4 rfl ?_
  show Gc 4 1 mX5_init _ 5 [vr a] [vr a] ((a + 1), π, m)
  refine gc_iconst dX5_init_5 ?_
  show Gc 4 1 mX5_init _ 6 [vr a] [vi 0, vr a] ((a + 1), π, m)
  refine gc_put0 dX5_init_6 fw_5_9 hs.o (show a < (a + 1) by omega) (Or.inl ⟨rfl, Or.inl rfl⟩) (by first | exact hz _ | (dsimp only; rw [wr_ni (by omega), wr_ni (by omega)]; exact hz _)) ?_
  show Gc 4 1 mX5_init _ 9 [vr a] [] ((a + 1), π, m)
  refine gc_aload_n dX5_init_9 rfl ?_
  show Gc 4 1 mX5_init _ 10 [vr a] [vr a] ((a + 1), π, m)
  refine gc_iconst dX5_init_10 ?_
  show Gc 4 1 mX5_init _ 11 [vr a] [vi 0, vr a] ((a + 1), π, m)
  refine gc_put0 dX5_init_11 fw_5_15 hs.o (show a < (a + 1) by omega) (Or.inl ⟨rfl, Or.inl rfl⟩) (by first | exact hz _ | (dsimp only; rw [wr_ni (by omega), wr_ni (by omega)]; exact hz _)) ?_
  show Gc 4 1 mX5_init _ 14 [vr a] [] ((a + 1), π, m)
  refine gc_aload_n dX5_init_14 rfl ?_
  show Gc 4 1 mX5_init _ 15 [vr a] [vr a] ((a + 1), π, m)
  refine gc_bipush dX5_init_15 (by decide) ?_
  show Gc 4 1 mX5_init _ 17 [vr a] [vi 40, vr a] ((a + 1), π, m)
  refine gc_newI (kd := 0) (N := 40) dX5_init_17 rfl (Or.inl rfl) aw_0 hs.a1 (by decide) rfl (by first | rfl | (simp only [okA, List.all_cons, List.all_nil, Bool.and_true, Bool.or_eq_true, Bool.and_eq_true, decide_eq_true_eq]; omega)) (by first | rfl | (simp only [okA, List.all_cons, List.all_nil, Bool.and_true, Bool.or_eq_true, Bool.and_eq_true, decide_eq_true_eq]; omega)) (fun hz1 => ?_)
  show Gc 3 1 mX5_init _ 19 [vr a] [vr (a + 1), vr a] ((a + 2), π, m)
  refine gc_putP dX5_init_19 fl_5_18 ff_5_18 rfl fk_5_18 hs.o (show a < (a + 2) by omega) (show (a + 1) < (a + 2) by omega) rfl ?_
  show Gc 3 1 mX5_init _ 22 [vr a] [] ((a + 2), (pw π a 2 ((a + 1) + 1)), m)
  refine gc_aload_n dX5_init_22 rfl ?_
  show Gc 3 1 mX5_init _ 23 [vr a] [vr a] ((a + 2), (pw π a 2 ((a + 1) + 1)), m)
  refine gc_bipush dX5_init_23 (by decide) ?_
  show Gc 3 1 mX5_init _ 25 [vr a] [vi 40, vr a] ((a + 2), (pw π a 2 ((a + 1) + 1)), m)
  refine gc_newI (kd := 0) (N := 40) dX5_init_25 rfl (Or.inl rfl) aw_0 hs.a2 (by decide) rfl (by first | rfl | (simp only [okA, List.all_cons, List.all_nil, Bool.and_true, Bool.or_eq_true, Bool.and_eq_true, decide_eq_true_eq]; omega)) (by first | rfl | (simp only [okA, List.all_cons, List.all_nil, Bool.and_true, Bool.or_eq_true, Bool.and_eq_true, decide_eq_true_eq]; omega)) (fun hz2 => ?_)
  show Gc 2 1 mX5_init _ 27 [vr a] [vr (a + 2), vr a] ((a + 3), (pw π a 2 ((a + 1) + 1)), m)
  refine gc_putP dX5_init_27 fl_5_22 ff_5_22 rfl fk_5_22 hs.o (show a < (a + 3) by omega) (show (a + 2) < (a + 3) by omega) rfl ?_
  show Gc 2 1 mX5_init _ 30 [vr a] [] ((a + 3), (pw (pw π a 2 ((a + 1) + 1)) a 3 ((a + 2) + 1)), m)
  refine gc_aload_n dX5_init_30 rfl ?_
  show Gc 2 1 mX5_init _ 31 [vr a] [vr a] ((a + 3), (pw (pw π a 2 ((a + 1) + 1)) a 3 ((a + 2) + 1)), m)
  refine gc_bipush dX5_init_31 (by decide) ?_
  show Gc 2 1 mX5_init _ 33 [vr a] [vi 40, vr a] ((a + 3), (pw (pw π a 2 ((a + 1) + 1)) a 3 ((a + 2) + 1)), m)
  refine gc_newI (kd := 0) (N := 40) dX5_init_33 rfl (Or.inl rfl) aw_0 hs.a3 (by decide) rfl (by first | rfl | (simp only [okA, List.all_cons, List.all_nil, Bool.and_true, Bool.or_eq_true, Bool.and_eq_true, decide_eq_true_eq]; omega)) (by first | rfl | (simp only [okA, List.all_cons, List.all_nil, Bool.and_true, Bool.or_eq_true, Bool.and_eq_true, decide_eq_true_eq]; omega)) (fun hz3 => ?_)
  show Gc 1 1 mX5_init _ 35 [vr a] [vr (a + 3), vr a] ((a + 4), (pw (pw π a 2 ((a + 1) + 1)) a 3 ((a + 2) + 1)), m)
  refine gc_putP dX5_init_35 fl_5_25 ff_5_25 rfl fk_5_25 hs.o (show a < (a + 4) by omega) (show (a + 3) < (a + 4) by omega) rfl ?_
  show Gc 1 1 mX5_init _ 38 [vr a] [] ((a + 4), (pw (pw (pw π a 2 ((a + 1) + 1)) a 3 ((a + 2) + 1)) a 4 ((a + 3) + 1)), m)
  refine gc_aload_n dX5_init_38 rfl ?_
  show Gc 1 1 mX5_init _ 39 [vr a] [vr a] ((a + 4), (pw (pw (pw π a 2 ((a + 1) + 1)) a 3 ((a + 2) + 1)) a 4 ((a + 3) + 1)), m)
  refine gc_bipush dX5_init_39 (by decide) ?_
  show Gc 1 1 mX5_init _ 41 [vr a] [vi 40, vr a] ((a + 4), (pw (pw (pw π a 2 ((a + 1) + 1)) a 3 ((a + 2) + 1)) a 4 ((a + 3) + 1)), m)
  refine gc_newI (kd := 2) (N := 40) dX5_init_41 rfl (Or.inr (Or.inr rfl)) aw_2 hs.a4 (by decide) rfl (by first | rfl | (simp only [okA, List.all_cons, List.all_nil, Bool.and_true, Bool.or_eq_true, Bool.and_eq_true, decide_eq_true_eq]; omega)) (by first | rfl | (simp only [okA, List.all_cons, List.all_nil, Bool.and_true, Bool.or_eq_true, Bool.and_eq_true, decide_eq_true_eq]; omega)) (fun hz4 => ?_)
  show Gc 0 1 mX5_init _ 43 [vr a] [vr (a + 4), vr a] ((a + 5), (pw (pw (pw π a 2 ((a + 1) + 1)) a 3 ((a + 2) + 1)) a 4 ((a + 3) + 1)), m)
  refine gc_putP dX5_init_43 fl_5_28 ff_5_28 rfl fk_5_28 hs.o (show a < (a + 5) by omega) (show (a + 4) < (a + 5) by omega) rfl ?_
  show Gc 0 1 mX5_init _ 46 [vr a] [] ((a + 5), (pw (pw (pw (pw π a 2 ((a + 1) + 1)) a 3 ((a + 2) + 1)) a 4 ((a + 3) + 1)) a 5 ((a + 4) + 1)), m)
  exact gc_ret (v := 0) rfl dX5_init_46 rfl rfl
theorem dX1_init_0 : decode mX1_init.2.1 0 = .ok (.aload_n 0, 1) := by decide +kernel
theorem dX1_init_1 : decode mX1_init.2.1 1 = .ok (.invokespecial 3, 3) := by decide +kernel
theorem dX1_init_4 : decode mX1_init.2.1 4 = .ok (.aload_n 0, 1) := by decide +kernel
theorem dX1_init_5 : decode mX1_init.2.1 5 = .ok (.bipush 6, 2) := by decide +kernel
theorem dX1_init_7 : decode mX1_init.2.1 7 = .ok (.putfield 9, 3) := by decide +kernel
theorem dX1_init_10 : decode mX1_init.2.1 10 = .ok (.aload_n 0, 1) := by decide +kernel
theorem dX1_init_11 : decode mX1_init.2.1 11 = .ok (.bipush 6, 2) := by decide +kernel
theorem dX1_init_13 : decode mX1_init.2.1 13 = .ok (.putfield 15, 3) := by decide +kernel
theorem dX1_init_16 : decode mX1_init.2.1 16 = .ok (.aload_n 0, 1) := by decide +kernel
theorem dX1_init_17 : decode mX1_init.2.1 17 = .ok (.iconst 0, 1) := by decide +kernel
theorem dX1_init_18 : decode mX1_init.2.1 18 = .ok (.putfield 18, 3) := by decide +kernel
theorem dX1_init_21 : decode mX1_init.2.1 21 = .ok (.aload_n 0, 1) := by decide +kernel
theorem dX1_init_22 : decode mX1_init.2.1 22 = .ok (.iconst 0, 1) := by decide +kernel
theorem dX1_init_23 : decode mX1_init.2.1 23 = .ok (.putfield 21, 3) := by decide +kernel
theorem dX1_init_26 : decode mX1_init.2.1 26 = .ok (.aload_n 0, 1) := by decide +kernel
theorem dX1_init_27 : decode mX1_init.2.1 27 = .ok (.iconst 0, 1) := by decide +kernel
theorem dX1_init_28 : decode mX1_init.2.1 28 = .ok (.putfield 24, 3) := by decide +kernel
theorem dX1_init_31 : decode mX1_init.2.1 31 = .ok (.aload_n 0, 1) := by decide +kernel
theorem dX1_init_32 : decode mX1_init.2.1 32 = .ok (.bipush 6, 2) := by decide +kernel
theorem dX1_init_34 : decode mX1_init.2.1 34 = .ok (.newarray .long, 2) := by decide +kernel
theorem dX1_init_36 : decode mX1_init.2.1 36 = .ok (.putfield 27, 3) := by decide +kernel
theorem dX1_init_39 : decode mX1_init.2.1 39 = .ok (.aload_n 0, 1) := by decide +kernel
theorem dX1_init_40 : decode mX1_init.2.1 40 = .ok (.bipush 6, 2) := by decide +kernel
theorem dX1_init_42 : decode mX1_init.2.1 42 = .ok (.newarray .int, 2) := by decide +kernel
theorem dX1_init_44 : decode mX1_init.2.1 44 = .ok (.putfield 31, 3) := by decide +kernel
theorem dX1_init_47 : decode mX1_init.2.1 47 = .ok (.aload_n 0, 1) := by decide +kernel
theorem dX1_init_48 : decode mX1_init.2.1 48 = .ok (.bipush 6, 2) := by decide +kernel
theorem dX1_init_50 : decode mX1_init.2.1 50 = .ok (.newarray .int, 2) := by decide +kernel
theorem dX1_init_52 : decode mX1_init.2.1 52 = .ok (.putfield 35, 3) := by decide +kernel
theorem dX1_init_55 : decode mX1_init.2.1 55 = .ok (.aload_n 0, 1) := by decide +kernel
theorem dX1_init_56 : decode mX1_init.2.1 56 = .ok (.iconst 5, 1) := by decide +kernel
theorem dX1_init_57 : decode mX1_init.2.1 57 = .ok (.newarray .long, 2) := by decide +kernel
theorem dX1_init_59 : decode mX1_init.2.1 59 = .ok (.putfield 38, 3) := by decide +kernel
theorem dX1_init_62 : decode mX1_init.2.1 62 = .ok (.aload_n 0, 1) := by decide +kernel
theorem dX1_init_63 : decode mX1_init.2.1 63 = .ok (.iconst 5, 1) := by decide +kernel
theorem dX1_init_64 : decode mX1_init.2.1 64 = .ok (.newarray .int, 2) := by decide +kernel
theorem dX1_init_66 : decode mX1_init.2.1 66 = .ok (.putfield 41, 3) := by decide +kernel
theorem dX1_init_69 : decode mX1_init.2.1 69 = .ok (.aload_n 0, 1) := by decide +kernel
theorem dX1_init_70 : decode mX1_init.2.1 70 = .ok (.iconst 5, 1) := by decide +kernel
theorem dX1_init_71 : decode mX1_init.2.1 71 = .ok (.newarray .long, 2) := by decide +kernel
theorem dX1_init_73 : decode mX1_init.2.1 73 = .ok (.putfield 44, 3) := by decide +kernel
theorem dX1_init_76 : decode mX1_init.2.1 76 = .ok (.aload_n 0, 1) := by decide +kernel
theorem dX1_init_77 : decode mX1_init.2.1 77 = .ok (.iconst 5, 1) := by decide +kernel
theorem dX1_init_78 : decode mX1_init.2.1 78 = .ok (.newarray .int, 2) := by decide +kernel
theorem dX1_init_80 : decode mX1_init.2.1 80 = .ok (.putfield 47, 3) := by decide +kernel
theorem dX1_init_83 : decode mX1_init.2.1 83 = .ok (.aload_n 0, 1) := by decide +kernel
theorem dX1_init_84 : decode mX1_init.2.1 84 = .ok (.iconst 5, 1) := by decide +kernel
theorem dX1_init_85 : decode mX1_init.2.1 85 = .ok (.newarray .int, 2) := by decide +kernel
theorem dX1_init_87 : decode mX1_init.2.1 87 = .ok (.putfield 50, 3) := by decide +kernel
theorem dX1_init_90 : decode mX1_init.2.1 90 = .ok (.aload_n 0, 1) := by decide +kernel
theorem dX1_init_91 : decode mX1_init.2.1 91 = .ok (.iconst 5, 1) := by decide +kernel
theorem dX1_init_92 : decode mX1_init.2.1 92 = .ok (.newarray .int, 2) := by decide +kernel
theorem dX1_init_94 : decode mX1_init.2.1 94 = .ok (.putfield 53, 3) := by decide +kernel
theorem dX1_init_97 : decode mX1_init.2.1 97 = .ok (.return_, 1) := by decide +kernel
def pDn (π : Nat → Nat → Nat) (a : Nat) : Nat → Nat → Nat := (pw (pw (pw (pw (pw (pw (pw (pw (pw π a 5 ((a + 1) + 1)) a 6 ((a + 2) + 1)) a 7 ((a + 3) + 1)) a 8 ((a + 4) + 1)) a 9 ((a + 5) + 1)) a 10 ((a + 6) + 1)) a 11 ((a + 7) + 1)) a 12 ((a + 8) + 1)) a 13 ((a + 9) + 1))
def mDn (m : Mem) (a : Nat) : Mem := (wr (wr m a 0 6) a 1 6)
set_option maxRecDepth 4000 in
theorem evc_X1 {π : Nat → Nat → Nat} {m : Mem} {a : Nat} (hs : isDn a) (hz : ∀ i : Int, m a i = 0) : EvC 9 1 mX1_init [vr a] ((a + 1), π, m) (fun _ w' => w' = ((a + 10), pDn π a, (mDn m a))) := by
  refine EvC.of (L := [vr a]) (by decide +kernel) (Nat.le_of_ble_eq_true rfl) rfl (fun t ht => by cases ht) (fun t ht => by cases ht) (fun hcan => ?_)
  refine gc_aload_n dX1_init_0 rfl ?_
  show Gc 9 1 mX1_init _ 1 [vr a] [vr a] ((a + 1), π, m)
  refine gc_obj dX1_init_1 oj_1 ob_in ob_co (by decide) (Nat.le_of_ble_eq_true rfl) ?_
  show Gc 9 1 mX1_init _ 4 [vr a] [] ((a + 1), π, m)
  refine gc_aload_n dX1_init_4 rfl ?_
  show Gc 9 1 mX1_init _ 5 [vr a] [vr a] ((a + 1), π, m)
  refine gc_bipush dX1_init_5 (by decide) ?_
  show Gc 9 1 mX1_init _ 7 [vr a] [vi 6, vr a] ((a + 1), π, m)
  refine gc_putI dX1_init_7 fw_1_9 hs.o (show a < (a + 1) by omega) rfl ⟨by omega, by omega⟩ ?_
  show Gc 9 1 mX1_init _ 10 [vr a] [] ((a + 1), π, (wr m a 0 6))
  refine gc_aload_n dX1_init_10 rfl ?_
  show Gc 9 1 mX1_init _ 11 [vr a] [vr a] ((a + 1), π, (wr m a 0 6))
  refine gc_bipush dX1_init_11 (by decide) ?_
  show Gc 9 1 mX1_init _ 13 [vr a] [vi 6, vr a] ((a + 1), π, (wr m a 0 6))
  refine gc_putI dX1_init_13 fw_1_15 hs.o (show a < (a + 1) by omega) rfl ⟨by omega, by omega⟩ ?_
  show Gc 9 1 mX1_init _ 16 [vr a] [] ((a + 1), π, (wr (wr m a 0 6) a 1 6))
  refine gc_aload_n dX1_init_16 rfl ?_
  show Gc 9 1 mX1_init _ 17 [vr a] [vr a] ((a + 1), π, (wr (wr m a 0 6) a 1 6))
  refine gc_iconst dX1_init_17 ?_
  show Gc 9 1 mX1_init _ 18 [vr a] [vi 0, vr a] ((a + 1), π, (wr (wr m a 0 6) a 1 6))
  refine gc_put0 dX1_init_18 fw_1_18 hs.o (show a < (a + 1) by omega) (Or.inl ⟨rfl, Or.inl rfl⟩) (by first | exact hz _ | (dsimp only; rw [wr_ni (by omega), wr_ni (by omega)]; exact hz _)) ?_
  show Gc 9 1 mX1_init _ 21 [vr a] [] ((a + 1), π, (wr (wr m a 0 6) a 1 6))
  refine gc_aload_n dX1_init_21 rfl ?_
  show Gc 9 1 mX1_init _ 22 [vr a] [vr a] ((a + 1), π, (wr (wr m a 0 6) a 1 6))
  refine gc_iconst dX1_init_22 ?_
  show Gc 9 1 mX1_init _ 23 [vr a] [vi 0, vr a] ((a + 1), π, (wr (wr m a 0 6) a 1 6))
  refine gc_put0 dX1_init_23 fw_1_21 hs.o (show a < (a + 1) by omega) (Or.inl ⟨rfl, Or.inl rfl⟩) (by first | exact hz _ | (dsimp only; rw [wr_ni (by omega), wr_ni (by omega)]; exact hz _)) ?_
  show Gc 9 1 mX1_init _ 26 [vr a] [] ((a + 1), π, (wr (wr m a 0 6) a 1 6))
  refine gc_aload_n dX1_init_26 rfl ?_
  show Gc 9 1 mX1_init _ 27 [vr a] [vr a] ((a + 1), π, (wr (wr m a 0 6) a 1 6))
  refine gc_iconst dX1_init_27 ?_
  show Gc 9 1 mX1_init _ 28 [vr a] [vi 0, vr a] ((a + 1), π, (wr (wr m a 0 6) a 1 6))
  refine gc_put0 dX1_init_28 fw_1_24 hs.o (show a < (a + 1) by omega) (Or.inl ⟨rfl, Or.inl rfl⟩) (by first | exact hz _ | (dsimp only; rw [wr_ni (by omega), wr_ni (by omega)]; exact hz _)) ?_
  show Gc 9 1 mX1_init _ 31 [vr a] [] ((a + 1), π, (wr (wr m a 0 6) a 1 6))
  refine gc_aload_n dX1_init_31 rfl ?_
  show Gc 9 1 mX1_init _ 32 [vr a] [vr a] ((a + 1), π, (wr (wr m a 0 6) a 1 6))
  refine gc_bipush dX1_init_32 (by decide) ?_
  show Gc 9 1 mX1_init _ 34 [vr a] [vi 6, vr a] ((a + 1), π, (wr (wr m a 0 6) a 1 6))
  refine gc_newJ (kd := 3) (N := 6) dX1_init_34 rfl rfl aw_3 hs.a1 (by decide) rfl (by first | rfl | (simp only [okA, List.all_cons, List.all_nil, Bool.and_true, Bool.or_eq_true, Bool.and_eq_true, decide_eq_true_eq]; omega)) (by first | rfl | (simp only [okA, List.all_cons, List.all_nil, Bool.and_true, Bool.or_eq_true, Bool.and_eq_true, decide_eq_true_eq]; omega)) (fun hz1 => ?_)
  show Gc 8 1 mX1_init _ 36 [vr a] [vr (a + 1), vr a] ((a + 2), π, (wr (wr m a 0 6) a 1 6))
  refine gc_putP dX1_init_36 fl_1_27 ff_1_27 rfl fk_1_27 hs.o (show a < (a + 2) by omega) (show (a + 1) < (a + 2) by omega) rfl ?_
  show Gc 8 1 mX1_init _ 39 [vr a] [] ((a + 2), (pw π a 5 ((a + 1) + 1)), (wr (wr m a 0 6) a 1 6))
  refine gc_aload_n dX1_init_39 rfl ?_
  show Gc 8 1 mX1_init _ 40 [vr a] [vr a] ((a + 2), (pw π a 5 ((a + 1) + 1)), (wr (wr m a 0 6) a 1 6))
  refine gc_bipush dX1_init_40 (by decide) ?_
  show Gc 8 1 mX1_init _ 42 [vr a] [vi 6, vr a] ((a + 2), (pw π a 5 ((a + 1) + 1)), (wr (wr m a 0 6) a 1 6))
  refine gc_newI (kd := 0) (N := 6) dX1_init_42 rfl (Or.inl rfl) aw_0 hs.a2 (by decide) rfl (by first | rfl | (simp only [okA, List.all_cons, List.all_nil, Bool.and_true, Bool.or_eq_true, Bool.and_eq_true, decide_eq_true_eq]; omega)) (by first | rfl | (simp only [okA, List.all_cons, List.all_nil, Bool.and_true, Bool.or_eq_true, Bool.and_eq_true, decide_eq_true_eq]; omega)) (fun hz2 => ?_)
  show Gc 7 1 mX1_init _ 44 [vr a] [vr (a + 2), vr a] ((a + 3), (pw π a 5 ((a + 1) + 1)), (wr (wr m a 0 6) a 1 6))
  refine gc_putP dX1_init_44 fl_1_31 ff_1_31 rfl fk_1_31 hs.o (show a < (a + 3) by omega) (show (a + 2) < (a + 3) by omega) rfl ?_
  show Gc 7 1 mX1_init _ 47 [vr a] [] ((a + 3), (pw (pw π a 5 ((a + 1) + 1)) a 6 ((a + 2) + 1)), (wr (wr m a 0 6) a 1 6))
  refine gc_aload_n dX1_init_47 rfl ?_
  show Gc 7 1 mX1_init _ 48 [vr a] [vr a] ((a + 3), (pw (pw π a 5 ((a + 1) + 1)) a 6 ((a + 2) + 1)), (wr (wr m a 0 6) a 1 6))
  refine gc_bipush dX1_init_48 (by decide) ?_
  show Gc 7 1 mX1_init _ 50 [vr a] [vi 6, vr a] ((a + 3), (pw (pw π a 5 ((a + 1) + 1)) a 6 ((a + 2) + 1)), (wr (wr m a 0 6) a 1 6))
  refine gc_newI (kd := 0) (N := 6) dX1_init_50 rfl (Or.inl rfl) aw_0 hs.a3 (by decide) rfl (by first | rfl | (simp only [okA, List.all_cons, List.all_nil, Bool.and_true, Bool.or_eq_true, Bool.and_eq_true, decide_eq_true_eq]; omega)) (by first | rfl | (simp only [okA, List.all_cons, List.all_nil, Bool.and_true, Bool.or_eq_true, Bool.and_eq_true, decide_eq_true_eq]; omega)) (fun hz3 => ?_)
  show Gc 6 1 mX1_init _ 52 [vr a] [vr (a + 3), vr a] ((a + 4), (pw (pw π a 5 ((a + 1) + 1)) a 6 ((a + 2) + 1)), (wr (wr m a 0 6) a 1 6))
  refine gc_putP dX1_init_52 fl_1_35 ff_1_35 rfl fk_1_35 hs.o (show a < (a + 4) by omega) (show (a + 3) < (a + 4) by omega) rfl ?_
  show Gc 6 1 mX1_init _ 55 [vr a] [] ((a + 4), (pw (pw (pw π a 5 ((a + 1) + 1)) a 6 ((a + 2) + 1)) a 7 ((a + 3) + 1)), (wr (wr m a 0 6) a 1 6))
  refine gc_aload_n dX1_init_55 rfl ?_
  show Gc 6 1 mX1_init _ 56 [vr a] [vr a] ((a + 4), (pw (pw (pw π a 5 ((a + 1) + 1)) a 6 ((a + 2) + 1)) a 7 ((a + 3) + 1)), (wr (wr m a 0 6) a 1 6))
  refine gc_iconst dX1_init_56 ?_
  show Gc 6 1 mX1_init _ 57 [vr a] [vi 5, vr a] ((a + 4), (pw (pw (pw π a 5 ((a + 1) + 1)) a 6 ((a + 2) + 1)) a 7 ((a + 3) + 1)), (wr (wr m a 0 6) a 1 6))
  refine gc_newJ (kd := 3) (N := 5) dX1_init_57 rfl rfl aw_3 hs.a4 (by decide) rfl (by first | rfl | (simp only [okA, List.all_cons, List.all_nil, Bool.and_true, Bool.or_eq_true, Bool.and_eq_true, decide_eq_true_eq]; omega)) (by first | rfl | (simp only [okA, List.all_cons, List.all_nil, Bool.and_true, Bool.or_eq_true, Bool.and_eq_true, decide_eq_true_eq]; omega)) (fun hz4 => ?_)
  show Gc 5 1 mX1_init _ 59 [vr a] [vr (a + 4), vr a] ((a + 5), (pw (pw (pw π a 5 ((a + 1) + 1)) a 6 ((a + 2) + 1)) a 7 ((a + 3) + 1)), (wr (wr m a 0 6) a 1 6))
  refine gc_putP dX1_init_59 fl_1_38 ff_1_38 rfl fk_1_38 hs.o (show a < (a + 5) by omega) (show (a + 4) < (a + 5) by omega) rfl ?_
  show Gc 5 1 mX1_init _ 62 [vr a] [] ((a + 5), (pw (pw (pw (pw π a 5 ((a + 1) + 1)) a 6 ((a + 2) + 1)) a 7 ((a + 3) + 1)) a 8 ((a + 4) + 1)), (wr (wr m a 0 6) a 1 6))
  refine gc_aload_n dX1_init_62 rfl ?_
  show Gc 5 1 mX1_init _ 63 [vr a] [vr a] ((a + 5), (pw (pw (pw (pw π a 5 ((a + 1) + 1)) a 6 ((a + 2) + 1)) a 7 ((a + 3) + 1)) a 8 ((a + 4) + 1)), (wr (wr m a 0 6) a 1 6))
  refine gc_iconst dX1_init_63 ?_
  show Gc 5 1 mX1_init _ 64 [vr a] [vi 5, vr a] ((a + 5), (pw (pw (pw (pw π a 5 ((a + 1) + 1)) a 6 ((a + 2) + 1)) a 7 ((a + 3) + 1)) a 8 ((a + 4) + 1)), (wr (wr m a 0 6) a 1 6))
  refine gc_newI (kd := 0) (N := 5) dX1_init_64 rfl (Or.inl rfl) aw_0 hs.a5 (by decide) rfl (by first | rfl | (simp only [okA, List.all_cons, List.all_nil, Bool.and_true, Bool.or_eq_true, Bool.and_eq_true, decide_eq_true_eq]; omega)) (by first | rfl | (simp only [okA, List.all_cons, List.all_nil, Bool.and_true, Bool.or_eq_true, Bool.and_eq_true, decide_eq_true_eq]; omega)) (fun hz5 => ?_)
  show Gc 4 1 mX1_init _ 66 [vr a] [vr (a + 5), vr a] ((a + 6), (pw (pw (pw (pw π a 5 ((a + 1) + 1)) a 6 ((a + 2) + 1)) a 7 ((a + 3) + 1)) a 8 ((a + 4) + 1)), (wr (wr m a 0 6) a 1 6))
  refine gc_putP dX1_init_66 fl_1_41 ff_1_41 rfl fk_1_41 hs.o (show a < (a + 6) by omega) (show (a + 5) < (a + 6) by omega) rfl ?_
  show Gc 4 1 mX1_init _ 69 [vr a] [] ((a + 6), (pw (pw (pw (pw (pw π a 5 ((a + 1) + 1)) a 6 ((a + 2) + 1)) a 7 ((a + 3) + 1)) a 8 ((a + 4) + 1)) a 9 ((a + 5) + 1)), (wr (wr m a 0 6) a 1 6))
  refine gc_aload_n dX1_init_69 rfl ?_
  show Gc 4 1 mX1_init _ 70 [vr a] [vr a] ((a + 6), (pw (pw (pw (pw (pw π a 5 ((a + 1) + 1)) a 6 ((a + 2) + 1)) a 7 ((a + 3) + 1)) a 8 ((a + 4) + 1)) a 9 ((a + 5) + 1)), (wr (wr m a 0 6) a 1 6))
  refine gc_iconst dX1_init_70 ?_
  show Gc 4 1 mX1_init _ 71 [vr a] [vi 5, vr a] ((a + 6), (pw (pw (pw (pw (pw π a 5 ((a + 1) + 1)) a 6 ((a + 2) + 1)) a 7 ((a + 3) + 1)) a 8 ((a + 4) + 1)) a 9 ((a + 5) + 1)), (wr (wr m a 0 6) a 1 6))
  refine gc_newJ (kd := 3) (N := 5) dX1_init_71 rfl rfl aw_3 hs.a6 (by decide) rfl (by first | rfl | (simp only [okA, List.all_cons, List.all_nil, Bool.and_true, Bool.or_eq_true, Bool.and_eq_true, decide_eq_true_eq]; omega)) (by first | rfl | (simp only [okA, List.all_cons, List.all_nil, Bool.and_true, Bool.or_eq_true, Bool.and_eq_true, decide_eq_true_eq]; omega)) (fun hz6 => ?_)
  show Gc 3 1 mX1_init _ 73 [vr a] [vr (a + 6), vr a] ((a + 7), (pw (pw (pw (pw (pw π a 5 ((a + 1) + 1)) a 6 ((a + 2) + 1)) a 7 ((a + 3) + 1)) a 8 ((a + 4) + 1)) a 9 ((a + 5) + 1)), (wr (wr m a 0 6) a 1 6))
  refine gc_putP dX1_init_73 fl_1_44 ff_1_44 rfl fk_1_44 hs.o (show a < (a + 7) by omega) (show (a + 6) < (a + 7) by omega) rfl ?_
  show Gc 3 1 mX1_init _ 76 [vr a] [] ((a + 7), (pw (pw (pw (pw (pw (pw π a 5 ((a + 1) + 1)) a 6 ((a + 2) + 1)) a 7 ((a + 3) + 1)) a 8 ((a + 4) + 1)) a 9 ((a + 5) + 1)) a 10 ((a + 6) + 1)), (wr (wr m a 0 6) a 1 6))
  refine gc_aload_n dX1_init_76 rfl ?_
  show Gc 3 1 mX1_init _ 77 [vr a] [vr a] ((a + 7), (pw (pw (pw (pw (pw (pw π a 5 ((a + 1) + 1)) a 6 ((a + 2) + 1)) a 7 ((a + 3) + 1)) a 8 ((a + 4) + 1)) a 9 ((a + 5) + 1)) a 10 ((a + 6) + 1)), (wr (wr m a 0 6) a 1 6))
  refine gc_iconst dX1_init_77 ?_
  show Gc 3 1 mX1_init _ 78 [vr a] [vi 5, vr a] ((a + 7), (pw (pw (pw (pw (pw (pw π a 5 ((a + 1) + 1)) a 6 ((a + 2) + 1)) a 7 ((a + 3) + 1)) a 8 ((a + 4) + 1)) a 9 ((a + 5) + 1)) a 10 ((a + 6) + 1)), (wr (wr m a 0 6) a 1 6))
  refine gc_newI (kd := 0) (N := 5) dX1_init_78 rfl (Or.inl rfl) aw_0 hs.a7 (by decide) rfl (by first | rfl | (simp only [okA, List.all_cons, List.all_nil, Bool.and_true, Bool.or_eq_true, Bool.and_eq_true, decide_eq_true_eq]; omega)) (by first | rfl | (simp only [okA, List.all_cons, List.all_nil, Bool.and_true, Bool.or_eq_true, Bool.and_eq_true, decide_eq_true_eq]; omega)) (fun hz7 => ?_)
  show Gc 2 1 mX1_init _ 80 [vr a] [vr (a + 7), vr a] ((a + 8), (pw (pw (pw (pw (pw (pw π a 5 ((a + 1) + 1)) a 6 ((a + 2) + 1)) a 7 ((a + 3) + 1)) a 8 ((a + 4) + 1)) a 9 ((a + 5) + 1)) a 10 ((a + 6) + 1)), (wr (wr m a 0 6) a 1 6))
  refine gc_putP dX1_init_80 fl_1_47 ff_1_47 rfl fk_1_47 hs.o (show a < (a + 8) by omega) (show (a + 7) < (a + 8) by omega) rfl ?_
  show Gc 2 1 mX1_init _ 83 [vr a] [] ((a + 8), (pw (pw (pw (pw (pw (pw (pw π a 5 ((a + 1) + 1)) a 6 ((a + 2) + 1)) a 7 ((a + 3) + 1)) a 8 ((a + 4) + 1)) a 9 ((a + 5) + 1)) a 10 ((a + 6) + 1)) a 11 ((a + 7) + 1)), (wr (wr m a 0 6) a 1 6))
  refine gc_aload_n dX1_init_83 rfl ?_
  show Gc 2 1 mX1_init _ 84 [vr a] [vr a] ((a + 8), (pw (pw (pw (pw (pw (pw (pw π a 5 ((a + 1) + 1)) a 6 ((a + 2) + 1)) a 7 ((a + 3) + 1)) a 8 ((a + 4) + 1)) a 9 ((a + 5) + 1)) a 10 ((a + 6) + 1)) a 11 ((a + 7) + 1)), (wr (wr m a 0 6) a 1 6))
  refine gc_iconst dX1_init_84 ?_
  show Gc 2 1 mX1_init _ 85 [vr a] [vi 5, vr a] ((a + 8), (pw (pw (pw (pw (pw (pw (pw π a 5 ((a + 1) + 1)) a 6 ((a + 2) + 1)) a 7 ((a + 3) + 1)) a 8 ((a + 4) + 1)) a 9 ((a + 5) + 1)) a 10 ((a + 6) + 1)) a 11 ((a + 7) + 1)), (wr (wr m a 0 6) a 1 6))
  refine gc_newI (kd := 0) (N := 5) dX1_init_85 rfl (Or.inl rfl) aw_0 hs.a8 (by decide) rfl (by first | rfl | (simp only [okA, List.all_cons, List.all_nil, Bool.and_true, Bool.or_eq_true, Bool.and_eq_true, decide_eq_true_eq]; omega)) (by first | rfl | (simp only [okA, List.all_cons, List.all_nil, Bool.and_true, Bool.or_eq_true, Bool.and_eq_true, decide_eq_true_eq]; omega)) (fun hz8 => ?_)
  show Gc 1 1 mX1_init _ 87 [vr a] [vr (a + 8), vr a] ((a + 9), (pw (pw (pw (pw (pw (pw (pw π a 5 ((a + 1) + 1)) a 6 ((a + 2) + 1)) a 7 ((a + 3) + 1)) a 8 ((a + 4) + 1)) a 9 ((a + 5) + 1)) a 10 ((a + 6) + 1)) a 11 ((a + 7) + 1)), (wr (wr m a 0 6) a 1 6))
  refine gc_putP dX1_init_87 fl_1_50 ff_1_50 rfl fk_1_50 hs.o (show a < (a + 9) by omega) (show (a + 8) < (a + 9) by omega) rfl ?_
  show Gc 1 1 mX1_init _ 90 [vr a] [] ((a + 9), (pw (pw (pw (pw (pw (pw (pw (pw π a 5 ((a + 1) + 1)) a 6 ((a + 2) + 1)) a 7 ((a + 3) + 1)) a 8 ((a + 4) + 1)) a 9 ((a + 5) + 1)) a 10 ((a + 6) + 1)) a 11 ((a + 7) + 1)) a 12 ((a + 8) + 1)), (wr (wr m a 0 6) a 1 6))
  refine gc_aload_n dX1_init_90 rfl ?_
  show Gc 1 1 mX1_init _ 91 [vr a] [vr a] ((a + 9), (pw (pw (pw (pw (pw (pw (pw (pw π a 5 ((a + 1) + 1)) a 6 ((a + 2) + 1)) a 7 ((a + 3) + 1)) a 8 ((a + 4) + 1)) a 9 ((a + 5) + 1)) a 10 ((a + 6) + 1)) a 11 ((a + 7) + 1)) a 12 ((a + 8) + 1)), (wr (wr m a 0 6) a 1 6))
  refine gc_iconst dX1_init_91 ?_
  show Gc 1 1 mX1_init _ 92 [vr a] [vi 5, vr a] ((a + 9), (pw (pw (pw (pw (pw (pw (pw (pw π a 5 ((a + 1) + 1)) a 6 ((a + 2) + 1)) a 7 ((a + 3) + 1)) a 8 ((a + 4) + 1)) a 9 ((a + 5) + 1)) a 10 ((a + 6) + 1)) a 11 ((a + 7) + 1)) a 12 ((a + 8) + 1)), (wr (wr m a 0 6) a 1 6))
  refine gc_newI (kd := 0) (N := 5) dX1_init_92 rfl (Or.inl rfl) aw_0 hs.a9 (by decide) rfl (by first | rfl | (simp only [okA, List.all_cons, List.all_nil, Bool.and_true, Bool.or_eq_true, Bool.and_eq_true, decide_eq_true_eq]; omega)) (by first | rfl | (simp only [okA, List.all_cons, List.all_nil, Bool.and_true, Bool.or_eq_true, Bool.and_eq_true, decide_eq_true_eq]; omega)) (fun hz9 => ?_)
  show Gc 0 1 mX1_init _ 94 [vr a] [vr (a + 9), vr a] ((a + 10), (pw (pw (pw (pw (pw (pw (pw (pw π a 5 ((a + 1) + 1)) a 6 ((a + 2) + 1)) a 7 ((a + 3) + 1)) a 8 ((a + 4) + 1)) a 9 ((a + 5) + 1)) a 10 ((a + 6) + 1)) a 11 ((a + 7) + 1)) a 12 ((a + 8) + 1)), (wr (wr m a 0 6) a 1 6))
  refine gc_putP dX1_init_94 fl_1_53 ff_1_53 rfl fk_1_53 hs.o (show a < (a + 10) by omega) (show (a + 9) < (a + 10) by omega) rfl ?_
  show Gc 0 1 mX1_init _ 97 [vr a] [] ((a + 10), (pw (pw (pw (pw (pw (pw (pw (pw (pw π a 5 ((a + 1) + 1)) a 6 ((a + 2) + 1)) a 7 ((a + 3) + 1)) a 8 ((a + 4) + 1)) a 9 ((a + 5) + 1)) a 10 ((a + 6) + 1)) a 11 ((a + 7) + 1)) a 12 ((a + 8) + 1)) a 13 ((a + 9) + 1)), (wr (wr m a 0 6) a 1 6))
  exact gc_ret (v := 0) rfl dX1_init_97 rfl rfl
theorem dX10_init_0 : decode mX10_init.2.1 0 = .ok (.aload_n 0, 1) := by decide +kernel
theorem dX10_init_1 : decode mX10_init.2.1 1 = .ok (.invokespecial 3, 3) := by decide +kernel
theorem dX10_init_4 : decode mX10_init.2.1 4 = .ok (.aload_n 0, 1) := by decide +kernel
theorem dX10_init_5 : decode mX10_init.2.1 5 = .ok (.new 9, 3) := by decide +kernel
theorem dX10_init_8 : decode mX10_init.2.1 8 = .ok (.dup, 1) := by decide +kernel
theorem dX10_init_9 : decode mX10_init.2.1 9 = .ok (.invokespecial 11, 3) := by decide +kernel
theorem dX10_init_12 : decode mX10_init.2.1 12 = .ok (.putfield 12, 3) := by decide +kernel
theorem dX10_init_15 : decode mX10_init.2.1 15 = .ok (.aload_n 0, 1) := by decide +kernel
theorem dX10_init_16 : decode mX10_init.2.1 16 = .ok (.new 18, 3) := by decide +kernel
theorem dX10_init_19 : decode mX10_init.2.1 19 = .ok (.dup, 1) := by decide +kernel
theorem dX10_init_20 : decode mX10_init.2.1 20 = .ok (.invokespecial 20, 3) := by decide +kernel
theorem dX10_init_23 : decode mX10_init.2.1 23 = .ok (.putfield 21, 3) := by decide +kernel
theorem dX10_init_26 : decode mX10_init.2.1 26 = .ok (.aload_n 0, 1) := by decide +kernel
theorem dX10_init_27 : decode mX10_init.2.1 27 = .ok (.iconst 0, 1) := by decide +kernel
theorem dX10_init_28 : decode mX10_init.2.1 28 = .ok (.putfield 25, 3) := by decide +kernel
theorem dX10_init_31 : decode mX10_init.2.1 31 = .ok (.aload_n 0, 1) := by decide +kernel
theorem dX10_init_32 : decode mX10_init.2.1 32 = .ok (.aload_n 1, 1) := by decide +kernel
theorem dX10_init_33 : decode mX10_init.2.1 33 = .ok (.putfield 29, 3) := by decide +kernel
theorem dX10_init_36 : decode mX10_init.2.1 36 = .ok (.return_, 1) := by decide +kernel
def pWo (π : Nat → Nat → Nat) (a b n : Nat) : Nat → Nat → Nat := (pw (pw (pSe (pw (pSt π n) a 1 (n + 1)) (n + 8)) a 2 ((n + 8) + 1)) a 0 (b + 1))
set_option maxRecDepth 4000 in
theorem evc_X10 {π : Nat → Nat → Nat} {m : Mem} {a b n : Nat} (ho : ob a 10) (han : a < n) (hbn : b < n) (hst : isSt n) (hse : isSe (n + 8)) (hz : ∀ i : Int, m a i = 0) : EvC 13 2 mX10_init [vr a, vr b] (n, π, m) (fun _ w' => w' = ((n + 13), pWo π a b n, m)) := by
  refine EvC.of (L := [vr a, vr b]) (by decide +kernel) (Nat.le_of_ble_eq_true rfl) rfl (fun t ht => by cases ht) (fun t ht => by cases ht) (fun hcan => ?_)
  refine gc_aload_n dX10_init_0 rfl ?_
  show Gc 13 2 mX10_init _ 1 [vr a, vr b] [vr a] (n, π, m)
  refine gc_obj dX10_init_1 oj_10 ob_in ob_co (by decide) (Nat.le_of_ble_eq_true rfl) ?_
  show Gc 13 2 mX10_init _ 4 [vr a, vr b] [] (n, π, m)
  refine gc_aload_n dX10_init_4 rfl ?_
  show Gc 13 2 mX10_init _ 5 [vr a, vr b] [vr a] (n, π, m)
  refine gc_new dX10_init_5 nw_10_9 (fun j _ => tg_6 j) hst.o (by first | rfl | (simp only [okA, List.all_cons, List.all_nil, Bool.and_true, Bool.or_eq_true, Bool.and_eq_true, decide_eq_true_eq]; omega)) (by first | rfl | (simp only [okA, List.all_cons, List.all_nil, Bool.and_true, Bool.or_eq_true, Bool.and_eq_true, decide_eq_true_eq]; omega)) (fun hz1 => ?_)
  show Gc 12 2 mX10_init _ 8 [vr a, vr b] [vr n, vr a] ((n + 1), π, m)
  refine gc_dup_r dX10_init_8 ?_
  show Gc 12 2 mX10_init _ 9 [vr a, vr b] [vr n, vr n, vr a] ((n + 1), π, m)
  refine gc_callI (as := []) (S := [vr n, vr a]) (b := n) (evc_X6 (a := n) (m := m) hst (fun i => hz1 i)) dX10_init_9 ci_10_11 rfl rfl (by decide) (Nat.le_of_ble_eq_true rfl) (by decide) (fun _ _ h => by rw [h]; show (n + 1) ≤ (n + 8); omega) (by first | rfl | (simp only [okA, List.all_cons, List.all_nil, Bool.and_true, Bool.or_eq_true, Bool.and_eq_true, decide_eq_true_eq]; omega)) (by first | rfl | (simp only [okA, List.all_cons, List.all_nil, Bool.and_true, Bool.or_eq_true, Bool.and_eq_true, decide_eq_true_eq]; omega)) (fun r9 w9 hq9 _ => ?_)
  subst hq9
  show Gc 5 2 mX10_init _ 12 [vr a, vr b] [vr n, vr a] ((n + 8), (pSt π n), m)
  refine gc_putP dX10_init_12 fl_10_12 ff_10_12 rfl fk_10_12 ho (show a < (n + 8) by omega) (show n < (n + 8) by omega) rfl ?_
  show Gc 5 2 mX10_init _ 15 [vr a, vr b] [] ((n + 8), (pw (pSt π n) a 1 (n + 1)), m)
  refine gc_aload_n dX10_init_15 rfl ?_
  show Gc 5 2 mX10_init _ 16 [vr a, vr b] [vr a] ((n + 8), (pw (pSt π n) a 1 (n + 1)), m)
  refine gc_new dX10_init_16 nw_10_18 (fun j _ => tg_5 j) hse.o (by first | rfl | (simp only [okA, List.all_cons, List.all_nil, Bool.and_true, Bool.or_eq_true, Bool.and_eq_true, decide_eq_true_eq]; omega)) (by first | rfl | (simp only [okA, List.all_cons, List.all_nil, Bool.and_true, Bool.or_eq_true, Bool.and_eq_true, decide_eq_true_eq]; omega)) (fun hz2 => ?_)
  show Gc 4 2 mX10_init _ 19 [vr a, vr b] [vr (n + 8), vr a] ((n + 9), (pw (pSt π n) a 1 (n + 1)), m)
  refine gc_dup_r dX10_init_19 ?_
  show Gc 4 2 mX10_init _ 20 [vr a, vr b] [vr (n + 8), vr (n + 8), vr a] ((n + 9), (pw (pSt π n) a 1 (n + 1)), m)
  refine gc_callI (as := []) (S := [vr (n + 8), vr a]) (b := (n + 8)) (evc_X5 (a := (n + 8)) (m := m) hse (fun i => hz2 i)) dX10_init_20 ci_10_20 rfl rfl (by decide) (Nat.le_of_ble_eq_true rfl) (by decide) (fun _ _ h => by rw [h]; show (n + 9) ≤ (n + 13); omega) (by first | rfl | (simp only [okA, List.all_cons, List.all_nil, Bool.and_true, Bool.or_eq_true, Bool.and_eq_true, decide_eq_true_eq]; omega)) (by first | rfl | (simp only [okA, List.all_cons, List.all_nil, Bool.and_true, Bool.or_eq_true, Bool.and_eq_true, decide_eq_true_eq]; omega)) (fun r9 w9 hq9 _ => ?_)
  subst hq9
  show Gc 0 2 mX10_init _ 23 [vr a, vr b] [vr (n + 8), vr a] ((n + 13), (pSe (pw (pSt π n) a 1 (n + 1)) (n + 8)), m)
  refine gc_putP dX10_init_23 fl_10_21 ff_10_21 rfl fk_10_21 ho (show a < (n + 13) by omega) (show (n + 8) < (n + 13) by omega) rfl ?_
  show Gc 0 2 mX10_init _ 26 [vr a, vr b] [] ((n + 13), (pw (pSe (pw (pSt π n) a 1 (n + 1)) (n + 8)) a 2 ((n + 8) + 1)), m)
  refine gc_aload_n dX10_init_26 rfl ?_
  show Gc 0 2 mX10_init _ 27 [vr a, vr b] [vr a] ((n + 13), (pw (pSe (pw (pSt π n) a 1 (n + 1)) (n + 8)) a 2 ((n + 8) + 1)), m)
  refine gc_iconst dX10_init_27 ?_
  show Gc 0 2 mX10_init _ 28 [vr a, vr b] [vi 0, vr a] ((n + 13), (pw (pSe (pw (pSt π n) a 1 (n + 1)) (n + 8)) a 2 ((n + 8) + 1)), m)
  refine gc_put0 dX10_init_28 fw_10_25 ho (show a < (n + 13) by omega) (Or.inl ⟨rfl, Or.inl rfl⟩) (by first | exact hz _ | (dsimp only; rw [wr_ni (by omega), wr_ni (by omega)]; exact hz _)) ?_
  show Gc 0 2 mX10_init _ 31 [vr a, vr b] [] ((n + 13), (pw (pSe (pw (pSt π n) a 1 (n + 1)) (n + 8)) a 2 ((n + 8) + 1)), m)
  refine gc_aload_n dX10_init_31 rfl ?_
  show Gc 0 2 mX10_init _ 32 [vr a, vr b] [vr a] ((n + 13), (pw (pSe (pw (pSt π n) a 1 (n + 1)) (n + 8)) a 2 ((n + 8) + 1)), m)
  refine gc_aload_n dX10_init_32 rfl ?_
  show Gc 0 2 mX10_init _ 33 [vr a, vr b] [vr b, vr a] ((n + 13), (pw (pSe (pw (pSt π n) a 1 (n + 1)) (n + 8)) a 2 ((n + 8) + 1)), m)
  refine gc_putP dX10_init_33 fl_10_29 ff_10_29 rfl fk_10_29 ho (show a < (n + 13) by omega) (show b < (n + 13) by omega) rfl ?_
  show Gc 0 2 mX10_init _ 36 [vr a, vr b] [] ((n + 13), (pw (pw (pSe (pw (pSt π n) a 1 (n + 1)) (n + 8)) a 2 ((n + 8) + 1)) a 0 (b + 1)), m)
  exact gc_ret (v := 0) rfl dX10_init_36 rfl rfl
theorem dX7_init_0 : decode mX7_init.2.1 0 = .ok (.aload_n 0, 1) := by decide +kernel
theorem dX7_init_1 : decode mX7_init.2.1 1 = .ok (.invokespecial 3, 3) := by decide +kernel
theorem dX7_init_4 : decode mX7_init.2.1 4 = .ok (.aload_n 0, 1) := by decide +kernel
theorem dX7_init_5 : decode mX7_init.2.1 5 = .ok (.sipush 940, 3) := by decide +kernel
theorem dX7_init_8 : decode mX7_init.2.1 8 = .ok (.newarray .byte, 2) := by decide +kernel
theorem dX7_init_10 : decode mX7_init.2.1 10 = .ok (.putfield 9, 3) := by decide +kernel
theorem dX7_init_13 : decode mX7_init.2.1 13 = .ok (.aload_n 0, 1) := by decide +kernel
theorem dX7_init_14 : decode mX7_init.2.1 14 = .ok (.iconst 0, 1) := by decide +kernel
theorem dX7_init_15 : decode mX7_init.2.1 15 = .ok (.putfield 15, 3) := by decide +kernel
theorem dX7_init_18 : decode mX7_init.2.1 18 = .ok (.aload_n 0, 1) := by decide +kernel
theorem dX7_init_19 : decode mX7_init.2.1 19 = .ok (.iconst 0, 1) := by decide +kernel
theorem dX7_init_20 : decode mX7_init.2.1 20 = .ok (.putfield 19, 3) := by decide +kernel
theorem dX7_init_23 : decode mX7_init.2.1 23 = .ok (.aload_n 0, 1) := by decide +kernel
theorem dX7_init_24 : decode mX7_init.2.1 24 = .ok (.iconst 0, 1) := by decide +kernel
theorem dX7_init_25 : decode mX7_init.2.1 25 = .ok (.putfield 22, 3) := by decide +kernel
theorem dX7_init_28 : decode mX7_init.2.1 28 = .ok (.aload_n 0, 1) := by decide +kernel
theorem dX7_init_29 : decode mX7_init.2.1 29 = .ok (.iconst 0, 1) := by decide +kernel
theorem dX7_init_30 : decode mX7_init.2.1 30 = .ok (.putfield 25, 3) := by decide +kernel
theorem dX7_init_33 : decode mX7_init.2.1 33 = .ok (.aload_n 0, 1) := by decide +kernel
theorem dX7_init_34 : decode mX7_init.2.1 34 = .ok (.lconst 0, 1) := by decide +kernel
theorem dX7_init_35 : decode mX7_init.2.1 35 = .ok (.putfield 28, 3) := by decide +kernel
theorem dX7_init_38 : decode mX7_init.2.1 38 = .ok (.aload_n 0, 1) := by decide +kernel
theorem dX7_init_39 : decode mX7_init.2.1 39 = .ok (.iconst 0, 1) := by decide +kernel
theorem dX7_init_40 : decode mX7_init.2.1 40 = .ok (.putfield 32, 3) := by decide +kernel
theorem dX7_init_43 : decode mX7_init.2.1 43 = .ok (.aload_n 0, 1) := by decide +kernel
theorem dX7_init_44 : decode mX7_init.2.1 44 = .ok (.invokestatic 35, 3) := by decide +kernel
theorem dX7_init_47 : decode mX7_init.2.1 47 = .ok (.putfield 39, 3) := by decide +kernel
theorem dX7_init_50 : decode mX7_init.2.1 50 = .ok (.aload_n 0, 1) := by decide +kernel
theorem dX7_init_51 : decode mX7_init.2.1 51 = .ok (.sipush 901, 3) := by decide +kernel
theorem dX7_init_54 : decode mX7_init.2.1 54 = .ok (.newarray .int, 2) := by decide +kernel
theorem dX7_init_56 : decode mX7_init.2.1 56 = .ok (.putfield 43, 3) := by decide +kernel
theorem dX7_init_59 : decode mX7_init.2.1 59 = .ok (.aload_n 0, 1) := by decide +kernel
theorem dX7_init_60 : decode mX7_init.2.1 60 = .ok (.sipush 901, 3) := by decide +kernel
theorem dX7_init_63 : decode mX7_init.2.1 63 = .ok (.newarray .int, 2) := by decide +kernel
theorem dX7_init_65 : decode mX7_init.2.1 65 = .ok (.putfield 47, 3) := by decide +kernel
theorem dX7_init_68 : decode mX7_init.2.1 68 = .ok (.aload_n 0, 1) := by decide +kernel
theorem dX7_init_69 : decode mX7_init.2.1 69 = .ok (.sipush 901, 3) := by decide +kernel
theorem dX7_init_72 : decode mX7_init.2.1 72 = .ok (.newarray .long, 2) := by decide +kernel
theorem dX7_init_74 : decode mX7_init.2.1 74 = .ok (.putfield 50, 3) := by decide +kernel
theorem dX7_init_77 : decode mX7_init.2.1 77 = .ok (.aload_n 0, 1) := by decide +kernel
theorem dX7_init_78 : decode mX7_init.2.1 78 = .ok (.iconst 0, 1) := by decide +kernel
theorem dX7_init_79 : decode mX7_init.2.1 79 = .ok (.putfield 53, 3) := by decide +kernel
theorem dX7_init_82 : decode mX7_init.2.1 82 = .ok (.aload_n 0, 1) := by decide +kernel
theorem dX7_init_83 : decode mX7_init.2.1 83 = .ok (.iconst 0, 1) := by decide +kernel
theorem dX7_init_84 : decode mX7_init.2.1 84 = .ok (.putfield 56, 3) := by decide +kernel
theorem dX7_init_87 : decode mX7_init.2.1 87 = .ok (.aload_n 0, 1) := by decide +kernel
theorem dX7_init_88 : decode mX7_init.2.1 88 = .ok (.iconst 0, 1) := by decide +kernel
theorem dX7_init_89 : decode mX7_init.2.1 89 = .ok (.putfield 59, 3) := by decide +kernel
theorem dX7_init_92 : decode mX7_init.2.1 92 = .ok (.return_, 1) := by decide +kernel
def pTp (π : Nat → Nat → Nat) : Nat → Nat → Nat := (pw (pw (pw (pw (pw π 1 0 (2 + 1)) 1 7 (3 + 1)) 1 8 (4 + 1)) 1 9 (5 + 1)) 1 10 (6 + 1))
def mTp (m : Mem) : Mem := (pkM m 137)
set_option maxRecDepth 4000 in
theorem evc_X7 {π : Nat → Nat → Nat} {m : Mem}  (hz : ∀ i : Int, m 1 i = 0) : EvC 5 7 mX7_init [vr 1] (2, π, m) (fun _ w' => w' = (7, pTp π, (mTp m))) := by
  refine EvC.of (L := [vr 1]) (by decide +kernel) (Nat.le_of_ble_eq_true rfl) rfl (fun t ht => by cases ht) (fun t ht => by cases ht) (fun hcan => ?_)
  refine gc_aload_n dX7_init_0 rfl ?_
  show Gc 5 7 mX7_init _ 1 [vr 1] [vr 1] (2, π, m)
  refine gc_obj dX7_init_1 oj_7 ob_in ob_co (by decide) (Nat.le_of_ble_eq_true rfl) ?_
  show Gc 5 7 mX7_init _ 4 [vr 1] [] (2, π, m)
  refine gc_aload_n dX7_init_4 rfl ?_
  show Gc 5 7 mX7_init _ 5 [vr 1] [vr 1] (2, π, m)
  refine gc_sipush dX7_init_5 (by decide) ?_
  show Gc 5 7 mX7_init _ 8 [vr 1] [vi 940, vr 1] (2, π, m)
  refine gc_newI (kd := 1) (N := 940) dX7_init_8 rfl (Or.inr (Or.inl rfl)) aw_1 ar_2 (by decide) rfl (by first | rfl | (simp only [okA, List.all_cons, List.all_nil, Bool.and_true, Bool.or_eq_true, Bool.and_eq_true, decide_eq_true_eq]; omega)) (by first | rfl | (simp only [okA, List.all_cons, List.all_nil, Bool.and_true, Bool.or_eq_true, Bool.and_eq_true, decide_eq_true_eq]; omega)) (fun hz1 => ?_)
  show Gc 4 7 mX7_init _ 10 [vr 1] [vr 2, vr 1] (3, π, m)
  refine gc_putP dX7_init_10 fl_7_9 ff_7_9 rfl fk_7_9 ob_1 (show 1 < 3 by omega) (show 2 < 3 by omega) rfl ?_
  show Gc 4 7 mX7_init _ 13 [vr 1] [] (3, (pw π 1 0 (2 + 1)), m)
  refine gc_aload_n dX7_init_13 rfl ?_
  show Gc 4 7 mX7_init _ 14 [vr 1] [vr 1] (3, (pw π 1 0 (2 + 1)), m)
  refine gc_iconst dX7_init_14 ?_
  show Gc 4 7 mX7_init _ 15 [vr 1] [vi 0, vr 1] (3, (pw π 1 0 (2 + 1)), m)
  refine gc_put0 dX7_init_15 fw_7_15 ob_1 (show 1 < 3 by omega) (Or.inl ⟨rfl, Or.inl rfl⟩) (by first | exact hz _ | (dsimp only; rw [wr_ni (by omega), wr_ni (by omega)]; exact hz _)) ?_
  show Gc 4 7 mX7_init _ 18 [vr 1] [] (3, (pw π 1 0 (2 + 1)), m)
  refine gc_aload_n dX7_init_18 rfl ?_
  show Gc 4 7 mX7_init _ 19 [vr 1] [vr 1] (3, (pw π 1 0 (2 + 1)), m)
  refine gc_iconst dX7_init_19 ?_
  show Gc 4 7 mX7_init _ 20 [vr 1] [vi 0, vr 1] (3, (pw π 1 0 (2 + 1)), m)
  refine gc_put0 dX7_init_20 fw_7_19 ob_1 (show 1 < 3 by omega) (Or.inl ⟨rfl, Or.inl rfl⟩) (by first | exact hz _ | (dsimp only; rw [wr_ni (by omega), wr_ni (by omega)]; exact hz _)) ?_
  show Gc 4 7 mX7_init _ 23 [vr 1] [] (3, (pw π 1 0 (2 + 1)), m)
  refine gc_aload_n dX7_init_23 rfl ?_
  show Gc 4 7 mX7_init _ 24 [vr 1] [vr 1] (3, (pw π 1 0 (2 + 1)), m)
  refine gc_iconst dX7_init_24 ?_
  show Gc 4 7 mX7_init _ 25 [vr 1] [vi 0, vr 1] (3, (pw π 1 0 (2 + 1)), m)
  refine gc_put0 dX7_init_25 fw_7_22 ob_1 (show 1 < 3 by omega) (Or.inl ⟨rfl, Or.inl rfl⟩) (by first | exact hz _ | (dsimp only; rw [wr_ni (by omega), wr_ni (by omega)]; exact hz _)) ?_
  show Gc 4 7 mX7_init _ 28 [vr 1] [] (3, (pw π 1 0 (2 + 1)), m)
  refine gc_aload_n dX7_init_28 rfl ?_
  show Gc 4 7 mX7_init _ 29 [vr 1] [vr 1] (3, (pw π 1 0 (2 + 1)), m)
  refine gc_iconst dX7_init_29 ?_
  show Gc 4 7 mX7_init _ 30 [vr 1] [vi 0, vr 1] (3, (pw π 1 0 (2 + 1)), m)
  refine gc_put0 dX7_init_30 fw_7_25 ob_1 (show 1 < 3 by omega) (Or.inl ⟨rfl, Or.inl rfl⟩) (by first | exact hz _ | (dsimp only; rw [wr_ni (by omega), wr_ni (by omega)]; exact hz _)) ?_
  show Gc 4 7 mX7_init _ 33 [vr 1] [] (3, (pw π 1 0 (2 + 1)), m)
  refine gc_aload_n dX7_init_33 rfl ?_
  show Gc 4 7 mX7_init _ 34 [vr 1] [vr 1] (3, (pw π 1 0 (2 + 1)), m)
  refine gc_lconst (z := 0) dX7_init_34 rfl ?_
  show Gc 4 7 mX7_init _ 35 [vr 1] [vl 0, vr 1] (3, (pw π 1 0 (2 + 1)), m)
  refine gc_put0 dX7_init_35 fw_7_28 ob_1 (show 1 < 3 by omega) (Or.inr ⟨rfl, rfl⟩) (by first | exact hz _ | (dsimp only; rw [wr_ni (by omega), wr_ni (by omega)]; exact hz _)) ?_
  show Gc 4 7 mX7_init _ 38 [vr 1] [] (3, (pw π 1 0 (2 + 1)), m)
  refine gc_aload_n dX7_init_38 rfl ?_
  show Gc 4 7 mX7_init _ 39 [vr 1] [vr 1] (3, (pw π 1 0 (2 + 1)), m)
  refine gc_iconst dX7_init_39 ?_
  show Gc 4 7 mX7_init _ 40 [vr 1] [vi 0, vr 1] (3, (pw π 1 0 (2 + 1)), m)
  refine gc_put0 dX7_init_40 fw_7_32 ob_1 (show 1 < 3 by omega) (Or.inl ⟨rfl, Or.inl rfl⟩) (by first | exact hz _ | (dsimp only; rw [wr_ni (by omega), wr_ni (by omega)]; exact hz _)) ?_
  show Gc 4 7 mX7_init _ 43 [vr 1] [] (3, (pw π 1 0 (2 + 1)), m)
  refine gc_aload_n dX7_init_43 rfl ?_
  show Gc 4 7 mX7_init _ 44 [vr 1] [vr 1] (3, (pw π 1 0 (2 + 1)), m)
  refine gc_callS (as := []) (S := [vr 1]) (evc_pack (m := m) (fun i => (hcan.2.2.1 3 (show 2 ≤ 3 by decide)).2 i)) dX7_init_44 cs_7_35 rfl rfl (by decide) (Nat.le_of_ble_eq_true rfl) (by decide) (fun _ _ h => by rw [h.2]; show 3 ≤ 4; omega) (by first | rfl | (simp only [okA, List.all_cons, List.all_nil, Bool.and_true, Bool.or_eq_true, Bool.and_eq_true, decide_eq_true_eq]; omega)) (by first | rfl | (simp only [okA, List.all_cons, List.all_nil, Bool.and_true, Bool.or_eq_true, Bool.and_eq_true, decide_eq_true_eq]; omega)) (fun r9 w9 hq9 _ => ?_)
  obtain ⟨rfl, rfl⟩ := hq9
  show Gc 3 7 mX7_init _ 47 [vr 1] [vr 3, vr 1] (4, (pw π 1 0 (2 + 1)), (pkM m 137))
  refine gc_putP dX7_init_47 fl_7_39 ff_7_39 rfl fk_7_39 ob_1 (show 1 < 4 by omega) (show 3 < 4 by omega) rfl ?_
  show Gc 3 7 mX7_init _ 50 [vr 1] [] (4, (pw (pw π 1 0 (2 + 1)) 1 7 (3 + 1)), (pkM m 137))
  refine gc_aload_n dX7_init_50 rfl ?_
  show Gc 3 7 mX7_init _ 51 [vr 1] [vr 1] (4, (pw (pw π 1 0 (2 + 1)) 1 7 (3 + 1)), (pkM m 137))
  refine gc_sipush dX7_init_51 (by decide) ?_
  show Gc 3 7 mX7_init _ 54 [vr 1] [vi 901, vr 1] (4, (pw (pw π 1 0 (2 + 1)) 1 7 (3 + 1)), (pkM m 137))
  refine gc_newI (kd := 0) (N := 901) dX7_init_54 rfl (Or.inl rfl) aw_0 ar_4 (by decide) rfl (by first | rfl | (simp only [okA, List.all_cons, List.all_nil, Bool.and_true, Bool.or_eq_true, Bool.and_eq_true, decide_eq_true_eq]; omega)) (by first | rfl | (simp only [okA, List.all_cons, List.all_nil, Bool.and_true, Bool.or_eq_true, Bool.and_eq_true, decide_eq_true_eq]; omega)) (fun hz2 => ?_)
  show Gc 2 7 mX7_init _ 56 [vr 1] [vr 4, vr 1] (5, (pw (pw π 1 0 (2 + 1)) 1 7 (3 + 1)), (pkM m 137))
  refine gc_putP dX7_init_56 fl_7_43 ff_7_43 rfl fk_7_43 ob_1 (show 1 < 5 by omega) (show 4 < 5 by omega) rfl ?_
  show Gc 2 7 mX7_init _ 59 [vr 1] [] (5, (pw (pw (pw π 1 0 (2 + 1)) 1 7 (3 + 1)) 1 8 (4 + 1)), (pkM m 137))
  refine gc_aload_n dX7_init_59 rfl ?_
  show Gc 2 7 mX7_init _ 60 [vr 1] [vr 1] (5, (pw (pw (pw π 1 0 (2 + 1)) 1 7 (3 + 1)) 1 8 (4 + 1)), (pkM m 137))
  refine gc_sipush dX7_init_60 (by decide) ?_
  show Gc 2 7 mX7_init _ 63 [vr 1] [vi 901, vr 1] (5, (pw (pw (pw π 1 0 (2 + 1)) 1 7 (3 + 1)) 1 8 (4 + 1)), (pkM m 137))
  refine gc_newI (kd := 0) (N := 901) dX7_init_63 rfl (Or.inl rfl) aw_0 ar_5 (by decide) rfl (by first | rfl | (simp only [okA, List.all_cons, List.all_nil, Bool.and_true, Bool.or_eq_true, Bool.and_eq_true, decide_eq_true_eq]; omega)) (by first | rfl | (simp only [okA, List.all_cons, List.all_nil, Bool.and_true, Bool.or_eq_true, Bool.and_eq_true, decide_eq_true_eq]; omega)) (fun hz3 => ?_)
  show Gc 1 7 mX7_init _ 65 [vr 1] [vr 5, vr 1] (6, (pw (pw (pw π 1 0 (2 + 1)) 1 7 (3 + 1)) 1 8 (4 + 1)), (pkM m 137))
  refine gc_putP dX7_init_65 fl_7_47 ff_7_47 rfl fk_7_47 ob_1 (show 1 < 6 by omega) (show 5 < 6 by omega) rfl ?_
  show Gc 1 7 mX7_init _ 68 [vr 1] [] (6, (pw (pw (pw (pw π 1 0 (2 + 1)) 1 7 (3 + 1)) 1 8 (4 + 1)) 1 9 (5 + 1)), (pkM m 137))
  refine gc_aload_n dX7_init_68 rfl ?_
  show Gc 1 7 mX7_init _ 69 [vr 1] [vr 1] (6, (pw (pw (pw (pw π 1 0 (2 + 1)) 1 7 (3 + 1)) 1 8 (4 + 1)) 1 9 (5 + 1)), (pkM m 137))
  refine gc_sipush dX7_init_69 (by decide) ?_
  show Gc 1 7 mX7_init _ 72 [vr 1] [vi 901, vr 1] (6, (pw (pw (pw (pw π 1 0 (2 + 1)) 1 7 (3 + 1)) 1 8 (4 + 1)) 1 9 (5 + 1)), (pkM m 137))
  refine gc_newJ (kd := 3) (N := 901) dX7_init_72 rfl rfl aw_3 ar_6 (by decide) rfl (by first | rfl | (simp only [okA, List.all_cons, List.all_nil, Bool.and_true, Bool.or_eq_true, Bool.and_eq_true, decide_eq_true_eq]; omega)) (by first | rfl | (simp only [okA, List.all_cons, List.all_nil, Bool.and_true, Bool.or_eq_true, Bool.and_eq_true, decide_eq_true_eq]; omega)) (fun hz4 => ?_)
  show Gc 0 7 mX7_init _ 74 [vr 1] [vr 6, vr 1] (7, (pw (pw (pw (pw π 1 0 (2 + 1)) 1 7 (3 + 1)) 1 8 (4 + 1)) 1 9 (5 + 1)), (pkM m 137))
  refine gc_putP dX7_init_74 fl_7_50 ff_7_50 rfl fk_7_50 ob_1 (show 1 < 7 by omega) (show 6 < 7 by omega) rfl ?_
  show Gc 0 7 mX7_init _ 77 [vr 1] [] (7, (pw (pw (pw (pw (pw π 1 0 (2 + 1)) 1 7 (3 + 1)) 1 8 (4 + 1)) 1 9 (5 + 1)) 1 10 (6 + 1)), (pkM m 137))
  refine gc_aload_n dX7_init_77 rfl ?_
  show Gc 0 7 mX7_init _ 78 [vr 1] [vr 1] (7, (pw (pw (pw (pw (pw π 1 0 (2 + 1)) 1 7 (3 + 1)) 1 8 (4 + 1)) 1 9 (5 + 1)) 1 10 (6 + 1)), (pkM m 137))
  refine gc_iconst dX7_init_78 ?_
  show Gc 0 7 mX7_init _ 79 [vr 1] [vi 0, vr 1] (7, (pw (pw (pw (pw (pw π 1 0 (2 + 1)) 1 7 (3 + 1)) 1 8 (4 + 1)) 1 9 (5 + 1)) 1 10 (6 + 1)), (pkM m 137))
  refine gc_put0 dX7_init_79 fw_7_53 ob_1 (show 1 < 7 by omega) (Or.inl ⟨rfl, Or.inl rfl⟩) (by first | exact hz _ | (dsimp only; rw [wr_ni (by omega), wr_ni (by omega)]; exact hz _)) ?_
  show Gc 0 7 mX7_init _ 82 [vr 1] [] (7, (pw (pw (pw (pw (pw π 1 0 (2 + 1)) 1 7 (3 + 1)) 1 8 (4 + 1)) 1 9 (5 + 1)) 1 10 (6 + 1)), (pkM m 137))
  refine gc_aload_n dX7_init_82 rfl ?_
  show Gc 0 7 mX7_init _ 83 [vr 1] [vr 1] (7, (pw (pw (pw (pw (pw π 1 0 (2 + 1)) 1 7 (3 + 1)) 1 8 (4 + 1)) 1 9 (5 + 1)) 1 10 (6 + 1)), (pkM m 137))
  refine gc_iconst dX7_init_83 ?_
  show Gc 0 7 mX7_init _ 84 [vr 1] [vi 0, vr 1] (7, (pw (pw (pw (pw (pw π 1 0 (2 + 1)) 1 7 (3 + 1)) 1 8 (4 + 1)) 1 9 (5 + 1)) 1 10 (6 + 1)), (pkM m 137))
  refine gc_put0 dX7_init_84 fw_7_56 ob_1 (show 1 < 7 by omega) (Or.inl ⟨rfl, Or.inl rfl⟩) (by first | exact hz _ | (dsimp only; rw [wr_ni (by omega), wr_ni (by omega)]; exact hz _)) ?_
  show Gc 0 7 mX7_init _ 87 [vr 1] [] (7, (pw (pw (pw (pw (pw π 1 0 (2 + 1)) 1 7 (3 + 1)) 1 8 (4 + 1)) 1 9 (5 + 1)) 1 10 (6 + 1)), (pkM m 137))
  refine gc_aload_n dX7_init_87 rfl ?_
  show Gc 0 7 mX7_init _ 88 [vr 1] [vr 1] (7, (pw (pw (pw (pw (pw π 1 0 (2 + 1)) 1 7 (3 + 1)) 1 8 (4 + 1)) 1 9 (5 + 1)) 1 10 (6 + 1)), (pkM m 137))
  refine gc_iconst dX7_init_88 ?_
  show Gc 0 7 mX7_init _ 89 [vr 1] [vi 0, vr 1] (7, (pw (pw (pw (pw (pw π 1 0 (2 + 1)) 1 7 (3 + 1)) 1 8 (4 + 1)) 1 9 (5 + 1)) 1 10 (6 + 1)), (pkM m 137))
  refine gc_put0 dX7_init_89 fw_7_59 ob_1 (show 1 < 7 by omega) (Or.inl ⟨rfl, Or.inl rfl⟩) (by first | exact hz _ | (dsimp only; rw [wr_ni (by omega), wr_ni (by omega)]; exact hz _)) ?_
  show Gc 0 7 mX7_init _ 92 [vr 1] [] (7, (pw (pw (pw (pw (pw π 1 0 (2 + 1)) 1 7 (3 + 1)) 1 8 (4 + 1)) 1 9 (5 + 1)) 1 10 (6 + 1)), (pkM m 137))
  exact gc_ret (v := 0) rfl dX7_init_92 rfl rfl
theorem dX2_init_0 : decode mX2_init.2.1 0 = .ok (.aload_n 0, 1) := by decide +kernel
theorem dX2_init_1 : decode mX2_init.2.1 1 = .ok (.invokespecial 3, 3) := by decide +kernel
theorem dX2_init_4 : decode mX2_init.2.1 4 = .ok (.aload_n 0, 1) := by decide +kernel
theorem dX2_init_5 : decode mX2_init.2.1 5 = .ok (.new 9, 3) := by decide +kernel
theorem dX2_init_8 : decode mX2_init.2.1 8 = .ok (.dup, 1) := by decide +kernel
theorem dX2_init_9 : decode mX2_init.2.1 9 = .ok (.new 11, 3) := by decide +kernel
theorem dX2_init_12 : decode mX2_init.2.1 12 = .ok (.dup, 1) := by decide +kernel
theorem dX2_init_13 : decode mX2_init.2.1 13 = .ok (.invokespecial 13, 3) := by decide +kernel
theorem dX2_init_16 : decode mX2_init.2.1 16 = .ok (.invokespecial 14, 3) := by decide +kernel
theorem dX2_init_19 : decode mX2_init.2.1 19 = .ok (.putfield 17, 3) := by decide +kernel
theorem dX2_init_22 : decode mX2_init.2.1 22 = .ok (.aload_n 0, 1) := by decide +kernel
theorem dX2_init_23 : decode mX2_init.2.1 23 = .ok (.iconst 0, 1) := by decide +kernel
theorem dX2_init_24 : decode mX2_init.2.1 24 = .ok (.putfield 23, 3) := by decide +kernel
theorem dX2_init_27 : decode mX2_init.2.1 27 = .ok (.aload_n 0, 1) := by decide +kernel
theorem dX2_init_28 : decode mX2_init.2.1 28 = .ok (.iconst 0, 1) := by decide +kernel
theorem dX2_init_29 : decode mX2_init.2.1 29 = .ok (.putfield 27, 3) := by decide +kernel
theorem dX2_init_32 : decode mX2_init.2.1 32 = .ok (.aload_n 0, 1) := by decide +kernel
theorem dX2_init_33 : decode mX2_init.2.1 33 = .ok (.aload_n 1, 1) := by decide +kernel
theorem dX2_init_34 : decode mX2_init.2.1 34 = .ok (.putfield 30, 3) := by decide +kernel
theorem dX2_init_37 : decode mX2_init.2.1 37 = .ok (.return_, 1) := by decide +kernel
def pDt (π : Nat → Nat → Nat) : Nat → Nat → Nat := (pw (pw (pWo (pDn π 47) 46 47 57) 45 0 (46 + 1)) 45 1 (1 + 1))
def mDt (m : Mem) : Mem := (mDn m 47)
set_option maxRecDepth 4000 in
theorem evc_X2 {π : Nat → Nat → Nat} {m : Mem}  (hz : ∀ i : Int, m 45 i = 0) : EvC 24 3 mX2_init [vr 45, vr 1] (46, π, m) (fun _ w' => w' = (70, pDt π, (mDt m))) := by
  refine EvC.of (L := [vr 45, vr 1]) (by decide +kernel) (Nat.le_of_ble_eq_true rfl) rfl (fun t ht => by cases ht) (fun t ht => by cases ht) (fun hcan => ?_)
  refine gc_aload_n dX2_init_0 rfl ?_
  show Gc 24 3 mX2_init _ 1 [vr 45, vr 1] [vr 45] (46, π, m)
  refine gc_obj dX2_init_1 oj_2 ob_in ob_co (by decide) (Nat.le_of_ble_eq_true rfl) ?_
  show Gc 24 3 mX2_init _ 4 [vr 45, vr 1] [] (46, π, m)
  refine gc_aload_n dX2_init_4 rfl ?_
  show Gc 24 3 mX2_init _ 5 [vr 45, vr 1] [vr 45] (46, π, m)
  refine gc_new dX2_init_5 nw_2_9 (fun j _ => tg_10 j) ob_46 (by first | rfl | (simp only [okA, List.all_cons, List.all_nil, Bool.and_true, Bool.or_eq_true, Bool.and_eq_true, decide_eq_true_eq]; omega)) (by first | rfl | (simp only [okA, List.all_cons, List.all_nil, Bool.and_true, Bool.or_eq_true, Bool.and_eq_true, decide_eq_true_eq]; omega)) (fun hz1 => ?_)
  show Gc 23 3 mX2_init _ 8 [vr 45, vr 1] [vr 46, vr 45] (47, π, m)
  refine gc_dup_r dX2_init_8 ?_
  show Gc 23 3 mX2_init _ 9 [vr 45, vr 1] [vr 46, vr 46, vr 45] (47, π, m)
  refine gc_new dX2_init_9 nw_2_11 (fun j _ => tg_1 j) ob_47 (by first | rfl | (simp only [okA, List.all_cons, List.all_nil, Bool.and_true, Bool.or_eq_true, Bool.and_eq_true, decide_eq_true_eq]; omega)) (by first | rfl | (simp only [okA, List.all_cons, List.all_nil, Bool.and_true, Bool.or_eq_true, Bool.and_eq_true, decide_eq_true_eq]; omega)) (fun hz2 => ?_)
  show Gc 22 3 mX2_init _ 12 [vr 45, vr 1] [vr 47, vr 46, vr 46, vr 45] (48, π, m)
  refine gc_dup_r dX2_init_12 ?_
  show Gc 22 3 mX2_init _ 13 [vr 45, vr 1] [vr 47, vr 47, vr 46, vr 46, vr 45] (48, π, m)
  refine gc_callI (as := []) (S := [vr 47, vr 46, vr 46, vr 45]) (b := 47) (evc_X1 (a := 47) (m := m) isDn_47 (fun i => hz2 i)) dX2_init_13 ci_2_13 rfl rfl (by decide) (Nat.le_of_ble_eq_true rfl) (by decide) (fun _ _ h => by rw [h]; show 48 ≤ 57; omega) (by first | rfl | (simp only [okA, List.all_cons, List.all_nil, Bool.and_true, Bool.or_eq_true, Bool.and_eq_true, decide_eq_true_eq]; omega)) (by first | rfl | (simp only [okA, List.all_cons, List.all_nil, Bool.and_true, Bool.or_eq_true, Bool.and_eq_true, decide_eq_true_eq]; omega)) (fun r9 w9 hq9 _ => ?_)
  subst hq9
  show Gc 13 3 mX2_init _ 16 [vr 45, vr 1] [vr 47, vr 46, vr 46, vr 45] (57, (pDn π 47), (mDn m 47))
  refine gc_callI (as := [vr 47]) (S := [vr 46, vr 45]) (b := 46) (evc_X10 (a := 46) (b := 47) (n := 57) (m := (mDn m 47)) ob_46 (by decide) (by decide) isSt_57 isSe_65 (fun i => hz1 i)) dX2_init_16 ci_2_14 rfl rfl (by decide) (Nat.le_of_ble_eq_true rfl) (by decide) (fun _ _ h => by rw [h]; show 57 ≤ 70; omega) (by first | rfl | (simp only [okA, List.all_cons, List.all_nil, Bool.and_true, Bool.or_eq_true, Bool.and_eq_true, decide_eq_true_eq]; omega)) (by first | rfl | (simp only [okA, List.all_cons, List.all_nil, Bool.and_true, Bool.or_eq_true, Bool.and_eq_true, decide_eq_true_eq]; omega)) (fun r9 w9 hq9 _ => ?_)
  subst hq9
  show Gc 0 3 mX2_init _ 19 [vr 45, vr 1] [vr 46, vr 45] (70, (pWo (pDn π 47) 46 47 57), (mDn m 47))
  refine gc_putP dX2_init_19 fl_2_17 ff_2_17 rfl fk_2_17 ob_45 (show 45 < 70 by omega) (show 46 < 70 by omega) rfl ?_
  show Gc 0 3 mX2_init _ 22 [vr 45, vr 1] [] (70, (pw (pWo (pDn π 47) 46 47 57) 45 0 (46 + 1)), (mDn m 47))
  refine gc_aload_n dX2_init_22 rfl ?_
  show Gc 0 3 mX2_init _ 23 [vr 45, vr 1] [vr 45] (70, (pw (pWo (pDn π 47) 46 47 57) 45 0 (46 + 1)), (mDn m 47))
  refine gc_iconst dX2_init_23 ?_
  show Gc 0 3 mX2_init _ 24 [vr 45, vr 1] [vi 0, vr 45] (70, (pw (pWo (pDn π 47) 46 47 57) 45 0 (46 + 1)), (mDn m 47))
  refine gc_put0 dX2_init_24 fw_2_23 ob_45 (show 45 < 70 by omega) (Or.inl ⟨rfl, Or.inr rfl⟩) (by first | exact hz _ | (dsimp only; rw [wr_ni (by omega), wr_ni (by omega)]; exact hz _)) ?_
  show Gc 0 3 mX2_init _ 27 [vr 45, vr 1] [] (70, (pw (pWo (pDn π 47) 46 47 57) 45 0 (46 + 1)), (mDn m 47))
  refine gc_aload_n dX2_init_27 rfl ?_
  show Gc 0 3 mX2_init _ 28 [vr 45, vr 1] [vr 45] (70, (pw (pWo (pDn π 47) 46 47 57) 45 0 (46 + 1)), (mDn m 47))
  refine gc_iconst dX2_init_28 ?_
  show Gc 0 3 mX2_init _ 29 [vr 45, vr 1] [vi 0, vr 45] (70, (pw (pWo (pDn π 47) 46 47 57) 45 0 (46 + 1)), (mDn m 47))
  refine gc_put0 dX2_init_29 fw_2_27 ob_45 (show 45 < 70 by omega) (Or.inl ⟨rfl, Or.inr rfl⟩) (by first | exact hz _ | (dsimp only; rw [wr_ni (by omega), wr_ni (by omega)]; exact hz _)) ?_
  show Gc 0 3 mX2_init _ 32 [vr 45, vr 1] [] (70, (pw (pWo (pDn π 47) 46 47 57) 45 0 (46 + 1)), (mDn m 47))
  refine gc_aload_n dX2_init_32 rfl ?_
  show Gc 0 3 mX2_init _ 33 [vr 45, vr 1] [vr 45] (70, (pw (pWo (pDn π 47) 46 47 57) 45 0 (46 + 1)), (mDn m 47))
  refine gc_aload_n dX2_init_33 rfl ?_
  show Gc 0 3 mX2_init _ 34 [vr 45, vr 1] [vr 1, vr 45] (70, (pw (pWo (pDn π 47) 46 47 57) 45 0 (46 + 1)), (mDn m 47))
  refine gc_putP dX2_init_34 fl_2_30 ff_2_30 rfl fk_2_30 ob_45 (show 45 < 70 by omega) (show 1 < 70 by omega) rfl ?_
  show Gc 0 3 mX2_init _ 37 [vr 45, vr 1] [] (70, (pw (pw (pWo (pDn π 47) 46 47 57) 45 0 (46 + 1)) 45 1 (1 + 1)), (mDn m 47))
  exact gc_ret (v := 0) rfl dX2_init_37 rfl rfl
theorem dX0_init_0 : decode mX0_init.2.1 0 = .ok (.aload_n 0, 1) := by decide +kernel
theorem dX0_init_1 : decode mX0_init.2.1 1 = .ok (.invokespecial 3, 3) := by decide +kernel
theorem dX0_init_4 : decode mX0_init.2.1 4 = .ok (.aload_n 0, 1) := by decide +kernel
theorem dX0_init_5 : decode mX0_init.2.1 5 = .ok (.iconst 0, 1) := by decide +kernel
theorem dX0_init_6 : decode mX0_init.2.1 6 = .ok (.putfield 9, 3) := by decide +kernel
theorem dX0_init_9 : decode mX0_init.2.1 9 = .ok (.aload_n 0, 1) := by decide +kernel
theorem dX0_init_10 : decode mX0_init.2.1 10 = .ok (.iconst 0, 1) := by decide +kernel
theorem dX0_init_11 : decode mX0_init.2.1 11 = .ok (.putfield 15, 3) := by decide +kernel
theorem dX0_init_14 : decode mX0_init.2.1 14 = .ok (.aload_n 0, 1) := by decide +kernel
theorem dX0_init_15 : decode mX0_init.2.1 15 = .ok (.iconst 0, 1) := by decide +kernel
theorem dX0_init_16 : decode mX0_init.2.1 16 = .ok (.putfield 19, 3) := by decide +kernel
theorem dX0_init_19 : decode mX0_init.2.1 19 = .ok (.aload_n 0, 1) := by decide +kernel
theorem dX0_init_20 : decode mX0_init.2.1 20 = .ok (.iconst 0, 1) := by decide +kernel
theorem dX0_init_21 : decode mX0_init.2.1 21 = .ok (.putfield 22, 3) := by decide +kernel
theorem dX0_init_24 : decode mX0_init.2.1 24 = .ok (.aload_n 0, 1) := by decide +kernel
theorem dX0_init_25 : decode mX0_init.2.1 25 = .ok (.iconst 0, 1) := by decide +kernel
theorem dX0_init_26 : decode mX0_init.2.1 26 = .ok (.putfield 25, 3) := by decide +kernel
theorem dX0_init_29 : decode mX0_init.2.1 29 = .ok (.aload_n 0, 1) := by decide +kernel
theorem dX0_init_30 : decode mX0_init.2.1 30 = .ok (.bipush 40, 2) := by decide +kernel
theorem dX0_init_32 : decode mX0_init.2.1 32 = .ok (.newarray .int, 2) := by decide +kernel
theorem dX0_init_34 : decode mX0_init.2.1 34 = .ok (.putfield 28, 3) := by decide +kernel
theorem dX0_init_37 : decode mX0_init.2.1 37 = .ok (.aload_n 0, 1) := by decide +kernel
theorem dX0_init_38 : decode mX0_init.2.1 38 = .ok (.bipush 40, 2) := by decide +kernel
theorem dX0_init_40 : decode mX0_init.2.1 40 = .ok (.newarray .int, 2) := by decide +kernel
theorem dX0_init_42 : decode mX0_init.2.1 42 = .ok (.putfield 32, 3) := by decide +kernel
theorem dX0_init_45 : decode mX0_init.2.1 45 = .ok (.aload_n 0, 1) := by decide +kernel
theorem dX0_init_46 : decode mX0_init.2.1 46 = .ok (.bipush 40, 2) := by decide +kernel
theorem dX0_init_48 : decode mX0_init.2.1 48 = .ok (.newarray .int, 2) := by decide +kernel
theorem dX0_init_50 : decode mX0_init.2.1 50 = .ok (.putfield 35, 3) := by decide +kernel
theorem dX0_init_53 : decode mX0_init.2.1 53 = .ok (.aload_n 0, 1) := by decide +kernel
theorem dX0_init_54 : decode mX0_init.2.1 54 = .ok (.bipush 40, 2) := by decide +kernel
theorem dX0_init_56 : decode mX0_init.2.1 56 = .ok (.newarray .int, 2) := by decide +kernel
theorem dX0_init_58 : decode mX0_init.2.1 58 = .ok (.putfield 38, 3) := by decide +kernel
theorem dX0_init_61 : decode mX0_init.2.1 61 = .ok (.aload_n 0, 1) := by decide +kernel
theorem dX0_init_62 : decode mX0_init.2.1 62 = .ok (.bipush 40, 2) := by decide +kernel
theorem dX0_init_64 : decode mX0_init.2.1 64 = .ok (.newarray .int, 2) := by decide +kernel
theorem dX0_init_66 : decode mX0_init.2.1 66 = .ok (.putfield 41, 3) := by decide +kernel
theorem dX0_init_69 : decode mX0_init.2.1 69 = .ok (.aload_n 0, 1) := by decide +kernel
theorem dX0_init_70 : decode mX0_init.2.1 70 = .ok (.iconst 0, 1) := by decide +kernel
theorem dX0_init_71 : decode mX0_init.2.1 71 = .ok (.putfield 44, 3) := by decide +kernel
theorem dX0_init_74 : decode mX0_init.2.1 74 = .ok (.aload_n 0, 1) := by decide +kernel
theorem dX0_init_75 : decode mX0_init.2.1 75 = .ok (.aload_n 1, 1) := by decide +kernel
theorem dX0_init_76 : decode mX0_init.2.1 76 = .ok (.putfield 47, 3) := by decide +kernel
theorem dX0_init_79 : decode mX0_init.2.1 79 = .ok (.return_, 1) := by decide +kernel
def pBk (π : Nat → Nat → Nat) : Nat → Nat → Nat := (pw (pw (pw (pw (pw (pw π 70 6 (71 + 1)) 70 7 (72 + 1)) 70 8 (73 + 1)) 70 9 (74 + 1)) 70 10 (75 + 1)) 70 5 (1 + 1))
set_option maxRecDepth 4000 in
theorem evc_X0 {π : Nat → Nat → Nat} {m : Mem}  (hz : ∀ i : Int, m 70 i = 0) : EvC 5 1 mX0_init [vr 70, vr 1] (71, π, m) (fun _ w' => w' = (76, pBk π, m)) := by
  refine EvC.of (L := [vr 70, vr 1]) (by decide +kernel) (Nat.le_of_ble_eq_true rfl) rfl (fun t ht => by cases ht) (fun t ht => by cases ht) (fun hcan => ?_)
  refine gc_aload_n dX0_init_0 rfl ?_
  show Gc 5 1 mX0_init _ 1 [vr 70, vr 1] [vr 70] (71, π, m)
  refine gc_obj dX0_init_1 oj_0 ob_in ob_co (by decide) (Nat.le_of_ble_eq_true rfl) ?_
  show Gc 5 1 mX0_init _ 4 [vr 70, vr 1] [] (71, π, m)
  refine gc_aload_n dX0_init_4 rfl ?_
  show Gc 5 1 mX0_init _ 5 [vr 70, vr 1] [vr 70] (71, π, m)
  refine gc_iconst dX0_init_5 ?_
  show Gc 5 1 mX0_init _ 6 [vr 70, vr 1] [vi 0, vr 70] (71, π, m)
  refine gc_put0 dX0_init_6 fw_0_9 ob_70 (show 70 < 71 by omega) (Or.inl ⟨rfl, Or.inr rfl⟩) (by first | exact hz _ | (dsimp only; rw [wr_ni (by omega), wr_ni (by omega)]; exact hz _)) ?_
  show Gc 5 1 mX0_init _ 9 [vr 70, vr 1] [] (71, π, m)
  refine gc_aload_n dX0_init_9 rfl ?_
  show Gc 5 1 mX0_init _ 10 [vr 70, vr 1] [vr 70] (71, π, m)
  refine gc_iconst dX0_init_10 ?_
  show Gc 5 1 mX0_init _ 11 [vr 70, vr 1] [vi 0, vr 70] (71, π, m)
  refine gc_put0 dX0_init_11 fw_0_15 ob_70 (show 70 < 71 by omega) (Or.inl ⟨rfl, Or.inl rfl⟩) (by first | exact hz _ | (dsimp only; rw [wr_ni (by omega), wr_ni (by omega)]; exact hz _)) ?_
  show Gc 5 1 mX0_init _ 14 [vr 70, vr 1] [] (71, π, m)
  refine gc_aload_n dX0_init_14 rfl ?_
  show Gc 5 1 mX0_init _ 15 [vr 70, vr 1] [vr 70] (71, π, m)
  refine gc_iconst dX0_init_15 ?_
  show Gc 5 1 mX0_init _ 16 [vr 70, vr 1] [vi 0, vr 70] (71, π, m)
  refine gc_put0 dX0_init_16 fw_0_19 ob_70 (show 70 < 71 by omega) (Or.inl ⟨rfl, Or.inl rfl⟩) (by first | exact hz _ | (dsimp only; rw [wr_ni (by omega), wr_ni (by omega)]; exact hz _)) ?_
  show Gc 5 1 mX0_init _ 19 [vr 70, vr 1] [] (71, π, m)
  refine gc_aload_n dX0_init_19 rfl ?_
  show Gc 5 1 mX0_init _ 20 [vr 70, vr 1] [vr 70] (71, π, m)
  refine gc_iconst dX0_init_20 ?_
  show Gc 5 1 mX0_init _ 21 [vr 70, vr 1] [vi 0, vr 70] (71, π, m)
  refine gc_put0 dX0_init_21 fw_0_22 ob_70 (show 70 < 71 by omega) (Or.inl ⟨rfl, Or.inl rfl⟩) (by first | exact hz _ | (dsimp only; rw [wr_ni (by omega), wr_ni (by omega)]; exact hz _)) ?_
  show Gc 5 1 mX0_init _ 24 [vr 70, vr 1] [] (71, π, m)
  refine gc_aload_n dX0_init_24 rfl ?_
  show Gc 5 1 mX0_init _ 25 [vr 70, vr 1] [vr 70] (71, π, m)
  refine gc_iconst dX0_init_25 ?_
  show Gc 5 1 mX0_init _ 26 [vr 70, vr 1] [vi 0, vr 70] (71, π, m)
  refine gc_put0 dX0_init_26 fw_0_25 ob_70 (show 70 < 71 by omega) (Or.inl ⟨rfl, Or.inl rfl⟩) (by first | exact hz _ | (dsimp only; rw [wr_ni (by omega), wr_ni (by omega)]; exact hz _)) ?_
  show Gc 5 1 mX0_init _ 29 [vr 70, vr 1] [] (71, π, m)
  refine gc_aload_n dX0_init_29 rfl ?_
  show Gc 5 1 mX0_init _ 30 [vr 70, vr 1] [vr 70] (71, π, m)
  refine gc_bipush dX0_init_30 (by decide) ?_
  show Gc 5 1 mX0_init _ 32 [vr 70, vr 1] [vi 40, vr 70] (71, π, m)
  refine gc_newI (kd := 0) (N := 40) dX0_init_32 rfl (Or.inl rfl) aw_0 ar_71 (by decide) rfl (by first | rfl | (simp only [okA, List.all_cons, List.all_nil, Bool.and_true, Bool.or_eq_true, Bool.and_eq_true, decide_eq_true_eq]; omega)) (by first | rfl | (simp only [okA, List.all_cons, List.all_nil, Bool.and_true, Bool.or_eq_true, Bool.and_eq_true, decide_eq_true_eq]; omega)) (fun hz1 => ?_)
  show Gc 4 1 mX0_init _ 34 [vr 70, vr 1] [vr 71, vr 70] (72, π, m)
  refine gc_putP dX0_init_34 fl_0_28 ff_0_28 rfl fk_0_28 ob_70 (show 70 < 72 by omega) (show 71 < 72 by omega) rfl ?_
  show Gc 4 1 mX0_init _ 37 [vr 70, vr 1] [] (72, (pw π 70 6 (71 + 1)), m)
  refine gc_aload_n dX0_init_37 rfl ?_
  show Gc 4 1 mX0_init _ 38 [vr 70, vr 1] [vr 70] (72, (pw π 70 6 (71 + 1)), m)
  refine gc_bipush dX0_init_38 (by decide) ?_
  show Gc 4 1 mX0_init _ 40 [vr 70, vr 1] [vi 40, vr 70] (72, (pw π 70 6 (71 + 1)), m)
  refine gc_newI (kd := 0) (N := 40) dX0_init_40 rfl (Or.inl rfl) aw_0 ar_72 (by decide) rfl (by first | rfl | (simp only [okA, List.all_cons, List.all_nil, Bool.and_true, Bool.or_eq_true, Bool.and_eq_true, decide_eq_true_eq]; omega)) (by first | rfl | (simp only [okA, List.all_cons, List.all_nil, Bool.and_true, Bool.or_eq_true, Bool.and_eq_true, decide_eq_true_eq]; omega)) (fun hz2 => ?_)
  show Gc 3 1 mX0_init _ 42 [vr 70, vr 1] [vr 72, vr 70] (73, (pw π 70 6 (71 + 1)), m)
  refine gc_putP dX0_init_42 fl_0_32 ff_0_32 rfl fk_0_32 ob_70 (show 70 < 73 by omega) (show 72 < 73 by omega) rfl ?_
  show Gc 3 1 mX0_init _ 45 [vr 70, vr 1] [] (73, (pw (pw π 70 6 (71 + 1)) 70 7 (72 + 1)), m)
  refine gc_aload_n dX0_init_45 rfl ?_
  show Gc 3 1 mX0_init _ 46 [vr 70, vr 1] [vr 70] (73, (pw (pw π 70 6 (71 + 1)) 70 7 (72 + 1)), m)
  refine gc_bipush dX0_init_46 (by decide) ?_
  show Gc 3 1 mX0_init _ 48 [vr 70, vr 1] [vi 40, vr 70] (73, (pw (pw π 70 6 (71 + 1)) 70 7 (72 + 1)), m)
  refine gc_newI (kd := 0) (N := 40) dX0_init_48 rfl (Or.inl rfl) aw_0 ar_73 (by decide) rfl (by first | rfl | (simp only [okA, List.all_cons, List.all_nil, Bool.and_true, Bool.or_eq_true, Bool.and_eq_true, decide_eq_true_eq]; omega)) (by first | rfl | (simp only [okA, List.all_cons, List.all_nil, Bool.and_true, Bool.or_eq_true, Bool.and_eq_true, decide_eq_true_eq]; omega)) (fun hz3 => ?_)
  show Gc 2 1 mX0_init _ 50 [vr 70, vr 1] [vr 73, vr 70] (74, (pw (pw π 70 6 (71 + 1)) 70 7 (72 + 1)), m)
  refine gc_putP dX0_init_50 fl_0_35 ff_0_35 rfl fk_0_35 ob_70 (show 70 < 74 by omega) (show 73 < 74 by omega) rfl ?_
  show Gc 2 1 mX0_init _ 53 [vr 70, vr 1] [] (74, (pw (pw (pw π 70 6 (71 + 1)) 70 7 (72 + 1)) 70 8 (73 + 1)), m)
  refine gc_aload_n dX0_init_53 rfl ?_
  show Gc 2 1 mX0_init _ 54 [vr 70, vr 1] [vr 70] (74, (pw (pw (pw π 70 6 (71 + 1)) 70 7 (72 + 1)) 70 8 (73 + 1)), m)
  refine gc_bipush dX0_init_54 (by decide) ?_
  show Gc 2 1 mX0_init _ 56 [vr 70, vr 1] [vi 40, vr 70] (74, (pw (pw (pw π 70 6 (71 + 1)) 70 7 (72 + 1)) 70 8 (73 + 1)), m)
  refine gc_newI (kd := 0) (N := 40) dX0_init_56 rfl (Or.inl rfl) aw_0 ar_74 (by decide) rfl (by first | rfl | (simp only [okA, List.all_cons, List.all_nil, Bool.and_true, Bool.or_eq_true, Bool.and_eq_true, decide_eq_true_eq]; omega)) (by first | rfl | (simp only [okA, List.all_cons, List.all_nil, Bool.and_true, Bool.or_eq_true, Bool.and_eq_true, decide_eq_true_eq]; omega)) (fun hz4 => ?_)
  show Gc 1 1 mX0_init _ 58 [vr 70, vr 1] [vr 74, vr 70] (75, (pw (pw (pw π 70 6 (71 + 1)) 70 7 (72 + 1)) 70 8 (73 + 1)), m)
  refine gc_putP dX0_init_58 fl_0_38 ff_0_38 rfl fk_0_38 ob_70 (show 70 < 75 by omega) (show 74 < 75 by omega) rfl ?_
  show Gc 1 1 mX0_init _ 61 [vr 70, vr 1] [] (75, (pw (pw (pw (pw π 70 6 (71 + 1)) 70 7 (72 + 1)) 70 8 (73 + 1)) 70 9 (74 + 1)), m)
  refine gc_aload_n dX0_init_61 rfl ?_
  show Gc 1 1 mX0_init _ 62 [vr 70, vr 1] [vr 70] (75, (pw (pw (pw (pw π 70 6 (71 + 1)) 70 7 (72 + 1)) 70 8 (73 + 1)) 70 9 (74 + 1)), m)
  refine gc_bipush dX0_init_62 (by decide) ?_
  show Gc 1 1 mX0_init _ 64 [vr 70, vr 1] [vi 40, vr 70] (75, (pw (pw (pw (pw π 70 6 (71 + 1)) 70 7 (72 + 1)) 70 8 (73 + 1)) 70 9 (74 + 1)), m)
  refine gc_newI (kd := 0) (N := 40) dX0_init_64 rfl (Or.inl rfl) aw_0 ar_75 (by decide) rfl (by first | rfl | (simp only [okA, List.all_cons, List.all_nil, Bool.and_true, Bool.or_eq_true, Bool.and_eq_true, decide_eq_true_eq]; omega)) (by first | rfl | (simp only [okA, List.all_cons, List.all_nil, Bool.and_true, Bool.or_eq_true, Bool.and_eq_true, decide_eq_true_eq]; omega)) (fun hz5 => ?_)
  show Gc 0 1 mX0_init _ 66 [vr 70, vr 1] [vr 75, vr 70] (76, (pw (pw (pw (pw π 70 6 (71 + 1)) 70 7 (72 + 1)) 70 8 (73 + 1)) 70 9 (74 + 1)), m)
  refine gc_putP dX0_init_66 fl_0_41 ff_0_41 rfl fk_0_41 ob_70 (show 70 < 76 by omega) (show 75 < 76 by omega) rfl ?_
  show Gc 0 1 mX0_init _ 69 [vr 70, vr 1] [] (76, (pw (pw (pw (pw (pw π 70 6 (71 + 1)) 70 7 (72 + 1)) 70 8 (73 + 1)) 70 9 (74 + 1)) 70 10 (75 + 1)), m)
  refine gc_aload_n dX0_init_69 rfl ?_
  show Gc 0 1 mX0_init _ 70 [vr 70, vr 1] [vr 70] (76, (pw (pw (pw (pw (pw π 70 6 (71 + 1)) 70 7 (72 + 1)) 70 8 (73 + 1)) 70 9 (74 + 1)) 70 10 (75 + 1)), m)
  refine gc_iconst dX0_init_70 ?_
  show Gc 0 1 mX0_init _ 71 [vr 70, vr 1] [vi 0, vr 70] (76, (pw (pw (pw (pw (pw π 70 6 (71 + 1)) 70 7 (72 + 1)) 70 8 (73 + 1)) 70 9 (74 + 1)) 70 10 (75 + 1)), m)
  refine gc_put0 dX0_init_71 fw_0_44 ob_70 (show 70 < 76 by omega) (Or.inl ⟨rfl, Or.inl rfl⟩) (by first | exact hz _ | (dsimp only; rw [wr_ni (by omega), wr_ni (by omega)]; exact hz _)) ?_
  show Gc 0 1 mX0_init _ 74 [vr 70, vr 1] [] (76, (pw (pw (pw (pw (pw π 70 6 (71 + 1)) 70 7 (72 + 1)) 70 8 (73 + 1)) 70 9 (74 + 1)) 70 10 (75 + 1)), m)
  refine gc_aload_n dX0_init_74 rfl ?_
  show Gc 0 1 mX0_init _ 75 [vr 70, vr 1] [vr 70] (76, (pw (pw (pw (pw (pw π 70 6 (71 + 1)) 70 7 (72 + 1)) 70 8 (73 + 1)) 70 9 (74 + 1)) 70 10 (75 + 1)), m)
  refine gc_aload_n dX0_init_75 rfl ?_
  show Gc 0 1 mX0_init _ 76 [vr 70, vr 1] [vr 1, vr 70] (76, (pw (pw (pw (pw (pw π 70 6 (71 + 1)) 70 7 (72 + 1)) 70 8 (73 + 1)) 70 9 (74 + 1)) 70 10 (75 + 1)), m)
  refine gc_putP dX0_init_76 fl_0_47 ff_0_47 rfl fk_0_47 ob_70 (show 70 < 76 by omega) (show 1 < 76 by omega) rfl ?_
  show Gc 0 1 mX0_init _ 79 [vr 70, vr 1] [] (76, (pw (pw (pw (pw (pw (pw π 70 6 (71 + 1)) 70 7 (72 + 1)) 70 8 (73 + 1)) 70 9 (74 + 1)) 70 10 (75 + 1)) 70 5 (1 + 1)), m)
  exact gc_ret (v := 0) rfl dX0_init_79 rfl rfl
theorem dX4_init_0 : decode mX4_init.2.1 0 = .ok (.aload_n 0, 1) := by decide +kernel
theorem dX4_init_1 : decode mX4_init.2.1 1 = .ok (.invokespecial 3, 3) := by decide +kernel
theorem dX4_init_4 : decode mX4_init.2.1 4 = .ok (.aload_n 0, 1) := by decide +kernel
theorem dX4_init_5 : decode mX4_init.2.1 5 = .ok (.sipush 324, 3) := by decide +kernel
theorem dX4_init_8 : decode mX4_init.2.1 8 = .ok (.newarray .int, 2) := by decide +kernel
theorem dX4_init_10 : decode mX4_init.2.1 10 = .ok (.putfield 9, 3) := by decide +kernel
theorem dX4_init_13 : decode mX4_init.2.1 13 = .ok (.aload_n 0, 1) := by decide +kernel
theorem dX4_init_14 : decode mX4_init.2.1 14 = .ok (.sipush 324, 3) := by decide +kernel
theorem dX4_init_17 : decode mX4_init.2.1 17 = .ok (.newarray .int, 2) := by decide +kernel
theorem dX4_init_19 : decode mX4_init.2.1 19 = .ok (.putfield 15, 3) := by decide +kernel
theorem dX4_init_22 : decode mX4_init.2.1 22 = .ok (.aload_n 0, 1) := by decide +kernel
theorem dX4_init_23 : decode mX4_init.2.1 23 = .ok (.iconst 0, 1) := by decide +kernel
theorem dX4_init_24 : decode mX4_init.2.1 24 = .ok (.putfield 18, 3) := by decide +kernel
theorem dX4_init_27 : decode mX4_init.2.1 27 = .ok (.aload_n 0, 1) := by decide +kernel
theorem dX4_init_28 : decode mX4_init.2.1 28 = .ok (.bipush 81, 2) := by decide +kernel
theorem dX4_init_30 : decode mX4_init.2.1 30 = .ok (.newarray .boolean, 2) := by decide +kernel
theorem dX4_init_32 : decode mX4_init.2.1 32 = .ok (.putfield 22, 3) := by decide +kernel
theorem dX4_init_35 : decode mX4_init.2.1 35 = .ok (.aload_n 0, 1) := by decide +kernel
theorem dX4_init_36 : decode mX4_init.2.1 36 = .ok (.sipush 324, 3) := by decide +kernel
theorem dX4_init_39 : decode mX4_init.2.1 39 = .ok (.newarray .int, 2) := by decide +kernel
theorem dX4_init_41 : decode mX4_init.2.1 41 = .ok (.putfield 26, 3) := by decide +kernel
theorem dX4_init_44 : decode mX4_init.2.1 44 = .ok (.aload_n 0, 1) := by decide +kernel
theorem dX4_init_45 : decode mX4_init.2.1 45 = .ok (.sipush 324, 3) := by decide +kernel
theorem dX4_init_48 : decode mX4_init.2.1 48 = .ok (.newarray .int, 2) := by decide +kernel
theorem dX4_init_50 : decode mX4_init.2.1 50 = .ok (.putfield 29, 3) := by decide +kernel
theorem dX4_init_53 : decode mX4_init.2.1 53 = .ok (.aload_n 0, 1) := by decide +kernel
theorem dX4_init_54 : decode mX4_init.2.1 54 = .ok (.sipush 324, 3) := by decide +kernel
theorem dX4_init_57 : decode mX4_init.2.1 57 = .ok (.newarray .int, 2) := by decide +kernel
theorem dX4_init_59 : decode mX4_init.2.1 59 = .ok (.putfield 32, 3) := by decide +kernel
theorem dX4_init_62 : decode mX4_init.2.1 62 = .ok (.aload_n 0, 1) := by decide +kernel
theorem dX4_init_63 : decode mX4_init.2.1 63 = .ok (.sipush 324, 3) := by decide +kernel
theorem dX4_init_66 : decode mX4_init.2.1 66 = .ok (.newarray .int, 2) := by decide +kernel
theorem dX4_init_68 : decode mX4_init.2.1 68 = .ok (.putfield 35, 3) := by decide +kernel
theorem dX4_init_71 : decode mX4_init.2.1 71 = .ok (.aload_n 0, 1) := by decide +kernel
theorem dX4_init_72 : decode mX4_init.2.1 72 = .ok (.iconst 0, 1) := by decide +kernel
theorem dX4_init_73 : decode mX4_init.2.1 73 = .ok (.putfield 38, 3) := by decide +kernel
theorem dX4_init_76 : decode mX4_init.2.1 76 = .ok (.return_, 1) := by decide +kernel
def pSr (π : Nat → Nat → Nat) : Nat → Nat → Nat := (pw (pw (pw (pw (pw (pw (pw π 81 0 (82 + 1)) 81 1 (83 + 1)) 81 3 (84 + 1)) 81 4 (85 + 1)) 81 5 (86 + 1)) 81 6 (87 + 1)) 81 7 (88 + 1))
set_option maxRecDepth 4000 in
theorem evc_X4 {π : Nat → Nat → Nat} {m : Mem}  (hz : ∀ i : Int, m 81 i = 0) : EvC 7 1 mX4_init [vr 81] (82, π, m) (fun _ w' => w' = (89, pSr π, m)) := by
  refine EvC.of (L := [vr 81]) (by decide +kernel) (Nat.le_of_ble_eq_true rfl) rfl (fun t ht => by cases ht) (fun t ht => by cases ht) (fun hcan => ?_)
  refine gc_aload_n dX4_init_0 rfl ?_
  show Gc 7 1 mX4_init _ 1 [vr 81] [vr 81] (82, π, m)
  refine gc_obj dX4_init_1 oj_4 ob_in ob_co (by decide) (Nat.le_of_ble_eq_true rfl) ?_
  show Gc 7 1 mX4_init _ 4 [vr 81] [] (82, π, m)
  refine gc_aload_n dX4_init_4 rfl ?_
  show Gc 7 1 mX4_init _ 5 [vr 81] [vr 81] (82, π, m)
  refine gc_sipush dX4_init_5 (by decide) ?_
  show Gc 7 1 mX4_init _ 8 [vr 81] [vi 324, vr 81] (82, π, m)
  refine gc_newI (kd := 0) (N := 324) dX4_init_8 rfl (Or.inl rfl) aw_0 ar_82 (by decide) rfl (by first | rfl | (simp only [okA, List.all_cons, List.all_nil, Bool.and_true, Bool.or_eq_true, Bool.and_eq_true, decide_eq_true_eq]; omega)) (by first | rfl | (simp only [okA, List.all_cons, List.all_nil, Bool.and_true, Bool.or_eq_true, Bool.and_eq_true, decide_eq_true_eq]; omega)) (fun hz1 => ?_)
  show Gc 6 1 mX4_init _ 10 [vr 81] [vr 82, vr 81] (83, π, m)
  refine gc_putP dX4_init_10 fl_4_9 ff_4_9 rfl fk_4_9 ob_81 (show 81 < 83 by omega) (show 82 < 83 by omega) rfl ?_
  show Gc 6 1 mX4_init _ 13 [vr 81] [] (83, (pw π 81 0 (82 + 1)), m)
  refine gc_aload_n dX4_init_13 rfl ?_
  show Gc 6 1 mX4_init _ 14 [vr 81] [vr 81] (83, (pw π 81 0 (82 + 1)), m)
  refine gc_sipush dX4_init_14 (by decide) ?_
  show Gc 6 1 mX4_init _ 17 [vr 81] [vi 324, vr 81] (83, (pw π 81 0 (82 + 1)), m)
  refine gc_newI (kd := 0) (N := 324) dX4_init_17 rfl (Or.inl rfl) aw_0 ar_83 (by decide) rfl (by first | rfl | (simp only [okA, List.all_cons, List.all_nil, Bool.and_true, Bool.or_eq_true, Bool.and_eq_true, decide_eq_true_eq]; omega)) (by first | rfl | (simp only [okA, List.all_cons, List.all_nil, Bool.and_true, Bool.or_eq_true, Bool.and_eq_true, decide_eq_true_eq]; omega)) (fun hz2 => ?_)
  show Gc 5 1 mX4_init _ 19 [vr 81] [vr 83, vr 81] (84, (pw π 81 0 (82 + 1)), m)
  refine gc_putP dX4_init_19 fl_4_15 ff_4_15 rfl fk_4_15 ob_81 (show 81 < 84 by omega) (show 83 < 84 by omega) rfl ?_
  show Gc 5 1 mX4_init _ 22 [vr 81] [] (84, (pw (pw π 81 0 (82 + 1)) 81 1 (83 + 1)), m)
  refine gc_aload_n dX4_init_22 rfl ?_
  show Gc 5 1 mX4_init _ 23 [vr 81] [vr 81] (84, (pw (pw π 81 0 (82 + 1)) 81 1 (83 + 1)), m)
  refine gc_iconst dX4_init_23 ?_
  show Gc 5 1 mX4_init _ 24 [vr 81] [vi 0, vr 81] (84, (pw (pw π 81 0 (82 + 1)) 81 1 (83 + 1)), m)
  refine gc_put0 dX4_init_24 fw_4_18 ob_81 (show 81 < 84 by omega) (Or.inl ⟨rfl, Or.inl rfl⟩) (by first | exact hz _ | (dsimp only; rw [wr_ni (by omega), wr_ni (by omega)]; exact hz _)) ?_
  show Gc 5 1 mX4_init _ 27 [vr 81] [] (84, (pw (pw π 81 0 (82 + 1)) 81 1 (83 + 1)), m)
  refine gc_aload_n dX4_init_27 rfl ?_
  show Gc 5 1 mX4_init _ 28 [vr 81] [vr 81] (84, (pw (pw π 81 0 (82 + 1)) 81 1 (83 + 1)), m)
  refine gc_bipush dX4_init_28 (by decide) ?_
  show Gc 5 1 mX4_init _ 30 [vr 81] [vi 81, vr 81] (84, (pw (pw π 81 0 (82 + 1)) 81 1 (83 + 1)), m)
  refine gc_newI (kd := 2) (N := 81) dX4_init_30 rfl (Or.inr (Or.inr rfl)) aw_2 ar_84 (by decide) rfl (by first | rfl | (simp only [okA, List.all_cons, List.all_nil, Bool.and_true, Bool.or_eq_true, Bool.and_eq_true, decide_eq_true_eq]; omega)) (by first | rfl | (simp only [okA, List.all_cons, List.all_nil, Bool.and_true, Bool.or_eq_true, Bool.and_eq_true, decide_eq_true_eq]; omega)) (fun hz3 => ?_)
  show Gc 4 1 mX4_init _ 32 [vr 81] [vr 84, vr 81] (85, (pw (pw π 81 0 (82 + 1)) 81 1 (83 + 1)), m)
  refine gc_putP dX4_init_32 fl_4_22 ff_4_22 rfl fk_4_22 ob_81 (show 81 < 85 by omega) (show 84 < 85 by omega) rfl ?_
  show Gc 4 1 mX4_init _ 35 [vr 81] [] (85, (pw (pw (pw π 81 0 (82 + 1)) 81 1 (83 + 1)) 81 3 (84 + 1)), m)
  refine gc_aload_n dX4_init_35 rfl ?_
  show Gc 4 1 mX4_init _ 36 [vr 81] [vr 81] (85, (pw (pw (pw π 81 0 (82 + 1)) 81 1 (83 + 1)) 81 3 (84 + 1)), m)
  refine gc_sipush dX4_init_36 (by decide) ?_
  show Gc 4 1 mX4_init _ 39 [vr 81] [vi 324, vr 81] (85, (pw (pw (pw π 81 0 (82 + 1)) 81 1 (83 + 1)) 81 3 (84 + 1)), m)
  refine gc_newI (kd := 0) (N := 324) dX4_init_39 rfl (Or.inl rfl) aw_0 ar_85 (by decide) rfl (by first | rfl | (simp only [okA, List.all_cons, List.all_nil, Bool.and_true, Bool.or_eq_true, Bool.and_eq_true, decide_eq_true_eq]; omega)) (by first | rfl | (simp only [okA, List.all_cons, List.all_nil, Bool.and_true, Bool.or_eq_true, Bool.and_eq_true, decide_eq_true_eq]; omega)) (fun hz4 => ?_)
  show Gc 3 1 mX4_init _ 41 [vr 81] [vr 85, vr 81] (86, (pw (pw (pw π 81 0 (82 + 1)) 81 1 (83 + 1)) 81 3 (84 + 1)), m)
  refine gc_putP dX4_init_41 fl_4_26 ff_4_26 rfl fk_4_26 ob_81 (show 81 < 86 by omega) (show 85 < 86 by omega) rfl ?_
  show Gc 3 1 mX4_init _ 44 [vr 81] [] (86, (pw (pw (pw (pw π 81 0 (82 + 1)) 81 1 (83 + 1)) 81 3 (84 + 1)) 81 4 (85 + 1)), m)
  refine gc_aload_n dX4_init_44 rfl ?_
  show Gc 3 1 mX4_init _ 45 [vr 81] [vr 81] (86, (pw (pw (pw (pw π 81 0 (82 + 1)) 81 1 (83 + 1)) 81 3 (84 + 1)) 81 4 (85 + 1)), m)
  refine gc_sipush dX4_init_45 (by decide) ?_
  show Gc 3 1 mX4_init _ 48 [vr 81] [vi 324, vr 81] (86, (pw (pw (pw (pw π 81 0 (82 + 1)) 81 1 (83 + 1)) 81 3 (84 + 1)) 81 4 (85 + 1)), m)
  refine gc_newI (kd := 0) (N := 324) dX4_init_48 rfl (Or.inl rfl) aw_0 ar_86 (by decide) rfl (by first | rfl | (simp only [okA, List.all_cons, List.all_nil, Bool.and_true, Bool.or_eq_true, Bool.and_eq_true, decide_eq_true_eq]; omega)) (by first | rfl | (simp only [okA, List.all_cons, List.all_nil, Bool.and_true, Bool.or_eq_true, Bool.and_eq_true, decide_eq_true_eq]; omega)) (fun hz5 => ?_)
  show Gc 2 1 mX4_init _ 50 [vr 81] [vr 86, vr 81] (87, (pw (pw (pw (pw π 81 0 (82 + 1)) 81 1 (83 + 1)) 81 3 (84 + 1)) 81 4 (85 + 1)), m)
  refine gc_putP dX4_init_50 fl_4_29 ff_4_29 rfl fk_4_29 ob_81 (show 81 < 87 by omega) (show 86 < 87 by omega) rfl ?_
  show Gc 2 1 mX4_init _ 53 [vr 81] [] (87, (pw (pw (pw (pw (pw π 81 0 (82 + 1)) 81 1 (83 + 1)) 81 3 (84 + 1)) 81 4 (85 + 1)) 81 5 (86 + 1)), m)
  refine gc_aload_n dX4_init_53 rfl ?_
  show Gc 2 1 mX4_init _ 54 [vr 81] [vr 81] (87, (pw (pw (pw (pw (pw π 81 0 (82 + 1)) 81 1 (83 + 1)) 81 3 (84 + 1)) 81 4 (85 + 1)) 81 5 (86 + 1)), m)
  refine gc_sipush dX4_init_54 (by decide) ?_
  show Gc 2 1 mX4_init _ 57 [vr 81] [vi 324, vr 81] (87, (pw (pw (pw (pw (pw π 81 0 (82 + 1)) 81 1 (83 + 1)) 81 3 (84 + 1)) 81 4 (85 + 1)) 81 5 (86 + 1)), m)
  refine gc_newI (kd := 0) (N := 324) dX4_init_57 rfl (Or.inl rfl) aw_0 ar_87 (by decide) rfl (by first | rfl | (simp only [okA, List.all_cons, List.all_nil, Bool.and_true, Bool.or_eq_true, Bool.and_eq_true, decide_eq_true_eq]; omega)) (by first | rfl | (simp only [okA, List.all_cons, List.all_nil, Bool.and_true, Bool.or_eq_true, Bool.and_eq_true, decide_eq_true_eq]; omega)) (fun hz6 => ?_)
  show Gc 1 1 mX4_init _ 59 [vr 81] [vr 87, vr 81] (88, (pw (pw (pw (pw (pw π 81 0 (82 + 1)) 81 1 (83 + 1)) 81 3 (84 + 1)) 81 4 (85 + 1)) 81 5 (86 + 1)), m)
  refine gc_putP dX4_init_59 fl_4_32 ff_4_32 rfl fk_4_32 ob_81 (show 81 < 88 by omega) (show 87 < 88 by omega) rfl ?_
  show Gc 1 1 mX4_init _ 62 [vr 81] [] (88, (pw (pw (pw (pw (pw (pw π 81 0 (82 + 1)) 81 1 (83 + 1)) 81 3 (84 + 1)) 81 4 (85 + 1)) 81 5 (86 + 1)) 81 6 (87 + 1)), m)
  refine gc_aload_n dX4_init_62 rfl ?_
  show Gc 1 1 mX4_init _ 63 [vr 81] [vr 81] (88, (pw (pw (pw (pw (pw (pw π 81 0 (82 + 1)) 81 1 (83 + 1)) 81 3 (84 + 1)) 81 4 (85 + 1)) 81 5 (86 + 1)) 81 6 (87 + 1)), m)
  refine gc_sipush dX4_init_63 (by decide) ?_
  show Gc 1 1 mX4_init _ 66 [vr 81] [vi 324, vr 81] (88, (pw (pw (pw (pw (pw (pw π 81 0 (82 + 1)) 81 1 (83 + 1)) 81 3 (84 + 1)) 81 4 (85 + 1)) 81 5 (86 + 1)) 81 6 (87 + 1)), m)
  refine gc_newI (kd := 0) (N := 324) dX4_init_66 rfl (Or.inl rfl) aw_0 ar_88 (by decide) rfl (by first | rfl | (simp only [okA, List.all_cons, List.all_nil, Bool.and_true, Bool.or_eq_true, Bool.and_eq_true, decide_eq_true_eq]; omega)) (by first | rfl | (simp only [okA, List.all_cons, List.all_nil, Bool.and_true, Bool.or_eq_true, Bool.and_eq_true, decide_eq_true_eq]; omega)) (fun hz7 => ?_)
  show Gc 0 1 mX4_init _ 68 [vr 81] [vr 88, vr 81] (89, (pw (pw (pw (pw (pw (pw π 81 0 (82 + 1)) 81 1 (83 + 1)) 81 3 (84 + 1)) 81 4 (85 + 1)) 81 5 (86 + 1)) 81 6 (87 + 1)), m)
  refine gc_putP dX4_init_68 fl_4_35 ff_4_35 rfl fk_4_35 ob_81 (show 81 < 89 by omega) (show 88 < 89 by omega) rfl ?_
  show Gc 0 1 mX4_init _ 71 [vr 81] [] (89, (pw (pw (pw (pw (pw (pw (pw π 81 0 (82 + 1)) 81 1 (83 + 1)) 81 3 (84 + 1)) 81 4 (85 + 1)) 81 5 (86 + 1)) 81 6 (87 + 1)) 81 7 (88 + 1)), m)
  refine gc_aload_n dX4_init_71 rfl ?_
  show Gc 0 1 mX4_init _ 72 [vr 81] [vr 81] (89, (pw (pw (pw (pw (pw (pw (pw π 81 0 (82 + 1)) 81 1 (83 + 1)) 81 3 (84 + 1)) 81 4 (85 + 1)) 81 5 (86 + 1)) 81 6 (87 + 1)) 81 7 (88 + 1)), m)
  refine gc_iconst dX4_init_72 ?_
  show Gc 0 1 mX4_init _ 73 [vr 81] [vi 0, vr 81] (89, (pw (pw (pw (pw (pw (pw (pw π 81 0 (82 + 1)) 81 1 (83 + 1)) 81 3 (84 + 1)) 81 4 (85 + 1)) 81 5 (86 + 1)) 81 6 (87 + 1)) 81 7 (88 + 1)), m)
  refine gc_put0 dX4_init_73 fw_4_38 ob_81 (show 81 < 89 by omega) (Or.inl ⟨rfl, Or.inl rfl⟩) (by first | exact hz _ | (dsimp only; rw [wr_ni (by omega), wr_ni (by omega)]; exact hz _)) ?_
  show Gc 0 1 mX4_init _ 76 [vr 81] [] (89, (pw (pw (pw (pw (pw (pw (pw π 81 0 (82 + 1)) 81 1 (83 + 1)) 81 3 (84 + 1)) 81 4 (85 + 1)) 81 5 (86 + 1)) 81 6 (87 + 1)) 81 7 (88 + 1)), m)
  exact gc_ret (v := 0) rfl dX4_init_76 rfl rfl
theorem dX9_init_0 : decode mX9_init.2.1 0 = .ok (.aload_n 0, 1) := by decide +kernel
theorem dX9_init_1 : decode mX9_init.2.1 1 = .ok (.invokespecial 3, 3) := by decide +kernel
theorem dX9_init_4 : decode mX9_init.2.1 4 = .ok (.aload_n 0, 1) := by decide +kernel
theorem dX9_init_5 : decode mX9_init.2.1 5 = .ok (.iconst 3, 1) := by decide +kernel
theorem dX9_init_6 : decode mX9_init.2.1 6 = .ok (.newarray .int, 2) := by decide +kernel
theorem dX9_init_8 : decode mX9_init.2.1 8 = .ok (.putfield 9, 3) := by decide +kernel
theorem dX9_init_11 : decode mX9_init.2.1 11 = .ok (.aload_n 0, 1) := by decide +kernel
theorem dX9_init_12 : decode mX9_init.2.1 12 = .ok (.iconst 0, 1) := by decide +kernel
theorem dX9_init_13 : decode mX9_init.2.1 13 = .ok (.putfield 15, 3) := by decide +kernel
theorem dX9_init_16 : decode mX9_init.2.1 16 = .ok (.aload_n 0, 1) := by decide +kernel
theorem dX9_init_17 : decode mX9_init.2.1 17 = .ok (.iconst 3, 1) := by decide +kernel
theorem dX9_init_18 : decode mX9_init.2.1 18 = .ok (.newarray .int, 2) := by decide +kernel
theorem dX9_init_20 : decode mX9_init.2.1 20 = .ok (.putfield 19, 3) := by decide +kernel
theorem dX9_init_23 : decode mX9_init.2.1 23 = .ok (.return_, 1) := by decide +kernel
def pUd (π : Nat → Nat → Nat) : Nat → Nat → Nat := (pw (pw π 89 0 (90 + 1)) 89 2 (91 + 1))
set_option maxRecDepth 4000 in
theorem evc_X9 {π : Nat → Nat → Nat} {m : Mem}  (hz : ∀ i : Int, m 89 i = 0) : EvC 2 1 mX9_init [vr 89] (90, π, m) (fun _ w' => w' = (92, pUd π, m)) := by
  refine EvC.of (L := [vr 89]) (by decide +kernel) (Nat.le_of_ble_eq_true rfl) rfl (fun t ht => by cases ht) (fun t ht => by cases ht) (fun hcan => ?_)
  refine gc_aload_n dX9_init_0 rfl ?_
  show Gc 2 1 mX9_init _ 1 [vr 89] [vr 89] (90, π, m)
  refine gc_obj dX9_init_1 oj_9 ob_in ob_co (by decide) (Nat.le_of_ble_eq_true rfl) ?_
  show Gc 2 1 mX9_init _ 4 [vr 89] [] (90, π, m)
  refine gc_aload_n dX9_init_4 rfl ?_
  show Gc 2 1 mX9_init _ 5 [vr 89] [vr 89] (90, π, m)
  refine gc_iconst dX9_init_5 ?_
  show Gc 2 1 mX9_init _ 6 [vr 89] [vi 3, vr 89] (90, π, m)
  refine gc_newI (kd := 0) (N := 3) dX9_init_6 rfl (Or.inl rfl) aw_0 ar_90 (by decide) rfl (by first | rfl | (simp only [okA, List.all_cons, List.all_nil, Bool.and_true, Bool.or_eq_true, Bool.and_eq_true, decide_eq_true_eq]; omega)) (by first | rfl | (simp only [okA, List.all_cons, List.all_nil, Bool.and_true, Bool.or_eq_true, Bool.and_eq_true, decide_eq_true_eq]; omega)) (fun hz1 => ?_)
  show Gc 1 1 mX9_init _ 8 [vr 89] [vr 90, vr 89] (91, π, m)
  refine gc_putP dX9_init_8 fl_9_9 ff_9_9 rfl fk_9_9 ob_89 (show 89 < 91 by omega) (show 90 < 91 by omega) rfl ?_
  show Gc 1 1 mX9_init _ 11 [vr 89] [] (91, (pw π 89 0 (90 + 1)), m)
  refine gc_aload_n dX9_init_11 rfl ?_
  show Gc 1 1 mX9_init _ 12 [vr 89] [vr 89] (91, (pw π 89 0 (90 + 1)), m)
  refine gc_iconst dX9_init_12 ?_
  show Gc 1 1 mX9_init _ 13 [vr 89] [vi 0, vr 89] (91, (pw π 89 0 (90 + 1)), m)
  refine gc_put0 dX9_init_13 fw_9_15 ob_89 (show 89 < 91 by omega) (Or.inl ⟨rfl, Or.inl rfl⟩) (by first | exact hz _ | (dsimp only; rw [wr_ni (by omega), wr_ni (by omega)]; exact hz _)) ?_
  show Gc 1 1 mX9_init _ 16 [vr 89] [] (91, (pw π 89 0 (90 + 1)), m)
  refine gc_aload_n dX9_init_16 rfl ?_
  show Gc 1 1 mX9_init _ 17 [vr 89] [vr 89] (91, (pw π 89 0 (90 + 1)), m)
  refine gc_iconst dX9_init_17 ?_
  show Gc 1 1 mX9_init _ 18 [vr 89] [vi 3, vr 89] (91, (pw π 89 0 (90 + 1)), m)
  refine gc_newI (kd := 0) (N := 3) dX9_init_18 rfl (Or.inl rfl) aw_0 ar_91 (by decide) rfl (by first | rfl | (simp only [okA, List.all_cons, List.all_nil, Bool.and_true, Bool.or_eq_true, Bool.and_eq_true, decide_eq_true_eq]; omega)) (by first | rfl | (simp only [okA, List.all_cons, List.all_nil, Bool.and_true, Bool.or_eq_true, Bool.and_eq_true, decide_eq_true_eq]; omega)) (fun hz2 => ?_)
  show Gc 0 1 mX9_init _ 20 [vr 89] [vr 91, vr 89] (92, (pw π 89 0 (90 + 1)), m)
  refine gc_putP dX9_init_20 fl_9_19 ff_9_19 rfl fk_9_19 ob_89 (show 89 < 92 by omega) (show 91 < 92 by omega) rfl ?_
  show Gc 0 1 mX9_init _ 23 [vr 89] [] (92, (pw (pw π 89 0 (90 + 1)) 89 2 (91 + 1)), m)
  exact gc_ret (v := 0) rfl dX9_init_23 rfl rfl
theorem dX8_init_0 : decode mX8_init.2.1 0 = .ok (.aload_n 0, 1) := by decide +kernel
theorem dX8_init_1 : decode mX8_init.2.1 1 = .ok (.invokespecial 3, 3) := by decide +kernel
theorem dX8_init_4 : decode mX8_init.2.1 4 = .ok (.aload_n 0, 1) := by decide +kernel
theorem dX8_init_5 : decode mX8_init.2.1 5 = .ok (.bipush 6, 2) := by decide +kernel
theorem dX8_init_7 : decode mX8_init.2.1 7 = .ok (.newarray .int, 2) := by decide +kernel
theorem dX8_init_9 : decode mX8_init.2.1 9 = .ok (.putfield 9, 3) := by decide +kernel
theorem dX8_init_12 : decode mX8_init.2.1 12 = .ok (.aload_n 0, 1) := by decide +kernel
theorem dX8_init_13 : decode mX8_init.2.1 13 = .ok (.iconst 0, 1) := by decide +kernel
theorem dX8_init_14 : decode mX8_init.2.1 14 = .ok (.putfield 15, 3) := by decide +kernel
theorem dX8_init_17 : decode mX8_init.2.1 17 = .ok (.aload_n 0, 1) := by decide +kernel
theorem dX8_init_18 : decode mX8_init.2.1 18 = .ok (.bipush 6, 2) := by decide +kernel
theorem dX8_init_20 : decode mX8_init.2.1 20 = .ok (.newarray .int, 2) := by decide +kernel
theorem dX8_init_22 : decode mX8_init.2.1 22 = .ok (.putfield 19, 3) := by decide +kernel
theorem dX8_init_25 : decode mX8_init.2.1 25 = .ok (.aload_n 0, 1) := by decide +kernel
theorem dX8_init_26 : decode mX8_init.2.1 26 = .ok (.bipush 6, 2) := by decide +kernel
theorem dX8_init_28 : decode mX8_init.2.1 28 = .ok (.newarray .int, 2) := by decide +kernel
theorem dX8_init_30 : decode mX8_init.2.1 30 = .ok (.putfield 22, 3) := by decide +kernel
theorem dX8_init_33 : decode mX8_init.2.1 33 = .ok (.aload_n 0, 1) := by decide +kernel
theorem dX8_init_34 : decode mX8_init.2.1 34 = .ok (.bipush 6, 2) := by decide +kernel
theorem dX8_init_36 : decode mX8_init.2.1 36 = .ok (.newarray .int, 2) := by decide +kernel
theorem dX8_init_38 : decode mX8_init.2.1 38 = .ok (.putfield 25, 3) := by decide +kernel
theorem dX8_init_41 : decode mX8_init.2.1 41 = .ok (.return_, 1) := by decide +kernel
def pTr (π : Nat → Nat → Nat) : Nat → Nat → Nat := (pw (pw (pw (pw π 92 0 (93 + 1)) 92 2 (94 + 1)) 92 3 (95 + 1)) 92 4 (96 + 1))
set_option maxRecDepth 4000 in
theorem evc_X8 {π : Nat → Nat → Nat} {m : Mem}  (hz : ∀ i : Int, m 92 i = 0) : EvC 4 1 mX8_init [vr 92] (93, π, m) (fun _ w' => w' = (97, pTr π, m)) := by
  refine EvC.of (L := [vr 92]) (by decide +kernel) (Nat.le_of_ble_eq_true rfl) rfl (fun t ht => by cases ht) (fun t ht => by cases ht) (fun hcan => ?_)
  refine gc_aload_n dX8_init_0 rfl ?_
  show Gc 4 1 mX8_init _ 1 [vr 92] [vr 92] (93, π, m)
  refine gc_obj dX8_init_1 oj_8 ob_in ob_co (by decide) (Nat.le_of_ble_eq_true rfl) ?_
  show Gc 4 1 mX8_init _ 4 [vr 92] [] (93, π, m)
  refine gc_aload_n dX8_init_4 rfl ?_
  show Gc 4 1 mX8_init _ 5 [vr 92] [vr 92] (93, π, m)
  refine gc_bipush dX8_init_5 (by decide) ?_
  show Gc 4 1 mX8_init _ 7 [vr 92] [vi 6, vr 92] (93, π, m)
  refine gc_newI (kd := 0) (N := 6) dX8_init_7 rfl (Or.inl rfl) aw_0 ar_93 (by decide) rfl (by first | rfl | (simp only [okA, List.all_cons, List.all_nil, Bool.and_true, Bool.or_eq_true, Bool.and_eq_true, decide_eq_true_eq]; omega)) (by first | rfl | (simp only [okA, List.all_cons, List.all_nil, Bool.and_true, Bool.or_eq_true, Bool.and_eq_true, decide_eq_true_eq]; omega)) (fun hz1 => ?_)
  show Gc 3 1 mX8_init _ 9 [vr 92] [vr 93, vr 92] (94, π, m)
  refine gc_putP dX8_init_9 fl_8_9 ff_8_9 rfl fk_8_9 ob_92 (show 92 < 94 by omega) (show 93 < 94 by omega) rfl ?_
  show Gc 3 1 mX8_init _ 12 [vr 92] [] (94, (pw π 92 0 (93 + 1)), m)
  refine gc_aload_n dX8_init_12 rfl ?_
  show Gc 3 1 mX8_init _ 13 [vr 92] [vr 92] (94, (pw π 92 0 (93 + 1)), m)
  refine gc_iconst dX8_init_13 ?_
  show Gc 3 1 mX8_init _ 14 [vr 92] [vi 0, vr 92] (94, (pw π 92 0 (93 + 1)), m)
  refine gc_put0 dX8_init_14 fw_8_15 ob_92 (show 92 < 94 by omega) (Or.inl ⟨rfl, Or.inl rfl⟩) (by first | exact hz _ | (dsimp only; rw [wr_ni (by omega), wr_ni (by omega)]; exact hz _)) ?_
  show Gc 3 1 mX8_init _ 17 [vr 92] [] (94, (pw π 92 0 (93 + 1)), m)
  refine gc_aload_n dX8_init_17 rfl ?_
  show Gc 3 1 mX8_init _ 18 [vr 92] [vr 92] (94, (pw π 92 0 (93 + 1)), m)
  refine gc_bipush dX8_init_18 (by decide) ?_
  show Gc 3 1 mX8_init _ 20 [vr 92] [vi 6, vr 92] (94, (pw π 92 0 (93 + 1)), m)
  refine gc_newI (kd := 0) (N := 6) dX8_init_20 rfl (Or.inl rfl) aw_0 ar_94 (by decide) rfl (by first | rfl | (simp only [okA, List.all_cons, List.all_nil, Bool.and_true, Bool.or_eq_true, Bool.and_eq_true, decide_eq_true_eq]; omega)) (by first | rfl | (simp only [okA, List.all_cons, List.all_nil, Bool.and_true, Bool.or_eq_true, Bool.and_eq_true, decide_eq_true_eq]; omega)) (fun hz2 => ?_)
  show Gc 2 1 mX8_init _ 22 [vr 92] [vr 94, vr 92] (95, (pw π 92 0 (93 + 1)), m)
  refine gc_putP dX8_init_22 fl_8_19 ff_8_19 rfl fk_8_19 ob_92 (show 92 < 95 by omega) (show 94 < 95 by omega) rfl ?_
  show Gc 2 1 mX8_init _ 25 [vr 92] [] (95, (pw (pw π 92 0 (93 + 1)) 92 2 (94 + 1)), m)
  refine gc_aload_n dX8_init_25 rfl ?_
  show Gc 2 1 mX8_init _ 26 [vr 92] [vr 92] (95, (pw (pw π 92 0 (93 + 1)) 92 2 (94 + 1)), m)
  refine gc_bipush dX8_init_26 (by decide) ?_
  show Gc 2 1 mX8_init _ 28 [vr 92] [vi 6, vr 92] (95, (pw (pw π 92 0 (93 + 1)) 92 2 (94 + 1)), m)
  refine gc_newI (kd := 0) (N := 6) dX8_init_28 rfl (Or.inl rfl) aw_0 ar_95 (by decide) rfl (by first | rfl | (simp only [okA, List.all_cons, List.all_nil, Bool.and_true, Bool.or_eq_true, Bool.and_eq_true, decide_eq_true_eq]; omega)) (by first | rfl | (simp only [okA, List.all_cons, List.all_nil, Bool.and_true, Bool.or_eq_true, Bool.and_eq_true, decide_eq_true_eq]; omega)) (fun hz3 => ?_)
  show Gc 1 1 mX8_init _ 30 [vr 92] [vr 95, vr 92] (96, (pw (pw π 92 0 (93 + 1)) 92 2 (94 + 1)), m)
  refine gc_putP dX8_init_30 fl_8_22 ff_8_22 rfl fk_8_22 ob_92 (show 92 < 96 by omega) (show 95 < 96 by omega) rfl ?_
  show Gc 1 1 mX8_init _ 33 [vr 92] [] (96, (pw (pw (pw π 92 0 (93 + 1)) 92 2 (94 + 1)) 92 3 (95 + 1)), m)
  refine gc_aload_n dX8_init_33 rfl ?_
  show Gc 1 1 mX8_init _ 34 [vr 92] [vr 92] (96, (pw (pw (pw π 92 0 (93 + 1)) 92 2 (94 + 1)) 92 3 (95 + 1)), m)
  refine gc_bipush dX8_init_34 (by decide) ?_
  show Gc 1 1 mX8_init _ 36 [vr 92] [vi 6, vr 92] (96, (pw (pw (pw π 92 0 (93 + 1)) 92 2 (94 + 1)) 92 3 (95 + 1)), m)
  refine gc_newI (kd := 0) (N := 6) dX8_init_36 rfl (Or.inl rfl) aw_0 ar_96 (by decide) rfl (by first | rfl | (simp only [okA, List.all_cons, List.all_nil, Bool.and_true, Bool.or_eq_true, Bool.and_eq_true, decide_eq_true_eq]; omega)) (by first | rfl | (simp only [okA, List.all_cons, List.all_nil, Bool.and_true, Bool.or_eq_true, Bool.and_eq_true, decide_eq_true_eq]; omega)) (fun hz4 => ?_)
  show Gc 0 1 mX8_init _ 38 [vr 92] [vr 96, vr 92] (97, (pw (pw (pw π 92 0 (93 + 1)) 92 2 (94 + 1)) 92 3 (95 + 1)), m)
  refine gc_putP dX8_init_38 fl_8_25 ff_8_25 rfl fk_8_25 ob_92 (show 92 < 97 by omega) (show 96 < 97 by omega) rfl ?_
  show Gc 0 1 mX8_init _ 41 [vr 92] [] (97, (pw (pw (pw (pw π 92 0 (93 + 1)) 92 2 (94 + 1)) 92 3 (95 + 1)) 92 4 (96 + 1)), m)
  exact gc_ret (v := 0) rfl dX8_init_41 rfl rfl
theorem dX3_init_0 : decode mX3_init.2.1 0 = .ok (.aload_n 0, 1) := by decide +kernel
theorem dX3_init_1 : decode mX3_init.2.1 1 = .ok (.invokespecial 3, 3) := by decide +kernel
theorem dX3_init_4 : decode mX3_init.2.1 4 = .ok (.aload_n 0, 1) := by decide +kernel
theorem dX3_init_5 : decode mX3_init.2.1 5 = .ok (.bipush 8, 2) := by decide +kernel
theorem dX3_init_7 : decode mX3_init.2.1 7 = .ok (.anewarray 9, 3) := by decide +kernel
theorem dX3_init_10 : decode mX3_init.2.1 10 = .ok (.putfield 11, 3) := by decide +kernel
theorem dX3_init_13 : decode mX3_init.2.1 13 = .ok (.aload_n 0, 1) := by decide +kernel
theorem dX3_init_14 : decode mX3_init.2.1 14 = .ok (.iconst 0, 1) := by decide +kernel
theorem dX3_init_15 : decode mX3_init.2.1 15 = .ok (.putfield 17, 3) := by decide +kernel
theorem dX3_init_18 : decode mX3_init.2.1 18 = .ok (.aload_n 0, 1) := by decide +kernel
theorem dX3_init_19 : decode mX3_init.2.1 19 = .ok (.iconst 0, 1) := by decide +kernel
theorem dX3_init_20 : decode mX3_init.2.1 20 = .ok (.putfield 21, 3) := by decide +kernel
theorem dX3_init_23 : decode mX3_init.2.1 23 = .ok (.iconst 0, 1) := by decide +kernel
theorem dX3_init_24 : decode mX3_init.2.1 24 = .ok (.istore_n 1, 1) := by decide +kernel
theorem dX3_init_25 : decode mX3_init.2.1 25 = .ok (.iload_n 1, 1) := by decide +kernel
theorem dX3_init_26 : decode mX3_init.2.1 26 = .ok (.bipush 8, 2) := by decide +kernel
theorem dX3_init_28 : decode mX3_init.2.1 28 = .ok (.if_icmp .ge 22, 3) := by decide +kernel
theorem dX3_init_31 : decode mX3_init.2.1 31 = .ok (.aload_n 0, 1) := by decide +kernel
theorem dX3_init_32 : decode mX3_init.2.1 32 = .ok (.getfield 11, 3) := by decide +kernel
theorem dX3_init_35 : decode mX3_init.2.1 35 = .ok (.iload_n 1, 1) := by decide +kernel
theorem dX3_init_36 : decode mX3_init.2.1 36 = .ok (.new 9, 3) := by decide +kernel
theorem dX3_init_39 : decode mX3_init.2.1 39 = .ok (.dup, 1) := by decide +kernel
theorem dX3_init_40 : decode mX3_init.2.1 40 = .ok (.invokespecial 24, 3) := by decide +kernel
theorem dX3_init_43 : decode mX3_init.2.1 43 = .ok (.aastore, 1) := by decide +kernel
theorem dX3_init_44 : decode mX3_init.2.1 44 = .ok (.iinc 1 1, 3) := by decide +kernel
theorem dX3_init_47 : decode mX3_init.2.1 47 = .ok (.goto (-22), 3) := by decide +kernel
theorem dX3_init_50 : decode mX3_init.2.1 50 = .ok (.return_, 1) := by decide +kernel
def pHi (π : Nat → Nat → Nat) : Nat → Nat → Nat := (pw (pSt (pw (pSt (pw (pSt (pw (pSt (pw (pSt (pw (pSt (pw (pSt (pw (pSt (pw π 97 0 (98 + 1)) 99) 98 0 (99 + 1)) 107) 98 1 (107 + 1)) 115) 98 2 (115 + 1)) 123) 98 3 (123 + 1)) 131) 98 4 (131 + 1)) 139) 98 5 (139 + 1)) 147) 98 6 (147 + 1)) 155) 98 7 (155 + 1))
set_option maxRecDepth 4000 in
theorem evc_X3 {π : Nat → Nat → Nat} {m : Mem}  (hz : ∀ i : Int, m 97 i = 0) : EvC 65 2 mX3_init [vr 97] (98, π, m) (fun _ w' => w' = (163, pHi π, m)) := by
  refine EvC.of (L := [vr 97, un]) (by decide +kernel) (Nat.le_of_ble_eq_true rfl) rfl (fun t ht => by cases ht) (fun t ht => by cases ht) (fun hcan => ?_)
  refine gc_aload_n dX3_init_0 rfl ?_
  show Gc 65 2 mX3_init _ 1 [vr 97, un] [vr 97] (98, π, m)
  refine gc_obj dX3_init_1 oj_3 ob_in ob_co (by decide) (Nat.le_of_ble_eq_true rfl) ?_
  show Gc 65 2 mX3_init _ 4 [vr 97, un] [] (98, π, m)
  refine gc_aload_n dX3_init_4 rfl ?_
  show Gc 65 2 mX3_init _ 5 [vr 97, un] [vr 97] (98, π, m)
  refine gc_bipush dX3_init_5 (by decide) ?_
  show Gc 65 2 mX3_init _ 7 [vr 97, un] [vi 8, vr 97] (98, π, m)
  refine gc_anew (kd := 4) (N := 8) (C := "CartTurns$State") dX3_init_7 (Or.inl ⟨rfl, rfl⟩) cl_3_9 ar_98 (by decide) rfl (by first | rfl | (simp only [okA, List.all_cons, List.all_nil, Bool.and_true, Bool.or_eq_true, Bool.and_eq_true, decide_eq_true_eq]; omega)) (by first | rfl | (simp only [okA, List.all_cons, List.all_nil, Bool.and_true, Bool.or_eq_true, Bool.and_eq_true, decide_eq_true_eq]; omega)) (fun hz1 => ?_)
  show Gc 64 2 mX3_init _ 10 [vr 97, un] [vr 98, vr 97] (99, π, m)
  refine gc_putP dX3_init_10 fl_3_11 ff_3_11 rfl fk_3_11 ob_97 (show 97 < 99 by omega) (show 98 < 99 by omega) rfl ?_
  show Gc 64 2 mX3_init _ 13 [vr 97, un] [] (99, (pw π 97 0 (98 + 1)), m)
  refine gc_aload_n dX3_init_13 rfl ?_
  show Gc 64 2 mX3_init _ 14 [vr 97, un] [vr 97] (99, (pw π 97 0 (98 + 1)), m)
  refine gc_iconst dX3_init_14 ?_
  show Gc 64 2 mX3_init _ 15 [vr 97, un] [vi 0, vr 97] (99, (pw π 97 0 (98 + 1)), m)
  refine gc_put0 dX3_init_15 fw_3_17 ob_97 (show 97 < 99 by omega) (Or.inl ⟨rfl, Or.inl rfl⟩) (by first | exact hz _ | (dsimp only; rw [wr_ni (by omega), wr_ni (by omega)]; exact hz _)) ?_
  show Gc 64 2 mX3_init _ 18 [vr 97, un] [] (99, (pw π 97 0 (98 + 1)), m)
  refine gc_aload_n dX3_init_18 rfl ?_
  show Gc 64 2 mX3_init _ 19 [vr 97, un] [vr 97] (99, (pw π 97 0 (98 + 1)), m)
  refine gc_iconst dX3_init_19 ?_
  show Gc 64 2 mX3_init _ 20 [vr 97, un] [vi 0, vr 97] (99, (pw π 97 0 (98 + 1)), m)
  refine gc_put0 dX3_init_20 fw_3_21 ob_97 (show 97 < 99 by omega) (Or.inl ⟨rfl, Or.inl rfl⟩) (by first | exact hz _ | (dsimp only; rw [wr_ni (by omega), wr_ni (by omega)]; exact hz _)) ?_
  show Gc 64 2 mX3_init _ 23 [vr 97, un] [] (99, (pw π 97 0 (98 + 1)), m)
  refine gc_iconst dX3_init_23 ?_
  show Gc 64 2 mX3_init _ 24 [vr 97, un] [vi 0] (99, (pw π 97 0 (98 + 1)), m)
  refine gc_istore_n (L' := [vr 97, vi 0]) dX3_init_24 (by decide) rfl rfl ?_
  show Gc 64 2 mX3_init _ 25 [vr 97, vi 0] [] (99, (pw π 97 0 (98 + 1)), m)
  refine gc_iload_n dX3_init_25 rfl ?_
  show Gc 64 2 mX3_init _ 26 [vr 97, vi 0] [vi 0] (99, (pw π 97 0 (98 + 1)), m)
  refine gc_bipush dX3_init_26 (by decide) ?_
  show Gc 64 2 mX3_init _ 28 [vr 97, vi 0] [vi 8, vi 0] (99, (pw π 97 0 (98 + 1)), m)
  refine gc_icmp_ge (tgt := 50) dX3_init_28 (by decide) ⟨by omega, by omega⟩ ⟨by omega, by omega⟩ (fun h => by omega) (fun _ => ?_)
  show Gc 64 2 mX3_init _ 31 [vr 97, vi 0] [] (99, (pw π 97 0 (98 + 1)), m)
  refine gc_aload_n dX3_init_31 rfl ?_
  show Gc 64 2 mX3_init _ 32 [vr 97, vi 0] [vr 97] (99, (pw π 97 0 (98 + 1)), m)
  refine gc_getP (b := 98) dX3_init_32 fl_3_11 ob_97 (show 97 < 99 by omega) rfl rfl ?_
  show Gc 64 2 mX3_init _ 35 [vr 97, vi 0] [vr 98] (99, (pw π 97 0 (98 + 1)), m)
  refine gc_iload_n dX3_init_35 rfl ?_
  show Gc 64 2 mX3_init _ 36 [vr 97, vi 0] [vi 0, vr 98] (99, (pw π 97 0 (98 + 1)), m)
  refine gc_new dX3_init_36 nw_3_9 (fun j _ => tg_6 j) ob_99 (by first | rfl | (simp only [okA, List.all_cons, List.all_nil, Bool.and_true, Bool.or_eq_true, Bool.and_eq_true, decide_eq_true_eq]; omega)) (by first | rfl | (simp only [okA, List.all_cons, List.all_nil, Bool.and_true, Bool.or_eq_true, Bool.and_eq_true, decide_eq_true_eq]; omega)) (fun hz2 => ?_)
  show Gc 63 2 mX3_init _ 39 [vr 97, vi 0] [vr 99, vi 0, vr 98] (100, (pw π 97 0 (98 + 1)), m)
  refine gc_dup_r dX3_init_39 ?_
  show Gc 63 2 mX3_init _ 40 [vr 97, vi 0] [vr 99, vr 99, vi 0, vr 98] (100, (pw π 97 0 (98 + 1)), m)
  refine gc_callI (as := []) (S := [vr 99, vi 0, vr 98]) (b := 99) (evc_X6 (a := 99) (m := m) isSt_99 (fun i => hz2 i)) dX3_init_40 ci_3_24 rfl rfl (by decide) (Nat.le_of_ble_eq_true rfl) (by decide) (fun _ _ h => by rw [h]; show 100 ≤ 107; omega) (by first | rfl | (simp only [okA, List.all_cons, List.all_nil, Bool.and_true, Bool.or_eq_true, Bool.and_eq_true, decide_eq_true_eq]; omega)) (by first | rfl | (simp only [okA, List.all_cons, List.all_nil, Bool.and_true, Bool.or_eq_true, Bool.and_eq_true, decide_eq_true_eq]; omega)) (fun r9 w9 hq9 _ => ?_)
  subst hq9
  show Gc 56 2 mX3_init _ 43 [vr 97, vi 0] [vr 99, vi 0, vr 98] (107, (pSt (pw π 97 0 (98 + 1)) 99), m)
  refine gc_aastore (kd := 4) dX3_init_43 (Or.inl ⟨rfl, rfl⟩) ar_98 (show 98 < 107 by omega) ob_99 (show 99 < 107 by omega) (by decide) (by decide) ?_
  show Gc 56 2 mX3_init _ 44 [vr 97, vi 0] [] (107, (pw (pSt (pw π 97 0 (98 + 1)) 99) 98 0 (99 + 1)), m)
  refine gc_iinc (L' := [vr 97, vi 1]) dX3_init_44 rfl (by decide) rfl rfl ?_
  show Gc 56 2 mX3_init _ 47 [vr 97, vi 1] [] (107, (pw (pSt (pw π 97 0 (98 + 1)) 99) 98 0 (99 + 1)), m)
  refine gc_goto (tgt := 25) dX3_init_47 (by decide) ?_
  show Gc 56 2 mX3_init _ 25 [vr 97, vi 1] [] (107, (pw (pSt (pw π 97 0 (98 + 1)) 99) 98 0 (99 + 1)), m)
  refine gc_iload_n dX3_init_25 rfl ?_
  show Gc 56 2 mX3_init _ 26 [vr 97, vi 1] [vi 1] (107, (pw (pSt (pw π 97 0 (98 + 1)) 99) 98 0 (99 + 1)), m)
  refine gc_bipush dX3_init_26 (by decide) ?_
  show Gc 56 2 mX3_init _ 28 [vr 97, vi 1] [vi 8, vi 1] (107, (pw (pSt (pw π 97 0 (98 + 1)) 99) 98 0 (99 + 1)), m)
  refine gc_icmp_ge (tgt := 50) dX3_init_28 (by decide) ⟨by omega, by omega⟩ ⟨by omega, by omega⟩ (fun h => by omega) (fun _ => ?_)
  show Gc 56 2 mX3_init _ 31 [vr 97, vi 1] [] (107, (pw (pSt (pw π 97 0 (98 + 1)) 99) 98 0 (99 + 1)), m)
  refine gc_aload_n dX3_init_31 rfl ?_
  show Gc 56 2 mX3_init _ 32 [vr 97, vi 1] [vr 97] (107, (pw (pSt (pw π 97 0 (98 + 1)) 99) 98 0 (99 + 1)), m)
  refine gc_getP (b := 98) dX3_init_32 fl_3_11 ob_97 (show 97 < 107 by omega) rfl rfl ?_
  show Gc 56 2 mX3_init _ 35 [vr 97, vi 1] [vr 98] (107, (pw (pSt (pw π 97 0 (98 + 1)) 99) 98 0 (99 + 1)), m)
  refine gc_iload_n dX3_init_35 rfl ?_
  show Gc 56 2 mX3_init _ 36 [vr 97, vi 1] [vi 1, vr 98] (107, (pw (pSt (pw π 97 0 (98 + 1)) 99) 98 0 (99 + 1)), m)
  refine gc_new dX3_init_36 nw_3_9 (fun j _ => tg_6 j) ob_107 (by first | rfl | (simp only [okA, List.all_cons, List.all_nil, Bool.and_true, Bool.or_eq_true, Bool.and_eq_true, decide_eq_true_eq]; omega)) (by first | rfl | (simp only [okA, List.all_cons, List.all_nil, Bool.and_true, Bool.or_eq_true, Bool.and_eq_true, decide_eq_true_eq]; omega)) (fun hz3 => ?_)
  show Gc 55 2 mX3_init _ 39 [vr 97, vi 1] [vr 107, vi 1, vr 98] (108, (pw (pSt (pw π 97 0 (98 + 1)) 99) 98 0 (99 + 1)), m)
  refine gc_dup_r dX3_init_39 ?_
  show Gc 55 2 mX3_init _ 40 [vr 97, vi 1] [vr 107, vr 107, vi 1, vr 98] (108, (pw (pSt (pw π 97 0 (98 + 1)) 99) 98 0 (99 + 1)), m)
  refine gc_callI (as := []) (S := [vr 107, vi 1, vr 98]) (b := 107) (evc_X6 (a := 107) (m := m) isSt_107 (fun i => hz3 i)) dX3_init_40 ci_3_24 rfl rfl (by decide) (Nat.le_of_ble_eq_true rfl) (by decide) (fun _ _ h => by rw [h]; show 108 ≤ 115; omega) (by first | rfl | (simp only [okA, List.all_cons, List.all_nil, Bool.and_true, Bool.or_eq_true, Bool.and_eq_true, decide_eq_true_eq]; omega)) (by first | rfl | (simp only [okA, List.all_cons, List.all_nil, Bool.and_true, Bool.or_eq_true, Bool.and_eq_true, decide_eq_true_eq]; omega)) (fun r9 w9 hq9 _ => ?_)
  subst hq9
  show Gc 48 2 mX3_init _ 43 [vr 97, vi 1] [vr 107, vi 1, vr 98] (115, (pSt (pw (pSt (pw π 97 0 (98 + 1)) 99) 98 0 (99 + 1)) 107), m)
  refine gc_aastore (kd := 4) dX3_init_43 (Or.inl ⟨rfl, rfl⟩) ar_98 (show 98 < 115 by omega) ob_107 (show 107 < 115 by omega) (by decide) (by decide) ?_
  show Gc 48 2 mX3_init _ 44 [vr 97, vi 1] [] (115, (pw (pSt (pw (pSt (pw π 97 0 (98 + 1)) 99) 98 0 (99 + 1)) 107) 98 1 (107 + 1)), m)
  refine gc_iinc (L' := [vr 97, vi 2]) dX3_init_44 rfl (by decide) rfl rfl ?_
  show Gc 48 2 mX3_init _ 47 [vr 97, vi 2] [] (115, (pw (pSt (pw (pSt (pw π 97 0 (98 + 1)) 99) 98 0 (99 + 1)) 107) 98 1 (107 + 1)), m)
  refine gc_goto (tgt := 25) dX3_init_47 (by decide) ?_
  show Gc 48 2 mX3_init _ 25 [vr 97, vi 2] [] (115, (pw (pSt (pw (pSt (pw π 97 0 (98 + 1)) 99) 98 0 (99 + 1)) 107) 98 1 (107 + 1)), m)
  refine gc_iload_n dX3_init_25 rfl ?_
  show Gc 48 2 mX3_init _ 26 [vr 97, vi 2] [vi 2] (115, (pw (pSt (pw (pSt (pw π 97 0 (98 + 1)) 99) 98 0 (99 + 1)) 107) 98 1 (107 + 1)), m)
  refine gc_bipush dX3_init_26 (by decide) ?_
  show Gc 48 2 mX3_init _ 28 [vr 97, vi 2] [vi 8, vi 2] (115, (pw (pSt (pw (pSt (pw π 97 0 (98 + 1)) 99) 98 0 (99 + 1)) 107) 98 1 (107 + 1)), m)
  refine gc_icmp_ge (tgt := 50) dX3_init_28 (by decide) ⟨by omega, by omega⟩ ⟨by omega, by omega⟩ (fun h => by omega) (fun _ => ?_)
  show Gc 48 2 mX3_init _ 31 [vr 97, vi 2] [] (115, (pw (pSt (pw (pSt (pw π 97 0 (98 + 1)) 99) 98 0 (99 + 1)) 107) 98 1 (107 + 1)), m)
  refine gc_aload_n dX3_init_31 rfl ?_
  show Gc 48 2 mX3_init _ 32 [vr 97, vi 2] [vr 97] (115, (pw (pSt (pw (pSt (pw π 97 0 (98 + 1)) 99) 98 0 (99 + 1)) 107) 98 1 (107 + 1)), m)
  refine gc_getP (b := 98) dX3_init_32 fl_3_11 ob_97 (show 97 < 115 by omega) rfl rfl ?_
  show Gc 48 2 mX3_init _ 35 [vr 97, vi 2] [vr 98] (115, (pw (pSt (pw (pSt (pw π 97 0 (98 + 1)) 99) 98 0 (99 + 1)) 107) 98 1 (107 + 1)), m)
  refine gc_iload_n dX3_init_35 rfl ?_
  show Gc 48 2 mX3_init _ 36 [vr 97, vi 2] [vi 2, vr 98] (115, (pw (pSt (pw (pSt (pw π 97 0 (98 + 1)) 99) 98 0 (99 + 1)) 107) 98 1 (107 + 1)), m)
  refine gc_new dX3_init_36 nw_3_9 (fun j _ => tg_6 j) ob_115 (by first | rfl | (simp only [okA, List.all_cons, List.all_nil, Bool.and_true, Bool.or_eq_true, Bool.and_eq_true, decide_eq_true_eq]; omega)) (by first | rfl | (simp only [okA, List.all_cons, List.all_nil, Bool.and_true, Bool.or_eq_true, Bool.and_eq_true, decide_eq_true_eq]; omega)) (fun hz4 => ?_)
  show Gc 47 2 mX3_init _ 39 [vr 97, vi 2] [vr 115, vi 2, vr 98] (116, (pw (pSt (pw (pSt (pw π 97 0 (98 + 1)) 99) 98 0 (99 + 1)) 107) 98 1 (107 + 1)), m)
  refine gc_dup_r dX3_init_39 ?_
  show Gc 47 2 mX3_init _ 40 [vr 97, vi 2] [vr 115, vr 115, vi 2, vr 98] (116, (pw (pSt (pw (pSt (pw π 97 0 (98 + 1)) 99) 98 0 (99 + 1)) 107) 98 1 (107 + 1)), m)
  refine gc_callI (as := []) (S := [vr 115, vi 2, vr 98]) (b := 115) (evc_X6 (a := 115) (m := m) isSt_115 (fun i => hz4 i)) dX3_init_40 ci_3_24 rfl rfl (by decide) (Nat.le_of_ble_eq_true rfl) (by decide) (fun _ _ h => by rw [h]; show 116 ≤ 123; omega) (by first | rfl | (simp only [okA, List.all_cons, List.all_nil, Bool.and_true, Bool.or_eq_true, Bool.and_eq_true, decide_eq_true_eq]; omega)) (by first | rfl | (simp only [okA, List.all_cons, List.all_nil, Bool.and_true, Bool.or_eq_true, Bool.and_eq_true, decide_eq_true_eq]; omega)) (fun r9 w9 hq9 _ => ?_)
  subst hq9
  show Gc 40 2 mX3_init _ 43 [vr 97, vi 2] [vr 115, vi 2, vr 98] (123, (pSt (pw (pSt (pw (pSt (pw π 97 0 (98 + 1)) 99) 98 0 (99 + 1)) 107) 98 1 (107 + 1)) 115), m)
  refine gc_aastore (kd := 4) dX3_init_43 (Or.inl ⟨rfl, rfl⟩) ar_98 (show 98 < 123 by omega) ob_115 (show 115 < 123 by omega) (by decide) (by decide) ?_
  show Gc 40 2 mX3_init _ 44 [vr 97, vi 2] [] (123, (pw (pSt (pw (pSt (pw (pSt (pw π 97 0 (98 + 1)) 99) 98 0 (99 + 1)) 107) 98 1 (107 + 1)) 115) 98 2 (115 + 1)), m)
  refine gc_iinc (L' := [vr 97, vi 3]) dX3_init_44 rfl (by decide) rfl rfl ?_
  show Gc 40 2 mX3_init _ 47 [vr 97, vi 3] [] (123, (pw (pSt (pw (pSt (pw (pSt (pw π 97 0 (98 + 1)) 99) 98 0 (99 + 1)) 107) 98 1 (107 + 1)) 115) 98 2 (115 + 1)), m)
  refine gc_goto (tgt := 25) dX3_init_47 (by decide) ?_
  show Gc 40 2 mX3_init _ 25 [vr 97, vi 3] [] (123, (pw (pSt (pw (pSt (pw (pSt (pw π 97 0 (98 + 1)) 99) 98 0 (99 + 1)) 107) 98 1 (107 + 1)) 115) 98 2 (115 + 1)), m)
  refine gc_iload_n dX3_init_25 rfl ?_
  show Gc 40 2 mX3_init _ 26 [vr 97, vi 3] [vi 3] (123, (pw (pSt (pw (pSt (pw (pSt (pw π 97 0 (98 + 1)) 99) 98 0 (99 + 1)) 107) 98 1 (107 + 1)) 115) 98 2 (115 + 1)), m)
  refine gc_bipush dX3_init_26 (by decide) ?_
  show Gc 40 2 mX3_init _ 28 [vr 97, vi 3] [vi 8, vi 3] (123, (pw (pSt (pw (pSt (pw (pSt (pw π 97 0 (98 + 1)) 99) 98 0 (99 + 1)) 107) 98 1 (107 + 1)) 115) 98 2 (115 + 1)), m)
  refine gc_icmp_ge (tgt := 50) dX3_init_28 (by decide) ⟨by omega, by omega⟩ ⟨by omega, by omega⟩ (fun h => by omega) (fun _ => ?_)
  show Gc 40 2 mX3_init _ 31 [vr 97, vi 3] [] (123, (pw (pSt (pw (pSt (pw (pSt (pw π 97 0 (98 + 1)) 99) 98 0 (99 + 1)) 107) 98 1 (107 + 1)) 115) 98 2 (115 + 1)), m)
  refine gc_aload_n dX3_init_31 rfl ?_
  show Gc 40 2 mX3_init _ 32 [vr 97, vi 3] [vr 97] (123, (pw (pSt (pw (pSt (pw (pSt (pw π 97 0 (98 + 1)) 99) 98 0 (99 + 1)) 107) 98 1 (107 + 1)) 115) 98 2 (115 + 1)), m)
  refine gc_getP (b := 98) dX3_init_32 fl_3_11 ob_97 (show 97 < 123 by omega) rfl rfl ?_
  show Gc 40 2 mX3_init _ 35 [vr 97, vi 3] [vr 98] (123, (pw (pSt (pw (pSt (pw (pSt (pw π 97 0 (98 + 1)) 99) 98 0 (99 + 1)) 107) 98 1 (107 + 1)) 115) 98 2 (115 + 1)), m)
  refine gc_iload_n dX3_init_35 rfl ?_
  show Gc 40 2 mX3_init _ 36 [vr 97, vi 3] [vi 3, vr 98] (123, (pw (pSt (pw (pSt (pw (pSt (pw π 97 0 (98 + 1)) 99) 98 0 (99 + 1)) 107) 98 1 (107 + 1)) 115) 98 2 (115 + 1)), m)
  refine gc_new dX3_init_36 nw_3_9 (fun j _ => tg_6 j) ob_123 (by first | rfl | (simp only [okA, List.all_cons, List.all_nil, Bool.and_true, Bool.or_eq_true, Bool.and_eq_true, decide_eq_true_eq]; omega)) (by first | rfl | (simp only [okA, List.all_cons, List.all_nil, Bool.and_true, Bool.or_eq_true, Bool.and_eq_true, decide_eq_true_eq]; omega)) (fun hz5 => ?_)
  show Gc 39 2 mX3_init _ 39 [vr 97, vi 3] [vr 123, vi 3, vr 98] (124, (pw (pSt (pw (pSt (pw (pSt (pw π 97 0 (98 + 1)) 99) 98 0 (99 + 1)) 107) 98 1 (107 + 1)) 115) 98 2 (115 + 1)), m)
  refine gc_dup_r dX3_init_39 ?_
  show Gc 39 2 mX3_init _ 40 [vr 97, vi 3] [vr 123, vr 123, vi 3, vr 98] (124, (pw (pSt (pw (pSt (pw (pSt (pw π 97 0 (98 + 1)) 99) 98 0 (99 + 1)) 107) 98 1 (107 + 1)) 115) 98 2 (115 + 1)), m)
  refine gc_callI (as := []) (S := [vr 123, vi 3, vr 98]) (b := 123) (evc_X6 (a := 123) (m := m) isSt_123 (fun i => hz5 i)) dX3_init_40 ci_3_24 rfl rfl (by decide) (Nat.le_of_ble_eq_true rfl) (by decide) (fun _ _ h => by rw [h]; show 124 ≤ 131; omega) (by first | rfl | (simp only [okA, List.all_cons, List.all_nil, Bool.and_true, Bool.or_eq_true, Bool.and_eq_true, decide_eq_true_eq]; omega)) (by first | rfl | (simp only [okA, List.all_cons, List.all_nil, Bool.and_true, Bool.or_eq_true, Bool.and_eq_true, decide_eq_true_eq]; omega)) (fun r9 w9 hq9 _ => ?_)
  subst hq9
  show Gc 32 2 mX3_init _ 43 [vr 97, vi 3] [vr 123, vi 3, vr 98] (131, (pSt (pw (pSt (pw (pSt (pw (pSt (pw π 97 0 (98 + 1)) 99) 98 0 (99 + 1)) 107) 98 1 (107 + 1)) 115) 98 2 (115 + 1)) 123), m)
  refine gc_aastore (kd := 4) dX3_init_43 (Or.inl ⟨rfl, rfl⟩) ar_98 (show 98 < 131 by omega) ob_123 (show 123 < 131 by omega) (by decide) (by decide) ?_
  show Gc 32 2 mX3_init _ 44 [vr 97, vi 3] [] (131, (pw (pSt (pw (pSt (pw (pSt (pw (pSt (pw π 97 0 (98 + 1)) 99) 98 0 (99 + 1)) 107) 98 1 (107 + 1)) 115) 98 2 (115 + 1)) 123) 98 3 (123 + 1)), m)
  refine gc_iinc (L' := [vr 97, vi 4]) dX3_init_44 rfl (by decide) rfl rfl ?_
  show Gc 32 2 mX3_init _ 47 [vr 97, vi 4] [] (131, (pw (pSt (pw (pSt (pw (pSt (pw (pSt (pw π 97 0 (98 + 1)) 99) 98 0 (99 + 1)) 107) 98 1 (107 + 1)) 115) 98 2 (115 + 1)) 123) 98 3 (123 + 1)), m)
  refine gc_goto (tgt := 25) dX3_init_47 (by decide) ?_
  show Gc 32 2 mX3_init _ 25 [vr 97, vi 4] [] (131, (pw (pSt (pw (pSt (pw (pSt (pw (pSt (pw π 97 0 (98 + 1)) 99) 98 0 (99 + 1)) 107) 98 1 (107 + 1)) 115) 98 2 (115 + 1)) 123) 98 3 (123 + 1)), m)
  refine gc_iload_n dX3_init_25 rfl ?_
  show Gc 32 2 mX3_init _ 26 [vr 97, vi 4] [vi 4] (131, (pw (pSt (pw (pSt (pw (pSt (pw (pSt (pw π 97 0 (98 + 1)) 99) 98 0 (99 + 1)) 107) 98 1 (107 + 1)) 115) 98 2 (115 + 1)) 123) 98 3 (123 + 1)), m)
  refine gc_bipush dX3_init_26 (by decide) ?_
  show Gc 32 2 mX3_init _ 28 [vr 97, vi 4] [vi 8, vi 4] (131, (pw (pSt (pw (pSt (pw (pSt (pw (pSt (pw π 97 0 (98 + 1)) 99) 98 0 (99 + 1)) 107) 98 1 (107 + 1)) 115) 98 2 (115 + 1)) 123) 98 3 (123 + 1)), m)
  refine gc_icmp_ge (tgt := 50) dX3_init_28 (by decide) ⟨by omega, by omega⟩ ⟨by omega, by omega⟩ (fun h => by omega) (fun _ => ?_)
  show Gc 32 2 mX3_init _ 31 [vr 97, vi 4] [] (131, (pw (pSt (pw (pSt (pw (pSt (pw (pSt (pw π 97 0 (98 + 1)) 99) 98 0 (99 + 1)) 107) 98 1 (107 + 1)) 115) 98 2 (115 + 1)) 123) 98 3 (123 + 1)), m)
  refine gc_aload_n dX3_init_31 rfl ?_
  show Gc 32 2 mX3_init _ 32 [vr 97, vi 4] [vr 97] (131, (pw (pSt (pw (pSt (pw (pSt (pw (pSt (pw π 97 0 (98 + 1)) 99) 98 0 (99 + 1)) 107) 98 1 (107 + 1)) 115) 98 2 (115 + 1)) 123) 98 3 (123 + 1)), m)
  refine gc_getP (b := 98) dX3_init_32 fl_3_11 ob_97 (show 97 < 131 by omega) rfl rfl ?_
  show Gc 32 2 mX3_init _ 35 [vr 97, vi 4] [vr 98] (131, (pw (pSt (pw (pSt (pw (pSt (pw (pSt (pw π 97 0 (98 + 1)) 99) 98 0 (99 + 1)) 107) 98 1 (107 + 1)) 115) 98 2 (115 + 1)) 123) 98 3 (123 + 1)), m)
  refine gc_iload_n dX3_init_35 rfl ?_
  show Gc 32 2 mX3_init _ 36 [vr 97, vi 4] [vi 4, vr 98] (131, (pw (pSt (pw (pSt (pw (pSt (pw (pSt (pw π 97 0 (98 + 1)) 99) 98 0 (99 + 1)) 107) 98 1 (107 + 1)) 115) 98 2 (115 + 1)) 123) 98 3 (123 + 1)), m)
  refine gc_new dX3_init_36 nw_3_9 (fun j _ => tg_6 j) ob_131 (by first | rfl | (simp only [okA, List.all_cons, List.all_nil, Bool.and_true, Bool.or_eq_true, Bool.and_eq_true, decide_eq_true_eq]; omega)) (by first | rfl | (simp only [okA, List.all_cons, List.all_nil, Bool.and_true, Bool.or_eq_true, Bool.and_eq_true, decide_eq_true_eq]; omega)) (fun hz6 => ?_)
  show Gc 31 2 mX3_init _ 39 [vr 97, vi 4] [vr 131, vi 4, vr 98] (132, (pw (pSt (pw (pSt (pw (pSt (pw (pSt (pw π 97 0 (98 + 1)) 99) 98 0 (99 + 1)) 107) 98 1 (107 + 1)) 115) 98 2 (115 + 1)) 123) 98 3 (123 + 1)), m)
  refine gc_dup_r dX3_init_39 ?_
  show Gc 31 2 mX3_init _ 40 [vr 97, vi 4] [vr 131, vr 131, vi 4, vr 98] (132, (pw (pSt (pw (pSt (pw (pSt (pw (pSt (pw π 97 0 (98 + 1)) 99) 98 0 (99 + 1)) 107) 98 1 (107 + 1)) 115) 98 2 (115 + 1)) 123) 98 3 (123 + 1)), m)
  refine gc_callI (as := []) (S := [vr 131, vi 4, vr 98]) (b := 131) (evc_X6 (a := 131) (m := m) isSt_131 (fun i => hz6 i)) dX3_init_40 ci_3_24 rfl rfl (by decide) (Nat.le_of_ble_eq_true rfl) (by decide) (fun _ _ h => by rw [h]; show 132 ≤ 139; omega) (by first | rfl | (simp only [okA, List.all_cons, List.all_nil, Bool.and_true, Bool.or_eq_true, Bool.and_eq_true, decide_eq_true_eq]; omega)) (by first | rfl | (simp only [okA, List.all_cons, List.all_nil, Bool.and_true, Bool.or_eq_true, Bool.and_eq_true, decide_eq_true_eq]; omega)) (fun r9 w9 hq9 _ => ?_)
  subst hq9
  show Gc 24 2 mX3_init _ 43 [vr 97, vi 4] [vr 131, vi 4, vr 98] (139, (pSt (pw (pSt (pw (pSt (pw (pSt (pw (pSt (pw π 97 0 (98 + 1)) 99) 98 0 (99 + 1)) 107) 98 1 (107 + 1)) 115) 98 2 (115 + 1)) 123) 98 3 (123 + 1)) 131), m)
  refine gc_aastore (kd := 4) dX3_init_43 (Or.inl ⟨rfl, rfl⟩) ar_98 (show 98 < 139 by omega) ob_131 (show 131 < 139 by omega) (by decide) (by decide) ?_
  show Gc 24 2 mX3_init _ 44 [vr 97, vi 4] [] (139, (pw (pSt (pw (pSt (pw (pSt (pw (pSt (pw (pSt (pw π 97 0 (98 + 1)) 99) 98 0 (99 + 1)) 107) 98 1 (107 + 1)) 115) 98 2 (115 + 1)) 123) 98 3 (123 + 1)) 131) 98 4 (131 + 1)), m)
  refine gc_iinc (L' := [vr 97, vi 5]) dX3_init_44 rfl (by decide) rfl rfl ?_
  show Gc 24 2 mX3_init _ 47 [vr 97, vi 5] [] (139, (pw (pSt (pw (pSt (pw (pSt (pw (pSt (pw (pSt (pw π 97 0 (98 + 1)) 99) 98 0 (99 + 1)) 107) 98 1 (107 + 1)) 115) 98 2 (115 + 1)) 123) 98 3 (123 + 1)) 131) 98 4 (131 + 1)), m)
  refine gc_goto (tgt := 25) dX3_init_47 (by decide) ?_
  show Gc 24 2 mX3_init _ 25 [vr 97, vi 5] [] (139, (pw (pSt (pw (pSt (pw (pSt (pw (pSt (pw (pSt (pw π 97 0 (98 + 1)) 99) 98 0 (99 + 1)) 107) 98 1 (107 + 1)) 115) 98 2 (115 + 1)) 123) 98 3 (123 + 1)) 131) 98 4 (131 + 1)), m)
  refine gc_iload_n dX3_init_25 rfl ?_
  show Gc 24 2 mX3_init _ 26 [vr 97, vi 5] [vi 5] (139, (pw (pSt (pw (pSt (pw (pSt (pw (pSt (pw (pSt (pw π 97 0 (98 + 1)) 99) 98 0 (99 + 1)) 107) 98 1 (107 + 1)) 115) 98 2 (115 + 1)) 123) 98 3 (123 + 1)) 131) 98 4 (131 + 1)), m)
  refine gc_bipush dX3_init_26 (by decide) ?_
  show Gc 24 2 mX3_init _ 28 [vr 97, vi 5] [vi 8, vi 5] (139, (pw (pSt (pw (pSt (pw (pSt (pw (pSt (pw (pSt (pw π 97 0 (98 + 1)) 99) 98 0 (99 + 1)) 107) 98 1 (107 + 1)) 115) 98 2 (115 + 1)) 123) 98 3 (123 + 1)) 131) 98 4 (131 + 1)), m)
  refine gc_icmp_ge (tgt := 50) dX3_init_28 (by decide) ⟨by omega, by omega⟩ ⟨by omega, by omega⟩ (fun h => by omega) (fun _ => ?_)
  show Gc 24 2 mX3_init _ 31 [vr 97, vi 5] [] (139, (pw (pSt (pw (pSt (pw (pSt (pw (pSt (pw (pSt (pw π 97 0 (98 + 1)) 99) 98 0 (99 + 1)) 107) 98 1 (107 + 1)) 115) 98 2 (115 + 1)) 123) 98 3 (123 + 1)) 131) 98 4 (131 + 1)), m)
  refine gc_aload_n dX3_init_31 rfl ?_
  show Gc 24 2 mX3_init _ 32 [vr 97, vi 5] [vr 97] (139, (pw (pSt (pw (pSt (pw (pSt (pw (pSt (pw (pSt (pw π 97 0 (98 + 1)) 99) 98 0 (99 + 1)) 107) 98 1 (107 + 1)) 115) 98 2 (115 + 1)) 123) 98 3 (123 + 1)) 131) 98 4 (131 + 1)), m)
  refine gc_getP (b := 98) dX3_init_32 fl_3_11 ob_97 (show 97 < 139 by omega) rfl rfl ?_
  show Gc 24 2 mX3_init _ 35 [vr 97, vi 5] [vr 98] (139, (pw (pSt (pw (pSt (pw (pSt (pw (pSt (pw (pSt (pw π 97 0 (98 + 1)) 99) 98 0 (99 + 1)) 107) 98 1 (107 + 1)) 115) 98 2 (115 + 1)) 123) 98 3 (123 + 1)) 131) 98 4 (131 + 1)), m)
  refine gc_iload_n dX3_init_35 rfl ?_
  show Gc 24 2 mX3_init _ 36 [vr 97, vi 5] [vi 5, vr 98] (139, (pw (pSt (pw (pSt (pw (pSt (pw (pSt (pw (pSt (pw π 97 0 (98 + 1)) 99) 98 0 (99 + 1)) 107) 98 1 (107 + 1)) 115) 98 2 (115 + 1)) 123) 98 3 (123 + 1)) 131) 98 4 (131 + 1)), m)
  refine gc_new dX3_init_36 nw_3_9 (fun j _ => tg_6 j) ob_139 (by first | rfl | (simp only [okA, List.all_cons, List.all_nil, Bool.and_true, Bool.or_eq_true, Bool.and_eq_true, decide_eq_true_eq]; omega)) (by first | rfl | (simp only [okA, List.all_cons, List.all_nil, Bool.and_true, Bool.or_eq_true, Bool.and_eq_true, decide_eq_true_eq]; omega)) (fun hz7 => ?_)
  show Gc 23 2 mX3_init _ 39 [vr 97, vi 5] [vr 139, vi 5, vr 98] (140, (pw (pSt (pw (pSt (pw (pSt (pw (pSt (pw (pSt (pw π 97 0 (98 + 1)) 99) 98 0 (99 + 1)) 107) 98 1 (107 + 1)) 115) 98 2 (115 + 1)) 123) 98 3 (123 + 1)) 131) 98 4 (131 + 1)), m)
  refine gc_dup_r dX3_init_39 ?_
  show Gc 23 2 mX3_init _ 40 [vr 97, vi 5] [vr 139, vr 139, vi 5, vr 98] (140, (pw (pSt (pw (pSt (pw (pSt (pw (pSt (pw (pSt (pw π 97 0 (98 + 1)) 99) 98 0 (99 + 1)) 107) 98 1 (107 + 1)) 115) 98 2 (115 + 1)) 123) 98 3 (123 + 1)) 131) 98 4 (131 + 1)), m)
  refine gc_callI (as := []) (S := [vr 139, vi 5, vr 98]) (b := 139) (evc_X6 (a := 139) (m := m) isSt_139 (fun i => hz7 i)) dX3_init_40 ci_3_24 rfl rfl (by decide) (Nat.le_of_ble_eq_true rfl) (by decide) (fun _ _ h => by rw [h]; show 140 ≤ 147; omega) (by first | rfl | (simp only [okA, List.all_cons, List.all_nil, Bool.and_true, Bool.or_eq_true, Bool.and_eq_true, decide_eq_true_eq]; omega)) (by first | rfl | (simp only [okA, List.all_cons, List.all_nil, Bool.and_true, Bool.or_eq_true, Bool.and_eq_true, decide_eq_true_eq]; omega)) (fun r9 w9 hq9 _ => ?_)
  subst hq9
  show Gc 16 2 mX3_init _ 43 [vr 97, vi 5] [vr 139, vi 5, vr 98] (147, (pSt (pw (pSt (pw (pSt (pw (pSt (pw (pSt (pw (pSt (pw π 97 0 (98 + 1)) 99) 98 0 (99 + 1)) 107) 98 1 (107 + 1)) 115) 98 2 (115 + 1)) 123) 98 3 (123 + 1)) 131) 98 4 (131 + 1)) 139), m)
  refine gc_aastore (kd := 4) dX3_init_43 (Or.inl ⟨rfl, rfl⟩) ar_98 (show 98 < 147 by omega) ob_139 (show 139 < 147 by omega) (by decide) (by decide) ?_
  show Gc 16 2 mX3_init _ 44 [vr 97, vi 5] [] (147, (pw (pSt (pw (pSt (pw (pSt (pw (pSt (pw (pSt (pw (pSt (pw π 97 0 (98 + 1)) 99) 98 0 (99 + 1)) 107) 98 1 (107 + 1)) 115) 98 2 (115 + 1)) 123) 98 3 (123 + 1)) 131) 98 4 (131 + 1)) 139) 98 5 (139 + 1)), m)
  refine gc_iinc (L' := [vr 97, vi 6]) dX3_init_44 rfl (by decide) rfl rfl ?_
  show Gc 16 2 mX3_init _ 47 [vr 97, vi 6] [] (147, (pw (pSt (pw (pSt (pw (pSt (pw (pSt (pw (pSt (pw (pSt (pw π 97 0 (98 + 1)) 99) 98 0 (99 + 1)) 107) 98 1 (107 + 1)) 115) 98 2 (115 + 1)) 123) 98 3 (123 + 1)) 131) 98 4 (131 + 1)) 139) 98 5 (139 + 1)), m)
  refine gc_goto (tgt := 25) dX3_init_47 (by decide) ?_
  show Gc 16 2 mX3_init _ 25 [vr 97, vi 6] [] (147, (pw (pSt (pw (pSt (pw (pSt (pw (pSt (pw (pSt (pw (pSt (pw π 97 0 (98 + 1)) 99) 98 0 (99 + 1)) 107) 98 1 (107 + 1)) 115) 98 2 (115 + 1)) 123) 98 3 (123 + 1)) 131) 98 4 (131 + 1)) 139) 98 5 (139 + 1)), m)
  refine gc_iload_n dX3_init_25 rfl ?_
  show Gc 16 2 mX3_init _ 26 [vr 97, vi 6] [vi 6] (147, (pw (pSt (pw (pSt (pw (pSt (pw (pSt (pw (pSt (pw (pSt (pw π 97 0 (98 + 1)) 99) 98 0 (99 + 1)) 107) 98 1 (107 + 1)) 115) 98 2 (115 + 1)) 123) 98 3 (123 + 1)) 131) 98 4 (131 + 1)) 139) 98 5 (139 + 1)), m)
  refine gc_bipush dX3_init_26 (by decide) ?_
  show Gc 16 2 mX3_init _ 28 [vr 97, vi 6] [vi 8, vi 6] (147, (pw (pSt (pw (pSt (pw (pSt (pw (pSt (pw (pSt (pw (pSt (pw π 97 0 (98 + 1)) 99) 98 0 (99 + 1)) 107) 98 1 (107 + 1)) 115) 98 2 (115 + 1)) 123) 98 3 (123 + 1)) 131) 98 4 (131 + 1)) 139) 98 5 (139 + 1)), m)
  refine gc_icmp_ge (tgt := 50) dX3_init_28 (by decide) ⟨by omega, by omega⟩ ⟨by omega, by omega⟩ (fun h => by omega) (fun _ => ?_)
  show Gc 16 2 mX3_init _ 31 [vr 97, vi 6] [] (147, (pw (pSt (pw (pSt (pw (pSt (pw (pSt (pw (pSt (pw (pSt (pw π 97 0 (98 + 1)) 99) 98 0 (99 + 1)) 107) 98 1 (107 + 1)) 115) 98 2 (115 + 1)) 123) 98 3 (123 + 1)) 131) 98 4 (131 + 1)) 139) 98 5 (139 + 1)), m)
  refine gc_aload_n dX3_init_31 rfl ?_
  show Gc 16 2 mX3_init _ 32 [vr 97, vi 6] [vr 97] (147, (pw (pSt (pw (pSt (pw (pSt (pw (pSt (pw (pSt (pw (pSt (pw π 97 0 (98 + 1)) 99) 98 0 (99 + 1)) 107) 98 1 (107 + 1)) 115) 98 2 (115 + 1)) 123) 98 3 (123 + 1)) 131) 98 4 (131 + 1)) 139) 98 5 (139 + 1)), m)
  refine gc_getP (b := 98) dX3_init_32 fl_3_11 ob_97 (show 97 < 147 by omega) rfl rfl ?_
  show Gc 16 2 mX3_init _ 35 [vr 97, vi 6] [vr 98] (147, (pw (pSt (pw (pSt (pw (pSt (pw (pSt (pw (pSt (pw (pSt (pw π 97 0 (98 + 1)) 99) 98 0 (99 + 1)) 107) 98 1 (107 + 1)) 115) 98 2 (115 + 1)) 123) 98 3 (123 + 1)) 131) 98 4 (131 + 1)) 139) 98 5 (139 + 1)), m)
  refine gc_iload_n dX3_init_35 rfl ?_
  show Gc 16 2 mX3_init _ 36 [vr 97, vi 6] [vi 6, vr 98] (147, (pw (pSt (pw (pSt (pw (pSt (pw (pSt (pw (pSt (pw (pSt (pw π 97 0 (98 + 1)) 99) 98 0 (99 + 1)) 107) 98 1 (107 + 1)) 115) 98 2 (115 + 1)) 123) 98 3 (123 + 1)) 131) 98 4 (131 + 1)) 139) 98 5 (139 + 1)), m)
  refine gc_new dX3_init_36 nw_3_9 (fun j _ => tg_6 j) ob_147 (by first | rfl | (simp only [okA, List.all_cons, List.all_nil, Bool.and_true, Bool.or_eq_true, Bool.and_eq_true, decide_eq_true_eq]; omega)) (by first | rfl | (simp only [okA, List.all_cons, List.all_nil, Bool.and_true, Bool.or_eq_true, Bool.and_eq_true, decide_eq_true_eq]; omega)) (fun hz8 => ?_)
  show Gc 15 2 mX3_init _ 39 [vr 97, vi 6] [vr 147, vi 6, vr 98] (148, (pw (pSt (pw (pSt (pw (pSt (pw (pSt (pw (pSt (pw (pSt (pw π 97 0 (98 + 1)) 99) 98 0 (99 + 1)) 107) 98 1 (107 + 1)) 115) 98 2 (115 + 1)) 123) 98 3 (123 + 1)) 131) 98 4 (131 + 1)) 139) 98 5 (139 + 1)), m)
  refine gc_dup_r dX3_init_39 ?_
  show Gc 15 2 mX3_init _ 40 [vr 97, vi 6] [vr 147, vr 147, vi 6, vr 98] (148, (pw (pSt (pw (pSt (pw (pSt (pw (pSt (pw (pSt (pw (pSt (pw π 97 0 (98 + 1)) 99) 98 0 (99 + 1)) 107) 98 1 (107 + 1)) 115) 98 2 (115 + 1)) 123) 98 3 (123 + 1)) 131) 98 4 (131 + 1)) 139) 98 5 (139 + 1)), m)
  refine gc_callI (as := []) (S := [vr 147, vi 6, vr 98]) (b := 147) (evc_X6 (a := 147) (m := m) isSt_147 (fun i => hz8 i)) dX3_init_40 ci_3_24 rfl rfl (by decide) (Nat.le_of_ble_eq_true rfl) (by decide) (fun _ _ h => by rw [h]; show 148 ≤ 155; omega) (by first | rfl | (simp only [okA, List.all_cons, List.all_nil, Bool.and_true, Bool.or_eq_true, Bool.and_eq_true, decide_eq_true_eq]; omega)) (by first | rfl | (simp only [okA, List.all_cons, List.all_nil, Bool.and_true, Bool.or_eq_true, Bool.and_eq_true, decide_eq_true_eq]; omega)) (fun r9 w9 hq9 _ => ?_)
  subst hq9
  show Gc 8 2 mX3_init _ 43 [vr 97, vi 6] [vr 147, vi 6, vr 98] (155, (pSt (pw (pSt (pw (pSt (pw (pSt (pw (pSt (pw (pSt (pw (pSt (pw π 97 0 (98 + 1)) 99) 98 0 (99 + 1)) 107) 98 1 (107 + 1)) 115) 98 2 (115 + 1)) 123) 98 3 (123 + 1)) 131) 98 4 (131 + 1)) 139) 98 5 (139 + 1)) 147), m)
  refine gc_aastore (kd := 4) dX3_init_43 (Or.inl ⟨rfl, rfl⟩) ar_98 (show 98 < 155 by omega) ob_147 (show 147 < 155 by omega) (by decide) (by decide) ?_
  show Gc 8 2 mX3_init _ 44 [vr 97, vi 6] [] (155, (pw (pSt (pw (pSt (pw (pSt (pw (pSt (pw (pSt (pw (pSt (pw (pSt (pw π 97 0 (98 + 1)) 99) 98 0 (99 + 1)) 107) 98 1 (107 + 1)) 115) 98 2 (115 + 1)) 123) 98 3 (123 + 1)) 131) 98 4 (131 + 1)) 139) 98 5 (139 + 1)) 147) 98 6 (147 + 1)), m)
  refine gc_iinc (L' := [vr 97, vi 7]) dX3_init_44 rfl (by decide) rfl rfl ?_
  show Gc 8 2 mX3_init _ 47 [vr 97, vi 7] [] (155, (pw (pSt (pw (pSt (pw (pSt (pw (pSt (pw (pSt (pw (pSt (pw (pSt (pw π 97 0 (98 + 1)) 99) 98 0 (99 + 1)) 107) 98 1 (107 + 1)) 115) 98 2 (115 + 1)) 123) 98 3 (123 + 1)) 131) 98 4 (131 + 1)) 139) 98 5 (139 + 1)) 147) 98 6 (147 + 1)), m)
  refine gc_goto (tgt := 25) dX3_init_47 (by decide) ?_
  show Gc 8 2 mX3_init _ 25 [vr 97, vi 7] [] (155, (pw (pSt (pw (pSt (pw (pSt (pw (pSt (pw (pSt (pw (pSt (pw (pSt (pw π 97 0 (98 + 1)) 99) 98 0 (99 + 1)) 107) 98 1 (107 + 1)) 115) 98 2 (115 + 1)) 123) 98 3 (123 + 1)) 131) 98 4 (131 + 1)) 139) 98 5 (139 + 1)) 147) 98 6 (147 + 1)), m)
  refine gc_iload_n dX3_init_25 rfl ?_
  show Gc 8 2 mX3_init _ 26 [vr 97, vi 7] [vi 7] (155, (pw (pSt (pw (pSt (pw (pSt (pw (pSt (pw (pSt (pw (pSt (pw (pSt (pw π 97 0 (98 + 1)) 99) 98 0 (99 + 1)) 107) 98 1 (107 + 1)) 115) 98 2 (115 + 1)) 123) 98 3 (123 + 1)) 131) 98 4 (131 + 1)) 139) 98 5 (139 + 1)) 147) 98 6 (147 + 1)), m)
  refine gc_bipush dX3_init_26 (by decide) ?_
  show Gc 8 2 mX3_init _ 28 [vr 97, vi 7] [vi 8, vi 7] (155, (pw (pSt (pw (pSt (pw (pSt (pw (pSt (pw (pSt (pw (pSt (pw (pSt (pw π 97 0 (98 + 1)) 99) 98 0 (99 + 1)) 107) 98 1 (107 + 1)) 115) 98 2 (115 + 1)) 123) 98 3 (123 + 1)) 131) 98 4 (131 + 1)) 139) 98 5 (139 + 1)) 147) 98 6 (147 + 1)), m)
  refine gc_icmp_ge (tgt := 50) dX3_init_28 (by decide) ⟨by omega, by omega⟩ ⟨by omega, by omega⟩ (fun h => by omega) (fun _ => ?_)
  show Gc 8 2 mX3_init _ 31 [vr 97, vi 7] [] (155, (pw (pSt (pw (pSt (pw (pSt (pw (pSt (pw (pSt (pw (pSt (pw (pSt (pw π 97 0 (98 + 1)) 99) 98 0 (99 + 1)) 107) 98 1 (107 + 1)) 115) 98 2 (115 + 1)) 123) 98 3 (123 + 1)) 131) 98 4 (131 + 1)) 139) 98 5 (139 + 1)) 147) 98 6 (147 + 1)), m)
  refine gc_aload_n dX3_init_31 rfl ?_
  show Gc 8 2 mX3_init _ 32 [vr 97, vi 7] [vr 97] (155, (pw (pSt (pw (pSt (pw (pSt (pw (pSt (pw (pSt (pw (pSt (pw (pSt (pw π 97 0 (98 + 1)) 99) 98 0 (99 + 1)) 107) 98 1 (107 + 1)) 115) 98 2 (115 + 1)) 123) 98 3 (123 + 1)) 131) 98 4 (131 + 1)) 139) 98 5 (139 + 1)) 147) 98 6 (147 + 1)), m)
  refine gc_getP (b := 98) dX3_init_32 fl_3_11 ob_97 (show 97 < 155 by omega) rfl rfl ?_
  show Gc 8 2 mX3_init _ 35 [vr 97, vi 7] [vr 98] (155, (pw (pSt (pw (pSt (pw (pSt (pw (pSt (pw (pSt (pw (pSt (pw (pSt (pw π 97 0 (98 + 1)) 99) 98 0 (99 + 1)) 107) 98 1 (107 + 1)) 115) 98 2 (115 + 1)) 123) 98 3 (123 + 1)) 131) 98 4 (131 + 1)) 139) 98 5 (139 + 1)) 147) 98 6 (147 + 1)), m)
  refine gc_iload_n dX3_init_35 rfl ?_
  show Gc 8 2 mX3_init _ 36 [vr 97, vi 7] [vi 7, vr 98] (155, (pw (pSt (pw (pSt (pw (pSt (pw (pSt (pw (pSt (pw (pSt (pw (pSt (pw π 97 0 (98 + 1)) 99) 98 0 (99 + 1)) 107) 98 1 (107 + 1)) 115) 98 2 (115 + 1)) 123) 98 3 (123 + 1)) 131) 98 4 (131 + 1)) 139) 98 5 (139 + 1)) 147) 98 6 (147 + 1)), m)
  refine gc_new dX3_init_36 nw_3_9 (fun j _ => tg_6 j) ob_155 (by first | rfl | (simp only [okA, List.all_cons, List.all_nil, Bool.and_true, Bool.or_eq_true, Bool.and_eq_true, decide_eq_true_eq]; omega)) (by first | rfl | (simp only [okA, List.all_cons, List.all_nil, Bool.and_true, Bool.or_eq_true, Bool.and_eq_true, decide_eq_true_eq]; omega)) (fun hz9 => ?_)
  show Gc 7 2 mX3_init _ 39 [vr 97, vi 7] [vr 155, vi 7, vr 98] (156, (pw (pSt (pw (pSt (pw (pSt (pw (pSt (pw (pSt (pw (pSt (pw (pSt (pw π 97 0 (98 + 1)) 99) 98 0 (99 + 1)) 107) 98 1 (107 + 1)) 115) 98 2 (115 + 1)) 123) 98 3 (123 + 1)) 131) 98 4 (131 + 1)) 139) 98 5 (139 + 1)) 147) 98 6 (147 + 1)), m)
  refine gc_dup_r dX3_init_39 ?_
  show Gc 7 2 mX3_init _ 40 [vr 97, vi 7] [vr 155, vr 155, vi 7, vr 98] (156, (pw (pSt (pw (pSt (pw (pSt (pw (pSt (pw (pSt (pw (pSt (pw (pSt (pw π 97 0 (98 + 1)) 99) 98 0 (99 + 1)) 107) 98 1 (107 + 1)) 115) 98 2 (115 + 1)) 123) 98 3 (123 + 1)) 131) 98 4 (131 + 1)) 139) 98 5 (139 + 1)) 147) 98 6 (147 + 1)), m)
  refine gc_callI (as := []) (S := [vr 155, vi 7, vr 98]) (b := 155) (evc_X6 (a := 155) (m := m) isSt_155 (fun i => hz9 i)) dX3_init_40 ci_3_24 rfl rfl (by decide) (Nat.le_of_ble_eq_true rfl) (by decide) (fun _ _ h => by rw [h]; show 156 ≤ 163; omega) (by first | rfl | (simp only [okA, List.all_cons, List.all_nil, Bool.and_true, Bool.or_eq_true, Bool.and_eq_true, decide_eq_true_eq]; omega)) (by first | rfl | (simp only [okA, List.all_cons, List.all_nil, Bool.and_true, Bool.or_eq_true, Bool.and_eq_true, decide_eq_true_eq]; omega)) (fun r9 w9 hq9 _ => ?_)
  subst hq9
  show Gc 0 2 mX3_init _ 43 [vr 97, vi 7] [vr 155, vi 7, vr 98] (163, (pSt (pw (pSt (pw (pSt (pw (pSt (pw (pSt (pw (pSt (pw (pSt (pw (pSt (pw π 97 0 (98 + 1)) 99) 98 0 (99 + 1)) 107) 98 1 (107 + 1)) 115) 98 2 (115 + 1)) 123) 98 3 (123 + 1)) 131) 98 4 (131 + 1)) 139) 98 5 (139 + 1)) 147) 98 6 (147 + 1)) 155), m)
  refine gc_aastore (kd := 4) dX3_init_43 (Or.inl ⟨rfl, rfl⟩) ar_98 (show 98 < 163 by omega) ob_155 (show 155 < 163 by omega) (by decide) (by decide) ?_
  show Gc 0 2 mX3_init _ 44 [vr 97, vi 7] [] (163, (pw (pSt (pw (pSt (pw (pSt (pw (pSt (pw (pSt (pw (pSt (pw (pSt (pw (pSt (pw π 97 0 (98 + 1)) 99) 98 0 (99 + 1)) 107) 98 1 (107 + 1)) 115) 98 2 (115 + 1)) 123) 98 3 (123 + 1)) 131) 98 4 (131 + 1)) 139) 98 5 (139 + 1)) 147) 98 6 (147 + 1)) 155) 98 7 (155 + 1)), m)
  refine gc_iinc (L' := [vr 97, vi 8]) dX3_init_44 rfl (by decide) rfl rfl ?_
  show Gc 0 2 mX3_init _ 47 [vr 97, vi 8] [] (163, (pw (pSt (pw (pSt (pw (pSt (pw (pSt (pw (pSt (pw (pSt (pw (pSt (pw (pSt (pw π 97 0 (98 + 1)) 99) 98 0 (99 + 1)) 107) 98 1 (107 + 1)) 115) 98 2 (115 + 1)) 123) 98 3 (123 + 1)) 131) 98 4 (131 + 1)) 139) 98 5 (139 + 1)) 147) 98 6 (147 + 1)) 155) 98 7 (155 + 1)), m)
  refine gc_goto (tgt := 25) dX3_init_47 (by decide) ?_
  show Gc 0 2 mX3_init _ 25 [vr 97, vi 8] [] (163, (pw (pSt (pw (pSt (pw (pSt (pw (pSt (pw (pSt (pw (pSt (pw (pSt (pw (pSt (pw π 97 0 (98 + 1)) 99) 98 0 (99 + 1)) 107) 98 1 (107 + 1)) 115) 98 2 (115 + 1)) 123) 98 3 (123 + 1)) 131) 98 4 (131 + 1)) 139) 98 5 (139 + 1)) 147) 98 6 (147 + 1)) 155) 98 7 (155 + 1)), m)
  refine gc_iload_n dX3_init_25 rfl ?_
  show Gc 0 2 mX3_init _ 26 [vr 97, vi 8] [vi 8] (163, (pw (pSt (pw (pSt (pw (pSt (pw (pSt (pw (pSt (pw (pSt (pw (pSt (pw (pSt (pw π 97 0 (98 + 1)) 99) 98 0 (99 + 1)) 107) 98 1 (107 + 1)) 115) 98 2 (115 + 1)) 123) 98 3 (123 + 1)) 131) 98 4 (131 + 1)) 139) 98 5 (139 + 1)) 147) 98 6 (147 + 1)) 155) 98 7 (155 + 1)), m)
  refine gc_bipush dX3_init_26 (by decide) ?_
  show Gc 0 2 mX3_init _ 28 [vr 97, vi 8] [vi 8, vi 8] (163, (pw (pSt (pw (pSt (pw (pSt (pw (pSt (pw (pSt (pw (pSt (pw (pSt (pw (pSt (pw π 97 0 (98 + 1)) 99) 98 0 (99 + 1)) 107) 98 1 (107 + 1)) 115) 98 2 (115 + 1)) 123) 98 3 (123 + 1)) 131) 98 4 (131 + 1)) 139) 98 5 (139 + 1)) 147) 98 6 (147 + 1)) 155) 98 7 (155 + 1)), m)
  refine gc_icmp_ge (tgt := 50) dX3_init_28 (by decide) ⟨by omega, by omega⟩ ⟨by omega, by omega⟩ (fun _ => ?_) (fun h => by omega)
  show Gc 0 2 mX3_init _ 50 [vr 97, vi 8] [] (163, (pw (pSt (pw (pSt (pw (pSt (pw (pSt (pw (pSt (pw (pSt (pw (pSt (pw (pSt (pw π 97 0 (98 + 1)) 99) 98 0 (99 + 1)) 107) 98 1 (107 + 1)) 115) 98 2 (115 + 1)) 123) 98 3 (123 + 1)) 131) 98 4 (131 + 1)) 139) 98 5 (139 + 1)) 147) 98 6 (147 + 1)) 155) 98 7 (155 + 1)), m)
  exact gc_ret (v := 0) rfl dX3_init_50 rfl rfl
