/-! ===== what the start gives ===== -/
def gvL : List Cond := flatC (Jvm.Cond.and given_1 narrow_1)
def tmS (i : Nat) : Term := match i with
  | 0 => .string "CartTurns" 341
  | 1 => .string "CartTurns" 350
  | _ => .string "CartTurns" 352
def tmK (_ : Nat) : Term := .string "CartTurns$Tape" 113
theorem nest_tbl : ∀ w ∈ nestW, w ∈ lw_tbl := by
  intro w hw
  have h : nestW.all (fun w => decide (w ∈ lw_tbl)) = true := by decide +kernel
  exact of_decide_eq_true (List.all_eq_true.mp h w hw)
theorem thr_tbl : ∀ w ∈ thrW, w ∈ lw_tbl := by
  intro w hw
  have h : thrW.all (fun w => decide (w ∈ lw_tbl)) = true := by decide +kernel
  exact of_decide_eq_true (List.all_eq_true.mp h w hw)
theorem gs_ex : ∀ i : Nat, i < 3 → Cond.exactly (tmS i) "java/lang/String" ∈ gvL := by decide +kernel
theorem gs_co : ∀ i : Nat, i < 3 → Cond.eq (.field (tmS i) "java/lang/String" "coder" "B") (.int 0) ∈ gvL := by decide +kernel
theorem gs_ar : ∀ i : Nat, i < 3 → Cond.arrayOf (.field (tmS i) "java/lang/String" "value" "[B") .byte ∈ gvL := by decide +kernel
theorem gs_le : ∀ i : Nat, i < 3 → Cond.eq (.length (.field (tmS i) "java/lang/String" "value" "[B")) (.int (Int32.ofNat (([4, 4, 6] : List Nat).getD i 0))) ∈ gvL := by decide +kernel
theorem gs_el : ∀ i : Nat, i < 3 → ∀ j : Nat, j < ([4, 4, 6] : List Nat).getD i 0 → Cond.eq (.elem (.field (tmS i) "java/lang/String" "value" "[B") (.int (Int32.ofNat j))) (.int ((strB.getD i []).getD j 0)) ∈ gvL := by decide +kernel
theorem gs_ne : ∀ i : Nat, i < 3 → ∀ j : Nat, j < 3 → i ≠ j → Cond.not (Cond.eq (tmS i) (tmS j)) ∈ gvL ∨ Cond.not (Cond.eq (tmS j) (tmS i)) ∈ gvL := by decide +kernel
theorem gk_ex : ∀ i : Nat, i < 1 → Cond.exactly (tmK i) "java/lang/String" ∈ gvL := by decide +kernel
theorem gk_co : ∀ i : Nat, i < 1 → Cond.eq (.field (tmK i) "java/lang/String" "coder" "B") (.int 0) ∈ gvL := by decide +kernel
theorem gk_ar : ∀ i : Nat, i < 1 → Cond.arrayOf (.field (tmK i) "java/lang/String" "value" "[B") .byte ∈ gvL := by decide +kernel
theorem gk_le : ∀ i : Nat, i < 1 → Cond.eq (.length (.field (tmK i) "java/lang/String" "value" "[B")) (.int (Int32.ofNat (([137] : List Nat).getD i 0))) ∈ gvL := by decide +kernel
theorem gk_el : ∀ j : Nat, j < 137 → gvL[72 + j]? = some (Cond.eq (.elem (.field (tmK 0) "java/lang/String" "value" "[B") (.int (Int32.ofNat j))) (.int ((kwB.getD 0 []).getD j 0))) := by decide +kernel
theorem gx_el : ∀ j : Nat, j < 4 → Cond.eq (.elem (.static "CartTurns" "STEP_X" "[I") (.int (Int32.ofNat j))) (.int (Int32.ofInt (stepX j))) ∈ gvL := by decide +kernel
theorem gy_el : ∀ j : Nat, j < 4 → Cond.eq (.elem (.static "CartTurns" "STEP_Y" "[I") (.int (Int32.ofNat j))) (.int (Int32.ofInt (stepY j))) ∈ gvL := by decide +kernel
theorem gx_ar : Cond.arrayOf (.static "CartTurns" "STEP_X" "[I") .int ∈ gvL := by decide +kernel
theorem gy_ar : Cond.arrayOf (.static "CartTurns" "STEP_Y" "[I") .int ∈ gvL := by decide +kernel
theorem gx_le : Cond.eq (.length (.static "CartTurns" "STEP_X" "[I")) (.int (Int32.ofNat 4)) ∈ gvL := by decide +kernel
theorem gy_le : Cond.eq (.length (.static "CartTurns" "STEP_Y" "[I")) (.int (Int32.ofNat 4)) ∈ gvL := by decide +kernel
theorem gc_cs : Cond.eq (.static "java/lang/String" "COMPACT_STRINGS" "Z") (.int 1) ∈ gvL := by decide +kernel
theorem gf_rf : Cond.isRef (.static "jdk/internal/util/Preconditions" "SIOOBE_FORMATTER" "Ljava/util/function/BiFunction;") ∈ gvL := by decide +kernel
theorem gu_rf : Cond.isRef (.static Bundle.tN "UNASSIGNED_STACK" Bundle.steD) ∈ gvL := by decide +kernel
theorem gp_rf : Cond.isRef (.static Bundle.tN "SUPPRESSED_SENTINEL" Bundle.listD) ∈ gvL := by decide +kernel
theorem st_X {args : Array Value} {s : State} {A : Nat → Prop} (ht : ∀ w ∈ lw_tbl, w.before args s = true) (hs : ∀ w ∈ gvL, w.before args s = true) (hA : ∀ a : Nat, a < s.heap.size → ¬ A a) : ∃ t : Nat, va_Z "CartTurns" "STEP_X" "[I" (.ref t) A s s.heap ∧ va_T .int t 4 (fun j => .int (Int32.ofInt (stepX j))) A s s.heap := by
  obtain ⟨t, h1, h2⟩ := va_Tof (N := 4) (f := fun j => .int (Int32.ofInt (stepX j))) (by decide) (hs _ gx_ar) (va_eqt (hs _ gx_le)) (fun j hj => va_eqt (hs _ (gx_el j hj))) hA
  exact ⟨t, va_Zof (ht _ (List.mem_append_right _ (List.mem_append_right _ (List.mem_append_right _ (List.mem_append_right _ (List.mem_append_left _ (List.mem_of_getElem? (l := tables_1_4) (i := 154) rfl))))))) (ht _ (List.mem_append_right _ (List.mem_append_left _ (List.mem_of_getElem? (l := tables_1_1) (i := 1) rfl)))) h1 hA, h2⟩
theorem st_Y {args : Array Value} {s : State} {A : Nat → Prop} (ht : ∀ w ∈ lw_tbl, w.before args s = true) (hs : ∀ w ∈ gvL, w.before args s = true) (hA : ∀ a : Nat, a < s.heap.size → ¬ A a) : ∃ t : Nat, va_Z "CartTurns" "STEP_Y" "[I" (.ref t) A s s.heap ∧ va_T .int t 4 (fun j => .int (Int32.ofInt (stepY j))) A s s.heap := by
  obtain ⟨t, h1, h2⟩ := va_Tof (N := 4) (f := fun j => .int (Int32.ofInt (stepY j))) (by decide) (hs _ gy_ar) (va_eqt (hs _ gy_le)) (fun j hj => va_eqt (hs _ (gy_el j hj))) hA
  exact ⟨t, va_Zof (ht _ (List.mem_append_right _ (List.mem_append_right _ (List.mem_append_right _ (List.mem_append_right _ (List.mem_append_left _ (List.mem_of_getElem? (l := tables_1_4) (i := 156) rfl))))))) (ht _ (List.mem_append_right _ (List.mem_append_left _ (List.mem_of_getElem? (l := tables_1_1) (i := 1) rfl)))) h1 hA, h2⟩
theorem vk_Sc {N : Nat} {len : List Nat} {byt : List (List Int32)} {k v k' v' : Nat → Nat} {A : Nat → Prop} {s : State} {H : Heap} (hk : ∀ i : Nat, i < N → k' i = k i) (hv : ∀ i : Nat, i < N → v' i = v i) (h : vk_S N len byt k v A s H) : vk_S N len byt k' v' A s H := by
  refine ⟨fun i hi => ?_, fun i j hi hj e => h.2 i j hi hj (by rw [← hk i hi, ← hk j hj]; exact e)⟩
  rw [hk i hi, hv i hi]
  exact h.1 i hi
theorem st_S {args : Array Value} {s : State} {A : Nat → Prop} (ht : ∀ w ∈ lw_tbl, w.before args s = true) (hs : ∀ w ∈ gvL, w.before args s = true) (hA : ∀ a : Nat, a < s.heap.size → ¬ A a) : ∃ k v : Nat → Nat, vk_S 3 [4, 4, 6] strB k v A s s.heap ∧ vk_R "CartTurns" 341 " at " (k 0) s ∧ vk_R "CartTurns" 350 " up " (k 1) s ∧ vk_R "CartTurns" 352 " spent" (k 2) s := by
  obtain ⟨k, v, h1, h2⟩ := vk_Sof (N := 3) (tm := tmS) (len := [4, 4, 6]) (byt := strB) (A := A) (by decide +kernel) (fun i hi => hs _ (gs_ex i hi)) (fun i hi => hs _ (gs_co i hi)) (fun i hi => hs _ (gs_ar i hi)) (fun i hi => hs _ (gs_le i hi)) (fun i hi j hj => hs _ (gs_el i hi j hj)) (fun i j hi hj hij => (gs_ne i hi j hj hij).imp (fun h => hs _ h) (fun h => hs _ h)) hA
  exact ⟨k, v, h1, vk_R.of (ht _ (List.mem_append_right _ (List.mem_append_right _ (List.mem_append_right _ (List.mem_append_right _ (List.mem_append_right _ (List.mem_append_left _ (List.mem_of_getElem? (l := tables_1_5) (i := 118) rfl)))))))) (h2 0 (by decide)), vk_R.of (ht _ (List.mem_append_right _ (List.mem_append_right _ (List.mem_append_right _ (List.mem_append_right _ (List.mem_append_right _ (List.mem_append_left _ (List.mem_of_getElem? (l := tables_1_5) (i := 125) rfl)))))))) (h2 1 (by decide)), vk_R.of (ht _ (List.mem_append_right _ (List.mem_append_right _ (List.mem_append_right _ (List.mem_append_right _ (List.mem_append_right _ (List.mem_append_left _ (List.mem_of_getElem? (l := tables_1_5) (i := 126) rfl)))))))) (h2 2 (by decide))⟩
theorem st_K {args : Array Value} {s : State} {A : Nat → Prop} (ht : ∀ w ∈ lw_tbl, w.before args s = true) (hs : ∀ w ∈ gvL, w.before args s = true) (hA : ∀ a : Nat, a < s.heap.size → ¬ A a) : ∃ k v : Nat → Nat, vk_S 1 [137] kwB k v A s s.heap ∧ vk_R "CartTurns$Tape" 113 kwT (k 0) s := by
  obtain ⟨k, v, h1, h2⟩ := vk_Sof (N := 1) (tm := tmK) (len := [137]) (byt := kwB) (A := A) (by decide +kernel) (fun i hi => hs _ (gk_ex i hi)) (fun i hi => hs _ (gk_co i hi)) (fun i hi => hs _ (gk_ar i hi)) (fun i hi => hs _ (gk_le i hi)) (fun i hi j hj => by
    have hi : i = 0 := by omega
    subst hi
    exact hs _ (List.mem_of_getElem? (gk_el j hj))) (fun i j hi hj hij => absurd (show i = j by omega) hij) hA
  exact ⟨k, v, h1, vk_R.of (ht _ (List.mem_append_right _ (List.mem_append_left _ (List.mem_of_getElem? (l := tables_1_1) (i := 42) rfl)))) (h2 0 (by decide))⟩
theorem st_F {args : Array Value} {s : State} {A : Nat → Prop} (ht : ∀ w ∈ lw_tbl, w.before args s = true) (hs : ∀ w ∈ gvL, w.before args s = true) (hA : ∀ a : Nat, a < s.heap.size → ¬ A a) : ∃ t : Nat, va_Z "jdk/internal/util/Preconditions" "SIOOBE_FORMATTER" "Ljava/util/function/BiFunction;" .null A s s.heap ∨ va_Z "jdk/internal/util/Preconditions" "SIOOBE_FORMATTER" "Ljava/util/function/BiFunction;" (.ref t) A s s.heap := by
  rcases va_Zqof (ht _ (List.mem_append_right _ (List.mem_append_left _ (List.mem_of_getElem? (l := tables_1_1) (i := 68) rfl)))) (ht _ (List.mem_append_right _ (List.mem_append_left _ (List.mem_of_getElem? (l := tables_1_1) (i := 5) rfl)))) (hs _ gf_rf) hA with h | ⟨t, h⟩
  · exact ⟨0, Or.inl h⟩
  · exact ⟨t, Or.inr h⟩
theorem st_C {args : Array Value} {s : State} {A : Nat → Prop} (ht : ∀ w ∈ lw_tbl, w.before args s = true) (hs : ∀ w ∈ gvL, w.before args s = true) (hA : ∀ a : Nat, a < s.heap.size → ¬ A a) : va_Z "java/lang/String" "COMPACT_STRINGS" "Z" (.int 1) A s s.heap := va_Zof (ht _ (List.mem_append_right _ (List.mem_append_left _ (List.mem_of_getElem? (l := tables_1_1) (i := 52) rfl)))) (ht _ (List.mem_append_right _ (List.mem_append_left _ (List.mem_of_getElem? (l := tables_1_1) (i := 3) rfl)))) (va_eqi (hs _ gc_cs)) hA
theorem st_U {args : Array Value} {s : State} {A : Nat → Prop} (ht : ∀ w ∈ lw_tbl, w.before args s = true) (hs : ∀ w ∈ gvL, w.before args s = true) (hA : ∀ a : Nat, a < s.heap.size → ¬ A a) : vx_Zq Bundle.tN "UNASSIGNED_STACK" Bundle.steD A s s.heap ∧ vx_Zq Bundle.tN "SUPPRESSED_SENTINEL" Bundle.listD A s s.heap :=
  ⟨vx_Zqof (ht _ (List.mem_append_right _ (List.mem_append_right _ (List.mem_append_right _ (List.mem_append_right _ (List.mem_append_right _ (List.mem_append_right _ (List.mem_append_left _ (List.mem_of_getElem? (l := tables_1_6) (i := 116) rfl))))))))) (ht _ (List.mem_append_right _ (List.mem_append_left _ (List.mem_of_getElem? (l := tables_1_1) (i := 21) rfl)))) (hs _ gu_rf) hA, vx_Zqof (ht _ (List.mem_append_right _ (List.mem_append_right _ (List.mem_append_right _ (List.mem_append_right _ (List.mem_append_right _ (List.mem_append_right _ (List.mem_append_left _ (List.mem_of_getElem? (l := tables_1_6) (i := 118) rfl))))))))) (ht _ (List.mem_append_right _ (List.mem_append_left _ (List.mem_of_getElem? (l := tables_1_1) (i := 21) rfl)))) (hs _ gp_rf) hA⟩
theorem st_a {args : Array Value} {s : State} {ty : FieldType} (hp : ∀ C, ty ≠ .object C) (h : (Cond.arrayClass ty).before args s = true) : ∃ c : ClassId, ArrOfT s c ty ∧ va_RA s c ty := by
  obtain ⟨c, k, comp, h1, h2, h3⟩ := Cond.arrayClass_spec h
  refine ⟨c, fun N z => ⟨(fun k h => by cases h), k, h2, comp, h3⟩, ?_⟩
  cases ty <;> first | exact h1 | exact absurd rfl (hp _)
theorem st_o {args : Array Value} {s : State} {C : String} (h : (Cond.arrayOver (.object C)).before args s = true) : ∃ c : ClassId, ArrOfT s c (.object C) ∧ va_RA s c (.object C) := by
  obtain ⟨comp, c, k, h1, h2, h3, h4, h5⟩ := Cond.arrayOver_spec h
  exact ⟨c, fun N z => ⟨(fun k h => by cases h), k, h3, comp, h4⟩, k, comp, h3, h4, h1, h5⟩
theorem st_cA {args : Array Value} {s : State} (ht : ∀ w ∈ lw_tbl, w.before args s = true) : ∃ cA : Nat → ClassId, ∀ (k : Nat) (q : ClassId × FieldType), (tys cA)[k]? = some q → ArrOfT s q.1 q.2 ∧ va_RA s q.1 q.2 := by
  obtain ⟨c0, h0⟩ := st_a (ty := .int) (fun _ h => by cases h) (ht _ (List.mem_append_right _ (List.mem_append_left _ (List.mem_of_getElem? (l := tables_1_1) (i := 153) rfl))))
  obtain ⟨c1, h1⟩ := st_a (ty := .byte) (fun _ h => by cases h) (ht _ (List.mem_append_right _ (List.mem_append_left _ (List.mem_of_getElem? (l := tables_1_1) (i := 151) rfl))))
  obtain ⟨c2, h2⟩ := st_a (ty := .boolean) (fun _ h => by cases h) (ht _ (List.mem_append_right _ (List.mem_append_right _ (List.mem_append_left _ (List.mem_of_getElem? (l := tables_1_2) (i := 107) rfl)))))
  obtain ⟨c3, h3⟩ := st_a (ty := .long) (fun _ h => by cases h) (ht _ (List.mem_append_right _ (List.mem_append_left _ (List.mem_of_getElem? (l := tables_1_1) (i := 152) rfl))))
  obtain ⟨c4, h4⟩ := st_o (C := "CartTurns$State") (ht _ (List.mem_append_right _ (List.mem_append_right _ (List.mem_append_right _ (List.mem_append_left _ (List.mem_of_getElem? (l := tables_1_3) (i := 50) rfl))))))
  obtain ⟨c5, h5⟩ := st_o (C := "CartTurns$World") (ht _ (List.mem_append_right _ (List.mem_append_right _ (List.mem_append_right _ (List.mem_append_left _ (List.mem_of_getElem? (l := tables_1_3) (i := 62) rfl))))))
  refine ⟨fun k => match k with
    | 0 => c0
    | 1 => c1
    | 2 => c2
    | 3 => c3
    | 4 => c4
    | _ => c5, fun k q h => ?_⟩
  match k, h with
  | 0, h => cases h; exact h0
  | 1, h => cases h; exact h1
  | 2, h => cases h; exact h2
  | 3, h => cases h; exact h3
  | 4, h => cases h; exact h4
  | 5, h => cases h; exact h5
  | k + 6, h => simp [tys] at h
theorem st_D {args : Array Value} {s : State} (ht : ∀ w ∈ lw_tbl, w.before args s = true) : ∃ D : va_G, ∀ (k : Nat) (q : vw_C), cls[k]? = some q → u_Kn s q.1 q.2.1 q.2.2 (D.1 k) (D.2 k) := by
  have hg : ∀ w ∈ tblG, w.before args s = true := fun w hw => ht w (List.mem_filter.mp hw).1
  obtain ⟨c0, i0, h0⟩ := u_known (C := RX0) (T := TX0) (N := 12) (n := 12) hg in_X0 (ht (.instantiable RX0 12) (List.mem_append_right _ (List.mem_append_right _ (List.mem_append_left _ (List.mem_of_getElem? (l := tables_1_2) (i := 155) rfl)))))
  obtain ⟨c1, i1, h1⟩ := u_known (C := RX1) (T := TX1) (N := 14) (n := 14) hg in_X1 (ht (.instantiable RX1 14) (List.mem_append_right _ (List.mem_append_left _ (List.mem_of_getElem? (l := tables_1_1) (i := 157) rfl))))
  obtain ⟨c2, i2, h2⟩ := u_known (C := RX2) (T := TX2) (N := 4) (n := 4) hg in_X2 (ht (.instantiable RX2 4) (List.mem_append_right _ (List.mem_append_right _ (List.mem_append_left _ (List.mem_of_getElem? (l := tables_1_2) (i := 131) rfl)))))
  obtain ⟨c3, i3, h3⟩ := u_known (C := RX3) (T := TX3) (N := 3) (n := 3) hg in_X3 (ht (.instantiable RX3 3) (List.mem_append_right _ (List.mem_append_right _ (List.mem_append_right _ (List.mem_append_left _ (List.mem_of_getElem? (l := tables_1_3) (i := 44) rfl))))))
  obtain ⟨c4, i4, h4⟩ := u_known (C := RX4) (T := TX4) (N := 9) (n := 9) hg in_X4 (ht (.instantiable RX4 9) (List.mem_append_right _ (List.mem_append_right _ (List.mem_append_left _ (List.mem_of_getElem? (l := tables_1_2) (i := 205) rfl)))))
  obtain ⟨c5, i5, h5⟩ := u_known (C := RX5) (T := TX5) (N := 6) (n := 6) hg in_X5 (ht (.instantiable RX5 6) (List.mem_append_right _ (List.mem_append_right _ (List.mem_append_left _ (List.mem_of_getElem? (l := tables_1_2) (i := 82) rfl)))))
  obtain ⟨c6, i6, h6⟩ := u_known (C := RX6) (T := TX6) (N := 9) (n := 9) hg in_X6 (ht (.instantiable RX6 9) (List.mem_append_right _ (List.mem_append_right _ (List.mem_append_left _ (List.mem_of_getElem? (l := tables_1_2) (i := 16) rfl)))))
  obtain ⟨c7, i7, h7⟩ := u_known (C := RX7) (T := TX7) (N := 14) (n := 14) hg in_X7 (ht (.instantiable RX7 14) (List.mem_append_right _ (List.mem_append_left _ (List.mem_of_getElem? (l := tables_1_1) (i := 34) rfl))))
  obtain ⟨c8, i8, h8⟩ := u_known (C := RX8) (T := TX8) (N := 5) (n := 5) hg in_X8 (ht (.instantiable RX8 5) (List.mem_append_right _ (List.mem_append_right _ (List.mem_append_right _ (List.mem_append_left _ (List.mem_of_getElem? (l := tables_1_3) (i := 20) rfl))))))
  obtain ⟨c9, i9, h9⟩ := u_known (C := RX9) (T := TX9) (N := 3) (n := 3) hg in_X9 (ht (.instantiable RX9 3) (List.mem_append_right _ (List.mem_append_right _ (List.mem_append_right _ (List.mem_append_left _ (List.mem_of_getElem? (l := tables_1_3) (i := 2) rfl))))))
  obtain ⟨c10, i10, h10⟩ := u_known (C := RX10) (T := TX10) (N := 4) (n := 4) hg in_X10 (ht (.instantiable RX10 4) (List.mem_append_right _ (List.mem_append_left _ (List.mem_of_getElem? (l := tables_1_1) (i := 155) rfl))))
  obtain ⟨c11, i11, h11⟩ := u_known (C := RX11) (T := TX11) (N := 14) (n := 14) hg in_X11 (ht (.instantiable RX11 14) (List.mem_append_right _ (List.mem_append_left _ (List.mem_of_getElem? (l := tables_1_1) (i := 26) rfl))))
  obtain ⟨c12, i12, h12⟩ := u_known (C := RX12) (T := TX12) (N := 48) (n := 48) hg in_X12 (ht (.instantiable RX12 48) (List.mem_append_right _ (List.mem_append_right _ (List.mem_append_right _ (List.mem_append_right _ (List.mem_append_right _ (List.mem_append_right _ (List.mem_append_left _ (List.mem_of_getElem? (l := tables_1_6) (i := 171) rfl)))))))))
  refine ⟨(fun k => match k with
    | 0 => c0
    | 1 => c1
    | 2 => c2
    | 3 => c3
    | 4 => c4
    | 5 => c5
    | 6 => c6
    | 7 => c7
    | 8 => c8
    | 9 => c9
    | 10 => c10
    | 11 => c11
    | _ => c12, fun k => match k with
    | 0 => i0
    | 1 => i1
    | 2 => i2
    | 3 => i3
    | 4 => i4
    | 5 => i5
    | 6 => i6
    | 7 => i7
    | 8 => i8
    | 9 => i9
    | 10 => i10
    | 11 => i11
    | _ => i12), fun k q h => ?_⟩
  match k, h with
  | 0, h => cases h; exact h0
  | 1, h => cases h; exact h1
  | 2, h => cases h; exact h2
  | 3, h => cases h; exact h3
  | 4, h => cases h; exact h4
  | 5, h => cases h; exact h5
  | 6, h => cases h; exact h6
  | 7, h => cases h; exact h7
  | 8, h => cases h; exact h8
  | 9, h => cases h; exact h9
  | 10, h => cases h; exact h10
  | 11, h => cases h; exact h11
  | 12, h => cases h; exact h12
  | k + 13, h => simp [cls] at h
theorem can_0 : CanC (0, (fun _ _ => 0), (fun _ _ => 0)) := by
  refine ⟨fun a i => ⟨?_, fun _ => rfl⟩, Nat.zero_le _, fun a _ => ⟨fun _ => rfl, fun _ => rfl⟩, fun _ _ => Nat.le_refl 0⟩
  show inTy (tyOf a i) 0
  cases tyOf a i <;> simp [inTy, InR, InL]
def adS (t0 t1 : Nat) (sk9 sv9 kk9 kv9 : Nat → Nat) (tf b : Nat) (k : Nat) : Nat :=
  if k = 1000 then t0 else if k = 1001 then t1 else if k = 1002 then sk9 0 else if k = 1003 then sk9 1 else if k = 1004 then sk9 2 else if k = 1005 then sv9 0 else if k = 1006 then sv9 1 else if k = 1007 then sv9 2
  else if k = 1008 then kk9 0 else if k = 1009 then kv9 0 else if k = 1010 then tf else b
theorem adS_k {t0 t1 : Nat} {a v c d : Nat → Nat} {tf b : Nat} : ∀ i : Nat, i < 3 → adS t0 t1 a v c d tf b (1002 + i) = a i := by
  intro i hi
  rcases (show i = 0 ∨ i = 1 ∨ i = 2 by omega) with rfl | rfl | rfl <;> rfl
theorem adS_v {t0 t1 : Nat} {a v c d : Nat → Nat} {tf b : Nat} : ∀ i : Nat, i < 3 → adS t0 t1 a v c d tf b (1005 + i) = v i := by
  intro i hi
  rcases (show i = 0 ∨ i = 1 ∨ i = 2 by omega) with rfl | rfl | rfl <;> rfl
theorem adS_c {t0 t1 : Nat} {a v c d : Nat → Nat} {tf b : Nat} : ∀ i : Nat, i < 1 → adS t0 t1 a v c d tf b (1008 + i) = c i := by
  intro i hi
  rcases (show i = 0 by omega) with rfl
  rfl
theorem adS_d {t0 t1 : Nat} {a v c d : Nat → Nat} {tf b : Nat} : ∀ i : Nat, i < 1 → adS t0 t1 a v c d tf b (1009 + i) = d i := by
  intro i hi
  rcases (show i = 0 by omega) with rfl
  rfl
theorem st_all {args : Array Value} {s : State} {A : Nat → Prop} (ht : ∀ w ∈ lw_tbl, w.before args s = true) (hs : ∀ w ∈ gvL, w.before args s = true) (hA : ∀ a : Nat, a < s.heap.size → ¬ A a) (b : Nat) : ∃ ad : Nat → Nat, ad 1011 = b ∧ Stt ad A s s.heap ∧ Skw ad A s s.heap := by
  obtain ⟨t0, z0, a0⟩ := st_X ht hs hA
  obtain ⟨t1, z1, a1⟩ := st_Y ht hs hA
  obtain ⟨k, v, h3, r0, r1, r2⟩ := st_S ht hs hA
  obtain ⟨c, d, h1, rk⟩ := st_K ht hs hA
  obtain ⟨tf, hF⟩ := st_F ht hs hA
  have hU := st_U ht hs hA
  refine ⟨adS t0 t1 k v c d tf b, rfl, ⟨z0, a0, z1, a1, ⟨vk_Sc adS_k adS_v h3, st_C ht hs hA, hF, hU.1, hU.2⟩, r0, r1, r2, fun w hw => va_Nw.of (th_onTables (List.all_eq_true.mp thrW_is w hw)) (ht w (thr_tbl w hw))⟩, ⟨vk_Sc adS_c adS_d h1, rk, ?_, ?_⟩⟩
  · exact va_AO.of (ht _ (List.mem_append_right _ (List.mem_append_right _ (List.mem_append_right _ (List.mem_append_left _ (List.mem_of_getElem? (l := tables_1_3) (i := 50) rfl))))))
  · exact va_AO.of (ht _ (List.mem_append_right _ (List.mem_append_right _ (List.mem_append_right _ (List.mem_append_left _ (List.mem_of_getElem? (l := tables_1_3) (i := 62) rfl))))))
