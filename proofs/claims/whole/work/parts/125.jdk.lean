def RJ7 : String := "java/util/Arrays"
set_option maxRecDepth 20000 in
theorem ini_J7 : Cond.initialized RJ7 ∈ tblG := (tblG_in (List.mem_append_right _ (List.mem_append_left _ (List.mem_of_getElem? (l := tables_1_1) (i := 18) rfl))) rfl)
def RJ9 : String := "java/lang/Math"
set_option maxRecDepth 20000 in
theorem ini_J9 : Cond.initialized RJ9 ∈ tblG := (tblG_in (List.mem_append_right _ (List.mem_append_left _ (List.mem_of_getElem? (l := tables_1_1) (i := 19) rfl))) rfl)
abbrev cJ7_fill_53178 : ByteArray := prog_28_method_103_code
def yJ7_fill_53178 : MethodName := ⟨RJ7, "fill", "([II)V"⟩
def mJ7_fill_53178 : MD := (yJ7_fill_53178, cJ7_fill_53178, 4, none)
set_option maxRecDepth 20000 in
theorem co_J7_fill_53178 : Cond.code mJ7_fill_53178.1 mJ7_fill_53178.2.1 mJ7_fill_53178.2.2.1 mJ7_fill_53178.2.2.2 ∈ tblG := (tblG_in (List.mem_append_right _ (List.mem_append_right _ (List.mem_append_right _ (List.mem_append_left _ (List.mem_of_getElem? (l := tables_1_3) (i := 140) rfl))))) rfl)
set_option maxRecDepth 20000 in
theorem st_J7_fill_53178 : Cond.static mJ7_fill_53178.1 ∈ tblG := (tblG_in (List.mem_append_right _ (List.mem_append_right _ (List.mem_append_right _ (List.mem_append_left _ (List.mem_of_getElem? (l := tables_1_3) (i := 139) rfl))))) rfl)
abbrev cJ9_abs_0f7a4 : ByteArray := prog_19_method_59_code
def yJ9_abs_0f7a4 : MethodName := ⟨RJ9, "abs", "(I)I"⟩
def mJ9_abs_0f7a4 : MD := (yJ9_abs_0f7a4, cJ9_abs_0f7a4, 1, (some .int))
set_option maxRecDepth 20000 in
theorem co_J9_abs_0f7a4 : Cond.code mJ9_abs_0f7a4.1 mJ9_abs_0f7a4.2.1 mJ9_abs_0f7a4.2.2.1 mJ9_abs_0f7a4.2.2.2 ∈ tblG := (tblG_in (List.mem_append_right _ (List.mem_append_right _ (List.mem_append_right _ (List.mem_append_right _ (List.mem_append_right _ (List.mem_append_left _ (List.mem_of_getElem? (l := tables_1_5) (i := 56) rfl))))))) rfl)
set_option maxRecDepth 20000 in
theorem st_J9_abs_0f7a4 : Cond.static mJ9_abs_0f7a4.1 ∈ tblG := (tblG_in (List.mem_append_right _ (List.mem_append_right _ (List.mem_append_right _ (List.mem_append_right _ (List.mem_append_right _ (List.mem_append_left _ (List.mem_of_getElem? (l := tables_1_5) (i := 55) rfl))))))) rfl)
abbrev cJ9_max_7cf53 : ByteArray := prog_19_method_65_code
def yJ9_max_7cf53 : MethodName := ⟨RJ9, "max", "(II)I"⟩
def mJ9_max_7cf53 : MD := (yJ9_max_7cf53, cJ9_max_7cf53, 2, (some .int))
set_option maxRecDepth 20000 in
theorem co_J9_max_7cf53 : Cond.code mJ9_max_7cf53.1 mJ9_max_7cf53.2.1 mJ9_max_7cf53.2.2.1 mJ9_max_7cf53.2.2.2 ∈ tblG := (tblG_in (List.mem_append_right _ (List.mem_append_right _ (List.mem_append_right _ (List.mem_append_right _ (List.mem_append_left _ (List.mem_of_getElem? (l := tables_1_4) (i := 77) rfl)))))) rfl)
set_option maxRecDepth 20000 in
theorem st_J9_max_7cf53 : Cond.static mJ9_max_7cf53.1 ∈ tblG := (tblG_in (List.mem_append_right _ (List.mem_append_right _ (List.mem_append_right _ (List.mem_append_right _ (List.mem_append_left _ (List.mem_of_getElem? (l := tables_1_4) (i := 76) rfl)))))) rfl)
abbrev cJ9_min_7cf53 : ByteArray := prog_19_method_69_code
def yJ9_min_7cf53 : MethodName := ⟨RJ9, "min", "(II)I"⟩
def mJ9_min_7cf53 : MD := (yJ9_min_7cf53, cJ9_min_7cf53, 2, (some .int))
set_option maxRecDepth 20000 in
theorem co_J9_min_7cf53 : Cond.code mJ9_min_7cf53.1 mJ9_min_7cf53.2.1 mJ9_min_7cf53.2.2.1 mJ9_min_7cf53.2.2.2 ∈ tblG := (tblG_in (List.mem_append_right _ (List.mem_append_right _ (List.mem_append_right _ (List.mem_append_left _ (List.mem_of_getElem? (l := tables_1_3) (i := 159) rfl))))) rfl)
set_option maxRecDepth 20000 in
theorem st_J9_min_7cf53 : Cond.static mJ9_min_7cf53.1 ∈ tblG := (tblG_in (List.mem_append_right _ (List.mem_append_right _ (List.mem_append_right _ (List.mem_append_left _ (List.mem_of_getElem? (l := tables_1_3) (i := 158) rfl))))) rfl)
set_option maxRecDepth 20000 in
theorem cs_11_268 : CS RX11 268 mJ9_min_7cf53 2 := ⟨⟨Or.inl (tblG_in (List.mem_append_right _ (List.mem_append_right _ (List.mem_append_right _ (List.mem_append_right _ (List.mem_append_left _ (List.mem_of_getElem? (l := tables_1_4) (i := 206) rfl)))))) rfl), ini_J9, co_J9_min_7cf53, by decide +kernel, by decide +kernel, by decide +kernel, by decide⟩, st_J9_min_7cf53⟩
set_option maxRecDepth 20000 in
theorem cs_11_299 : CS RX11 299 mJ9_max_7cf53 2 := ⟨⟨Or.inl (tblG_in (List.mem_append_right _ (List.mem_append_right _ (List.mem_append_right _ (List.mem_append_right _ (List.mem_append_right _ (List.mem_append_left _ (List.mem_of_getElem? (l := tables_1_5) (i := 34) rfl))))))) rfl), ini_J9, co_J9_max_7cf53, by decide +kernel, by decide +kernel, by decide +kernel, by decide⟩, st_J9_max_7cf53⟩
set_option maxRecDepth 20000 in
theorem ac_1_56 : Cond.methodLink RX1 56 arraycopyName ∈ tblG := (tblG_in (List.mem_append_right _ (List.mem_append_right _ (List.mem_append_right _ (List.mem_append_right _ (List.mem_append_left _ (List.mem_of_getElem? (l := tables_1_4) (i := 42) rfl)))))) rfl)
set_option maxRecDepth 20000 in
theorem cs_1_62 : CS RX1 62 mJ9_max_7cf53 2 := ⟨⟨Or.inl (tblG_in (List.mem_append_right _ (List.mem_append_right _ (List.mem_append_right _ (List.mem_append_right _ (List.mem_append_left _ (List.mem_of_getElem? (l := tables_1_4) (i := 75) rfl)))))) rfl), ini_J9, co_J9_max_7cf53, by decide +kernel, by decide +kernel, by decide +kernel, by decide⟩, st_J9_max_7cf53⟩
set_option maxRecDepth 20000 in
theorem cs_3_29 : CS RX3 29 mJ9_min_7cf53 2 := ⟨⟨Or.inl (tblG_in (List.mem_append_right _ (List.mem_append_right _ (List.mem_append_right _ (List.mem_append_right _ (List.mem_append_left _ (List.mem_of_getElem? (l := tables_1_4) (i := 167) rfl)))))) rfl), ini_J9, co_J9_min_7cf53, by decide +kernel, by decide +kernel, by decide +kernel, by decide⟩, st_J9_min_7cf53⟩
set_option maxRecDepth 20000 in
theorem cs_4_55 : CS RX4 55 mJ7_fill_53178 2 := ⟨⟨Or.inl (tblG_in (List.mem_append_right _ (List.mem_append_right _ (List.mem_append_right _ (List.mem_append_right _ (List.mem_append_right _ (List.mem_append_left _ (List.mem_of_getElem? (l := tables_1_5) (i := 8) rfl))))))) rfl), ini_J7, co_J7_fill_53178, by decide +kernel, by decide +kernel, by decide +kernel, by decide⟩, st_J7_fill_53178⟩
set_option maxRecDepth 20000 in
theorem ac_5_32 : Cond.methodLink RX5 32 arraycopyName ∈ tblG := (tblG_in (List.mem_append_right _ (List.mem_append_right _ (List.mem_append_right _ (List.mem_append_right _ (List.mem_append_left _ (List.mem_of_getElem? (l := tables_1_4) (i := 54) rfl)))))) rfl)
set_option maxRecDepth 20000 in
theorem cs_6_40 : CS RX6 40 mJ7_fill_53178 2 := ⟨⟨Or.inl (tblG_in (List.mem_append_right _ (List.mem_append_right _ (List.mem_append_right _ (List.mem_append_left _ (List.mem_of_getElem? (l := tables_1_3) (i := 138) rfl))))) rfl), ini_J7, co_J7_fill_53178, by decide +kernel, by decide +kernel, by decide +kernel, by decide⟩, st_J7_fill_53178⟩
set_option maxRecDepth 20000 in
theorem ac_6_46 : Cond.methodLink RX6 46 arraycopyName ∈ tblG := (tblG_in (List.mem_append_right _ (List.mem_append_right _ (List.mem_append_right _ (List.mem_append_right _ (List.mem_append_left _ (List.mem_of_getElem? (l := tables_1_4) (i := 49) rfl)))))) rfl)
set_option maxRecDepth 20000 in
theorem cs_7_65 : CS RX7 65 mJ9_min_7cf53 2 := ⟨⟨Or.inl (tblG_in (List.mem_append_right _ (List.mem_append_right _ (List.mem_append_right _ (List.mem_append_left _ (List.mem_of_getElem? (l := tables_1_3) (i := 157) rfl))))) rfl), ini_J9, co_J9_min_7cf53, by decide +kernel, by decide +kernel, by decide +kernel, by decide⟩, st_J9_min_7cf53⟩
set_option maxRecDepth 20000 in
theorem ac_8_67 : Cond.methodLink RX8 67 arraycopyName ∈ tblG := (tblG_in (List.mem_append_right _ (List.mem_append_right _ (List.mem_append_right _ (List.mem_append_right _ (List.mem_append_right _ (List.mem_append_left _ (List.mem_of_getElem? (l := tables_1_5) (i := 85) rfl))))))) rfl)
set_option maxRecDepth 20000 in
theorem ac_9_34 : Cond.methodLink RX9 34 arraycopyName ∈ tblG := (tblG_in (List.mem_append_right _ (List.mem_append_right _ (List.mem_append_right _ (List.mem_append_right _ (List.mem_append_right _ (List.mem_append_left _ (List.mem_of_getElem? (l := tables_1_5) (i := 59) rfl))))))) rfl)
set_option maxRecDepth 20000 in
theorem cs_9_40 : CS RX9 40 mJ9_abs_0f7a4 1 := ⟨⟨Or.inl (tblG_in (List.mem_append_right _ (List.mem_append_right _ (List.mem_append_right _ (List.mem_append_right _ (List.mem_append_right _ (List.mem_append_left _ (List.mem_of_getElem? (l := tables_1_5) (i := 54) rfl))))))) rfl), ini_J9, co_J9_abs_0f7a4, by decide +kernel, by decide +kernel, by decide +kernel, by decide⟩, st_J9_abs_0f7a4⟩
set_option maxRecDepth 20000 in
theorem cs_10_136 : CS RX10 136 mJ9_min_7cf53 2 := ⟨⟨Or.inl (tblG_in (List.mem_append_right _ (List.mem_append_right _ (List.mem_append_right _ (List.mem_append_right _ (List.mem_append_left _ (List.mem_of_getElem? (l := tables_1_4) (i := 211) rfl)))))) rfl), ini_J9, co_J9_min_7cf53, by decide +kernel, by decide +kernel, by decide +kernel, by decide⟩, st_J9_min_7cf53⟩
set_option maxRecDepth 20000 in
theorem cs_10_189 : CS RX10 189 mJ9_abs_0f7a4 1 := ⟨⟨Or.inl (tblG_in (List.mem_append_right _ (List.mem_append_right _ (List.mem_append_right _ (List.mem_append_right _ (List.mem_append_right _ (List.mem_append_right _ (List.mem_append_left _ (List.mem_of_getElem? (l := tables_1_6) (i := 64) rfl)))))))) rfl), ini_J9, co_J9_abs_0f7a4, by decide +kernel, by decide +kernel, by decide +kernel, by decide⟩, st_J9_abs_0f7a4⟩
set_option maxRecDepth 20000 in
theorem ac_nat : Cond.native arraycopyName ∈ tblG := (tblG_in (List.mem_append_right _ (List.mem_append_right _ (List.mem_append_right _ (List.mem_append_right _ (List.mem_append_left _ (List.mem_of_getElem? (l := tables_1_4) (i := 44) rfl)))))) rfl)
set_option maxRecDepth 20000 in
theorem ac_sta : Cond.static arraycopyName ∈ tblG := (tblG_in (List.mem_append_right _ (List.mem_append_right _ (List.mem_append_right _ (List.mem_append_right _ (List.mem_append_left _ (List.mem_of_getElem? (l := tables_1_4) (i := 43) rfl)))))) rfl)
set_option maxRecDepth 20000 in
theorem ac_ini : Cond.initialized "java/lang/System" ∈ tblG := (tblG_in (List.mem_append_right _ (List.mem_append_left _ (List.mem_of_getElem? (l := tables_1_1) (i := 20) rfl))) rfl)
def cpy (m : Mem) (a0 a : Nat) (n : Int) : Mem := fun b j => if b = a ∧ 0 ≤ j ∧ j < n then m a0 j else m b j
theorem cpy_row {m : Mem} {a0 a b : Nat} {n : Int} (h : b ≠ a) : cpy m a0 a n b = m b := by funext j; simp [cpy, h]
theorem can_cpy {m : Mem} (hm : Can m) {a0 a kd n0 n1 : Nat} {n : Int} (h0 : ar a0 kd n0) (h1 : ar a kd n1) (hn0 : n ≤ n0) (hn1 : n ≤ n1) : Can (cpy m a0 a n) := by
  intro b j
  unfold cpy
  by_cases h : b = a ∧ 0 ≤ j ∧ j < n
  · rw [if_pos h]
    obtain ⟨rfl, h2, h3⟩ := h
    have := (hm a0 j).1
    rw [tyOf_ar h0] at this
    rw [tyOf_ar h1]
    refine ⟨this, fun q => ?_⟩
    have e1 := h1.2.2.1
    have e2 := h1.1
    rcases q with q | q | q
    · omega
    · rw [e1] at q; omega
    · omega
  · rw [if_neg h]; exact hm b j
theorem go_copyi {g d : Nat} {Y : MD} {Q : Int → Mem → Prop} {pc : Nat} {L S : List AV} {m : Mem} {idx a0 a n0 n1 : Nat} {n : Int} (hd : decode Y.2.1 pc = .ok (.invokestatic idx, 3)) (hlk : Cond.methodLink Y.1.cls idx arraycopyName ∈ tblG) (h0 : ar a0 0 n0) (h1 : ar a 0 n1) (hn : 0 ≤ n) (hn0 : n ≤ n0) (hn1 : n ≤ n1) (hdp : 2 ≤ d) (hrm : scat S ≤ 8) (k : Go g d Y Q (pc + 3) L S (cpy m a0 a n)) : Go g d Y Q pc L (vi n :: vi 0 :: vr a :: vi 0 :: vr a0 :: S) m := by
  intro l D cA ad A p e R s mth args below meth c Z hC hE ls H locs cells slots hR hL hc hs
  obtain ⟨hx, hb, hmL, hown, hts, hnw, hK, hA, hStt, hfr, hlo, hfl⟩ := id hC
  have hnR : InR n := ⟨by omega, by have := h0.2.2.2; omega⟩
  have e0 : (Wd cA ad m)[a0]? = some (ad a0, .inl (cA 0, n0, .inl (fun j => Int32.ofInt (m a0 (j : Int))))) := by rw [Wd_at h0.1, cellE_i h0 (by omega)]
  have e1 : (Wd cA ad m)[a]? = some (ad a, .inl (cA 0, n1, .inl (fun j => Int32.ofInt (m a (j : Int))))) := by rw [Wd_at h1.1, cellE_i h1 (by omega)]
  have hz : ¬ Int32.ofInt 0 < 0 := by decide
  have hnn : ¬ Int32.ofInt n < 0 := by rw [← i32_0, hnR.lt InR.zero]; omega
  have ez : (Int32.ofInt 0).toNatClampNeg = 0 := rfl
  refine va_copyi (sp := Int32.ofInt 0) (dp := Int32.ofInt 0) (n := Int32.ofInt n) hx hb (hmL.trans hL.1.symm) hown (hts _ hlk) (hts _ ac_nat) (hts _ ac_sta) (hts _ ac_ini) hK hR.1 hR.2.1 hR.2.2.1 a0 a 0 0 e0 e1 (tys_at (by omega)) (tys_at (by omega)) rfl hz hz hnn (by rw [hnR.cl, ez]; omega) (by rw [hnR.cl, ez]; omega) (fun i _ => rfl) (by omega) (by rw [scat_eq]; show _ + (5 + 2 + 11) ≤ _; omega) hd (fun H1 locs1 q1 q2 q3 => ?_)
  have ef : va_cpy (fun j : Nat => Int32.ofInt (m a0 (j : Int))) (fun j : Nat => Int32.ofInt (m a (j : Int))) (Int32.ofInt 0).toNatClampNeg (Int32.ofInt 0).toNatClampNeg (Int32.ofInt n).toNatClampNeg = fun j : Nat => Int32.ofInt (cpy m a0 a n a (j : Int)) := by
    funext j
    rw [hnR.cl, ez]
    unfold va_cpy cpy
    by_cases hj : (j : Int) < n
    · rw [if_pos (by omega), if_pos (by omega)]; simp
    · rw [if_neg (by omega), if_neg (by omega)]
  rw [ef, ← cellE_i (cA := cA) (ad := ad) h1 (by omega), Wd_set (fun b hb => cpy_row hb)] at q1 q2
  exact k l D cA ad A p e R s mth args below meth c Z hC hE ls H1 locs1 cells slots ⟨q1, q2, q3, can_cpy hR.2.2.2 h0 h1 hn0 hn1⟩ hL hc hs
theorem go_copyl {g d : Nat} {Y : MD} {Q : Int → Mem → Prop} {pc : Nat} {L S : List AV} {m : Mem} {idx a0 a n0 n1 : Nat} {n : Int} (hd : decode Y.2.1 pc = .ok (.invokestatic idx, 3)) (hlk : Cond.methodLink Y.1.cls idx arraycopyName ∈ tblG) (h0 : ar a0 3 n0) (h1 : ar a 3 n1) (hn : 0 ≤ n) (hn0 : n ≤ n0) (hn1 : n ≤ n1) (hdp : 2 ≤ d) (hrm : scat S ≤ 8) (k : Go g d Y Q (pc + 3) L S (cpy m a0 a n)) : Go g d Y Q pc L (vi n :: vi 0 :: vr a :: vi 0 :: vr a0 :: S) m := by
  intro l D cA ad A p e R s mth args below meth c Z hC hE ls H locs cells slots hR hL hc hs
  obtain ⟨hx, hb, hmL, hown, hts, hnw, hK, hA, hStt, hfr, hlo, hfl⟩ := id hC
  have hnR : InR n := ⟨by omega, by have := h0.2.2.2; omega⟩
  have e0 : (Wd cA ad m)[a0]? = some (ad a0, .inl (cA 3, n0, .inr (.inl (fun j => Int64.ofInt (m a0 (j : Int)))))) := by rw [Wd_at h0.1, cellE_l h0]
  have e1 : (Wd cA ad m)[a]? = some (ad a, .inl (cA 3, n1, .inr (.inl (fun j => Int64.ofInt (m a (j : Int)))))) := by rw [Wd_at h1.1, cellE_l h1]
  have hz : ¬ Int32.ofInt 0 < 0 := by decide
  have hnn : ¬ Int32.ofInt n < 0 := by rw [← i32_0, hnR.lt InR.zero]; omega
  have ez : (Int32.ofInt 0).toNatClampNeg = 0 := rfl
  refine va_copyl (sp := Int32.ofInt 0) (dp := Int32.ofInt 0) (n := Int32.ofInt n) hx hb (hmL.trans hL.1.symm) hown (hts _ hlk) (hts _ ac_nat) (hts _ ac_sta) (hts _ ac_ini) hK hR.1 hR.2.1 hR.2.2.1 a0 a 3 3 e0 e1 (tys_at (by omega)) (tys_at (by omega)) rfl hz hz hnn (by rw [hnR.cl, ez]; omega) (by rw [hnR.cl, ez]; omega) (fun i _ => rfl) (by omega) (by rw [scat_eq]; show _ + (5 + 2 + 11) ≤ _; omega) hd (fun H1 locs1 q1 q2 q3 => ?_)
  have ef : ∀ (X : (Nat → Int64) → Prop), X (fun j : Nat => Int64.ofInt (cpy m a0 a n a (j : Int))) ↔ X (fun j : Nat => if (Int32.ofInt 0).toNatClampNeg ≤ j ∧ j < (Int32.ofInt 0).toNatClampNeg + (Int32.ofInt n).toNatClampNeg then Int64.ofInt (m a0 (((Int32.ofInt 0).toNatClampNeg + (j - (Int32.ofInt 0).toNatClampNeg) : Nat) : Int)) else Int64.ofInt (m a (j : Int))) := by
    intro X
    have : (fun j : Nat => Int64.ofInt (cpy m a0 a n a (j : Int))) = (fun j : Nat => if (Int32.ofInt 0).toNatClampNeg ≤ j ∧ j < (Int32.ofInt 0).toNatClampNeg + (Int32.ofInt n).toNatClampNeg then Int64.ofInt (m a0 (((Int32.ofInt 0).toNatClampNeg + (j - (Int32.ofInt 0).toNatClampNeg) : Nat) : Int)) else Int64.ofInt (m a (j : Int))) := by
      funext j
      rw [hnR.cl, ez]
      unfold cpy
      by_cases hj : (j : Int) < n
      · rw [if_pos (by omega), if_pos (by omega)]; simp
      · rw [if_neg (by omega), if_neg (by omega)]
    rw [this]
  have q1' := (ef (fun F => va_P D cls ((Wd cA ad m).set a (ad a, .inl (cA 3, n1, .inr (.inl F)))) H1)).mpr q1
  have q2' := (ef (fun F => va_D A ((Wd cA ad m).set a (ad a, .inl (cA 3, n1, .inr (.inl F)))))).mpr q2
  rw [← cellE_l (cA := cA) (ad := ad) h1, Wd_set (fun b hb => cpy_row hb)] at q1' q2'
  exact k l D cA ad A p e R s mth args below meth c Z hC hE ls H1 locs1 cells slots ⟨q1', q2', q3, can_cpy hR.2.2.2 h0 h1 hn0 hn1⟩ hL hc hs

def iabs (x : Int) : Int := if 0 ≤ x then x else -x

set_option maxRecDepth 20000 in
theorem mco_min : Cond.code Lib.Math.min.name Lib.Math.min.code 2 (some .int) ∈ tblG := (tblG_in (List.mem_append_right _ (List.mem_append_right _ (List.mem_append_right _ (List.mem_append_left _ (List.mem_of_getElem? (l := tables_1_3) (i := 159) rfl))))) rfl)
set_option maxRecDepth 20000 in
theorem mst_min : Cond.static Lib.Math.min.name ∈ tblG := (tblG_in (List.mem_append_right _ (List.mem_append_right _ (List.mem_append_right _ (List.mem_append_left _ (List.mem_of_getElem? (l := tables_1_3) (i := 158) rfl))))) rfl)
set_option maxRecDepth 20000 in
theorem mco_max : Cond.code Lib.Math.max.name Lib.Math.max.code 2 (some .int) ∈ tblG := (tblG_in (List.mem_append_right _ (List.mem_append_right _ (List.mem_append_right _ (List.mem_append_right _ (List.mem_append_left _ (List.mem_of_getElem? (l := tables_1_4) (i := 77) rfl)))))) rfl)
set_option maxRecDepth 20000 in
theorem mst_max : Cond.static Lib.Math.max.name ∈ tblG := (tblG_in (List.mem_append_right _ (List.mem_append_right _ (List.mem_append_right _ (List.mem_append_right _ (List.mem_append_left _ (List.mem_of_getElem? (l := tables_1_4) (i := 76) rfl)))))) rfl)
set_option maxRecDepth 20000 in
theorem mco_abs : Cond.code Lib.Math.abs.name Lib.Math.abs.code 1 (some .int) ∈ tblG := (tblG_in (List.mem_append_right _ (List.mem_append_right _ (List.mem_append_right _ (List.mem_append_right _ (List.mem_append_right _ (List.mem_append_left _ (List.mem_of_getElem? (l := tables_1_5) (i := 56) rfl))))))) rfl)
set_option maxRecDepth 20000 in
theorem mst_abs : Cond.static Lib.Math.abs.name ∈ tblG := (tblG_in (List.mem_append_right _ (List.mem_append_right _ (List.mem_append_right _ (List.mem_append_right _ (List.mem_append_right _ (List.mem_append_left _ (List.mem_of_getElem? (l := tables_1_5) (i := 55) rfl))))))) rfl)
set_option maxRecDepth 20000 in
theorem jl_11_268 : Cond.methodLink RX11 268 Lib.Math.min.name ∈ tblG := (tblG_in (List.mem_append_right _ (List.mem_append_right _ (List.mem_append_right _ (List.mem_append_right _ (List.mem_append_left _ (List.mem_of_getElem? (l := tables_1_4) (i := 206) rfl)))))) rfl)
set_option maxRecDepth 20000 in
theorem jl_11_299 : Cond.methodLink RX11 299 Lib.Math.max.name ∈ tblG := (tblG_in (List.mem_append_right _ (List.mem_append_right _ (List.mem_append_right _ (List.mem_append_right _ (List.mem_append_right _ (List.mem_append_left _ (List.mem_of_getElem? (l := tables_1_5) (i := 34) rfl))))))) rfl)
set_option maxRecDepth 20000 in
theorem jl_1_62 : Cond.methodLink RX1 62 Lib.Math.max.name ∈ tblG := (tblG_in (List.mem_append_right _ (List.mem_append_right _ (List.mem_append_right _ (List.mem_append_right _ (List.mem_append_left _ (List.mem_of_getElem? (l := tables_1_4) (i := 75) rfl)))))) rfl)
set_option maxRecDepth 20000 in
theorem jl_3_29 : Cond.methodLink RX3 29 Lib.Math.min.name ∈ tblG := (tblG_in (List.mem_append_right _ (List.mem_append_right _ (List.mem_append_right _ (List.mem_append_right _ (List.mem_append_left _ (List.mem_of_getElem? (l := tables_1_4) (i := 167) rfl)))))) rfl)
set_option maxRecDepth 20000 in
theorem jl_7_65 : Cond.methodLink RX7 65 Lib.Math.min.name ∈ tblG := (tblG_in (List.mem_append_right _ (List.mem_append_right _ (List.mem_append_right _ (List.mem_append_left _ (List.mem_of_getElem? (l := tables_1_3) (i := 157) rfl))))) rfl)
set_option maxRecDepth 20000 in
theorem jl_9_40 : Cond.methodLink RX9 40 Lib.Math.abs.name ∈ tblG := (tblG_in (List.mem_append_right _ (List.mem_append_right _ (List.mem_append_right _ (List.mem_append_right _ (List.mem_append_right _ (List.mem_append_left _ (List.mem_of_getElem? (l := tables_1_5) (i := 54) rfl))))))) rfl)
set_option maxRecDepth 20000 in
theorem jl_10_136 : Cond.methodLink RX10 136 Lib.Math.min.name ∈ tblG := (tblG_in (List.mem_append_right _ (List.mem_append_right _ (List.mem_append_right _ (List.mem_append_right _ (List.mem_append_left _ (List.mem_of_getElem? (l := tables_1_4) (i := 211) rfl)))))) rfl)
set_option maxRecDepth 20000 in
theorem jl_10_189 : Cond.methodLink RX10 189 Lib.Math.abs.name ∈ tblG := (tblG_in (List.mem_append_right _ (List.mem_append_right _ (List.mem_append_right _ (List.mem_append_right _ (List.mem_append_right _ (List.mem_append_right _ (List.mem_append_left _ (List.mem_of_getElem? (l := tables_1_6) (i := 64) rfl)))))))) rfl)
theorem go_min {g d : Nat} {Y : MD} {Q : Int → Mem → Prop} {pc : Nat} {L S : List AV} {m : Mem} {idx : Nat} {x y : Int} (hd : decode Y.2.1 pc = .ok (.invokestatic idx, 3)) (hlk : Cond.methodLink Y.1.cls idx Lib.Math.min.name ∈ tblG) (hx : InR x) (hy : InR y) (hdp : 2 ≤ d) (hrm : scat S ≤ 8) (k : Go g d Y Q (pc + 3) L (vi (min x y) :: S) m) : Go g d Y Q pc L (vi y :: vi x :: S) m := by
  intro l D cA ad A p e R s mth args below meth c Z hC hE ls H locs cells slots hR hL hc hs
  obtain ⟨hx0, hb, hmL, hown, hts, hnw, hK, hA, hStt, hfr, hlo, hfl⟩ := id hC
  have k := (k l D cA ad A p e R s mth args below meth c Z hC hE ls H locs cells slots hR hL hc hs)
  refine va_mmin hx0 hb (hmL.trans hL.1.symm) hown (hts _ hlk) (hts _ mst_min) (hts _ ini_J9) (hts _ mco_min) (by omega) (by rw [scat_eq]; omega) (by omega) (by omega) hd ?_
  have e : (if Int32.ofInt y < Int32.ofInt x then Int32.ofInt y else Int32.ofInt x) = Int32.ofInt (min x y) := by
    have h1 : Int32.ofInt y < Int32.ofInt x ↔ y < x := hy.lt hx
    by_cases h : y < x
    · rw [if_pos (h1.mpr h)]; congr 1; omega
    · rw [if_neg (fun q => h (h1.mp q))]; congr 1; omega
  rw [e]
  exact k
theorem go_max {g d : Nat} {Y : MD} {Q : Int → Mem → Prop} {pc : Nat} {L S : List AV} {m : Mem} {idx : Nat} {x y : Int} (hd : decode Y.2.1 pc = .ok (.invokestatic idx, 3)) (hlk : Cond.methodLink Y.1.cls idx Lib.Math.max.name ∈ tblG) (hx : InR x) (hy : InR y) (hdp : 2 ≤ d) (hrm : scat S ≤ 8) (k : Go g d Y Q (pc + 3) L (vi (max x y) :: S) m) : Go g d Y Q pc L (vi y :: vi x :: S) m := by
  intro l D cA ad A p e R s mth args below meth c Z hC hE ls H locs cells slots hR hL hc hs
  obtain ⟨hx0, hb, hmL, hown, hts, hnw, hK, hA, hStt, hfr, hlo, hfl⟩ := id hC
  have k := (k l D cA ad A p e R s mth args below meth c Z hC hE ls H locs cells slots hR hL hc hs)
  refine va_mmax hx0 hb (hmL.trans hL.1.symm) hown (hts _ hlk) (hts _ mst_max) (hts _ ini_J9) (hts _ mco_max) (by omega) (by rw [scat_eq]; omega) (by omega) (by omega) hd ?_
  have e : (if Int32.ofInt x < Int32.ofInt y then Int32.ofInt y else Int32.ofInt x) = Int32.ofInt (max x y) := by
    have h1 : Int32.ofInt x < Int32.ofInt y ↔ x < y := hx.lt hy
    by_cases h : x < y
    · rw [if_pos (h1.mpr h)]; congr 1; omega
    · rw [if_neg (fun q => h (h1.mp q))]; congr 1; omega
  rw [e]
  exact k
theorem go_abs {g d : Nat} {Y : MD} {Q : Int → Mem → Prop} {pc : Nat} {L S : List AV} {m : Mem} {idx : Nat} {x : Int} (hd : decode Y.2.1 pc = .ok (.invokestatic idx, 3)) (hlk : Cond.methodLink Y.1.cls idx Lib.Math.abs.name ∈ tblG) (hx : InR x) (hdp : 2 ≤ d) (hrm : scat S ≤ 8) (k : Go g d Y Q (pc + 3) L (vi (iabs x) :: S) m) : Go g d Y Q pc L (vi x :: S) m := by
  intro l D cA ad A p e R s mth args below meth c Z hC hE ls H locs cells slots hR hL hc hs
  obtain ⟨hx0, hb, hmL, hown, hts, hnw, hK, hA, hStt, hfr, hlo, hfl⟩ := id hC
  have k := (k l D cA ad A p e R s mth args below meth c Z hC hE ls H locs cells slots hR hL hc hs)
  refine va_mabs hx0 hb (hmL.trans hL.1.symm) hown (hts _ hlk) (hts _ mst_abs) (hts _ ini_J9) (hts _ mco_abs) (by omega) (by rw [scat_eq]; omega) (by omega) (by omega) hd ?_
  have e : (if 0 ≤ Int32.ofInt x then Int32.ofInt x else 0 - Int32.ofInt x) = Int32.ofInt (iabs x) := by
    have h1 : (0 : Int32) ≤ Int32.ofInt x ↔ 0 ≤ x := by rw [← i32_0]; exact InR.zero.le hx
    unfold iabs
    by_cases h : 0 ≤ x
    · rw [if_pos (h1.mpr h), if_pos h]
    · rw [if_neg (fun q => h (h1.mp q)), if_neg h, Int32.ofInt_neg, Int32.zero_sub]
  rw [e]
  exact k
