/-! ===== the bridge: the tape ===== -/
theorem iand255m (x : Int) : iand x 255 = x % 256 := by
  unfold iand
  have e1 : (Int32.ofInt x).toUInt32.toNat = (x % 4294967296).toNat := by
    show (BitVec.ofInt 32 x).toNat = _
    rw [BitVec.toNat_ofInt]
    rfl
  have e2 : (Int32.ofInt x &&& Int32.ofInt 255).toUInt32.toNat = (x % 256).toNat := by
    show ((Int32.ofInt x).toUInt32 &&& (Int32.ofInt 255).toUInt32).toNat = _
    rw [UInt32.toNat_and, e1]
    show (x % 4294967296).toNat &&& (2 ^ 8 - 1) = _
    rw [Nat.and_two_pow_sub_one_eq_mod]
    omega
  show (UInt32.toBitVec _).toInt = _
  rw [BitVec.toInt_eq_toNat_of_lt]
  · show ((UInt32.toNat _ : Nat) : Int) = _
    rw [e2]
    omega
  · show 2 * UInt32.toNat _ < _
    rw [e2]
    omega
theorem iand_bm (y : Int) : iand (Int.bmod y 256) 255 = iand y 255 := by
  rw [iand255m, iand255m]
  exact Int.bmod_emod
/-- the tape: the class's rows of c, the reference's of r -/
def TpX (c r : Mem) : Prop := r 214 2 = c 1 1 ∧ (0 ≤ c 1 1 ∧ c 1 1 ≤ 940) ∧ ∀ j : Int, 0 ≤ j → j < c 1 1 → r 215 j = tx c j
theorem TpX.put {c r : Mem} (x : Int) (h : TpX c r) (h2 : c 1 1 + 4 ≤ 940) : TpX (putC c x) (comC r x) := by
  obtain ⟨h0, h1, h3⟩ := h
  have e1 : putC c x 1 1 = c 1 1 + 4 := by unfold putC; rw [if_pos ⟨rfl, rfl⟩]
  have e2 : comC r x 214 2 = r 214 2 + 4 := by unfold comC; rw [if_pos ⟨rfl, rfl⟩]
  refine ⟨by rw [e1, e2, h0], by rw [e1]; omega, fun j a b => ?_⟩
  rw [e1] at b
  unfold tx
  by_cases z : c 1 1 ≤ j
  · have e3 : putC c x 2 j = Int.bmod (iushr x (24 - 8 * (j - c 1 1))) 256 := by unfold putC; rw [if_neg (by omega), if_pos ⟨rfl, z, b⟩]
    have e4 : comC r x 215 j = iand (iushr x (24 - 8 * (j - r 214 2))) 255 := by unfold comC; rw [if_neg (by omega), if_pos ⟨rfl, by omega, by omega⟩]
    rw [e3, e4, iand_bm, h0]
  · have e3 : putC c x 2 j = c 2 j := by unfold putC; rw [if_neg (by omega), if_neg (by omega)]
    have e4 : comC r x 215 j = r 215 j := by unfold comC; rw [if_neg (by omega), if_neg (by omega)]
    rw [e3, e4]
    exact h3 j a (by omega)
theorem TpX.congr {c r c' r' : Mem} (h : TpX c r) (e1 : c' 1 1 = c 1 1) (e2 : c' 2 = c 2) (e3 : r' 214 2 = r 214 2) (e4 : r' 215 = r 215) : TpX c' r' := by
  obtain ⟨h0, h1, h3⟩ := h
  refine ⟨by rw [e1, e3, h0], by rw [e1]; exact h1, fun j a b => ?_⟩
  rw [e1] at b
  unfold tx
  rw [e4, e2]
  exact h3 j a b
theorem TpX.cut {c r : Mem} {n : Int} (h : TpX c r) (h0 : 0 ≤ n) (h1 : n ≤ c 1 1) {c' r' : Mem} (e1 : c' 1 1 = n) (e2 : c' 2 = c 2) (e3 : r' 214 2 = n) (e4 : r' 215 = r 215) : TpX c' r' := by
  obtain ⟨g0, g1, g3⟩ := h
  refine ⟨by rw [e1, e3], by rw [e1]; omega, fun j a b => ?_⟩
  rw [e1] at b
  unfold tx
  rw [e4, e2]
  exact g3 j a (by omega)
