/-! ===== the class: persons, mean, slips ===== -/
theorem Sl.nil {a c : Nat} {i : Int} {m : Mem} : Sl a c i m [] m := ⟨fun _ _ _ => rfl, fun _ _ => rfl, by simp, fun j => by rw [if_neg (by simp)]⟩
theorem u64_n {x : Int} (h0 : 0 ≤ x) (h1 : x < 4611686018427387904) : (Int64.ofInt x).toUInt64.toNat = x.toNat := by
  show (BitVec.ofInt 64 x).toNat = x.toNat
  rw [BitVec.toNat_ofInt]
  congr 1
  exact Int.emod_eq_of_lt h0 (by omega)
theorem lushr_n {x y : Int} {s : Nat} (h0 : 0 ≤ x) (h1 : x < 4611686018427387904) (hy : ((Int32.ofInt y).toInt64.toUInt64 &&& Int64.toUInt64 63).toNat = s) (hs : s < 64) : lushr x y = ((x.toNat / 2 ^ s : Nat) : Int) := by
  unfold lushr
  have e1 := u64_n h0 h1
  have e2 : ((Int64.ofInt x).toUInt64 >>> ((Int32.ofInt y).toInt64.toUInt64 &&& Int64.toUInt64 63)).toNat = x.toNat / 2 ^ s := by
    rw [UInt64.toNat_shiftRight, e1, hy, Nat.mod_eq_of_lt hs, Nat.shiftRight_eq_div_pow]
  have e3 : x.toNat / 2 ^ s ≤ x.toNat := Nat.div_le_self _ _
  have e4 : ∀ u : UInt64, u.toInt64.toUInt64.toNat = u.toNat := fun _ => rfl
  show (UInt64.toBitVec _).toInt = _
  rw [BitVec.toInt_eq_toNat_of_lt]
  · show ((UInt64.toNat _ : Nat) : Int) = _
    rw [e4, e2]
  · show 2 * UInt64.toNat _ < _
    rw [e4, e2]
    omega
theorem iand31 (n : Nat) : iand (n : Int) 31 = ((n % 32 : Nat) : Int) := by
  unfold iand
  have e1 : (Int32.ofInt (n : Int)).toUInt32.toNat = n % 4294967296 := by
    show (BitVec.ofInt 32 (n : Int)).toNat = _
    rw [BitVec.toNat_ofInt]
    omega
  have e2 : (Int32.ofInt (n : Int) &&& Int32.ofInt 31).toUInt32.toNat = n % 32 := by
    show ((Int32.ofInt (n : Int)).toUInt32 &&& (Int32.ofInt 31).toUInt32).toNat = _
    rw [UInt32.toNat_and, e1]
    show (n % 4294967296) &&& (2 ^ 5 - 1) = _
    rw [Nat.and_two_pow_sub_one_eq_mod]
    omega
  show (UInt32.toBitVec _).toInt = _
  rw [BitVec.toInt_eq_toNat_of_lt]
  · show ((UInt32.toNat _ : Nat) : Int) = _
    rw [e2]
  · show 2 * UInt32.toNat _ < _
    rw [e2]
    omega
theorem fr32_dg : ∀ (n : Nat) {l : List Int}, Lt l → (((fr 32 l).toNat / 2 ^ (5 * n) % 32 : Nat) : Int) = l.getD n 0 := by
  intro n
  induction n with
  | zero =>
    intro l hl
    cases l with
    | nil => rfl
    | cons c l =>
      have h1 := hl c List.mem_cons_self
      have h2 := fr_nn (B := 32) (by omega) (l := l) (fun w hw => hl w (List.mem_cons_of_mem _ hw))
      show (((32 * fr 32 l + c).toNat / 2 ^ 0 % 32 : Nat) : Int) = c
      rw [Nat.pow_zero, Nat.div_one]
      omega
  | succ n ih =>
    intro l hl
    cases l with
    | nil => show (((0 : Nat) / 2 ^ (5 * (n + 1)) % 32 : Nat) : Int) = 0; rw [Nat.zero_div]; rfl
    | cons c l =>
      have h1 := hl c List.mem_cons_self
      have hl' : Lt l := fun w hw => hl w (List.mem_cons_of_mem _ hw)
      have h2 := fr_nn (B := 32) (by omega) hl'
      show (((32 * fr 32 l + c).toNat / 2 ^ (5 * (n + 1)) % 32 : Nat) : Int) = l.getD n 0
      rw [← ih hl', show 5 * (n + 1) = 5 + 5 * n by omega, Nat.pow_add, ← Nat.div_div_eq_div_mul, show (32 * fr 32 l + c).toNat / 2 ^ 5 = (fr 32 l).toNat by omega]
theorem wT_drop {l : List Int} {n : Nat} (hl : Lt l) : wT (l.drop n) = wT (l.drop (n + 1)) ++ (if l.getD n 0 = 0 then [] else [96 + l.getD n 0]) := by
  by_cases h : n < l.length
  · have e : l.getD n 0 = l[n] := by rw [List.getD_eq_getElem?_getD, List.getElem?_eq_getElem h]; rfl
    have hc := hl l[n] (List.getElem_mem h)
    rw [List.drop_eq_getElem_cons h, e, if_neg (by omega)]
    rfl
  · have e : l.getD n 0 = 0 := by rw [List.getD_eq_getElem?_getD, List.getElem?_eq_none (by omega)]; rfl
    rw [e, if_pos rfl, List.append_nil, List.drop_eq_nil_of_le (by omega), List.drop_eq_nil_of_le (by omega)]
theorem sh5 : ∀ n : Nat, n < 7 → ((Int32.ofInt ((5 * n : Nat) : Int)).toInt64.toUInt64 &&& Int64.toUInt64 63).toNat = 5 * n := by decide +kernel
theorem fr32_b : ∀ {l : List Int}, Lt l → l.length ≤ 7 → 0 ≤ fr 32 l ∧ fr 32 l < 34359738368 := by
  intro l hl hn
  have h := fr_nn (B := 32) (by omega) hl
  refine ⟨h.1, ?_⟩
  have : l.length = 0 ∨ l.length = 1 ∨ l.length = 2 ∨ l.length = 3 ∨ l.length = 4 ∨ l.length = 5 ∨ l.length = 6 ∨ l.length = 7 := by omega
  rcases this with e | e | e | e | e | e | e | e <;> rw [e] at h <;> have h2 := h.2 <;> simp at h2 <;> omega
theorem nmD {l : List Int} {n : Nat} {s : Int} (hl : Lt l) (hn : l.length ≤ 7) (hs : s = 5 * (n : Int) - 5) (h1 : 1 ≤ n) (h7 : n ≤ 7) : iand (lushr (fr 32 l) s) 31 = l.getD (n - 1) 0 := by
  have hb := fr32_b hl hn
  rw [lushr_n (s := 5 * (n - 1)) hb.1 (by omega) (by rw [show s = ((5 * (n - 1) : Nat) : Int) by omega]; exact sh5 (n - 1) (by omega)) (by omega), iand31]
  exact fr32_dg (n - 1) hl

theorem dX11_commonDivisor_0 : decode mX11_commonDivisor.2.1 0 = .ok (.iload_n 0, 1) := by decide +kernel
theorem dX11_commonDivisor_1 : decode mX11_commonDivisor.2.1 1 = .ok (.istore_n 2, 1) := by decide +kernel
theorem dX11_commonDivisor_2 : decode mX11_commonDivisor.2.1 2 = .ok (.iload_n 1, 1) := by decide +kernel
theorem dX11_commonDivisor_3 : decode mX11_commonDivisor.2.1 3 = .ok (.istore_n 3, 1) := by decide +kernel
theorem dX11_commonDivisor_4 : decode mX11_commonDivisor.2.1 4 = .ok (.iconst 0, 1) := by decide +kernel
theorem dX11_commonDivisor_5 : decode mX11_commonDivisor.2.1 5 = .ok (.istore 4, 2) := by decide +kernel
theorem dX11_commonDivisor_7 : decode mX11_commonDivisor.2.1 7 = .ok (.iload 4, 2) := by decide +kernel
theorem dX11_commonDivisor_9 : decode mX11_commonDivisor.2.1 9 = .ok (.bipush 50, 2) := by decide +kernel
theorem dX11_commonDivisor_11 : decode mX11_commonDivisor.2.1 11 = .ok (.if_icmp .ge 23, 3) := by decide +kernel
theorem dX11_commonDivisor_14 : decode mX11_commonDivisor.2.1 14 = .ok (.iload_n 3, 1) := by decide +kernel
theorem dX11_commonDivisor_15 : decode mX11_commonDivisor.2.1 15 = .ok (.ifCond .eq 19, 3) := by decide +kernel
theorem dX11_commonDivisor_18 : decode mX11_commonDivisor.2.1 18 = .ok (.iload_n 2, 1) := by decide +kernel
theorem dX11_commonDivisor_19 : decode mX11_commonDivisor.2.1 19 = .ok (.iload_n 3, 1) := by decide +kernel
theorem dX11_commonDivisor_20 : decode mX11_commonDivisor.2.1 20 = .ok (.irem, 1) := by decide +kernel
theorem dX11_commonDivisor_21 : decode mX11_commonDivisor.2.1 21 = .ok (.istore 5, 2) := by decide +kernel
theorem dX11_commonDivisor_23 : decode mX11_commonDivisor.2.1 23 = .ok (.iload_n 3, 1) := by decide +kernel
theorem dX11_commonDivisor_24 : decode mX11_commonDivisor.2.1 24 = .ok (.istore_n 2, 1) := by decide +kernel
theorem dX11_commonDivisor_25 : decode mX11_commonDivisor.2.1 25 = .ok (.iload 5, 2) := by decide +kernel
theorem dX11_commonDivisor_27 : decode mX11_commonDivisor.2.1 27 = .ok (.istore_n 3, 1) := by decide +kernel
theorem dX11_commonDivisor_28 : decode mX11_commonDivisor.2.1 28 = .ok (.iinc 4 1, 3) := by decide +kernel
theorem dX11_commonDivisor_31 : decode mX11_commonDivisor.2.1 31 = .ok (.goto (-24), 3) := by decide +kernel
theorem dX11_commonDivisor_34 : decode mX11_commonDivisor.2.1 34 = .ok (.iload_n 2, 1) := by decide +kernel
theorem dX11_commonDivisor_35 : decode mX11_commonDivisor.2.1 35 = .ok (.ireturn, 1) := by decide +kernel
set_option maxRecDepth 4000 in
theorem ev_X11_commonDivisor {m : Mem} {a : Int} {b : Int} (ha : 0 ≤ a ∧ a ≤ 1000) (hb : 0 ≤ b ∧ b ≤ 5) : Ev 0 1 mX11_commonDivisor [vi a, vi b] m (fun r m' => m' = m ∧ (r = gcdI a b)) := by
  refine Ev.of (L := [vi a, vi b, un, un, un, un]) (by decide +kernel) rfl (Nat.le_of_ble_eq_true rfl) rfl (fun t ht => by cases ht; first | exact Or.inl rfl | exact Or.inr (Or.inl rfl) | exact Or.inr (Or.inr rfl)) (fun hcan => ?_)
  refine go_iload_n dX11_commonDivisor_0 rfl ?_
  refine go_istore_n (L' := [vi a, vi b, vi a, un, un, un]) dX11_commonDivisor_1 (by decide) rfl rfl ?_
  refine go_iload_n dX11_commonDivisor_2 rfl ?_
  refine go_istore_n (L' := [vi a, vi b, vi a, vi b, un, un]) dX11_commonDivisor_3 (by decide) rfl rfl ?_
  refine go_iconst dX11_commonDivisor_4 ?_
  refine go_istore (L' := [vi a, vi b, vi a, vi b, vi 0, un]) dX11_commonDivisor_5 (by decide) rfl rfl ?_
  refine go_drop (j := 0) (L' := [un, vi b, vi a, vi b, vi 0, un]) rfl ?_
  refine go_drop (j := 1) (L' := [un, un, vi a, vi b, vi 0, un]) rfl ?_
  have lp_7 : ∀ (n_7 : Nat) (x : Int) (y : Int) (k : Int) , (0 ≤ x ∧ x ≤ 1000) → (0 ≤ y ∧ y + k ≤ 5) → (0 ≤ k) → (gcdI x y = gcdI a b) → y.toNat < n_7 → Go 0 1 mX11_commonDivisor (fun r m' => m' = m ∧ (r = gcdI a b)) 7 [un, un, vi x, vi y, vi k, un] [] m := by
    intro n_7
    induction n_7 with
    | zero => intro x y k hx hy hk hg hmu; exact absurd hmu (Nat.not_lt_zero _)
    | succ n_7 ih_7 =>
      intro x y k hx hy hk hg hmu
      refine go_iload dX11_commonDivisor_7 rfl ?_
      refine go_bipush dX11_commonDivisor_9 (by decide) ?_
      refine go_icmp_ge (tgt := 34) dX11_commonDivisor_11 (by decide) ⟨by omega, by omega⟩ ⟨by omega, by omega⟩ (fun h_11 => ?_) (fun h_11 => ?_)
      · exfalso; omega
      · refine go_iload_n dX11_commonDivisor_14 rfl ?_
        refine go_if_eq (tgt := 34) dX11_commonDivisor_15 (by decide) ⟨by omega, by omega⟩ (fun h_15 => ?_) (fun h_15 => ?_)
        · refine go_iload_n dX11_commonDivisor_34 rfl ?_
          exact go_ret (v := x) rfl dX11_commonDivisor_35 (okI ⟨by omega, by omega⟩) ⟨rfl, (by rw [← hg, show y = 0 by omega, gcdI_0 (by omega)])⟩
        · have hm0 := Int.emod_nonneg x (show y ≠ 0 by omega)
          have hm1 := Int.emod_lt_of_pos x (show 0 < y by omega)
          refine go_iload_n dX11_commonDivisor_18 rfl ?_
          refine go_iload_n dX11_commonDivisor_19 rfl ?_
          refine go_irem dX11_commonDivisor_20 ⟨by omega, by omega⟩ ⟨by omega, by omega⟩ (by omega) (by omega) ?_
          refine go_istore (L' := [un, un, vi x, vi y, vi k, vi (x % y)]) dX11_commonDivisor_21 (by decide) rfl rfl ?_
          refine go_iload_n dX11_commonDivisor_23 rfl ?_
          refine go_istore_n (L' := [un, un, vi y, vi y, vi k, vi (x % y)]) dX11_commonDivisor_24 (by decide) rfl rfl ?_
          refine go_iload dX11_commonDivisor_25 rfl ?_
          refine go_istore_n (L' := [un, un, vi y, vi (x % y), vi k, vi (x % y)]) dX11_commonDivisor_27 (by decide) rfl rfl ?_
          refine go_iinc (L' := [un, un, vi y, vi (x % y), vi (k + 1), vi (x % y)]) dX11_commonDivisor_28 rfl (by decide) rfl rfl ?_
          refine go_goto (tgt := 7) dX11_commonDivisor_31 (by decide) ?_
          refine go_drop (j := 5) (L' := [un, un, vi y, vi (x % y), vi (k + 1), un]) rfl ?_
          exact ih_7 y (x % y) (k + 1) (by first | assumption | omega | rfl) (by first | assumption | omega | rfl) (by first | assumption | omega | rfl) (by rw [← hg]; exact gcdI_s (by omega) (by omega)) (by omega)
  exact lp_7 _ a b 0 (by first | assumption | omega | rfl) (by first | assumption | omega | rfl) (by first | assumption | omega | rfl) rfl (Nat.lt_succ_self _)
theorem dX11_person_0 : decode mX11_person.2.1 0 = .ok (.aload_n 0, 1) := by decide +kernel
theorem dX11_person_1 : decode mX11_person.2.1 1 = .ok (.getfield 24, 3) := by decide +kernel
theorem dX11_person_4 : decode mX11_person.2.1 4 = .ok (.iload_n 1, 1) := by decide +kernel
theorem dX11_person_5 : decode mX11_person.2.1 5 = .ok (.invokevirtual 129, 3) := by decide +kernel
theorem dX11_person_8 : decode mX11_person.2.1 8 = .ok (.ifCond .eq 13, 3) := by decide +kernel
theorem dX11_person_11 : decode mX11_person.2.1 11 = .ok (.iload_n 2, 1) := by decide +kernel
theorem dX11_person_12 : decode mX11_person.2.1 12 = .ok (.ifCond .lt 9, 3) := by decide +kernel
theorem dX11_person_15 : decode mX11_person.2.1 15 = .ok (.iload_n 2, 1) := by decide +kernel
theorem dX11_person_16 : decode mX11_person.2.1 16 = .ok (.bipush 6, 2) := by decide +kernel
theorem dX11_person_18 : decode mX11_person.2.1 18 = .ok (.if_icmp .le 11, 3) := by decide +kernel
theorem dX11_person_29 : decode mX11_person.2.1 29 = .ok (.iload_n 2, 1) := by decide +kernel
theorem dX11_person_30 : decode mX11_person.2.1 30 = .ok (.tableswitch 116 0 5 #[38, 51, 64, 77, 90, 103], 38) := by decide +kernel
theorem dX11_person_68 : decode mX11_person.2.1 68 = .ok (.aload_n 0, 1) := by decide +kernel
theorem dX11_person_69 : decode mX11_person.2.1 69 = .ok (.getfield 24, 3) := by decide +kernel
theorem dX11_person_72 : decode mX11_person.2.1 72 = .ok (.getfield 136, 3) := by decide +kernel
theorem dX11_person_75 : decode mX11_person.2.1 75 = .ok (.getfield 140, 3) := by decide +kernel
theorem dX11_person_78 : decode mX11_person.2.1 78 = .ok (.iload_n 1, 1) := by decide +kernel
theorem dX11_person_79 : decode mX11_person.2.1 79 = .ok (.iaload, 1) := by decide +kernel
theorem dX11_person_80 : decode mX11_person.2.1 80 = .ok (.ireturn, 1) := by decide +kernel
theorem dX11_person_81 : decode mX11_person.2.1 81 = .ok (.aload_n 0, 1) := by decide +kernel
theorem dX11_person_82 : decode mX11_person.2.1 82 = .ok (.getfield 24, 3) := by decide +kernel
theorem dX11_person_85 : decode mX11_person.2.1 85 = .ok (.getfield 136, 3) := by decide +kernel
theorem dX11_person_88 : decode mX11_person.2.1 88 = .ok (.getfield 146, 3) := by decide +kernel
theorem dX11_person_91 : decode mX11_person.2.1 91 = .ok (.iload_n 1, 1) := by decide +kernel
theorem dX11_person_92 : decode mX11_person.2.1 92 = .ok (.iaload, 1) := by decide +kernel
theorem dX11_person_93 : decode mX11_person.2.1 93 = .ok (.ireturn, 1) := by decide +kernel
theorem dX11_person_94 : decode mX11_person.2.1 94 = .ok (.aload_n 0, 1) := by decide +kernel
theorem dX11_person_95 : decode mX11_person.2.1 95 = .ok (.getfield 24, 3) := by decide +kernel
theorem dX11_person_98 : decode mX11_person.2.1 98 = .ok (.getfield 136, 3) := by decide +kernel
theorem dX11_person_101 : decode mX11_person.2.1 101 = .ok (.getfield 149, 3) := by decide +kernel
theorem dX11_person_104 : decode mX11_person.2.1 104 = .ok (.iload_n 1, 1) := by decide +kernel
theorem dX11_person_105 : decode mX11_person.2.1 105 = .ok (.iaload, 1) := by decide +kernel
theorem dX11_person_106 : decode mX11_person.2.1 106 = .ok (.ireturn, 1) := by decide +kernel
theorem dX11_person_107 : decode mX11_person.2.1 107 = .ok (.aload_n 0, 1) := by decide +kernel
theorem dX11_person_108 : decode mX11_person.2.1 108 = .ok (.getfield 24, 3) := by decide +kernel
theorem dX11_person_111 : decode mX11_person.2.1 111 = .ok (.getfield 136, 3) := by decide +kernel
theorem dX11_person_114 : decode mX11_person.2.1 114 = .ok (.getfield 152, 3) := by decide +kernel
theorem dX11_person_117 : decode mX11_person.2.1 117 = .ok (.iload_n 1, 1) := by decide +kernel
theorem dX11_person_118 : decode mX11_person.2.1 118 = .ok (.iaload, 1) := by decide +kernel
theorem dX11_person_119 : decode mX11_person.2.1 119 = .ok (.ireturn, 1) := by decide +kernel
theorem dX11_person_120 : decode mX11_person.2.1 120 = .ok (.aload_n 0, 1) := by decide +kernel
theorem dX11_person_121 : decode mX11_person.2.1 121 = .ok (.getfield 24, 3) := by decide +kernel
theorem dX11_person_124 : decode mX11_person.2.1 124 = .ok (.getfield 28, 3) := by decide +kernel
theorem dX11_person_127 : decode mX11_person.2.1 127 = .ok (.getfield 155, 3) := by decide +kernel
theorem dX11_person_130 : decode mX11_person.2.1 130 = .ok (.iload_n 1, 1) := by decide +kernel
theorem dX11_person_131 : decode mX11_person.2.1 131 = .ok (.iaload, 1) := by decide +kernel
theorem dX11_person_132 : decode mX11_person.2.1 132 = .ok (.ireturn, 1) := by decide +kernel
theorem dX11_person_133 : decode mX11_person.2.1 133 = .ok (.aload_n 0, 1) := by decide +kernel
theorem dX11_person_134 : decode mX11_person.2.1 134 = .ok (.getfield 24, 3) := by decide +kernel
theorem dX11_person_137 : decode mX11_person.2.1 137 = .ok (.getfield 136, 3) := by decide +kernel
theorem dX11_person_140 : decode mX11_person.2.1 140 = .ok (.getfield 158, 3) := by decide +kernel
theorem dX11_person_143 : decode mX11_person.2.1 143 = .ok (.iload_n 1, 1) := by decide +kernel
theorem dX11_person_144 : decode mX11_person.2.1 144 = .ok (.iaload, 1) := by decide +kernel
theorem dX11_person_145 : decode mX11_person.2.1 145 = .ok (.ireturn, 1) := by decide +kernel
theorem dX11_person_146 : decode mX11_person.2.1 146 = .ok (.aload_n 0, 1) := by decide +kernel
theorem dX11_person_147 : decode mX11_person.2.1 147 = .ok (.getfield 24, 3) := by decide +kernel
theorem dX11_person_150 : decode mX11_person.2.1 150 = .ok (.getfield 136, 3) := by decide +kernel
theorem dX11_person_153 : decode mX11_person.2.1 153 = .ok (.getfield 161, 3) := by decide +kernel
theorem dX11_person_156 : decode mX11_person.2.1 156 = .ok (.iload_n 1, 1) := by decide +kernel
theorem dX11_person_157 : decode mX11_person.2.1 157 = .ok (.iaload, 1) := by decide +kernel
theorem dX11_person_158 : decode mX11_person.2.1 158 = .ok (.ireturn, 1) := by decide +kernel
set_option maxRecDepth 4000 in
theorem ev_X11_person {m : Mem} {p : Int} {v : Int} {B : Int} (hdn : DnOk m 8) (hst : StOk m 8 18 B) (hB : B ≤ 1900000000) (hp : 0 ≤ p ∧ p < m 8 3) (hv : 0 ≤ v ∧ v ≤ 6) : Ev 0 2 mX11_person [vr 0, vi p, vi v] m (fun r m' => m' = m ∧ (r = perF m 8 18 p v)) := by
  refine Ev.of (L := [vr 0, vi p, vi v]) (by decide +kernel) rfl (Nat.le_of_ble_eq_true rfl) rfl (fun t ht => by cases ht; first | exact Or.inl rfl | exact Or.inr (Or.inl rfl) | exact Or.inr (Or.inr rfl)) (fun hcan => ?_)
  obtain ⟨⟨hd0, hd1⟩, ⟨hd2, hd3⟩, ⟨hd4, hd5⟩, ⟨hd6, hd7⟩, ⟨hd8, hd9⟩, hdf, hdp, hdq⟩ := id hdn
  obtain ⟨⟨hs0, hs1⟩, ⟨hs2, hs3⟩, hsw, hsp, hsd, hsz⟩ := id hst
  have hpp := hsp p hp.1 hp.2
  have hdpp := hdp p hp.1 hp.2
  refine go_aload_n dX11_person_0 rfl ?_
  refine go_getf_p (b := 7) dX11_person_1 fl_11_24 ob_0 rfl pt_0_1 ?_
  refine go_iload_n dX11_person_4 rfl ?_
  refine go_callVp_z (as := [vi p]) (S := []) (b := 7) (ev_X10_hasPerson (m := m) (w := 7) (f := p) (d := 8) (st := 18) isWd_7 (by first | assumption | omega | exact ⟨by omega, by omega⟩ | (constructor <;> omega))) rfl dX11_person_5 cv_11_129 rfl rfl ob_7 rfl (by decide) (Nat.le_of_ble_eq_true rfl) (fun r_5 hr_5 ho_5 => ?_)
  refine go_if_eq (tgt := 21) dX11_person_8 (by decide) ⟨by omega, by omega⟩ (fun h_8 => ?_) (fun h_8 => ?_)
  · exfalso; omega
  · refine go_iload_n dX11_person_11 rfl ?_
    refine go_if_lt (tgt := 21) dX11_person_12 (by decide) ⟨by omega, by omega⟩ (fun h_12 => ?_) (fun h_12 => ?_)
    · exfalso; omega
    · refine go_iload_n dX11_person_15 rfl ?_
      refine go_bipush dX11_person_16 (by decide) ?_
      refine go_icmp_le (tgt := 29) dX11_person_18 (by decide) ⟨by omega, by omega⟩ ⟨by omega, by omega⟩ (fun h_18 => ?_) (fun h_18 => ?_)
      · refine go_iload_n dX11_person_29 rfl ?_
        refine go_tswitch (tgt := 146) dX11_person_30 ⟨by omega, by omega⟩ (by decide) (fun n_30 h_30 hb_30 => ?_) (fun h_30 => ?_)
        · match n_30, h_30, hb_30 with
          | 0, h_30, hb_30 =>
            refine ⟨38, 68, rfl, by decide, ?_⟩
            refine go_aload_n dX11_person_68 rfl ?_
            refine go_getf_p (b := 7) dX11_person_69 fl_11_24 ob_0 rfl pt_0_1 ?_
            refine go_getf_p (b := 18) dX11_person_72 fl_11_136 ob_7 rfl pt_7_1 ?_
            refine go_getf_p (b := 20) dX11_person_75 fl_11_140 ob_18 rfl pt_18_3 ?_
            refine go_iload_n dX11_person_78 rfl ?_
            refine go_iaload dX11_person_79 ar_20 (by omega) (by omega) (fun he_79 => ?_)
            exact go_ret (v := (m 20 p)) rfl dX11_person_80 (okI ⟨by omega, by omega⟩) ⟨rfl, (by unfold perF; rw [if_pos (by omega)])⟩
          | 1, h_30, hb_30 =>
            refine ⟨51, 81, rfl, by decide, ?_⟩
            refine go_aload_n dX11_person_81 rfl ?_
            refine go_getf_p (b := 7) dX11_person_82 fl_11_24 ob_0 rfl pt_0_1 ?_
            refine go_getf_p (b := 18) dX11_person_85 fl_11_136 ob_7 rfl pt_7_1 ?_
            refine go_getf_p (b := 21) dX11_person_88 fl_11_146 ob_18 rfl pt_18_4 ?_
            refine go_iload_n dX11_person_91 rfl ?_
            refine go_iaload dX11_person_92 ar_21 (by omega) (by omega) (fun he_92 => ?_)
            exact go_ret (v := (m 21 p)) rfl dX11_person_93 (okI ⟨by omega, by omega⟩) ⟨rfl, (by unfold perF; rw [if_neg (by omega), if_pos (by omega)])⟩
          | 2, h_30, hb_30 =>
            refine ⟨64, 94, rfl, by decide, ?_⟩
            refine go_aload_n dX11_person_94 rfl ?_
            refine go_getf_p (b := 7) dX11_person_95 fl_11_24 ob_0 rfl pt_0_1 ?_
            refine go_getf_p (b := 18) dX11_person_98 fl_11_136 ob_7 rfl pt_7_1 ?_
            refine go_getf_p (b := 22) dX11_person_101 fl_11_149 ob_18 rfl pt_18_5 ?_
            refine go_iload_n dX11_person_104 rfl ?_
            refine go_iaload dX11_person_105 ar_22 (by omega) (by omega) (fun he_105 => ?_)
            exact go_ret (v := (m 22 p)) rfl dX11_person_106 (okI ⟨by omega, by omega⟩) ⟨rfl, (by unfold perF; rw [if_neg (by omega), if_neg (by omega), if_pos (by omega)])⟩
          | 3, h_30, hb_30 =>
            refine ⟨77, 107, rfl, by decide, ?_⟩
            refine go_aload_n dX11_person_107 rfl ?_
            refine go_getf_p (b := 7) dX11_person_108 fl_11_24 ob_0 rfl pt_0_1 ?_
            refine go_getf_p (b := 18) dX11_person_111 fl_11_136 ob_7 rfl pt_7_1 ?_
            refine go_getf_p (b := 23) dX11_person_114 fl_11_152 ob_18 rfl pt_18_6 ?_
            refine go_iload_n dX11_person_117 rfl ?_
            refine go_iaload dX11_person_118 ar_23 (by omega) (by omega) (fun he_118 => ?_)
            exact go_ret (v := (m 23 p)) rfl dX11_person_119 (okI ⟨by omega, by omega⟩) ⟨rfl, (by unfold perF; rw [if_neg (by omega), if_neg (by omega), if_neg (by omega), if_pos (by omega)])⟩
          | 4, h_30, hb_30 =>
            refine ⟨90, 120, rfl, by decide, ?_⟩
            refine go_aload_n dX11_person_120 rfl ?_
            refine go_getf_p (b := 7) dX11_person_121 fl_11_24 ob_0 rfl pt_0_1 ?_
            refine go_getf_p (b := 8) dX11_person_124 fl_11_28 ob_7 rfl pt_7_0 ?_
            refine go_getf_p (b := 13) dX11_person_127 fl_11_155 ob_8 rfl pt_8_9 ?_
            refine go_iload_n dX11_person_130 rfl ?_
            refine go_iaload dX11_person_131 ar_13 (by omega) (by omega) (fun he_131 => ?_)
            exact go_ret (v := (m 13 p)) rfl dX11_person_132 (okI ⟨by omega, by omega⟩) ⟨rfl, (by unfold perF; rw [if_neg (by omega), if_neg (by omega), if_neg (by omega), if_neg (by omega), if_pos (by omega)])⟩
          | 5, h_30, hb_30 =>
            refine ⟨103, 133, rfl, by decide, ?_⟩
            refine go_aload_n dX11_person_133 rfl ?_
            refine go_getf_p (b := 7) dX11_person_134 fl_11_24 ob_0 rfl pt_0_1 ?_
            refine go_getf_p (b := 18) dX11_person_137 fl_11_136 ob_7 rfl pt_7_1 ?_
            refine go_getf_p (b := 24) dX11_person_140 fl_11_158 ob_18 rfl pt_18_7 ?_
            refine go_iload_n dX11_person_143 rfl ?_
            refine go_iaload dX11_person_144 ar_24 (by omega) (by omega) (fun he_144 => ?_)
            exact go_ret (v := (m 24 p)) rfl dX11_person_145 (okI ⟨by omega, by omega⟩) ⟨rfl, (by unfold perF; rw [if_neg (by omega), if_neg (by omega), if_neg (by omega), if_neg (by omega), if_neg (by omega), if_pos (by omega)])⟩
          | k + 6, h_30, hb_30 => exfalso; omega
        · refine go_aload_n dX11_person_146 rfl ?_
          refine go_getf_p (b := 7) dX11_person_147 fl_11_24 ob_0 rfl pt_0_1 ?_
          refine go_getf_p (b := 18) dX11_person_150 fl_11_136 ob_7 rfl pt_7_1 ?_
          refine go_getf_p (b := 25) dX11_person_153 fl_11_161 ob_18 rfl pt_18_8 ?_
          refine go_iload_n dX11_person_156 rfl ?_
          refine go_iaload dX11_person_157 ar_25 (by omega) (by omega) (fun he_157 => ?_)
          exact go_ret (v := (m 25 p)) rfl dX11_person_158 (okI ⟨by omega, by omega⟩) ⟨rfl, (by unfold perF; rw [if_neg (by omega), if_neg (by omega), if_neg (by omega), if_neg (by omega), if_neg (by omega), if_neg (by omega)])⟩
      · exfalso; omega
theorem dX11_mean_0 : decode mX11_mean.2.1 0 = .ok (.aload_n 0, 1) := by decide +kernel
theorem dX11_mean_1 : decode mX11_mean.2.1 1 = .ok (.getfield 24, 3) := by decide +kernel
theorem dX11_mean_4 : decode mX11_mean.2.1 4 = .ok (.getfield 28, 3) := by decide +kernel
theorem dX11_mean_7 : decode mX11_mean.2.1 7 = .ok (.getfield 327, 3) := by decide +kernel
theorem dX11_mean_10 : decode mX11_mean.2.1 10 = .ok (.istore_n 2, 1) := by decide +kernel
theorem dX11_mean_11 : decode mX11_mean.2.1 11 = .ok (.iload_n 2, 1) := by decide +kernel
theorem dX11_mean_12 : decode mX11_mean.2.1 12 = .ok (.iconst 1, 1) := by decide +kernel
theorem dX11_mean_13 : decode mX11_mean.2.1 13 = .ok (.if_icmp .lt 12, 3) := by decide +kernel
theorem dX11_mean_16 : decode mX11_mean.2.1 16 = .ok (.iload_n 1, 1) := by decide +kernel
theorem dX11_mean_17 : decode mX11_mean.2.1 17 = .ok (.ifCond .lt 8, 3) := by decide +kernel
theorem dX11_mean_20 : decode mX11_mean.2.1 20 = .ok (.iload_n 1, 1) := by decide +kernel
theorem dX11_mean_21 : decode mX11_mean.2.1 21 = .ok (.iconst 1, 1) := by decide +kernel
theorem dX11_mean_22 : decode mX11_mean.2.1 22 = .ok (.if_icmp .le 11, 3) := by decide +kernel
theorem dX11_mean_33 : decode mX11_mean.2.1 33 = .ok (.aload_n 0, 1) := by decide +kernel
theorem dX11_mean_34 : decode mX11_mean.2.1 34 = .ok (.getfield 24, 3) := by decide +kernel
theorem dX11_mean_37 : decode mX11_mean.2.1 37 = .ok (.invokevirtual 230, 3) := by decide +kernel
theorem dX11_mean_40 : decode mX11_mean.2.1 40 = .ok (.istore_n 3, 1) := by decide +kernel
theorem dX11_mean_41 : decode mX11_mean.2.1 41 = .ok (.iload_n 3, 1) := by decide +kernel
theorem dX11_mean_42 : decode mX11_mean.2.1 42 = .ok (.iload_n 2, 1) := by decide +kernel
theorem dX11_mean_43 : decode mX11_mean.2.1 43 = .ok (.invokestatic 330, 3) := by decide +kernel
theorem dX11_mean_46 : decode mX11_mean.2.1 46 = .ok (.istore 4, 2) := by decide +kernel
theorem dX11_mean_48 : decode mX11_mean.2.1 48 = .ok (.iload 4, 2) := by decide +kernel
theorem dX11_mean_50 : decode mX11_mean.2.1 50 = .ok (.iconst 1, 1) := by decide +kernel
theorem dX11_mean_51 : decode mX11_mean.2.1 51 = .ok (.if_icmp .ge 6, 3) := by decide +kernel
theorem dX11_mean_57 : decode mX11_mean.2.1 57 = .ok (.iload_n 1, 1) := by decide +kernel
theorem dX11_mean_58 : decode mX11_mean.2.1 58 = .ok (.ifCond .ne 10, 3) := by decide +kernel
theorem dX11_mean_61 : decode mX11_mean.2.1 61 = .ok (.iload_n 3, 1) := by decide +kernel
theorem dX11_mean_62 : decode mX11_mean.2.1 62 = .ok (.iload 4, 2) := by decide +kernel
theorem dX11_mean_64 : decode mX11_mean.2.1 64 = .ok (.idiv, 1) := by decide +kernel
theorem dX11_mean_65 : decode mX11_mean.2.1 65 = .ok (.goto 7, 3) := by decide +kernel
theorem dX11_mean_68 : decode mX11_mean.2.1 68 = .ok (.iload_n 2, 1) := by decide +kernel
theorem dX11_mean_69 : decode mX11_mean.2.1 69 = .ok (.iload 4, 2) := by decide +kernel
theorem dX11_mean_71 : decode mX11_mean.2.1 71 = .ok (.idiv, 1) := by decide +kernel
theorem dX11_mean_72 : decode mX11_mean.2.1 72 = .ok (.ireturn, 1) := by decide +kernel
set_option maxRecDepth 4000 in
theorem ev_X11_mean {m : Mem} {v : Int} {B : Int} (hdn : DnOk m 8) (hst : StOk m 8 18 B) (hp : 1 ≤ m 8 3) (hv : 0 ≤ v ∧ v ≤ 1) : Ev 0 3 mX11_mean [vr 0, vi v] m (fun r m' => m' = m ∧ (r = (if v = 0 then sumI (m (18 + 5)) (m 8 3) else m 8 3) / gcdI (sumI (m (18 + 5)) (m 8 3)) (m 8 3))) := by
  refine Ev.of (L := [vr 0, vi v, un, un, un]) (by decide +kernel) rfl (Nat.le_of_ble_eq_true rfl) rfl (fun t ht => by cases ht; first | exact Or.inl rfl | exact Or.inr (Or.inl rfl) | exact Or.inr (Or.inr rfl)) (fun hcan => ?_)
  obtain ⟨⟨hd0, hd1⟩, ⟨hd2, hd3⟩, ⟨hd4, hd5⟩, ⟨hd6, hd7⟩, ⟨hd8, hd9⟩, hdf, hdp, hdq⟩ := id hdn
  obtain ⟨⟨hs0, hs1⟩, ⟨hs2, hs3⟩, hsw, hsp, hsd, hsz⟩ := id hst
  have sb := sumI_bnd (f := m (18 + 5)) (lo := 0) (hi := 60) hd6 (fun j a b => by have := hsp j a b; have := hdp j a b; omega)
  refine go_aload_n dX11_mean_0 rfl ?_
  refine go_getf_p (b := 7) dX11_mean_1 fl_11_24 ob_0 rfl pt_0_1 ?_
  refine go_getf_p (b := 8) dX11_mean_4 fl_11_28 ob_7 rfl pt_7_0 ?_
  refine go_getf_i (ki := 3) dX11_mean_7 fl_11_327 ob_8 rfl rfl (fun hf_7 => ?_)
  refine go_istore_n (L' := [vr 0, vi v, vi (m 8 3), un, un]) dX11_mean_10 (by decide) rfl rfl ?_
  refine go_iload_n dX11_mean_11 rfl ?_
  refine go_iconst dX11_mean_12 ?_
  refine go_icmp_lt (tgt := 25) dX11_mean_13 (by decide) ⟨by omega, by omega⟩ ⟨by omega, by omega⟩ (fun h_13 => ?_) (fun h_13 => ?_)
  · exfalso; omega
  · refine go_iload_n dX11_mean_16 rfl ?_
    refine go_if_lt (tgt := 25) dX11_mean_17 (by decide) ⟨by omega, by omega⟩ (fun h_17 => ?_) (fun h_17 => ?_)
    · exfalso; omega
    · refine go_iload_n dX11_mean_20 rfl ?_
      refine go_iconst dX11_mean_21 ?_
      refine go_icmp_le (tgt := 33) dX11_mean_22 (by decide) ⟨by omega, by omega⟩ ⟨by omega, by omega⟩ (fun h_22 => ?_) (fun h_22 => ?_)
      · refine go_aload_n dX11_mean_33 rfl ?_
        refine go_getf_p (b := 7) dX11_mean_34 fl_11_24 ob_0 rfl pt_0_1 ?_
        refine go_callVp_i (as := []) (S := []) (b := 7) (ev_X10_allBreath (m := m) (w := 7) (d := 8) (st := 18) (B := B) isWd_7 (by first | assumption | omega | exact ⟨by omega, by omega⟩ | (constructor <;> omega)) (by first | assumption | omega | exact ⟨by omega, by omega⟩ | (constructor <;> omega))) rfl dX11_mean_37 cv_11_230 rfl rfl ob_7 rfl (by decide) (Nat.le_of_ble_eq_true rfl) (fun r_37 hr_37 ho_37 => ?_)
        refine go_istore_n (L' := [vr 0, vi v, vi (m 8 3), vi r_37, un]) dX11_mean_40 (by decide) rfl rfl ?_
        refine go_iload_n dX11_mean_41 rfl ?_
        refine go_iload_n dX11_mean_42 rfl ?_
        refine go_callSp_i (as := [vi r_37, vi (m 8 3)]) (S := []) (ev_X11_commonDivisor (m := m) (a := r_37) (b := (m 8 3)) (by first | assumption | omega | exact ⟨by omega, by omega⟩ | (constructor <;> omega)) (by first | assumption | omega | exact ⟨by omega, by omega⟩ | (constructor <;> omega))) rfl dX11_mean_43 cs_11_330 rfl rfl (by decide) (Nat.le_of_ble_eq_true rfl) (fun r_43 hr_43 ho_43 => ?_)
        have hg1 : 1 ≤ gcdI r_37 (m 8 3) := by
          unfold gcdI
          have : 0 < Nat.gcd r_37.toNat (m 8 3).toNat := Nat.gcd_pos_of_pos_right _ (by omega)
          omega
        have hg2 : gcdI r_37 (m 8 3) ≤ 1000 := by
          unfold gcdI
          have : Nat.gcd r_37.toNat (m 8 3).toNat ≤ (m 8 3).toNat := Nat.gcd_le_right _ (by omega)
          omega
        refine go_istore (L' := [vr 0, vi v, vi (m 8 3), vi r_37, vi r_43]) dX11_mean_46 (by decide) rfl rfl ?_
        refine go_iload dX11_mean_48 rfl ?_
        refine go_iconst dX11_mean_50 ?_
        refine go_icmp_ge (tgt := 57) dX11_mean_51 (by decide) ⟨by omega, by omega⟩ ⟨by omega, by omega⟩ (fun h_51 => ?_) (fun h_51 => ?_)
        · refine go_iload_n dX11_mean_57 rfl ?_
          refine go_if_ne (tgt := 68) dX11_mean_58 (by decide) ⟨by omega, by omega⟩ (fun h_58 => ?_) (fun h_58 => ?_)
          · refine go_iload_n dX11_mean_68 rfl ?_
            refine go_iload dX11_mean_69 rfl ?_
            refine go_idiv dX11_mean_71 ⟨by omega, by omega⟩ ⟨by omega, by omega⟩ (by omega) (by omega) ?_
            exact go_ret (v := ((m 8 3) / r_43)) rfl dX11_mean_72 (okI (by have h1 := Int.ediv_nonneg (a := r_37) (b := r_43) (by omega) (by omega); have h2 := Int.ediv_le_self (a := r_37) r_43 (by omega); have h3 := Int.ediv_nonneg (a := m 8 3) (b := r_43) (by omega) (by omega); have h4 := Int.ediv_le_self (a := m 8 3) r_43 (by omega); exact ⟨by omega, by omega⟩)) ⟨rfl, (by rw [hr_43, hr_37]; first | rw [if_pos (by omega)] | rw [if_neg (by omega)])⟩
          · refine go_iload_n dX11_mean_61 rfl ?_
            refine go_iload dX11_mean_62 rfl ?_
            refine go_idiv dX11_mean_64 ⟨by omega, by omega⟩ ⟨by omega, by omega⟩ (by omega) (by omega) ?_
            refine go_goto (tgt := 72) dX11_mean_65 (by decide) ?_
            exact go_ret (v := (r_37 / r_43)) rfl dX11_mean_72 (okI (by have h1 := Int.ediv_nonneg (a := r_37) (b := r_43) (by omega) (by omega); have h2 := Int.ediv_le_self (a := r_37) r_43 (by omega); have h3 := Int.ediv_nonneg (a := m 8 3) (b := r_43) (by omega) (by omega); have h4 := Int.ediv_le_self (a := m 8 3) r_43 (by omega); exact ⟨by omega, by omega⟩)) ⟨rfl, (by rw [hr_43, hr_37]; first | rw [if_pos (by omega)] | rw [if_neg (by omega)])⟩
        · exfalso; omega
      · exfalso; omega
theorem dX11_slipByte_0 : decode mX11_slipByte.2.1 0 = .ok (.aload_n 0, 1) := by decide +kernel
theorem dX11_slipByte_1 : decode mX11_slipByte.2.1 1 = .ok (.getfield 98, 3) := by decide +kernel
theorem dX11_slipByte_4 : decode mX11_slipByte.2.1 4 = .ok (.aload_n 0, 1) := by decide +kernel
theorem dX11_slipByte_5 : decode mX11_slipByte.2.1 5 = .ok (.getfield 94, 3) := by decide +kernel
theorem dX11_slipByte_8 : decode mX11_slipByte.2.1 8 = .ok (.arraylength, 1) := by decide +kernel
theorem dX11_slipByte_9 : decode mX11_slipByte.2.1 9 = .ok (.if_icmp .ge 24, 3) := by decide +kernel
theorem dX11_slipByte_12 : decode mX11_slipByte.2.1 12 = .ok (.aload_n 0, 1) := by decide +kernel
theorem dX11_slipByte_13 : decode mX11_slipByte.2.1 13 = .ok (.getfield 94, 3) := by decide +kernel
theorem dX11_slipByte_16 : decode mX11_slipByte.2.1 16 = .ok (.aload_n 0, 1) := by decide +kernel
theorem dX11_slipByte_17 : decode mX11_slipByte.2.1 17 = .ok (.getfield 98, 3) := by decide +kernel
theorem dX11_slipByte_20 : decode mX11_slipByte.2.1 20 = .ok (.iload_n 1, 1) := by decide +kernel
theorem dX11_slipByte_21 : decode mX11_slipByte.2.1 21 = .ok (.i2b, 1) := by decide +kernel
theorem dX11_slipByte_22 : decode mX11_slipByte.2.1 22 = .ok (.bastore, 1) := by decide +kernel
theorem dX11_slipByte_23 : decode mX11_slipByte.2.1 23 = .ok (.aload_n 0, 1) := by decide +kernel
theorem dX11_slipByte_24 : decode mX11_slipByte.2.1 24 = .ok (.dup, 1) := by decide +kernel
theorem dX11_slipByte_25 : decode mX11_slipByte.2.1 25 = .ok (.getfield 98, 3) := by decide +kernel
theorem dX11_slipByte_28 : decode mX11_slipByte.2.1 28 = .ok (.iconst 1, 1) := by decide +kernel
theorem dX11_slipByte_29 : decode mX11_slipByte.2.1 29 = .ok (.iadd, 1) := by decide +kernel
theorem dX11_slipByte_30 : decode mX11_slipByte.2.1 30 = .ok (.putfield 98, 3) := by decide +kernel
theorem dX11_slipByte_33 : decode mX11_slipByte.2.1 33 = .ok (.return_, 1) := by decide +kernel
set_option maxRecDepth 4000 in
theorem ev_X11_slipByte {m : Mem} {c : Int} (hc : 0 ≤ c ∧ c ≤ 127) (hn : 0 ≤ m 0 13 ∧ m 0 13 < 25) : Ev 0 1 mX11_slipByte [vr 0, vi c] m (fun r m' => Sl 213 0 13 m [c] m') := by
  refine Ev.of (L := [vr 0, vi c]) (by decide +kernel) rfl (Nat.le_of_ble_eq_true rfl) rfl (fun t ht => by cases ht) (fun hcan => ?_)
  refine go_aload_n dX11_slipByte_0 rfl ?_
  refine go_getf_i (ki := 13) dX11_slipByte_1 fl_11_98 ob_0 rfl rfl (fun hf_1 => ?_)
  refine go_aload_n dX11_slipByte_4 rfl ?_
  refine go_getf_p (b := 213) dX11_slipByte_5 fl_11_94 ob_0 rfl pt_0_12 ?_
  refine go_alen (x := 25) dX11_slipByte_8 ar_213 (by decide) rfl ?_
  refine go_icmp_ge (tgt := 33) dX11_slipByte_9 (by decide) ⟨by omega, by omega⟩ ⟨by omega, by omega⟩ (fun h_9 => ?_) (fun h_9 => ?_)
  · exfalso; omega
  · refine go_aload_n dX11_slipByte_12 rfl ?_
    refine go_getf_p (b := 213) dX11_slipByte_13 fl_11_94 ob_0 rfl pt_0_12 ?_
    refine go_aload_n dX11_slipByte_16 rfl ?_
    refine go_getf_i (ki := 13) dX11_slipByte_17 fl_11_98 ob_0 rfl rfl (fun hf_17 => ?_)
    refine go_iload_n dX11_slipByte_20 rfl ?_
    refine go_i2b dX11_slipByte_21 ?_
    rw [show (Int.bmod c 256 : Int) = c from (Int.bmod_eq_of_le (by omega) (by omega))]
    refine go_bastore dX11_slipByte_22 ar_213 (by omega) (by omega) ⟨by omega, by omega⟩ ?_
    refine go_aload_n dX11_slipByte_23 rfl ?_
    refine go_dup_r dX11_slipByte_24 ?_
    refine go_getf_i (ki := 13) dX11_slipByte_25 fl_11_98 ob_0 rfl rfl (fun hf_25 => ?_)
    rw [show ((wr m 213 (m 0 13) c) 0 13 : Int) = (m 0 13) from by rw [wr_na (by omega)]] at hf_25 ⊢
    refine go_iconst dX11_slipByte_28 ?_
    refine go_iadd dX11_slipByte_29 ?_
    refine go_putf_i (ki := 13) dX11_slipByte_30 fw_11_98 ob_0 rfl rfl ⟨by omega, by omega⟩ ?_
    exact go_ret (v := 0) rfl dX11_slipByte_33 rfl (Sl.one (by decide))
theorem dX11_slipName_0 : decode mX11_slipName.2.1 0 = .ok (.bipush 30, 2) := by decide +kernel
theorem dX11_slipName_2 : decode mX11_slipName.2.1 2 = .ok (.istore_n 3, 1) := by decide +kernel
theorem dX11_slipName_3 : decode mX11_slipName.2.1 3 = .ok (.iload_n 3, 1) := by decide +kernel
theorem dX11_slipName_4 : decode mX11_slipName.2.1 4 = .ok (.ifCond .lt 32, 3) := by decide +kernel
theorem dX11_slipName_7 : decode mX11_slipName.2.1 7 = .ok (.lload_n 1, 1) := by decide +kernel
theorem dX11_slipName_8 : decode mX11_slipName.2.1 8 = .ok (.iload_n 3, 1) := by decide +kernel
theorem dX11_slipName_9 : decode mX11_slipName.2.1 9 = .ok (.lushr, 1) := by decide +kernel
theorem dX11_slipName_10 : decode mX11_slipName.2.1 10 = .ok (.l2i, 1) := by decide +kernel
theorem dX11_slipName_11 : decode mX11_slipName.2.1 11 = .ok (.bipush 31, 2) := by decide +kernel
theorem dX11_slipName_13 : decode mX11_slipName.2.1 13 = .ok (.iand, 1) := by decide +kernel
theorem dX11_slipName_14 : decode mX11_slipName.2.1 14 = .ok (.istore 4, 2) := by decide +kernel
theorem dX11_slipName_16 : decode mX11_slipName.2.1 16 = .ok (.iload 4, 2) := by decide +kernel
theorem dX11_slipName_18 : decode mX11_slipName.2.1 18 = .ok (.ifCond .eq 12, 3) := by decide +kernel
theorem dX11_slipName_21 : decode mX11_slipName.2.1 21 = .ok (.aload_n 0, 1) := by decide +kernel
theorem dX11_slipName_22 : decode mX11_slipName.2.1 22 = .ok (.bipush 96, 2) := by decide +kernel
theorem dX11_slipName_24 : decode mX11_slipName.2.1 24 = .ok (.iload 4, 2) := by decide +kernel
theorem dX11_slipName_26 : decode mX11_slipName.2.1 26 = .ok (.iadd, 1) := by decide +kernel
theorem dX11_slipName_27 : decode mX11_slipName.2.1 27 = .ok (.invokevirtual 347, 3) := by decide +kernel
theorem dX11_slipName_30 : decode mX11_slipName.2.1 30 = .ok (.iinc 3 (-5), 3) := by decide +kernel
theorem dX11_slipName_33 : decode mX11_slipName.2.1 33 = .ok (.goto (-30), 3) := by decide +kernel
theorem dX11_slipName_36 : decode mX11_slipName.2.1 36 = .ok (.return_, 1) := by decide +kernel
set_option maxRecDepth 4000 in
theorem ev_X11_slipName {m : Mem} {w : Int} {l : List Int} (hw : w = fr 32 l) (hL : Lt l) (hl : 1 ≤ l.length ∧ l.length ≤ 7) (hn : 0 ≤ m 0 13 ∧ m 0 13 + 7 ≤ 25) : Ev 0 2 mX11_slipName [vr 0, vl w] m (fun r m' => Sl 213 0 13 m (wT l) m') := by
  refine Ev.of (L := [vr 0, vl w, un, un, un]) (by decide +kernel) rfl (Nat.le_of_ble_eq_true rfl) rfl (fun t ht => by cases ht) (fun hcan => ?_)
  refine go_bipush dX11_slipName_0 (by decide) ?_
  refine go_istore_n (L' := [vr 0, vl w, un, vi 30, un]) dX11_slipName_2 (by decide) rfl rfl ?_
  have lp_3 : ∀ (n_3 : Nat) (m1 : Mem) (s : Int) (n : Nat), (s = 5 * (n : Int) - 5) → (n ≤ 7) → (Sl 213 0 13 m (wT (l.drop n)) m1) → n < n_3 → Go 0 2 mX11_slipName (fun r m' => Sl 213 0 13 m (wT l) m') 3 [vr 0, vl w, un, vi s, un] [] m1 := by
    intro n_3
    induction n_3 with
    | zero => intro m1 s n hs h7 hsl hmu; exact absurd hmu (Nat.not_lt_zero _)
    | succ n_3 ih_3 =>
      intro m1 s n hs h7 hsl hmu
      have z1 : m1 0 13 = m 0 13 + ((l.length - n : Nat) : Int) := by rw [hsl.2.2.1, wT_len, List.length_drop]
      refine go_iload_n dX11_slipName_3 rfl ?_
      refine go_if_lt (tgt := 36) dX11_slipName_4 (by decide) ⟨by omega, by omega⟩ (fun h_4 => ?_) (fun h_4 => ?_)
      · exact go_ret (v := 0) rfl dX11_slipName_36 rfl (by have e : n = 0 := (by omega); rw [e] at hsl; exact hsl)
      · refine go_lload_n dX11_slipName_7 rfl ?_
        refine go_iload_n dX11_slipName_8 rfl ?_
        refine go_lushr dX11_slipName_9 ?_
        refine go_l2i dX11_slipName_10 ?_
        refine go_bipush dX11_slipName_11 (by decide) ?_
        refine go_iand dX11_slipName_13 ?_
        rw [show (iand (lushr w s) 31 : Int) = (l.getD (n - 1) 0) from (by rw [hw]; exact nmD hL hl.2 hs (by omega) h7)]
        have hdr := wT_drop (l := l) (n := n - 1) hL
        rw [show n - 1 + 1 = n by omega] at hdr
        have hdb : l.getD (n - 1) 0 = 0 ∨ ((1 ≤ l.getD (n - 1) 0 ∧ l.getD (n - 1) 0 ≤ 26) ∧ n - 1 < l.length) := by
          by_cases h : n - 1 < l.length
          · have e : l.getD (n - 1) 0 = l[n - 1] := by rw [List.getD_eq_getElem?_getD, List.getElem?_eq_getElem h]; rfl
            exact Or.inr ⟨by rw [e]; exact hL _ (List.getElem_mem h), h⟩
          · left; rw [List.getD_eq_getElem?_getD, List.getElem?_eq_none (by omega)]; rfl
        refine go_istore (L' := [vr 0, vl w, un, vi s, vi (l.getD (n - 1) 0)]) dX11_slipName_14 (by decide) rfl rfl ?_
        refine go_iload dX11_slipName_16 rfl ?_
        refine go_if_eq (tgt := 30) dX11_slipName_18 (by decide) ⟨by omega, by omega⟩ (fun h_18 => ?_) (fun h_18 => ?_)
        · refine go_iinc (L' := [vr 0, vl w, un, vi (s + (-5)), vi (l.getD (n - 1) 0)]) dX11_slipName_30 rfl (by decide) rfl rfl ?_
          refine go_goto (tgt := 3) dX11_slipName_33 (by decide) ?_
          refine go_drop (j := 4) (L' := [vr 0, vl w, un, vi (s + (-5)), un]) rfl ?_
          exact ih_3 m1 (s + (-5)) (n - 1) (by first | assumption | omega | rfl) (by first | assumption | omega | rfl) (by rw [hdr]; first | (rw [if_pos (by omega), List.append_nil]; exact hsl) | (rw [if_neg (by omega)]; exact hsl2)) (by omega)
        · refine go_aload_n dX11_slipName_21 rfl ?_
          refine go_bipush dX11_slipName_22 (by decide) ?_
          refine go_iload dX11_slipName_24 rfl ?_
          refine go_iadd dX11_slipName_26 ?_
          refine go_callV_v (as := [vi (96 + (l.getD (n - 1) 0))]) (S := []) (b := 0) (ev_X11_slipByte (m := m1) (c := (96 + (l.getD (n - 1) 0))) ⟨by omega, by omega⟩ ⟨by omega, by omega⟩) rfl dX11_slipName_27 cv_11_347 rfl rfl ob_0 rfl (by decide) (Nat.le_of_ble_eq_true rfl) (fun m_27 hr_27 => ?_)
          have hsl2 := hsl.app hr_27
          refine go_iinc (L' := [vr 0, vl w, un, vi (s + (-5)), vi (l.getD (n - 1) 0)]) dX11_slipName_30 rfl (by decide) rfl rfl ?_
          refine go_goto (tgt := 3) dX11_slipName_33 (by decide) ?_
          refine go_drop (j := 4) (L' := [vr 0, vl w, un, vi (s + (-5)), un]) rfl ?_
          exact ih_3 m_27 (s + (-5)) (n - 1) (by first | assumption | omega | rfl) (by first | assumption | omega | rfl) (by rw [hdr]; first | (rw [if_pos (by omega), List.append_nil]; exact hsl) | (rw [if_neg (by omega)]; exact hsl2)) (by omega)
  exact lp_3 _ m 30 7 (by first | assumption | omega | rfl) (by first | assumption | omega | rfl) (by rw [List.drop_eq_nil_of_le (by omega)]; exact Sl.nil) (Nat.lt_succ_self _)
