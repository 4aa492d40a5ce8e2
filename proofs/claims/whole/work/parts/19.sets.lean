def rows (m : Mem) (a o n : Nat) : Mem := fun b => if a ≤ b ∧ b < a + n then m (o + (b - a)) else m b
theorem cpy_full {M m : Mem} {a0 a kd n : Nat} {x : Int} (hx : x = n) (h0 : M a0 = m a0) (h1 : M a = m a) (hcan : Can m) (r0 : ar a0 kd n) (r1 : ar a kd n) : cpy M a0 a x a = m a0 := by
  subst hx
  funext j
  unfold cpy
  by_cases h : a = a ∧ 0 ≤ j ∧ j < n
  · rw [if_pos h, h0]
  · rw [if_neg h, h1]
    have e0 := (hcan a0 j).2 (by rw [r0.2.2.1]; omega)
    have e1 := (hcan a j).2 (by rw [r1.2.2.1]; omega)
    rw [e0, e1]
/-- a field that holds a reference counts for nothing -/
theorem can_ref {m : Mem} (hcan : Can m) {a ci : Nat} (ho : ob a ci) {k : Nat} (ht : isP (cty ci k) = true) : m a (k : Int) = 0 := by
  have := (hcan a (k : Int)).1
  rw [tyOf_ob ho] at this
  cases h : cty ci k <;> rw [h] at ht this <;> first | exact this | cases ht
theorem st_row2 {m : Mem} (hcan : Can m) {a : Nat} (h : isSt a) {j : Int} (h0 : j ≠ 0) (h1 : j ≠ 1) : m a j = 0 := by
  by_cases hj : j < 0 ∨ 9 ≤ j
  · exact (hcan a j).2 (by rw [show sn a = 9 from h.o.2.2.2 _ rfl]; omega)
  · obtain ⟨k, rfl⟩ := Int.eq_ofNat_of_zero_le (show 0 ≤ j by omega)
    have : k = 2 ∨ k = 3 ∨ k = 4 ∨ k = 5 ∨ k = 6 ∨ k = 7 ∨ k = 8 := by omega
    rcases this with rfl | rfl | rfl | rfl | rfl | rfl | rfl <;> exact can_ref hcan h.o rfl
theorem se_row2 {m : Mem} (hcan : Can m) {a : Nat} (h : isSe a) {j : Int} (h0 : j ≠ 0) (h1 : j ≠ 1) : m a j = 0 := by
  by_cases hj : j < 0 ∨ 6 ≤ j
  · exact (hcan a j).2 (by rw [show sn a = 6 from h.o.2.2.2 _ rfl]; omega)
  · obtain ⟨k, rfl⟩ := Int.eq_ofNat_of_zero_le (show 0 ≤ j by omega)
    have : k = 2 ∨ k = 3 ∨ k = 4 ∨ k = 5 := by omega
    rcases this with rfl | rfl | rfl | rfl <;> exact can_ref hcan h.o rfl
theorem dn_row5 {m : Mem} (hcan : Can m) {a : Nat} (h : isDn a) {j : Int} (h0 : j < 0 ∨ 5 ≤ j) : m a j = 0 := by
  by_cases hj : j < 0 ∨ 14 ≤ j
  · exact (hcan a j).2 (by rw [show sn a = 14 from h.o.2.2.2 _ rfl]; omega)
  · obtain ⟨k, rfl⟩ := Int.eq_ofNat_of_zero_le (show 0 ≤ j by omega)
    have : k = 5 ∨ k = 6 ∨ k = 7 ∨ k = 8 ∨ k = 9 ∨ k = 10 ∨ k = 11 ∨ k = 12 ∨ k = 13 := by omega
    rcases this with rfl | rfl | rfl | rfl | rfl | rfl | rfl | rfl | rfl <;> exact can_ref hcan h.o rfl
def zst (m : Mem) (st : Nat) : Mem := fun b j => if b = st ∨ b = st + 1 ∨ b = st + 6 ∨ b = st + 7 then 0 else m b j
def zdn (m : Mem) (d : Nat) : Mem := fun b j => if b = d then (if j = 0 ∨ j = 1 then 6 else 0) else m b j
def zse (m : Mem) (se : Nat) : Mem := fun b j => if b = se then 0 else m b j
def sumB (m : Mem) (a : Nat) (n C : Int) : Prop := (∀ j : Int, 0 ≤ j → j < n → 0 ≤ m a j ∧ m a j ≤ C) ∧ 0 ≤ C ∧ n * C ≤ 2000000000
theorem sumB_le {m : Mem} {a : Nat} {n C k : Int} (h : sumB m a n C) (h0 : 0 ≤ k) (h1 : k ≤ n) : 0 ≤ sumI (m a) k ∧ sumI (m a) k ≤ 2000000000 := by
  have := sumI_bnd (f := m a) (lo := 0) (hi := C) h0 (fun j a b => h.1 j a (by omega))
  have h2 := Int.mul_le_mul_of_nonneg_right h1 h.2.1
  have h3 := h.2.2
  rw [Int.mul_zero] at this
  omega
def fwN (m : Mem) (st : Nat) (q : Int) : Nat → Int
  | 0 => 0
  | n + 1 => ior (fwN m st q n) (ishl (iand (ishr (m (st + 6) (n : Int)) q) 1) (n : Int))
theorem fwN_s {m : Mem} {st : Nat} {q p : Int} (h : 0 ≤ p) : fwN m st q (p + 1).toNat = ior (fwN m st q p.toNat) (ishl (iand (ishr (m (st + 6) p) q) 1) p) := by
  rw [show (p + 1).toNat = p.toNat + 1 by omega]
  show ior _ (ishl (iand (ishr (m (st + 6) (p.toNat : Int)) q) 1) (p.toNat : Int)) = _
  rw [Int.toNat_of_nonneg h]
theorem comeN_R {P : Int → Bool} (n : Nat) : InR (comeN 0 P n) := by
  induction n with
  | zero => exact InR.zero
  | succ n ih =>
    show InR (if P (n : Int) then ior _ _ else _)
    split
    · exact ior_R _ _
    · exact ih
theorem fwN_R {m : Mem} {st : Nat} {q : Int} (n : Nat) : InR (fwN m st q n) := by
  cases n with
  | zero => exact InR.zero
  | succ n => exact ior_R _ _
def lstN (b mo : Int → Int) : Nat → Int
  | 0 => 0
  | n + 1 => if b ((n : Int) + 1) * mo (lstN b mo n) < b (lstN b mo n) * mo ((n : Int) + 1) then (n : Int) + 1 else lstN b mo n
theorem lstN_b (b mo : Int → Int) (n : Nat) : 0 ≤ lstN b mo n ∧ lstN b mo n ≤ n := by
  induction n with
  | zero => simp [lstN]
  | succ n ih => simp only [lstN]; split <;> omega
theorem lstN_s {b mo : Int → Int} {p : Int} (h : 1 ≤ p) : lstN b mo p.toNat = if b p * mo (lstN b mo (p - 1).toNat) < b (lstN b mo (p - 1).toNat) * mo p then p else lstN b mo (p - 1).toNat := by
  obtain ⟨n, rfl⟩ : ∃ n : Nat, p = (n : Int) + 1 := ⟨(p - 1).toNat, by omega⟩
  rw [show ((n : Int) + 1).toNat = n + 1 by omega, show ((n : Int) + 1 - 1).toNat = n by omega]
  rfl
theorem mul60 {a b : Int} (ha : 0 ≤ a ∧ a ≤ 60) (hb : 0 ≤ b ∧ b ≤ 60) : 0 ≤ a * b ∧ a * b ≤ 3600 := by
  have h1 := Int.mul_nonneg ha.1 hb.1
  have h2 := Int.mul_le_mul ha.2 hb.2 hb.1 (show (0 : Int) ≤ 60 by omega)
  omega
def setlC (m : Mem) (d st : Nat) (p : Int) : Bool := decide (m (st + 6) p = ishl 1 (m d 4) - 1)
theorem ishl1_small : ∀ n : Nat, n < 6 → 1 ≤ ishl 1 (n : Int) ∧ ishl 1 (n : Int) ≤ 32 := by decide +kernel
theorem ishl1_b {n : Int} (h0 : 0 ≤ n) (h1 : n < 6) : 1 ≤ ishl 1 n ∧ ishl 1 n ≤ 32 := by
  obtain ⟨k, rfl⟩ := Int.eq_ofNat_of_zero_le h0
  exact ishl1_small k (by omega)

theorem dX10_isSettled_0 : decode mX10_isSettled.2.1 0 = .ok (.aload_n 0, 1) := by decide +kernel
theorem dX10_isSettled_1 : decode mX10_isSettled.2.1 1 = .ok (.getfield 12, 3) := by decide +kernel
theorem dX10_isSettled_4 : decode mX10_isSettled.2.1 4 = .ok (.getfield 121, 3) := by decide +kernel
theorem dX10_isSettled_7 : decode mX10_isSettled.2.1 7 = .ok (.iload_n 1, 1) := by decide +kernel
theorem dX10_isSettled_8 : decode mX10_isSettled.2.1 8 = .ok (.iaload, 1) := by decide +kernel
theorem dX10_isSettled_9 : decode mX10_isSettled.2.1 9 = .ok (.iconst 1, 1) := by decide +kernel
theorem dX10_isSettled_10 : decode mX10_isSettled.2.1 10 = .ok (.aload_n 0, 1) := by decide +kernel
theorem dX10_isSettled_11 : decode mX10_isSettled.2.1 11 = .ok (.getfield 29, 3) := by decide +kernel
theorem dX10_isSettled_14 : decode mX10_isSettled.2.1 14 = .ok (.getfield 56, 3) := by decide +kernel
theorem dX10_isSettled_17 : decode mX10_isSettled.2.1 17 = .ok (.ishl, 1) := by decide +kernel
theorem dX10_isSettled_18 : decode mX10_isSettled.2.1 18 = .ok (.iconst 1, 1) := by decide +kernel
theorem dX10_isSettled_19 : decode mX10_isSettled.2.1 19 = .ok (.isub, 1) := by decide +kernel
theorem dX10_isSettled_20 : decode mX10_isSettled.2.1 20 = .ok (.if_icmp .ne 7, 3) := by decide +kernel
theorem dX10_isSettled_23 : decode mX10_isSettled.2.1 23 = .ok (.iconst 1, 1) := by decide +kernel
theorem dX10_isSettled_24 : decode mX10_isSettled.2.1 24 = .ok (.goto 4, 3) := by decide +kernel
theorem dX10_isSettled_27 : decode mX10_isSettled.2.1 27 = .ok (.iconst 0, 1) := by decide +kernel
theorem dX10_isSettled_28 : decode mX10_isSettled.2.1 28 = .ok (.ireturn, 1) := by decide +kernel
set_option maxRecDepth 4000 in
theorem ev_X10_isSettled {m : Mem} {w : Nat} {d : Nat} {st : Nat} {p : Int} (hw : isWd w d st) (hn : 0 ≤ m d 4 ∧ m d 4 ≤ 5) (hp : 0 ≤ p ∧ p < 5) : Ev 0 1 mX10_isSettled [vr w, vi p] m (fun r m' => m' = m ∧ ((r = 1 ∧ setlC m d st p = true) ∨ (r = 0 ∧ setlC m d st p = false))) := by
  refine Ev.of (L := [vr w, vi p]) (by decide +kernel) rfl (Nat.le_of_ble_eq_true rfl) rfl (fun t ht => by cases ht; first | exact Or.inl rfl | exact Or.inr (Or.inl rfl) | exact Or.inr (Or.inr rfl)) (fun hcan => ?_)
  refine go_aload_n dX10_isSettled_0 rfl ?_
  refine go_getf_p (b := st) dX10_isSettled_1 fl_10_12 hw.o rfl hw.p1 ?_
  refine go_getf_p (b := (st + 6)) dX10_isSettled_4 fl_10_121 hw.st.o rfl hw.st.p7 ?_
  refine go_iload_n dX10_isSettled_7 rfl ?_
  refine go_iaload dX10_isSettled_8 hw.st.a6 (by omega) (by omega) (fun he_8 => ?_)
  refine go_iconst dX10_isSettled_9 ?_
  refine go_aload_n dX10_isSettled_10 rfl ?_
  refine go_getf_p (b := d) dX10_isSettled_11 fl_10_29 hw.o rfl hw.p0 ?_
  refine go_getf_i (ki := 4) dX10_isSettled_14 fl_10_56 hw.dn.o rfl rfl (fun hf_14 => ?_)
  have hsh := ishl1_b hn.1 (show m d 4 < 6 by omega)
  refine go_ishl dX10_isSettled_17 ?_
  refine go_iconst dX10_isSettled_18 ?_
  refine go_isub dX10_isSettled_19 ?_
  refine go_icmp_ne (tgt := 27) dX10_isSettled_20 (by decide) ⟨by omega, by omega⟩ ⟨by omega, by omega⟩ (fun h_20 => ?_) (fun h_20 => ?_)
  · refine go_iconst dX10_isSettled_27 ?_
    exact go_ret (v := 0) rfl dX10_isSettled_28 (okZ (by first | exact Or.inl rfl | exact Or.inr rfl | assumption | omega)) ⟨rfl, (by first | exact Or.inl ⟨rfl, by simp [setlC, h_20]; done⟩ | exact Or.inr ⟨rfl, by simp [setlC, h_20]; done⟩)⟩
  · refine go_iconst dX10_isSettled_23 ?_
    refine go_goto (tgt := 28) dX10_isSettled_24 (by decide) ?_
    exact go_ret (v := 1) rfl dX10_isSettled_28 (okZ (by first | exact Or.inl rfl | exact Or.inr rfl | assumption | omega)) ⟨rfl, (by first | exact Or.inl ⟨rfl, by simp [setlC, h_20]; done⟩ | exact Or.inr ⟨rfl, by simp [setlC, h_20]; done⟩)⟩
theorem dX10_whoIsSpent_0 : decode mX10_whoIsSpent.2.1 0 = .ok (.iconst 0, 1) := by decide +kernel
theorem dX10_whoIsSpent_1 : decode mX10_whoIsSpent.2.1 1 = .ok (.istore_n 1, 1) := by decide +kernel
theorem dX10_whoIsSpent_2 : decode mX10_whoIsSpent.2.1 2 = .ok (.iconst 0, 1) := by decide +kernel
theorem dX10_whoIsSpent_3 : decode mX10_whoIsSpent.2.1 3 = .ok (.istore_n 2, 1) := by decide +kernel
theorem dX10_whoIsSpent_4 : decode mX10_whoIsSpent.2.1 4 = .ok (.iload_n 2, 1) := by decide +kernel
theorem dX10_whoIsSpent_5 : decode mX10_whoIsSpent.2.1 5 = .ok (.aload_n 0, 1) := by decide +kernel
theorem dX10_whoIsSpent_6 : decode mX10_whoIsSpent.2.1 6 = .ok (.getfield 29, 3) := by decide +kernel
theorem dX10_whoIsSpent_9 : decode mX10_whoIsSpent.2.1 9 = .ok (.getfield 53, 3) := by decide +kernel
theorem dX10_whoIsSpent_12 : decode mX10_whoIsSpent.2.1 12 = .ok (.if_icmp .ge 27, 3) := by decide +kernel
theorem dX10_whoIsSpent_15 : decode mX10_whoIsSpent.2.1 15 = .ok (.aload_n 0, 1) := by decide +kernel
theorem dX10_whoIsSpent_16 : decode mX10_whoIsSpent.2.1 16 = .ok (.getfield 12, 3) := by decide +kernel
theorem dX10_whoIsSpent_19 : decode mX10_whoIsSpent.2.1 19 = .ok (.getfield 77, 3) := by decide +kernel
theorem dX10_whoIsSpent_22 : decode mX10_whoIsSpent.2.1 22 = .ok (.iload_n 2, 1) := by decide +kernel
theorem dX10_whoIsSpent_23 : decode mX10_whoIsSpent.2.1 23 = .ok (.iaload, 1) := by decide +kernel
theorem dX10_whoIsSpent_24 : decode mX10_whoIsSpent.2.1 24 = .ok (.ifCond .ne 9, 3) := by decide +kernel
theorem dX10_whoIsSpent_27 : decode mX10_whoIsSpent.2.1 27 = .ok (.iload_n 1, 1) := by decide +kernel
theorem dX10_whoIsSpent_28 : decode mX10_whoIsSpent.2.1 28 = .ok (.iconst 1, 1) := by decide +kernel
theorem dX10_whoIsSpent_29 : decode mX10_whoIsSpent.2.1 29 = .ok (.iload_n 2, 1) := by decide +kernel
theorem dX10_whoIsSpent_30 : decode mX10_whoIsSpent.2.1 30 = .ok (.ishl, 1) := by decide +kernel
theorem dX10_whoIsSpent_31 : decode mX10_whoIsSpent.2.1 31 = .ok (.ior, 1) := by decide +kernel
theorem dX10_whoIsSpent_32 : decode mX10_whoIsSpent.2.1 32 = .ok (.istore_n 1, 1) := by decide +kernel
theorem dX10_whoIsSpent_33 : decode mX10_whoIsSpent.2.1 33 = .ok (.iinc 2 1, 3) := by decide +kernel
theorem dX10_whoIsSpent_36 : decode mX10_whoIsSpent.2.1 36 = .ok (.goto (-32), 3) := by decide +kernel
theorem dX10_whoIsSpent_39 : decode mX10_whoIsSpent.2.1 39 = .ok (.iload_n 1, 1) := by decide +kernel
theorem dX10_whoIsSpent_40 : decode mX10_whoIsSpent.2.1 40 = .ok (.ireturn, 1) := by decide +kernel
set_option maxRecDepth 4000 in
theorem ev_X10_whoIsSpent {m : Mem} {w : Nat} {d : Nat} {st : Nat} (hw : isWd w d st) (hdn : DnOk m d) : Ev 0 1 mX10_whoIsSpent [vr w] m (fun r m' => m' = m ∧ (r = comeN 0 (fun p => decide (m (st + 5) p = 0)) (m d 3).toNat)) := by
  refine Ev.of (L := [vr w, un, un]) (by decide +kernel) rfl (Nat.le_of_ble_eq_true rfl) rfl (fun t ht => by cases ht; first | exact Or.inl rfl | exact Or.inr (Or.inl rfl) | exact Or.inr (Or.inr rfl)) (fun hcan => ?_)
  obtain ⟨⟨hd0, hd1⟩, ⟨hd2, hd3⟩, ⟨hd4, hd5⟩, ⟨hd6, hd7⟩, ⟨hd8, hd9⟩, hdf, hdp, hdq⟩ := id hdn
  refine go_iconst dX10_whoIsSpent_0 ?_
  refine go_istore_n (L' := [vr w, vi 0, un]) dX10_whoIsSpent_1 (by decide) rfl rfl ?_
  refine go_iconst dX10_whoIsSpent_2 ?_
  refine go_istore_n (L' := [vr w, vi 0, vi 0]) dX10_whoIsSpent_3 (by decide) rfl rfl ?_
  have lp_4 : ∀ (n_4 : Nat) (b : Int) (p : Int), (0 ≤ p) → (p ≤ m d 3) → (b = comeN 0 (fun p => decide (m (st + 5) p = 0)) p.toNat) → (m d 3 - p).toNat < n_4 → Go 0 1 mX10_whoIsSpent (fun r m' => m' = m ∧ (r = comeN 0 (fun p => decide (m (st + 5) p = 0)) (m d 3).toNat)) 4 [vr w, vi b, vi p] [] m := by
    intro n_4
    induction n_4 with
    | zero => intro b p hp0 hp1 hb hmu; exact absurd hmu (Nat.not_lt_zero _)
    | succ n_4 ih_4 =>
      intro b p hp0 hp1 hb hmu
      have hbR := comeN_R (P := (fun p => decide (m (st + 5) p = 0))) p.toNat
      rw [← hb] at hbR
      refine go_iload_n dX10_whoIsSpent_4 rfl ?_
      refine go_aload_n dX10_whoIsSpent_5 rfl ?_
      refine go_getf_p (b := d) dX10_whoIsSpent_6 fl_10_29 hw.o rfl hw.p0 ?_
      refine go_getf_i (ki := 3) dX10_whoIsSpent_9 fl_10_53 hw.dn.o rfl rfl (fun hf_9 => ?_)
      refine go_icmp_ge (tgt := 39) dX10_whoIsSpent_12 (by decide) ⟨by omega, by omega⟩ ⟨by omega, by omega⟩ (fun h_12 => ?_) (fun h_12 => ?_)
      · refine go_iload_n dX10_whoIsSpent_39 rfl ?_
        exact go_ret (v := b) rfl dX10_whoIsSpent_40 (okI ⟨by omega, by omega⟩) ⟨rfl, (by rw [hb, show p = m d 3 by omega])⟩
      · refine go_aload_n dX10_whoIsSpent_15 rfl ?_
        refine go_getf_p (b := st) dX10_whoIsSpent_16 fl_10_12 hw.o rfl hw.p1 ?_
        refine go_getf_p (b := (st + 5)) dX10_whoIsSpent_19 fl_10_77 hw.st.o rfl hw.st.p6 ?_
        refine go_iload_n dX10_whoIsSpent_22 rfl ?_
        refine go_iaload dX10_whoIsSpent_23 hw.st.a5 (by omega) (by omega) (fun he_23 => ?_)
        refine go_if_ne (tgt := 33) dX10_whoIsSpent_24 (by decide) ⟨by omega, by omega⟩ (fun h_24 => ?_) (fun h_24 => ?_)
        · refine go_iinc (L' := [vr w, vi b, vi (p + 1)]) dX10_whoIsSpent_33 rfl (by decide) rfl rfl ?_
          refine go_goto (tgt := 4) dX10_whoIsSpent_36 (by decide) ?_
          exact ih_4 b (p + 1) (by first | assumption | omega | rfl) (by first | assumption | omega | rfl) (by rw [comeN_s hp0, ← hb]; first | rw [if_pos (decide_eq_true h_24)] | rw [if_neg (by rw [decide_eq_true_eq]; exact h_24)]) (by omega)
        · refine go_iload_n dX10_whoIsSpent_27 rfl ?_
          refine go_iconst dX10_whoIsSpent_28 ?_
          refine go_iload_n dX10_whoIsSpent_29 rfl ?_
          refine go_ishl dX10_whoIsSpent_30 ?_
          refine go_ior dX10_whoIsSpent_31 ?_
          refine go_istore_n (L' := [vr w, vi (ior b (ishl 1 p)), vi p]) dX10_whoIsSpent_32 (by decide) rfl rfl ?_
          refine go_iinc (L' := [vr w, vi (ior b (ishl 1 p)), vi (p + 1)]) dX10_whoIsSpent_33 rfl (by decide) rfl rfl ?_
          refine go_goto (tgt := 4) dX10_whoIsSpent_36 (by decide) ?_
          exact ih_4 (ior b (ishl 1 p)) (p + 1) (by first | assumption | omega | rfl) (by first | assumption | omega | rfl) (by rw [comeN_s hp0, ← hb]; first | rw [if_pos (decide_eq_true h_24)] | rw [if_neg (by rw [decide_eq_true_eq]; exact h_24)]) (by omega)
  exact lp_4 _ 0 0 (by first | assumption | omega | rfl) (by first | assumption | omega | rfl) rfl (Nat.lt_succ_self _)
theorem dX10_whoIsUpright_0 : decode mX10_whoIsUpright.2.1 0 = .ok (.iconst 0, 1) := by decide +kernel
theorem dX10_whoIsUpright_1 : decode mX10_whoIsUpright.2.1 1 = .ok (.istore_n 1, 1) := by decide +kernel
theorem dX10_whoIsUpright_2 : decode mX10_whoIsUpright.2.1 2 = .ok (.iconst 0, 1) := by decide +kernel
theorem dX10_whoIsUpright_3 : decode mX10_whoIsUpright.2.1 3 = .ok (.istore_n 2, 1) := by decide +kernel
theorem dX10_whoIsUpright_4 : decode mX10_whoIsUpright.2.1 4 = .ok (.iload_n 2, 1) := by decide +kernel
theorem dX10_whoIsUpright_5 : decode mX10_whoIsUpright.2.1 5 = .ok (.aload_n 0, 1) := by decide +kernel
theorem dX10_whoIsUpright_6 : decode mX10_whoIsUpright.2.1 6 = .ok (.getfield 29, 3) := by decide +kernel
theorem dX10_whoIsUpright_9 : decode mX10_whoIsUpright.2.1 9 = .ok (.getfield 53, 3) := by decide +kernel
theorem dX10_whoIsUpright_12 : decode mX10_whoIsUpright.2.1 12 = .ok (.if_icmp .ge 27, 3) := by decide +kernel
theorem dX10_whoIsUpright_15 : decode mX10_whoIsUpright.2.1 15 = .ok (.aload_n 0, 1) := by decide +kernel
theorem dX10_whoIsUpright_16 : decode mX10_whoIsUpright.2.1 16 = .ok (.getfield 12, 3) := by decide +kernel
theorem dX10_whoIsUpright_19 : decode mX10_whoIsUpright.2.1 19 = .ok (.getfield 99, 3) := by decide +kernel
theorem dX10_whoIsUpright_22 : decode mX10_whoIsUpright.2.1 22 = .ok (.iload_n 2, 1) := by decide +kernel
theorem dX10_whoIsUpright_23 : decode mX10_whoIsUpright.2.1 23 = .ok (.iaload, 1) := by decide +kernel
theorem dX10_whoIsUpright_24 : decode mX10_whoIsUpright.2.1 24 = .ok (.ifCond .ne 9, 3) := by decide +kernel
theorem dX10_whoIsUpright_27 : decode mX10_whoIsUpright.2.1 27 = .ok (.iload_n 1, 1) := by decide +kernel
theorem dX10_whoIsUpright_28 : decode mX10_whoIsUpright.2.1 28 = .ok (.iconst 1, 1) := by decide +kernel
theorem dX10_whoIsUpright_29 : decode mX10_whoIsUpright.2.1 29 = .ok (.iload_n 2, 1) := by decide +kernel
theorem dX10_whoIsUpright_30 : decode mX10_whoIsUpright.2.1 30 = .ok (.ishl, 1) := by decide +kernel
theorem dX10_whoIsUpright_31 : decode mX10_whoIsUpright.2.1 31 = .ok (.ior, 1) := by decide +kernel
theorem dX10_whoIsUpright_32 : decode mX10_whoIsUpright.2.1 32 = .ok (.istore_n 1, 1) := by decide +kernel
theorem dX10_whoIsUpright_33 : decode mX10_whoIsUpright.2.1 33 = .ok (.iinc 2 1, 3) := by decide +kernel
theorem dX10_whoIsUpright_36 : decode mX10_whoIsUpright.2.1 36 = .ok (.goto (-32), 3) := by decide +kernel
theorem dX10_whoIsUpright_39 : decode mX10_whoIsUpright.2.1 39 = .ok (.iload_n 1, 1) := by decide +kernel
theorem dX10_whoIsUpright_40 : decode mX10_whoIsUpright.2.1 40 = .ok (.ireturn, 1) := by decide +kernel
set_option maxRecDepth 4000 in
theorem ev_X10_whoIsUpright {m : Mem} {w : Nat} {d : Nat} {st : Nat} (hw : isWd w d st) (hdn : DnOk m d) : Ev 0 1 mX10_whoIsUpright [vr w] m (fun r m' => m' = m ∧ (r = comeN 0 (fun p => decide (m (st + 4) p = 0)) (m d 3).toNat)) := by
  refine Ev.of (L := [vr w, un, un]) (by decide +kernel) rfl (Nat.le_of_ble_eq_true rfl) rfl (fun t ht => by cases ht; first | exact Or.inl rfl | exact Or.inr (Or.inl rfl) | exact Or.inr (Or.inr rfl)) (fun hcan => ?_)
  obtain ⟨⟨hd0, hd1⟩, ⟨hd2, hd3⟩, ⟨hd4, hd5⟩, ⟨hd6, hd7⟩, ⟨hd8, hd9⟩, hdf, hdp, hdq⟩ := id hdn
  refine go_iconst dX10_whoIsUpright_0 ?_
  refine go_istore_n (L' := [vr w, vi 0, un]) dX10_whoIsUpright_1 (by decide) rfl rfl ?_
  refine go_iconst dX10_whoIsUpright_2 ?_
  refine go_istore_n (L' := [vr w, vi 0, vi 0]) dX10_whoIsUpright_3 (by decide) rfl rfl ?_
  have lp_4 : ∀ (n_4 : Nat) (b : Int) (p : Int), (0 ≤ p) → (p ≤ m d 3) → (b = comeN 0 (fun p => decide (m (st + 4) p = 0)) p.toNat) → (m d 3 - p).toNat < n_4 → Go 0 1 mX10_whoIsUpright (fun r m' => m' = m ∧ (r = comeN 0 (fun p => decide (m (st + 4) p = 0)) (m d 3).toNat)) 4 [vr w, vi b, vi p] [] m := by
    intro n_4
    induction n_4 with
    | zero => intro b p hp0 hp1 hb hmu; exact absurd hmu (Nat.not_lt_zero _)
    | succ n_4 ih_4 =>
      intro b p hp0 hp1 hb hmu
      have hbR := comeN_R (P := (fun p => decide (m (st + 4) p = 0))) p.toNat
      rw [← hb] at hbR
      refine go_iload_n dX10_whoIsUpright_4 rfl ?_
      refine go_aload_n dX10_whoIsUpright_5 rfl ?_
      refine go_getf_p (b := d) dX10_whoIsUpright_6 fl_10_29 hw.o rfl hw.p0 ?_
      refine go_getf_i (ki := 3) dX10_whoIsUpright_9 fl_10_53 hw.dn.o rfl rfl (fun hf_9 => ?_)
      refine go_icmp_ge (tgt := 39) dX10_whoIsUpright_12 (by decide) ⟨by omega, by omega⟩ ⟨by omega, by omega⟩ (fun h_12 => ?_) (fun h_12 => ?_)
      · refine go_iload_n dX10_whoIsUpright_39 rfl ?_
        exact go_ret (v := b) rfl dX10_whoIsUpright_40 (okI ⟨by omega, by omega⟩) ⟨rfl, (by rw [hb, show p = m d 3 by omega])⟩
      · refine go_aload_n dX10_whoIsUpright_15 rfl ?_
        refine go_getf_p (b := st) dX10_whoIsUpright_16 fl_10_12 hw.o rfl hw.p1 ?_
        refine go_getf_p (b := (st + 4)) dX10_whoIsUpright_19 fl_10_99 hw.st.o rfl hw.st.p5 ?_
        refine go_iload_n dX10_whoIsUpright_22 rfl ?_
        refine go_iaload dX10_whoIsUpright_23 hw.st.a4 (by omega) (by omega) (fun he_23 => ?_)
        refine go_if_ne (tgt := 33) dX10_whoIsUpright_24 (by decide) ⟨by omega, by omega⟩ (fun h_24 => ?_) (fun h_24 => ?_)
        · refine go_iinc (L' := [vr w, vi b, vi (p + 1)]) dX10_whoIsUpright_33 rfl (by decide) rfl rfl ?_
          refine go_goto (tgt := 4) dX10_whoIsUpright_36 (by decide) ?_
          exact ih_4 b (p + 1) (by first | assumption | omega | rfl) (by first | assumption | omega | rfl) (by rw [comeN_s hp0, ← hb]; first | rw [if_pos (decide_eq_true h_24)] | rw [if_neg (by rw [decide_eq_true_eq]; exact h_24)]) (by omega)
        · refine go_iload_n dX10_whoIsUpright_27 rfl ?_
          refine go_iconst dX10_whoIsUpright_28 ?_
          refine go_iload_n dX10_whoIsUpright_29 rfl ?_
          refine go_ishl dX10_whoIsUpright_30 ?_
          refine go_ior dX10_whoIsUpright_31 ?_
          refine go_istore_n (L' := [vr w, vi (ior b (ishl 1 p)), vi p]) dX10_whoIsUpright_32 (by decide) rfl rfl ?_
          refine go_iinc (L' := [vr w, vi (ior b (ishl 1 p)), vi (p + 1)]) dX10_whoIsUpright_33 rfl (by decide) rfl rfl ?_
          refine go_goto (tgt := 4) dX10_whoIsUpright_36 (by decide) ?_
          exact ih_4 (ior b (ishl 1 p)) (p + 1) (by first | assumption | omega | rfl) (by first | assumption | omega | rfl) (by rw [comeN_s hp0, ← hb]; first | rw [if_pos (decide_eq_true h_24)] | rw [if_neg (by rw [decide_eq_true_eq]; exact h_24)]) (by omega)
  exact lp_4 _ 0 0 (by first | assumption | omega | rfl) (by first | assumption | omega | rfl) rfl (Nat.lt_succ_self _)
theorem dX10_whoIsSettled_0 : decode mX10_whoIsSettled.2.1 0 = .ok (.iconst 0, 1) := by decide +kernel
theorem dX10_whoIsSettled_1 : decode mX10_whoIsSettled.2.1 1 = .ok (.istore_n 1, 1) := by decide +kernel
theorem dX10_whoIsSettled_2 : decode mX10_whoIsSettled.2.1 2 = .ok (.iconst 0, 1) := by decide +kernel
theorem dX10_whoIsSettled_3 : decode mX10_whoIsSettled.2.1 3 = .ok (.istore_n 2, 1) := by decide +kernel
theorem dX10_whoIsSettled_4 : decode mX10_whoIsSettled.2.1 4 = .ok (.iload_n 2, 1) := by decide +kernel
theorem dX10_whoIsSettled_5 : decode mX10_whoIsSettled.2.1 5 = .ok (.aload_n 0, 1) := by decide +kernel
theorem dX10_whoIsSettled_6 : decode mX10_whoIsSettled.2.1 6 = .ok (.getfield 29, 3) := by decide +kernel
theorem dX10_whoIsSettled_9 : decode mX10_whoIsSettled.2.1 9 = .ok (.getfield 53, 3) := by decide +kernel
theorem dX10_whoIsSettled_12 : decode mX10_whoIsSettled.2.1 12 = .ok (.if_icmp .ge 23, 3) := by decide +kernel
theorem dX10_whoIsSettled_15 : decode mX10_whoIsSettled.2.1 15 = .ok (.aload_n 0, 1) := by decide +kernel
theorem dX10_whoIsSettled_16 : decode mX10_whoIsSettled.2.1 16 = .ok (.iload_n 2, 1) := by decide +kernel
theorem dX10_whoIsSettled_17 : decode mX10_whoIsSettled.2.1 17 = .ok (.invokevirtual 181, 3) := by decide +kernel
theorem dX10_whoIsSettled_20 : decode mX10_whoIsSettled.2.1 20 = .ok (.ifCond .eq 9, 3) := by decide +kernel
theorem dX10_whoIsSettled_23 : decode mX10_whoIsSettled.2.1 23 = .ok (.iload_n 1, 1) := by decide +kernel
theorem dX10_whoIsSettled_24 : decode mX10_whoIsSettled.2.1 24 = .ok (.iconst 1, 1) := by decide +kernel
theorem dX10_whoIsSettled_25 : decode mX10_whoIsSettled.2.1 25 = .ok (.iload_n 2, 1) := by decide +kernel
theorem dX10_whoIsSettled_26 : decode mX10_whoIsSettled.2.1 26 = .ok (.ishl, 1) := by decide +kernel
theorem dX10_whoIsSettled_27 : decode mX10_whoIsSettled.2.1 27 = .ok (.ior, 1) := by decide +kernel
theorem dX10_whoIsSettled_28 : decode mX10_whoIsSettled.2.1 28 = .ok (.istore_n 1, 1) := by decide +kernel
theorem dX10_whoIsSettled_29 : decode mX10_whoIsSettled.2.1 29 = .ok (.iinc 2 1, 3) := by decide +kernel
theorem dX10_whoIsSettled_32 : decode mX10_whoIsSettled.2.1 32 = .ok (.goto (-28), 3) := by decide +kernel
theorem dX10_whoIsSettled_35 : decode mX10_whoIsSettled.2.1 35 = .ok (.iload_n 1, 1) := by decide +kernel
theorem dX10_whoIsSettled_36 : decode mX10_whoIsSettled.2.1 36 = .ok (.ireturn, 1) := by decide +kernel
set_option maxRecDepth 4000 in
theorem ev_X10_whoIsSettled {m : Mem} {w : Nat} {d : Nat} {st : Nat} (hw : isWd w d st) (hdn : DnOk m d) : Ev 0 2 mX10_whoIsSettled [vr w] m (fun r m' => m' = m ∧ (r = comeN 0 (setlC m d st) (m d 3).toNat)) := by
  refine Ev.of (L := [vr w, un, un]) (by decide +kernel) rfl (Nat.le_of_ble_eq_true rfl) rfl (fun t ht => by cases ht; first | exact Or.inl rfl | exact Or.inr (Or.inl rfl) | exact Or.inr (Or.inr rfl)) (fun hcan => ?_)
  obtain ⟨⟨hd0, hd1⟩, ⟨hd2, hd3⟩, ⟨hd4, hd5⟩, ⟨hd6, hd7⟩, ⟨hd8, hd9⟩, hdf, hdp, hdq⟩ := id hdn
  refine go_iconst dX10_whoIsSettled_0 ?_
  refine go_istore_n (L' := [vr w, vi 0, un]) dX10_whoIsSettled_1 (by decide) rfl rfl ?_
  refine go_iconst dX10_whoIsSettled_2 ?_
  refine go_istore_n (L' := [vr w, vi 0, vi 0]) dX10_whoIsSettled_3 (by decide) rfl rfl ?_
  have lp_4 : ∀ (n_4 : Nat) (b : Int) (p : Int), (0 ≤ p) → (p ≤ m d 3) → (b = comeN 0 (setlC m d st) p.toNat) → (m d 3 - p).toNat < n_4 → Go 0 2 mX10_whoIsSettled (fun r m' => m' = m ∧ (r = comeN 0 (setlC m d st) (m d 3).toNat)) 4 [vr w, vi b, vi p] [] m := by
    intro n_4
    induction n_4 with
    | zero => intro b p hp0 hp1 hb hmu; exact absurd hmu (Nat.not_lt_zero _)
    | succ n_4 ih_4 =>
      intro b p hp0 hp1 hb hmu
      have hbR := comeN_R (P := (setlC m d st)) p.toNat
      rw [← hb] at hbR
      refine go_iload_n dX10_whoIsSettled_4 rfl ?_
      refine go_aload_n dX10_whoIsSettled_5 rfl ?_
      refine go_getf_p (b := d) dX10_whoIsSettled_6 fl_10_29 hw.o rfl hw.p0 ?_
      refine go_getf_i (ki := 3) dX10_whoIsSettled_9 fl_10_53 hw.dn.o rfl rfl (fun hf_9 => ?_)
      refine go_icmp_ge (tgt := 35) dX10_whoIsSettled_12 (by decide) ⟨by omega, by omega⟩ ⟨by omega, by omega⟩ (fun h_12 => ?_) (fun h_12 => ?_)
      · refine go_iload_n dX10_whoIsSettled_35 rfl ?_
        exact go_ret (v := b) rfl dX10_whoIsSettled_36 (okI ⟨by omega, by omega⟩) ⟨rfl, (by rw [hb, show p = m d 3 by omega])⟩
      · refine go_aload_n dX10_whoIsSettled_15 rfl ?_
        refine go_iload_n dX10_whoIsSettled_16 rfl ?_
        refine go_callVp_z (as := [vi p]) (S := []) (b := w) (ev_X10_isSettled (m := m) (w := w) (p := p) (d := d) (st := st) (by first | assumption | omega | exact ⟨by omega, by omega⟩ | (constructor <;> omega)) (by first | assumption | omega | exact ⟨by omega, by omega⟩ | (constructor <;> omega)) (by first | assumption | omega | exact ⟨by omega, by omega⟩ | (constructor <;> omega))) rfl dX10_whoIsSettled_17 cv_10_181 rfl rfl hw.o rfl (by decide) (Nat.le_of_ble_eq_true rfl) (fun r_17 hr_17 ho_17 => ?_)
        refine go_if_eq (tgt := 29) dX10_whoIsSettled_20 (by decide) ⟨by omega, by omega⟩ (fun h_20 => ?_) (fun h_20 => ?_)
        · refine go_iinc (L' := [vr w, vi b, vi (p + 1)]) dX10_whoIsSettled_29 rfl (by decide) rfl rfl ?_
          refine go_goto (tgt := 4) dX10_whoIsSettled_32 (by decide) ?_
          exact ih_4 b (p + 1) (by first | assumption | omega | rfl) (by first | assumption | omega | rfl) (by rw [comeN_s hp0, ← hb]; rcases hr_17 with ⟨h1, h2⟩ | ⟨h1, h2⟩ <;> first | omega | rw [if_pos h2] | rw [if_neg (by rw [h2]; simp; done)]) (by omega)
        · refine go_iload_n dX10_whoIsSettled_23 rfl ?_
          refine go_iconst dX10_whoIsSettled_24 ?_
          refine go_iload_n dX10_whoIsSettled_25 rfl ?_
          refine go_ishl dX10_whoIsSettled_26 ?_
          refine go_ior dX10_whoIsSettled_27 ?_
          refine go_istore_n (L' := [vr w, vi (ior b (ishl 1 p)), vi p]) dX10_whoIsSettled_28 (by decide) rfl rfl ?_
          refine go_iinc (L' := [vr w, vi (ior b (ishl 1 p)), vi (p + 1)]) dX10_whoIsSettled_29 rfl (by decide) rfl rfl ?_
          refine go_goto (tgt := 4) dX10_whoIsSettled_32 (by decide) ?_
          exact ih_4 (ior b (ishl 1 p)) (p + 1) (by first | assumption | omega | rfl) (by first | assumption | omega | rfl) (by rw [comeN_s hp0, ← hb]; rcases hr_17 with ⟨h1, h2⟩ | ⟨h1, h2⟩ <;> first | omega | rw [if_pos h2] | rw [if_neg (by rw [h2]; simp; done)]) (by omega)
  exact lp_4 _ 0 0 (by first | assumption | omega | rfl) (by first | assumption | omega | rfl) rfl (Nat.lt_succ_self _)
theorem dX10_forWhomCame_0 : decode mX10_forWhomCame.2.1 0 = .ok (.iconst 0, 1) := by decide +kernel
theorem dX10_forWhomCame_1 : decode mX10_forWhomCame.2.1 1 = .ok (.istore_n 2, 1) := by decide +kernel
theorem dX10_forWhomCame_2 : decode mX10_forWhomCame.2.1 2 = .ok (.iconst 0, 1) := by decide +kernel
theorem dX10_forWhomCame_3 : decode mX10_forWhomCame.2.1 3 = .ok (.istore_n 3, 1) := by decide +kernel
theorem dX10_forWhomCame_4 : decode mX10_forWhomCame.2.1 4 = .ok (.iload_n 3, 1) := by decide +kernel
theorem dX10_forWhomCame_5 : decode mX10_forWhomCame.2.1 5 = .ok (.aload_n 0, 1) := by decide +kernel
theorem dX10_forWhomCame_6 : decode mX10_forWhomCame.2.1 6 = .ok (.getfield 29, 3) := by decide +kernel
theorem dX10_forWhomCame_9 : decode mX10_forWhomCame.2.1 9 = .ok (.getfield 53, 3) := by decide +kernel
theorem dX10_forWhomCame_12 : decode mX10_forWhomCame.2.1 12 = .ok (.if_icmp .ge 27, 3) := by decide +kernel
theorem dX10_forWhomCame_15 : decode mX10_forWhomCame.2.1 15 = .ok (.iload_n 2, 1) := by decide +kernel
theorem dX10_forWhomCame_16 : decode mX10_forWhomCame.2.1 16 = .ok (.aload_n 0, 1) := by decide +kernel
theorem dX10_forWhomCame_17 : decode mX10_forWhomCame.2.1 17 = .ok (.getfield 12, 3) := by decide +kernel
theorem dX10_forWhomCame_20 : decode mX10_forWhomCame.2.1 20 = .ok (.getfield 121, 3) := by decide +kernel
theorem dX10_forWhomCame_23 : decode mX10_forWhomCame.2.1 23 = .ok (.iload_n 3, 1) := by decide +kernel
theorem dX10_forWhomCame_24 : decode mX10_forWhomCame.2.1 24 = .ok (.iaload, 1) := by decide +kernel
theorem dX10_forWhomCame_25 : decode mX10_forWhomCame.2.1 25 = .ok (.iload_n 1, 1) := by decide +kernel
theorem dX10_forWhomCame_26 : decode mX10_forWhomCame.2.1 26 = .ok (.ishr, 1) := by decide +kernel
theorem dX10_forWhomCame_27 : decode mX10_forWhomCame.2.1 27 = .ok (.iconst 1, 1) := by decide +kernel
theorem dX10_forWhomCame_28 : decode mX10_forWhomCame.2.1 28 = .ok (.iand, 1) := by decide +kernel
theorem dX10_forWhomCame_29 : decode mX10_forWhomCame.2.1 29 = .ok (.iload_n 3, 1) := by decide +kernel
theorem dX10_forWhomCame_30 : decode mX10_forWhomCame.2.1 30 = .ok (.ishl, 1) := by decide +kernel
theorem dX10_forWhomCame_31 : decode mX10_forWhomCame.2.1 31 = .ok (.ior, 1) := by decide +kernel
theorem dX10_forWhomCame_32 : decode mX10_forWhomCame.2.1 32 = .ok (.istore_n 2, 1) := by decide +kernel
theorem dX10_forWhomCame_33 : decode mX10_forWhomCame.2.1 33 = .ok (.iinc 3 1, 3) := by decide +kernel
theorem dX10_forWhomCame_36 : decode mX10_forWhomCame.2.1 36 = .ok (.goto (-32), 3) := by decide +kernel
theorem dX10_forWhomCame_39 : decode mX10_forWhomCame.2.1 39 = .ok (.iload_n 2, 1) := by decide +kernel
theorem dX10_forWhomCame_40 : decode mX10_forWhomCame.2.1 40 = .ok (.ireturn, 1) := by decide +kernel
set_option maxRecDepth 4000 in
theorem ev_X10_forWhomCame {m : Mem} {w : Nat} {d : Nat} {st : Nat} {q : Int} (hw : isWd w d st) (hdn : DnOk m d) (hq : InR q) : Ev 0 1 mX10_forWhomCame [vr w, vi q] m (fun r m' => m' = m ∧ (r = fwN m st q (m d 3).toNat)) := by
  refine Ev.of (L := [vr w, vi q, un, un]) (by decide +kernel) rfl (Nat.le_of_ble_eq_true rfl) rfl (fun t ht => by cases ht; first | exact Or.inl rfl | exact Or.inr (Or.inl rfl) | exact Or.inr (Or.inr rfl)) (fun hcan => ?_)
  obtain ⟨⟨hd0, hd1⟩, ⟨hd2, hd3⟩, ⟨hd4, hd5⟩, ⟨hd6, hd7⟩, ⟨hd8, hd9⟩, hdf, hdp, hdq⟩ := id hdn
  refine go_iconst dX10_forWhomCame_0 ?_
  refine go_istore_n (L' := [vr w, vi q, vi 0, un]) dX10_forWhomCame_1 (by decide) rfl rfl ?_
  refine go_iconst dX10_forWhomCame_2 ?_
  refine go_istore_n (L' := [vr w, vi q, vi 0, vi 0]) dX10_forWhomCame_3 (by decide) rfl rfl ?_
  have lp_4 : ∀ (n_4 : Nat) (b : Int) (p : Int), (0 ≤ p) → (p ≤ m d 3) → (b = fwN m st q p.toNat) → (m d 3 - p).toNat < n_4 → Go 0 1 mX10_forWhomCame (fun r m' => m' = m ∧ (r = fwN m st q (m d 3).toNat)) 4 [vr w, vi q, vi b, vi p] [] m := by
    intro n_4
    induction n_4 with
    | zero => intro b p hp0 hp1 hb hmu; exact absurd hmu (Nat.not_lt_zero _)
    | succ n_4 ih_4 =>
      intro b p hp0 hp1 hb hmu
      have hbR := fwN_R (m := m) (st := st) (q := q) p.toNat
      rw [← hb] at hbR
      refine go_iload_n dX10_forWhomCame_4 rfl ?_
      refine go_aload_n dX10_forWhomCame_5 rfl ?_
      refine go_getf_p (b := d) dX10_forWhomCame_6 fl_10_29 hw.o rfl hw.p0 ?_
      refine go_getf_i (ki := 3) dX10_forWhomCame_9 fl_10_53 hw.dn.o rfl rfl (fun hf_9 => ?_)
      refine go_icmp_ge (tgt := 39) dX10_forWhomCame_12 (by decide) ⟨by omega, by omega⟩ ⟨by omega, by omega⟩ (fun h_12 => ?_) (fun h_12 => ?_)
      · refine go_iload_n dX10_forWhomCame_39 rfl ?_
        exact go_ret (v := b) rfl dX10_forWhomCame_40 (okI ⟨by omega, by omega⟩) ⟨rfl, (by rw [hb, show p = m d 3 by omega])⟩
      · refine go_iload_n dX10_forWhomCame_15 rfl ?_
        refine go_aload_n dX10_forWhomCame_16 rfl ?_
        refine go_getf_p (b := st) dX10_forWhomCame_17 fl_10_12 hw.o rfl hw.p1 ?_
        refine go_getf_p (b := (st + 6)) dX10_forWhomCame_20 fl_10_121 hw.st.o rfl hw.st.p7 ?_
        refine go_iload_n dX10_forWhomCame_23 rfl ?_
        refine go_iaload dX10_forWhomCame_24 hw.st.a6 (by omega) (by omega) (fun he_24 => ?_)
        refine go_iload_n dX10_forWhomCame_25 rfl ?_
        refine go_ishr dX10_forWhomCame_26 ?_
        refine go_iconst dX10_forWhomCame_27 ?_
        refine go_iand dX10_forWhomCame_28 ?_
        refine go_iload_n dX10_forWhomCame_29 rfl ?_
        refine go_ishl dX10_forWhomCame_30 ?_
        refine go_ior dX10_forWhomCame_31 ?_
        refine go_istore_n (L' := [vr w, vi q, vi (ior b (ishl (iand (ishr (m (st + 6) p) q) 1) p)), vi p]) dX10_forWhomCame_32 (by decide) rfl rfl ?_
        refine go_iinc (L' := [vr w, vi q, vi (ior b (ishl (iand (ishr (m (st + 6) p) q) 1) p)), vi (p + 1)]) dX10_forWhomCame_33 rfl (by decide) rfl rfl ?_
        refine go_goto (tgt := 4) dX10_forWhomCame_36 (by decide) ?_
        exact ih_4 (ior b (ishl (iand (ishr (m (st + 6) p) q) 1) p)) (p + 1) (by first | assumption | omega | rfl) (by first | assumption | omega | rfl) (by rw [fwN_s hp0, ← hb]) (by omega)
  exact lp_4 _ 0 0 (by first | assumption | omega | rfl) (by first | assumption | omega | rfl) rfl (Nat.lt_succ_self _)
theorem dX10_sumOf_0 : decode mX10_sumOf.2.1 0 = .ok (.iconst 0, 1) := by decide +kernel
theorem dX10_sumOf_1 : decode mX10_sumOf.2.1 1 = .ok (.istore_n 2, 1) := by decide +kernel
theorem dX10_sumOf_2 : decode mX10_sumOf.2.1 2 = .ok (.iconst 0, 1) := by decide +kernel
theorem dX10_sumOf_3 : decode mX10_sumOf.2.1 3 = .ok (.istore_n 3, 1) := by decide +kernel
theorem dX10_sumOf_4 : decode mX10_sumOf.2.1 4 = .ok (.iload_n 3, 1) := by decide +kernel
theorem dX10_sumOf_5 : decode mX10_sumOf.2.1 5 = .ok (.iload_n 1, 1) := by decide +kernel
theorem dX10_sumOf_6 : decode mX10_sumOf.2.1 6 = .ok (.if_icmp .ge 21, 3) := by decide +kernel
theorem dX10_sumOf_9 : decode mX10_sumOf.2.1 9 = .ok (.iload_n 3, 1) := by decide +kernel
theorem dX10_sumOf_10 : decode mX10_sumOf.2.1 10 = .ok (.aload_n 0, 1) := by decide +kernel
theorem dX10_sumOf_11 : decode mX10_sumOf.2.1 11 = .ok (.arraylength, 1) := by decide +kernel
theorem dX10_sumOf_12 : decode mX10_sumOf.2.1 12 = .ok (.if_icmp .ge 15, 3) := by decide +kernel
theorem dX10_sumOf_15 : decode mX10_sumOf.2.1 15 = .ok (.iload_n 2, 1) := by decide +kernel
theorem dX10_sumOf_16 : decode mX10_sumOf.2.1 16 = .ok (.aload_n 0, 1) := by decide +kernel
theorem dX10_sumOf_17 : decode mX10_sumOf.2.1 17 = .ok (.iload_n 3, 1) := by decide +kernel
theorem dX10_sumOf_18 : decode mX10_sumOf.2.1 18 = .ok (.iaload, 1) := by decide +kernel
theorem dX10_sumOf_19 : decode mX10_sumOf.2.1 19 = .ok (.iadd, 1) := by decide +kernel
theorem dX10_sumOf_20 : decode mX10_sumOf.2.1 20 = .ok (.istore_n 2, 1) := by decide +kernel
theorem dX10_sumOf_21 : decode mX10_sumOf.2.1 21 = .ok (.iinc 3 1, 3) := by decide +kernel
theorem dX10_sumOf_24 : decode mX10_sumOf.2.1 24 = .ok (.goto (-20), 3) := by decide +kernel
theorem dX10_sumOf_27 : decode mX10_sumOf.2.1 27 = .ok (.iload_n 2, 1) := by decide +kernel
theorem dX10_sumOf_28 : decode mX10_sumOf.2.1 28 = .ok (.ireturn, 1) := by decide +kernel
set_option maxRecDepth 4000 in
theorem ev_X10_sumOf {m : Mem} {a : Nat} {n : Nat} {k : Int} {C : Int} (ha : ar a 0 n) (hk : 0 ≤ k ∧ k ≤ n) (hb : sumB m a k C) : Ev 0 1 mX10_sumOf [vr a, vi k] m (fun r m' => m' = m ∧ (r = sumI (m a) k)) := by
  refine Ev.of (L := [vr a, vi k, un, un]) (by decide +kernel) rfl (Nat.le_of_ble_eq_true rfl) rfl (fun t ht => by cases ht; first | exact Or.inl rfl | exact Or.inr (Or.inl rfl) | exact Or.inr (Or.inr rfl)) (fun hcan => ?_)
  have hn := ha.2.2.2
  refine go_iconst dX10_sumOf_0 ?_
  refine go_istore_n (L' := [vr a, vi k, vi 0, un]) dX10_sumOf_1 (by decide) rfl rfl ?_
  refine go_iconst dX10_sumOf_2 ?_
  refine go_istore_n (L' := [vr a, vi k, vi 0, vi 0]) dX10_sumOf_3 (by decide) rfl rfl ?_
  have lp_4 : ∀ (n_4 : Nat) (t : Int) (i : Int), (0 ≤ i) → (i ≤ k) → (t = sumI (m a) i) → (k - i).toNat < n_4 → Go 0 1 mX10_sumOf (fun r m' => m' = m ∧ (r = sumI (m a) k)) 4 [vr a, vi k, vi t, vi i] [] m := by
    intro n_4
    induction n_4 with
    | zero => intro t i hi0 hi1 ht hmu; exact absurd hmu (Nat.not_lt_zero _)
    | succ n_4 ih_4 =>
      intro t i hi0 hi1 ht hmu
      have hbt := sumB_le hb hi0 hi1
      rw [← ht] at hbt
      refine go_iload_n dX10_sumOf_4 rfl ?_
      refine go_iload_n dX10_sumOf_5 rfl ?_
      refine go_icmp_ge (tgt := 27) dX10_sumOf_6 (by decide) ⟨by omega, by omega⟩ ⟨by omega, by omega⟩ (fun h_6 => ?_) (fun h_6 => ?_)
      · refine go_iload_n dX10_sumOf_27 rfl ?_
        exact go_ret (v := t) rfl dX10_sumOf_28 (okI ⟨by omega, by omega⟩) ⟨rfl, (by rw [ht, show i = k by omega])⟩
      · refine go_iload_n dX10_sumOf_9 rfl ?_
        refine go_aload_n dX10_sumOf_10 rfl ?_
        refine go_alen (x := n) dX10_sumOf_11 ha (by decide) rfl ?_
        refine go_icmp_ge (tgt := 27) dX10_sumOf_12 (by decide) ⟨by omega, by omega⟩ ⟨by omega, by omega⟩ (fun h_12 => ?_) (fun h_12 => ?_)
        · exfalso; omega
        · refine go_iload_n dX10_sumOf_15 rfl ?_
          refine go_aload_n dX10_sumOf_16 rfl ?_
          refine go_iload_n dX10_sumOf_17 rfl ?_
          refine go_iaload dX10_sumOf_18 ha (by omega) (by omega) (fun he_18 => ?_)
          refine go_iadd dX10_sumOf_19 ?_
          have hbx := hb.1 i hi0 h_6
          have hbs := sumB_le hb (k := i + 1) (by omega) (by omega)
          rw [sumI_succ _ hi0, ← ht] at hbs
          refine go_istore_n (L' := [vr a, vi k, vi (t + (m a i)), vi i]) dX10_sumOf_20 (by decide) rfl rfl ?_
          refine go_iinc (L' := [vr a, vi k, vi (t + (m a i)), vi (i + 1)]) dX10_sumOf_21 rfl (by decide) rfl rfl ?_
          refine go_goto (tgt := 4) dX10_sumOf_24 (by decide) ?_
          exact ih_4 (t + (m a i)) (i + 1) (by first | assumption | omega | rfl) (by first | assumption | omega | rfl) (by rw [sumI_succ _ hi0, ← ht]) (by omega)
  exact lp_4 _ 0 0 (by first | assumption | omega | rfl) (by first | assumption | omega | rfl) (sumI_0 _).symm (Nat.lt_succ_self _)
theorem dX10_allBreath_0 : decode mX10_allBreath.2.1 0 = .ok (.aload_n 0, 1) := by decide +kernel
theorem dX10_allBreath_1 : decode mX10_allBreath.2.1 1 = .ok (.getfield 12, 3) := by decide +kernel
theorem dX10_allBreath_4 : decode mX10_allBreath.2.1 4 = .ok (.getfield 77, 3) := by decide +kernel
theorem dX10_allBreath_7 : decode mX10_allBreath.2.1 7 = .ok (.aload_n 0, 1) := by decide +kernel
theorem dX10_allBreath_8 : decode mX10_allBreath.2.1 8 = .ok (.getfield 29, 3) := by decide +kernel
theorem dX10_allBreath_11 : decode mX10_allBreath.2.1 11 = .ok (.getfield 53, 3) := by decide +kernel
theorem dX10_allBreath_14 : decode mX10_allBreath.2.1 14 = .ok (.invokestatic 185, 3) := by decide +kernel
theorem dX10_allBreath_17 : decode mX10_allBreath.2.1 17 = .ok (.ireturn, 1) := by decide +kernel
set_option maxRecDepth 4000 in
theorem ev_X10_allBreath {m : Mem} {w : Nat} {d : Nat} {st : Nat} {B : Int} (hw : isWd w d st) (hdn : DnOk m d) (hst : StOk m d st B) : Ev 0 2 mX10_allBreath [vr w] m (fun r m' => m' = m ∧ (r = sumI (m (st + 5)) (m d 3))) := by
  refine Ev.of (L := [vr w]) (by decide +kernel) rfl (Nat.le_of_ble_eq_true rfl) rfl (fun t ht => by cases ht; first | exact Or.inl rfl | exact Or.inr (Or.inl rfl) | exact Or.inr (Or.inr rfl)) (fun hcan => ?_)
  obtain ⟨⟨hd0, hd1⟩, ⟨hd2, hd3⟩, ⟨hd4, hd5⟩, ⟨hd6, hd7⟩, ⟨hd8, hd9⟩, hdf, hdp, hdq⟩ := id hdn
  obtain ⟨⟨hs0, hs1⟩, ⟨hs2, hs3⟩, hsw, hsp, hsd, hsz⟩ := id hst
  refine go_aload_n dX10_allBreath_0 rfl ?_
  refine go_getf_p (b := st) dX10_allBreath_1 fl_10_12 hw.o rfl hw.p1 ?_
  refine go_getf_p (b := (st + 5)) dX10_allBreath_4 fl_10_77 hw.st.o rfl hw.st.p6 ?_
  refine go_aload_n dX10_allBreath_7 rfl ?_
  refine go_getf_p (b := d) dX10_allBreath_8 fl_10_29 hw.o rfl hw.p0 ?_
  refine go_getf_i (ki := 3) dX10_allBreath_11 fl_10_53 hw.dn.o rfl rfl (fun hf_11 => ?_)
  refine go_callSp_i (as := [vr (st + 5), vi (m d 3)]) (S := []) (ev_X10_sumOf (m := m) (a := (st + 5)) (k := (m d 3)) (n := 5) (C := 60) hw.st.a5 (by first | assumption | omega | exact ⟨by omega, by omega⟩ | (constructor <;> omega)) ⟨fun j a b => by have := hsp j a b; have := hdp j a b; omega, by omega, by omega⟩) rfl dX10_allBreath_14 cs_10_185 rfl rfl (by decide) (Nat.le_of_ble_eq_true rfl) (fun r_14 hr_14 ho_14 => ?_)
  exact go_ret (v := r_14) rfl dX10_allBreath_17 (okI ⟨by omega, by omega⟩) ⟨rfl, (by first | assumption | rfl | omega)⟩
theorem dX10_allSpoken_0 : decode mX10_allSpoken.2.1 0 = .ok (.aload_n 0, 1) := by decide +kernel
theorem dX10_allSpoken_1 : decode mX10_allSpoken.2.1 1 = .ok (.getfield 12, 3) := by decide +kernel
theorem dX10_allSpoken_4 : decode mX10_allSpoken.2.1 4 = .ok (.getfield 105, 3) := by decide +kernel
theorem dX10_allSpoken_7 : decode mX10_allSpoken.2.1 7 = .ok (.aload_n 0, 1) := by decide +kernel
theorem dX10_allSpoken_8 : decode mX10_allSpoken.2.1 8 = .ok (.getfield 29, 3) := by decide +kernel
theorem dX10_allSpoken_11 : decode mX10_allSpoken.2.1 11 = .ok (.getfield 53, 3) := by decide +kernel
theorem dX10_allSpoken_14 : decode mX10_allSpoken.2.1 14 = .ok (.invokestatic 185, 3) := by decide +kernel
theorem dX10_allSpoken_17 : decode mX10_allSpoken.2.1 17 = .ok (.ireturn, 1) := by decide +kernel
set_option maxRecDepth 4000 in
theorem ev_X10_allSpoken {m : Mem} {w : Nat} {d : Nat} {st : Nat} {B : Int} (hw : isWd w d st) (hdn : DnOk m d) (hst : StOk m d st B) (hB : 0 ≤ B ∧ B ≤ 300000000) : Ev 0 2 mX10_allSpoken [vr w] m (fun r m' => m' = m ∧ (r = sumI (m (st + 7)) (m d 3))) := by
  refine Ev.of (L := [vr w]) (by decide +kernel) rfl (Nat.le_of_ble_eq_true rfl) rfl (fun t ht => by cases ht; first | exact Or.inl rfl | exact Or.inr (Or.inl rfl) | exact Or.inr (Or.inr rfl)) (fun hcan => ?_)
  obtain ⟨⟨hd0, hd1⟩, ⟨hd2, hd3⟩, ⟨hd4, hd5⟩, ⟨hd6, hd7⟩, ⟨hd8, hd9⟩, hdf, hdp, hdq⟩ := id hdn
  obtain ⟨⟨hs0, hs1⟩, ⟨hs2, hs3⟩, hsw, hsp, hsd, hsz⟩ := id hst
  refine go_aload_n dX10_allSpoken_0 rfl ?_
  refine go_getf_p (b := st) dX10_allSpoken_1 fl_10_12 hw.o rfl hw.p1 ?_
  refine go_getf_p (b := (st + 7)) dX10_allSpoken_4 fl_10_105 hw.st.o rfl hw.st.p8 ?_
  refine go_aload_n dX10_allSpoken_7 rfl ?_
  refine go_getf_p (b := d) dX10_allSpoken_8 fl_10_29 hw.o rfl hw.p0 ?_
  refine go_getf_i (ki := 3) dX10_allSpoken_11 fl_10_53 hw.dn.o rfl rfl (fun hf_11 => ?_)
  refine go_callSp_i (as := [vr (st + 7), vi (m d 3)]) (S := []) (ev_X10_sumOf (m := m) (a := (st + 7)) (k := (m d 3)) (n := 5) (C := 300000000) hw.st.a7 (by first | assumption | omega | exact ⟨by omega, by omega⟩ | (constructor <;> omega)) ⟨fun j a b => by have := hsp j a b; omega, by omega, by omega⟩) rfl dX10_allSpoken_14 cs_10_185 rfl rfl (by decide) (Nat.le_of_ble_eq_true rfl) (fun r_14 hr_14 ho_14 => ?_)
  exact go_ret (v := r_14) rfl dX10_allSpoken_17 (okI ⟨by omega, by omega⟩) ⟨rfl, (by first | assumption | rfl | omega)⟩
theorem dX10_allWalls_0 : decode mX10_allWalls.2.1 0 = .ok (.aload_n 0, 1) := by decide +kernel
theorem dX10_allWalls_1 : decode mX10_allWalls.2.1 1 = .ok (.getfield 12, 3) := by decide +kernel
theorem dX10_allWalls_4 : decode mX10_allWalls.2.1 4 = .ok (.getfield 70, 3) := by decide +kernel
theorem dX10_allWalls_7 : decode mX10_allWalls.2.1 7 = .ok (.bipush 81, 2) := by decide +kernel
theorem dX10_allWalls_9 : decode mX10_allWalls.2.1 9 = .ok (.invokestatic 185, 3) := by decide +kernel
theorem dX10_allWalls_12 : decode mX10_allWalls.2.1 12 = .ok (.ireturn, 1) := by decide +kernel
set_option maxRecDepth 4000 in
theorem ev_X10_allWalls {m : Mem} {w : Nat} {d : Nat} {st : Nat} {B : Int} (hw : isWd w d st) (hst : StOk m d st B) : Ev 0 2 mX10_allWalls [vr w] m (fun r m' => m' = m ∧ (r = sumI (m (st + 1)) 81)) := by
  refine Ev.of (L := [vr w]) (by decide +kernel) rfl (Nat.le_of_ble_eq_true rfl) rfl (fun t ht => by cases ht; first | exact Or.inl rfl | exact Or.inr (Or.inl rfl) | exact Or.inr (Or.inr rfl)) (fun hcan => ?_)
  obtain ⟨⟨hs0, hs1⟩, ⟨hs2, hs3⟩, hsw, hsp, hsd, hsz⟩ := id hst
  refine go_aload_n dX10_allWalls_0 rfl ?_
  refine go_getf_p (b := st) dX10_allWalls_1 fl_10_12 hw.o rfl hw.p1 ?_
  refine go_getf_p (b := (st + 1)) dX10_allWalls_4 fl_10_70 hw.st.o rfl hw.st.p2 ?_
  refine go_bipush dX10_allWalls_7 (by decide) ?_
  refine go_callSp_i (as := [vr (st + 1), vi 81]) (S := []) (ev_X10_sumOf (m := m) (a := (st + 1)) (k := 81) (n := 81) (C := 9) hw.st.a1 (by first | assumption | omega | exact ⟨by omega, by omega⟩ | (constructor <;> omega)) ⟨fun j a b => hsw j, by omega, by omega⟩) rfl dX10_allWalls_9 cs_10_185 rfl rfl (by decide) (Nat.le_of_ble_eq_true rfl) (fun r_9 hr_9 ho_9 => ?_)
  exact go_ret (v := r_9) rfl dX10_allWalls_12 (okI ⟨by omega, by omega⟩) ⟨rfl, (by first | assumption | rfl | omega)⟩
theorem dX10_whoHasLeast_0 : decode mX10_whoHasLeast.2.1 0 = .ok (.aload_n 0, 1) := by decide +kernel
theorem dX10_whoHasLeast_1 : decode mX10_whoHasLeast.2.1 1 = .ok (.getfield 29, 3) := by decide +kernel
theorem dX10_whoHasLeast_4 : decode mX10_whoHasLeast.2.1 4 = .ok (.getfield 53, 3) := by decide +kernel
theorem dX10_whoHasLeast_7 : decode mX10_whoHasLeast.2.1 7 = .ok (.ifCond .ne 5, 3) := by decide +kernel
theorem dX10_whoHasLeast_10 : decode mX10_whoHasLeast.2.1 10 = .ok (.iconst (-1), 1) := by decide +kernel
theorem dX10_whoHasLeast_11 : decode mX10_whoHasLeast.2.1 11 = .ok (.ireturn, 1) := by decide +kernel
theorem dX10_whoHasLeast_12 : decode mX10_whoHasLeast.2.1 12 = .ok (.iconst 0, 1) := by decide +kernel
theorem dX10_whoHasLeast_13 : decode mX10_whoHasLeast.2.1 13 = .ok (.istore_n 1, 1) := by decide +kernel
theorem dX10_whoHasLeast_14 : decode mX10_whoHasLeast.2.1 14 = .ok (.iconst 1, 1) := by decide +kernel
theorem dX10_whoHasLeast_15 : decode mX10_whoHasLeast.2.1 15 = .ok (.istore_n 2, 1) := by decide +kernel
theorem dX10_whoHasLeast_16 : decode mX10_whoHasLeast.2.1 16 = .ok (.iload_n 2, 1) := by decide +kernel
theorem dX10_whoHasLeast_17 : decode mX10_whoHasLeast.2.1 17 = .ok (.aload_n 0, 1) := by decide +kernel
theorem dX10_whoHasLeast_18 : decode mX10_whoHasLeast.2.1 18 = .ok (.getfield 29, 3) := by decide +kernel
theorem dX10_whoHasLeast_21 : decode mX10_whoHasLeast.2.1 21 = .ok (.getfield 53, 3) := by decide +kernel
theorem dX10_whoHasLeast_24 : decode mX10_whoHasLeast.2.1 24 = .ok (.if_icmp .ge 52, 3) := by decide +kernel
theorem dX10_whoHasLeast_27 : decode mX10_whoHasLeast.2.1 27 = .ok (.aload_n 0, 1) := by decide +kernel
theorem dX10_whoHasLeast_28 : decode mX10_whoHasLeast.2.1 28 = .ok (.getfield 12, 3) := by decide +kernel
theorem dX10_whoHasLeast_31 : decode mX10_whoHasLeast.2.1 31 = .ok (.getfield 77, 3) := by decide +kernel
theorem dX10_whoHasLeast_34 : decode mX10_whoHasLeast.2.1 34 = .ok (.iload_n 2, 1) := by decide +kernel
theorem dX10_whoHasLeast_35 : decode mX10_whoHasLeast.2.1 35 = .ok (.iaload, 1) := by decide +kernel
theorem dX10_whoHasLeast_36 : decode mX10_whoHasLeast.2.1 36 = .ok (.aload_n 0, 1) := by decide +kernel
theorem dX10_whoHasLeast_37 : decode mX10_whoHasLeast.2.1 37 = .ok (.getfield 29, 3) := by decide +kernel
theorem dX10_whoHasLeast_40 : decode mX10_whoHasLeast.2.1 40 = .ok (.getfield 130, 3) := by decide +kernel
theorem dX10_whoHasLeast_43 : decode mX10_whoHasLeast.2.1 43 = .ok (.iload_n 1, 1) := by decide +kernel
theorem dX10_whoHasLeast_44 : decode mX10_whoHasLeast.2.1 44 = .ok (.iaload, 1) := by decide +kernel
theorem dX10_whoHasLeast_45 : decode mX10_whoHasLeast.2.1 45 = .ok (.imul, 1) := by decide +kernel
theorem dX10_whoHasLeast_46 : decode mX10_whoHasLeast.2.1 46 = .ok (.aload_n 0, 1) := by decide +kernel
theorem dX10_whoHasLeast_47 : decode mX10_whoHasLeast.2.1 47 = .ok (.getfield 12, 3) := by decide +kernel
theorem dX10_whoHasLeast_50 : decode mX10_whoHasLeast.2.1 50 = .ok (.getfield 77, 3) := by decide +kernel
theorem dX10_whoHasLeast_53 : decode mX10_whoHasLeast.2.1 53 = .ok (.iload_n 1, 1) := by decide +kernel
theorem dX10_whoHasLeast_54 : decode mX10_whoHasLeast.2.1 54 = .ok (.iaload, 1) := by decide +kernel
theorem dX10_whoHasLeast_55 : decode mX10_whoHasLeast.2.1 55 = .ok (.aload_n 0, 1) := by decide +kernel
theorem dX10_whoHasLeast_56 : decode mX10_whoHasLeast.2.1 56 = .ok (.getfield 29, 3) := by decide +kernel
theorem dX10_whoHasLeast_59 : decode mX10_whoHasLeast.2.1 59 = .ok (.getfield 130, 3) := by decide +kernel
theorem dX10_whoHasLeast_62 : decode mX10_whoHasLeast.2.1 62 = .ok (.iload_n 2, 1) := by decide +kernel
theorem dX10_whoHasLeast_63 : decode mX10_whoHasLeast.2.1 63 = .ok (.iaload, 1) := by decide +kernel
theorem dX10_whoHasLeast_64 : decode mX10_whoHasLeast.2.1 64 = .ok (.imul, 1) := by decide +kernel
theorem dX10_whoHasLeast_65 : decode mX10_whoHasLeast.2.1 65 = .ok (.if_icmp .ge 5, 3) := by decide +kernel
theorem dX10_whoHasLeast_68 : decode mX10_whoHasLeast.2.1 68 = .ok (.iload_n 2, 1) := by decide +kernel
theorem dX10_whoHasLeast_69 : decode mX10_whoHasLeast.2.1 69 = .ok (.istore_n 1, 1) := by decide +kernel
theorem dX10_whoHasLeast_70 : decode mX10_whoHasLeast.2.1 70 = .ok (.iinc 2 1, 3) := by decide +kernel
theorem dX10_whoHasLeast_73 : decode mX10_whoHasLeast.2.1 73 = .ok (.goto (-57), 3) := by decide +kernel
theorem dX10_whoHasLeast_76 : decode mX10_whoHasLeast.2.1 76 = .ok (.iload_n 1, 1) := by decide +kernel
theorem dX10_whoHasLeast_77 : decode mX10_whoHasLeast.2.1 77 = .ok (.ireturn, 1) := by decide +kernel
set_option maxRecDepth 4000 in
theorem ev_X10_whoHasLeast {m : Mem} {w : Nat} {d : Nat} {st : Nat} {B : Int} (hw : isWd w d st) (hdn : DnOk m d) (hst : StOk m d st B) : Ev 0 1 mX10_whoHasLeast [vr w] m (fun r m' => m' = m ∧ (r = if m d 3 = 0 then -1 else lstN (m (st + 5)) (m (d + 5)) (m d 3 - 1).toNat)) := by
  refine Ev.of (L := [vr w, un, un]) (by decide +kernel) rfl (Nat.le_of_ble_eq_true rfl) rfl (fun t ht => by cases ht; first | exact Or.inl rfl | exact Or.inr (Or.inl rfl) | exact Or.inr (Or.inr rfl)) (fun hcan => ?_)
  obtain ⟨⟨hd0, hd1⟩, ⟨hd2, hd3⟩, ⟨hd4, hd5⟩, ⟨hd6, hd7⟩, ⟨hd8, hd9⟩, hdf, hdp, hdq⟩ := id hdn
  obtain ⟨⟨hs0, hs1⟩, ⟨hs2, hs3⟩, hsw, hsp, hsd, hsz⟩ := id hst
  refine go_aload_n dX10_whoHasLeast_0 rfl ?_
  refine go_getf_p (b := d) dX10_whoHasLeast_1 fl_10_29 hw.o rfl hw.p0 ?_
  refine go_getf_i (ki := 3) dX10_whoHasLeast_4 fl_10_53 hw.dn.o rfl rfl (fun hf_4 => ?_)
  refine go_if_ne (tgt := 12) dX10_whoHasLeast_7 (by decide) ⟨by omega, by omega⟩ (fun h_7 => ?_) (fun h_7 => ?_)
  · refine go_iconst dX10_whoHasLeast_12 ?_
    refine go_istore_n (L' := [vr w, vi 0, un]) dX10_whoHasLeast_13 (by decide) rfl rfl ?_
    refine go_iconst dX10_whoHasLeast_14 ?_
    refine go_istore_n (L' := [vr w, vi 0, vi 1]) dX10_whoHasLeast_15 (by decide) rfl rfl ?_
    have lp_16 : ∀ (n_16 : Nat) (c : Int) (p : Int), (1 ≤ p) → (p ≤ m d 3) → (c = lstN (m (st + 5)) (m (d + 5)) (p - 1).toNat) → (m d 3 - p).toNat < n_16 → Go 0 1 mX10_whoHasLeast (fun r m' => m' = m ∧ (r = if m d 3 = 0 then -1 else lstN (m (st + 5)) (m (d + 5)) (m d 3 - 1).toNat)) 16 [vr w, vi c, vi p] [] m := by
      intro n_16
      induction n_16 with
      | zero => intro c p hp0 hp1 hc hmu; exact absurd hmu (Nat.not_lt_zero _)
      | succ n_16 ih_16 =>
        intro c p hp0 hp1 hc hmu
        have hcb := lstN_b (m (st + 5)) (m (d + 5)) (p - 1).toNat
        rw [← hc] at hcb
        refine go_iload_n dX10_whoHasLeast_16 rfl ?_
        refine go_aload_n dX10_whoHasLeast_17 rfl ?_
        refine go_getf_p (b := d) dX10_whoHasLeast_18 fl_10_29 hw.o rfl hw.p0 ?_
        refine go_getf_i (ki := 3) dX10_whoHasLeast_21 fl_10_53 hw.dn.o rfl rfl (fun hf_21 => ?_)
        refine go_icmp_ge (tgt := 76) dX10_whoHasLeast_24 (by decide) ⟨by omega, by omega⟩ ⟨by omega, by omega⟩ (fun h_24 => ?_) (fun h_24 => ?_)
        · refine go_iload_n dX10_whoHasLeast_76 rfl ?_
          exact go_ret (v := c) rfl dX10_whoHasLeast_77 (okI ⟨by omega, by omega⟩) ⟨rfl, (by rw [if_neg (by omega), hc, show p = m d 3 by omega])⟩
        · refine go_aload_n dX10_whoHasLeast_27 rfl ?_
          refine go_getf_p (b := st) dX10_whoHasLeast_28 fl_10_12 hw.o rfl hw.p1 ?_
          refine go_getf_p (b := (st + 5)) dX10_whoHasLeast_31 fl_10_77 hw.st.o rfl hw.st.p6 ?_
          refine go_iload_n dX10_whoHasLeast_34 rfl ?_
          refine go_iaload dX10_whoHasLeast_35 hw.st.a5 (by omega) (by omega) (fun he_35 => ?_)
          refine go_aload_n dX10_whoHasLeast_36 rfl ?_
          refine go_getf_p (b := d) dX10_whoHasLeast_37 fl_10_29 hw.o rfl hw.p0 ?_
          refine go_getf_p (b := (d + 5)) dX10_whoHasLeast_40 fl_10_130 hw.dn.o rfl hw.dn.p9 ?_
          refine go_iload_n dX10_whoHasLeast_43 rfl ?_
          refine go_iaload dX10_whoHasLeast_44 hw.dn.a5 (by omega) (by omega) (fun he_44 => ?_)
          refine go_imul dX10_whoHasLeast_45 ?_
          refine go_aload_n dX10_whoHasLeast_46 rfl ?_
          refine go_getf_p (b := st) dX10_whoHasLeast_47 fl_10_12 hw.o rfl hw.p1 ?_
          refine go_getf_p (b := (st + 5)) dX10_whoHasLeast_50 fl_10_77 hw.st.o rfl hw.st.p6 ?_
          refine go_iload_n dX10_whoHasLeast_53 rfl ?_
          refine go_iaload dX10_whoHasLeast_54 hw.st.a5 (by omega) (by omega) (fun he_54 => ?_)
          refine go_aload_n dX10_whoHasLeast_55 rfl ?_
          refine go_getf_p (b := d) dX10_whoHasLeast_56 fl_10_29 hw.o rfl hw.p0 ?_
          refine go_getf_p (b := (d + 5)) dX10_whoHasLeast_59 fl_10_130 hw.dn.o rfl hw.dn.p9 ?_
          refine go_iload_n dX10_whoHasLeast_62 rfl ?_
          refine go_iaload dX10_whoHasLeast_63 hw.dn.a5 (by omega) (by omega) (fun he_63 => ?_)
          refine go_imul dX10_whoHasLeast_64 ?_
          have g1 := hsp p (by omega) h_24
          have g2 := hdp p (by omega) h_24
          have g3 := hsp c (by omega) (by omega)
          have g4 := hdp c (by omega) (by omega)
          have g5 := mul60 (a := m (st + 5) p) (b := m (d + 5) c) (by omega) (by omega)
          have g6 := mul60 (a := m (st + 5) c) (b := m (d + 5) p) (by omega) (by omega)
          refine go_icmp_ge (tgt := 70) dX10_whoHasLeast_65 (by decide) ⟨by omega, by omega⟩ ⟨by omega, by omega⟩ (fun h_65 => ?_) (fun h_65 => ?_)
          · refine go_iinc (L' := [vr w, vi c, vi (p + 1)]) dX10_whoHasLeast_70 rfl (by decide) rfl rfl ?_
            refine go_goto (tgt := 16) dX10_whoHasLeast_73 (by decide) ?_
            exact ih_16 c (p + 1) (by first | assumption | omega | rfl) (by first | assumption | omega | rfl) (by rw [show p + 1 - 1 = p by omega, lstN_s hp0, ← hc]; first | rw [if_pos (by omega)] | rw [if_neg (by omega)]) (by omega)
          · refine go_iload_n dX10_whoHasLeast_68 rfl ?_
            refine go_istore_n (L' := [vr w, vi p, vi p]) dX10_whoHasLeast_69 (by decide) rfl rfl ?_
            refine go_iinc (L' := [vr w, vi p, vi (p + 1)]) dX10_whoHasLeast_70 rfl (by decide) rfl rfl ?_
            refine go_goto (tgt := 16) dX10_whoHasLeast_73 (by decide) ?_
            exact ih_16 p (p + 1) (by first | assumption | omega | rfl) (by first | assumption | omega | rfl) (by rw [show p + 1 - 1 = p by omega, lstN_s hp0, ← hc]; first | rw [if_pos (by omega)] | rw [if_neg (by omega)]) (by omega)
    exact lp_16 _ 0 1 (by first | assumption | omega | rfl) (by first | assumption | omega | rfl) (by first | assumption | omega | rfl) (Nat.lt_succ_self _)
  · refine go_iconst dX10_whoHasLeast_10 ?_
    exact go_ret (v := (-1)) rfl dX10_whoHasLeast_11 (okI ⟨by omega, by omega⟩) ⟨rfl, (by rw [if_pos (by omega)])⟩
theorem dX10_isBeside_0 : decode mX10_isBeside.2.1 0 = .ok (.aload_n 0, 1) := by decide +kernel
theorem dX10_isBeside_1 : decode mX10_isBeside.2.1 1 = .ok (.getfield 12, 3) := by decide +kernel
theorem dX10_isBeside_4 : decode mX10_isBeside.2.1 4 = .ok (.getfield 59, 3) := by decide +kernel
theorem dX10_isBeside_7 : decode mX10_isBeside.2.1 7 = .ok (.iload_n 1, 1) := by decide +kernel
theorem dX10_isBeside_8 : decode mX10_isBeside.2.1 8 = .ok (.iaload, 1) := by decide +kernel
theorem dX10_isBeside_9 : decode mX10_isBeside.2.1 9 = .ok (.aload_n 0, 1) := by decide +kernel
theorem dX10_isBeside_10 : decode mX10_isBeside.2.1 10 = .ok (.getfield 12, 3) := by decide +kernel
theorem dX10_isBeside_13 : decode mX10_isBeside.2.1 13 = .ok (.getfield 59, 3) := by decide +kernel
theorem dX10_isBeside_16 : decode mX10_isBeside.2.1 16 = .ok (.iload_n 2, 1) := by decide +kernel
theorem dX10_isBeside_17 : decode mX10_isBeside.2.1 17 = .ok (.iaload, 1) := by decide +kernel
theorem dX10_isBeside_18 : decode mX10_isBeside.2.1 18 = .ok (.isub, 1) := by decide +kernel
theorem dX10_isBeside_19 : decode mX10_isBeside.2.1 19 = .ok (.invokestatic 189, 3) := by decide +kernel
theorem dX10_isBeside_22 : decode mX10_isBeside.2.1 22 = .ok (.aload_n 0, 1) := by decide +kernel
theorem dX10_isBeside_23 : decode mX10_isBeside.2.1 23 = .ok (.getfield 12, 3) := by decide +kernel
theorem dX10_isBeside_26 : decode mX10_isBeside.2.1 26 = .ok (.getfield 63, 3) := by decide +kernel
theorem dX10_isBeside_29 : decode mX10_isBeside.2.1 29 = .ok (.iload_n 1, 1) := by decide +kernel
theorem dX10_isBeside_30 : decode mX10_isBeside.2.1 30 = .ok (.iaload, 1) := by decide +kernel
theorem dX10_isBeside_31 : decode mX10_isBeside.2.1 31 = .ok (.aload_n 0, 1) := by decide +kernel
theorem dX10_isBeside_32 : decode mX10_isBeside.2.1 32 = .ok (.getfield 12, 3) := by decide +kernel
theorem dX10_isBeside_35 : decode mX10_isBeside.2.1 35 = .ok (.getfield 63, 3) := by decide +kernel
theorem dX10_isBeside_38 : decode mX10_isBeside.2.1 38 = .ok (.iload_n 2, 1) := by decide +kernel
theorem dX10_isBeside_39 : decode mX10_isBeside.2.1 39 = .ok (.iaload, 1) := by decide +kernel
theorem dX10_isBeside_40 : decode mX10_isBeside.2.1 40 = .ok (.isub, 1) := by decide +kernel
theorem dX10_isBeside_41 : decode mX10_isBeside.2.1 41 = .ok (.invokestatic 189, 3) := by decide +kernel
theorem dX10_isBeside_44 : decode mX10_isBeside.2.1 44 = .ok (.iadd, 1) := by decide +kernel
theorem dX10_isBeside_45 : decode mX10_isBeside.2.1 45 = .ok (.iconst 1, 1) := by decide +kernel
theorem dX10_isBeside_46 : decode mX10_isBeside.2.1 46 = .ok (.if_icmp .ne 7, 3) := by decide +kernel
theorem dX10_isBeside_49 : decode mX10_isBeside.2.1 49 = .ok (.iconst 1, 1) := by decide +kernel
theorem dX10_isBeside_50 : decode mX10_isBeside.2.1 50 = .ok (.goto 4, 3) := by decide +kernel
theorem dX10_isBeside_53 : decode mX10_isBeside.2.1 53 = .ok (.iconst 0, 1) := by decide +kernel
theorem dX10_isBeside_54 : decode mX10_isBeside.2.1 54 = .ok (.ireturn, 1) := by decide +kernel
set_option maxRecDepth 4000 in
theorem ev_X10_isBeside {m : Mem} {w : Nat} {d : Nat} {st : Nat} {p : Int} {o : Int} {B : Int} (hw : isWd w d st) (hdn : DnOk m d) (hst : StOk m d st B) (hp : 0 ≤ p ∧ p < m d 3) (ho : 0 ≤ o ∧ o < m d 3) : Ev 0 4 mX10_isBeside [vr w, vi p, vi o] m (fun r m' => m' = m ∧ ((r = 1 ∧ iabs (m (st + 2) p - m (st + 2) o) + iabs (m (st + 3) p - m (st + 3) o) = 1) ∨ (r = 0 ∧ ¬ iabs (m (st + 2) p - m (st + 2) o) + iabs (m (st + 3) p - m (st + 3) o) = 1))) := by
  refine Ev.of (L := [vr w, vi p, vi o]) (by decide +kernel) rfl (Nat.le_of_ble_eq_true rfl) rfl (fun t ht => by cases ht; first | exact Or.inl rfl | exact Or.inr (Or.inl rfl) | exact Or.inr (Or.inr rfl)) (fun hcan => ?_)
  obtain ⟨⟨hd0, hd1⟩, ⟨hd2, hd3⟩, ⟨hd4, hd5⟩, ⟨hd6, hd7⟩, ⟨hd8, hd9⟩, hdf, hdp, hdq⟩ := id hdn
  obtain ⟨⟨hs0, hs1⟩, ⟨hs2, hs3⟩, hsw, hsp, hsd, hsz⟩ := id hst
  have g1 := hsp p hp.1 hp.2
  have g2 := hsp o ho.1 ho.2
  have g3 : 0 ≤ iabs (m (st + 2) p - m (st + 2) o) ∧ iabs (m (st + 2) p - m (st + 2) o) ≤ 20 := by unfold iabs; split <;> omega
  have g4 : 0 ≤ iabs (m (st + 3) p - m (st + 3) o) ∧ iabs (m (st + 3) p - m (st + 3) o) ≤ 20 := by unfold iabs; split <;> omega
  refine go_aload_n dX10_isBeside_0 rfl ?_
  refine go_getf_p (b := st) dX10_isBeside_1 fl_10_12 hw.o rfl hw.p1 ?_
  refine go_getf_p (b := (st + 2)) dX10_isBeside_4 fl_10_59 hw.st.o rfl hw.st.p3 ?_
  refine go_iload_n dX10_isBeside_7 rfl ?_
  refine go_iaload dX10_isBeside_8 hw.st.a2 (by omega) (by omega) (fun he_8 => ?_)
  refine go_aload_n dX10_isBeside_9 rfl ?_
  refine go_getf_p (b := st) dX10_isBeside_10 fl_10_12 hw.o rfl hw.p1 ?_
  refine go_getf_p (b := (st + 2)) dX10_isBeside_13 fl_10_59 hw.st.o rfl hw.st.p3 ?_
  refine go_iload_n dX10_isBeside_16 rfl ?_
  refine go_iaload dX10_isBeside_17 hw.st.a2 (by omega) (by omega) (fun he_17 => ?_)
  refine go_isub dX10_isBeside_18 ?_
  refine go_abs dX10_isBeside_19 jl_10_189 ⟨by omega, by omega⟩ (by decide) (Nat.le_of_ble_eq_true rfl) ?_
  refine go_aload_n dX10_isBeside_22 rfl ?_
  refine go_getf_p (b := st) dX10_isBeside_23 fl_10_12 hw.o rfl hw.p1 ?_
  refine go_getf_p (b := (st + 3)) dX10_isBeside_26 fl_10_63 hw.st.o rfl hw.st.p4 ?_
  refine go_iload_n dX10_isBeside_29 rfl ?_
  refine go_iaload dX10_isBeside_30 hw.st.a3 (by omega) (by omega) (fun he_30 => ?_)
  refine go_aload_n dX10_isBeside_31 rfl ?_
  refine go_getf_p (b := st) dX10_isBeside_32 fl_10_12 hw.o rfl hw.p1 ?_
  refine go_getf_p (b := (st + 3)) dX10_isBeside_35 fl_10_63 hw.st.o rfl hw.st.p4 ?_
  refine go_iload_n dX10_isBeside_38 rfl ?_
  refine go_iaload dX10_isBeside_39 hw.st.a3 (by omega) (by omega) (fun he_39 => ?_)
  refine go_isub dX10_isBeside_40 ?_
  refine go_abs dX10_isBeside_41 jl_10_189 ⟨by omega, by omega⟩ (by decide) (Nat.le_of_ble_eq_true rfl) ?_
  refine go_iadd dX10_isBeside_44 ?_
  refine go_iconst dX10_isBeside_45 ?_
  refine go_icmp_ne (tgt := 53) dX10_isBeside_46 (by decide) ⟨by omega, by omega⟩ ⟨by omega, by omega⟩ (fun h_46 => ?_) (fun h_46 => ?_)
  · refine go_iconst dX10_isBeside_53 ?_
    exact go_ret (v := 0) rfl dX10_isBeside_54 (okZ (by first | exact Or.inl rfl | exact Or.inr rfl | assumption | omega)) ⟨rfl, (by first | assumption | rfl | omega)⟩
  · refine go_iconst dX10_isBeside_49 ?_
    refine go_goto (tgt := 54) dX10_isBeside_50 (by decide) ?_
    exact go_ret (v := 1) rfl dX10_isBeside_54 (okZ (by first | exact Or.inl rfl | exact Or.inr rfl | assumption | omega)) ⟨rfl, (by first | assumption | rfl | omega)⟩
theorem dX6_copyFrom_0 : decode mX6_copyFrom.2.1 0 = .ok (.aload_n 0, 1) := by decide +kernel
theorem dX6_copyFrom_1 : decode mX6_copyFrom.2.1 1 = .ok (.aload_n 1, 1) := by decide +kernel
theorem dX6_copyFrom_2 : decode mX6_copyFrom.2.1 2 = .ok (.getfield 9, 3) := by decide +kernel
theorem dX6_copyFrom_5 : decode mX6_copyFrom.2.1 5 = .ok (.putfield 9, 3) := by decide +kernel
theorem dX6_copyFrom_8 : decode mX6_copyFrom.2.1 8 = .ok (.aload_n 0, 1) := by decide +kernel
theorem dX6_copyFrom_9 : decode mX6_copyFrom.2.1 9 = .ok (.aload_n 1, 1) := by decide +kernel
theorem dX6_copyFrom_10 : decode mX6_copyFrom.2.1 10 = .ok (.getfield 15, 3) := by decide +kernel
theorem dX6_copyFrom_13 : decode mX6_copyFrom.2.1 13 = .ok (.putfield 15, 3) := by decide +kernel
theorem dX6_copyFrom_16 : decode mX6_copyFrom.2.1 16 = .ok (.aload_n 1, 1) := by decide +kernel
theorem dX6_copyFrom_17 : decode mX6_copyFrom.2.1 17 = .ok (.getfield 18, 3) := by decide +kernel
theorem dX6_copyFrom_20 : decode mX6_copyFrom.2.1 20 = .ok (.iconst 0, 1) := by decide +kernel
theorem dX6_copyFrom_21 : decode mX6_copyFrom.2.1 21 = .ok (.aload_n 0, 1) := by decide +kernel
theorem dX6_copyFrom_22 : decode mX6_copyFrom.2.1 22 = .ok (.getfield 18, 3) := by decide +kernel
theorem dX6_copyFrom_25 : decode mX6_copyFrom.2.1 25 = .ok (.iconst 0, 1) := by decide +kernel
theorem dX6_copyFrom_26 : decode mX6_copyFrom.2.1 26 = .ok (.bipush 81, 2) := by decide +kernel
theorem dX6_copyFrom_28 : decode mX6_copyFrom.2.1 28 = .ok (.invokestatic 46, 3) := by decide +kernel
theorem dX6_copyFrom_31 : decode mX6_copyFrom.2.1 31 = .ok (.aload_n 1, 1) := by decide +kernel
theorem dX6_copyFrom_32 : decode mX6_copyFrom.2.1 32 = .ok (.getfield 22, 3) := by decide +kernel
theorem dX6_copyFrom_35 : decode mX6_copyFrom.2.1 35 = .ok (.iconst 0, 1) := by decide +kernel
theorem dX6_copyFrom_36 : decode mX6_copyFrom.2.1 36 = .ok (.aload_n 0, 1) := by decide +kernel
theorem dX6_copyFrom_37 : decode mX6_copyFrom.2.1 37 = .ok (.getfield 22, 3) := by decide +kernel
theorem dX6_copyFrom_40 : decode mX6_copyFrom.2.1 40 = .ok (.iconst 0, 1) := by decide +kernel
theorem dX6_copyFrom_41 : decode mX6_copyFrom.2.1 41 = .ok (.iconst 5, 1) := by decide +kernel
theorem dX6_copyFrom_42 : decode mX6_copyFrom.2.1 42 = .ok (.invokestatic 46, 3) := by decide +kernel
theorem dX6_copyFrom_45 : decode mX6_copyFrom.2.1 45 = .ok (.aload_n 1, 1) := by decide +kernel
theorem dX6_copyFrom_46 : decode mX6_copyFrom.2.1 46 = .ok (.getfield 25, 3) := by decide +kernel
theorem dX6_copyFrom_49 : decode mX6_copyFrom.2.1 49 = .ok (.iconst 0, 1) := by decide +kernel
theorem dX6_copyFrom_50 : decode mX6_copyFrom.2.1 50 = .ok (.aload_n 0, 1) := by decide +kernel
theorem dX6_copyFrom_51 : decode mX6_copyFrom.2.1 51 = .ok (.getfield 25, 3) := by decide +kernel
theorem dX6_copyFrom_54 : decode mX6_copyFrom.2.1 54 = .ok (.iconst 0, 1) := by decide +kernel
theorem dX6_copyFrom_55 : decode mX6_copyFrom.2.1 55 = .ok (.iconst 5, 1) := by decide +kernel
theorem dX6_copyFrom_56 : decode mX6_copyFrom.2.1 56 = .ok (.invokestatic 46, 3) := by decide +kernel
theorem dX6_copyFrom_59 : decode mX6_copyFrom.2.1 59 = .ok (.aload_n 1, 1) := by decide +kernel
theorem dX6_copyFrom_60 : decode mX6_copyFrom.2.1 60 = .ok (.getfield 28, 3) := by decide +kernel
theorem dX6_copyFrom_63 : decode mX6_copyFrom.2.1 63 = .ok (.iconst 0, 1) := by decide +kernel
theorem dX6_copyFrom_64 : decode mX6_copyFrom.2.1 64 = .ok (.aload_n 0, 1) := by decide +kernel
theorem dX6_copyFrom_65 : decode mX6_copyFrom.2.1 65 = .ok (.getfield 28, 3) := by decide +kernel
theorem dX6_copyFrom_68 : decode mX6_copyFrom.2.1 68 = .ok (.iconst 0, 1) := by decide +kernel
theorem dX6_copyFrom_69 : decode mX6_copyFrom.2.1 69 = .ok (.iconst 5, 1) := by decide +kernel
theorem dX6_copyFrom_70 : decode mX6_copyFrom.2.1 70 = .ok (.invokestatic 46, 3) := by decide +kernel
theorem dX6_copyFrom_73 : decode mX6_copyFrom.2.1 73 = .ok (.aload_n 1, 1) := by decide +kernel
theorem dX6_copyFrom_74 : decode mX6_copyFrom.2.1 74 = .ok (.getfield 31, 3) := by decide +kernel
theorem dX6_copyFrom_77 : decode mX6_copyFrom.2.1 77 = .ok (.iconst 0, 1) := by decide +kernel
theorem dX6_copyFrom_78 : decode mX6_copyFrom.2.1 78 = .ok (.aload_n 0, 1) := by decide +kernel
theorem dX6_copyFrom_79 : decode mX6_copyFrom.2.1 79 = .ok (.getfield 31, 3) := by decide +kernel
theorem dX6_copyFrom_82 : decode mX6_copyFrom.2.1 82 = .ok (.iconst 0, 1) := by decide +kernel
theorem dX6_copyFrom_83 : decode mX6_copyFrom.2.1 83 = .ok (.iconst 5, 1) := by decide +kernel
theorem dX6_copyFrom_84 : decode mX6_copyFrom.2.1 84 = .ok (.invokestatic 46, 3) := by decide +kernel
theorem dX6_copyFrom_87 : decode mX6_copyFrom.2.1 87 = .ok (.aload_n 1, 1) := by decide +kernel
theorem dX6_copyFrom_88 : decode mX6_copyFrom.2.1 88 = .ok (.getfield 34, 3) := by decide +kernel
theorem dX6_copyFrom_91 : decode mX6_copyFrom.2.1 91 = .ok (.iconst 0, 1) := by decide +kernel
theorem dX6_copyFrom_92 : decode mX6_copyFrom.2.1 92 = .ok (.aload_n 0, 1) := by decide +kernel
theorem dX6_copyFrom_93 : decode mX6_copyFrom.2.1 93 = .ok (.getfield 34, 3) := by decide +kernel
theorem dX6_copyFrom_96 : decode mX6_copyFrom.2.1 96 = .ok (.iconst 0, 1) := by decide +kernel
theorem dX6_copyFrom_97 : decode mX6_copyFrom.2.1 97 = .ok (.iconst 5, 1) := by decide +kernel
theorem dX6_copyFrom_98 : decode mX6_copyFrom.2.1 98 = .ok (.invokestatic 46, 3) := by decide +kernel
theorem dX6_copyFrom_101 : decode mX6_copyFrom.2.1 101 = .ok (.aload_n 1, 1) := by decide +kernel
theorem dX6_copyFrom_102 : decode mX6_copyFrom.2.1 102 = .ok (.getfield 37, 3) := by decide +kernel
theorem dX6_copyFrom_105 : decode mX6_copyFrom.2.1 105 = .ok (.iconst 0, 1) := by decide +kernel
theorem dX6_copyFrom_106 : decode mX6_copyFrom.2.1 106 = .ok (.aload_n 0, 1) := by decide +kernel
theorem dX6_copyFrom_107 : decode mX6_copyFrom.2.1 107 = .ok (.getfield 37, 3) := by decide +kernel
theorem dX6_copyFrom_110 : decode mX6_copyFrom.2.1 110 = .ok (.iconst 0, 1) := by decide +kernel
theorem dX6_copyFrom_111 : decode mX6_copyFrom.2.1 111 = .ok (.iconst 5, 1) := by decide +kernel
theorem dX6_copyFrom_112 : decode mX6_copyFrom.2.1 112 = .ok (.invokestatic 46, 3) := by decide +kernel
theorem dX6_copyFrom_115 : decode mX6_copyFrom.2.1 115 = .ok (.return_, 1) := by decide +kernel
set_option maxRecDepth 4000 in
theorem ev_X6_copyFrom {m : Mem} {st : Nat} {ot : Nat} (hs : isSt st) (ho : isSt ot) (hx : ot + 8 ≤ st ∨ st + 8 ≤ ot) : Ev 0 4 mX6_copyFrom [vr st, vr ot] m (fun r m' => m' = rows m st ot 8) := by
  refine Ev.of (L := [vr st, vr ot]) (by decide +kernel) rfl (Nat.le_of_ble_eq_true rfl) rfl (fun t ht => by cases ht) (fun hcan => ?_)
  refine go_aload_n dX6_copyFrom_0 rfl ?_
  refine go_aload_n dX6_copyFrom_1 rfl ?_
  refine go_getf_i (ki := 0) dX6_copyFrom_2 fl_6_9 ho.o rfl rfl (fun hf_2 => ?_)
  refine go_putf_i (ki := 0) dX6_copyFrom_5 fw_6_9 hs.o rfl rfl ⟨by omega, by omega⟩ ?_
  refine go_aload_n dX6_copyFrom_8 rfl ?_
  refine go_aload_n dX6_copyFrom_9 rfl ?_
  refine go_getf_i (ki := 1) dX6_copyFrom_10 fl_6_15 ho.o rfl rfl (fun hf_10 => ?_)
  rw [show ((wr m st 0 (m ot 0)) ot 1 : Int) = (m ot 1) from by rw [wr_na (by omega)]] at hf_10 ⊢
  refine go_putf_i (ki := 1) dX6_copyFrom_13 fw_6_15 hs.o rfl rfl ⟨by omega, by omega⟩ ?_
  refine go_aload_n dX6_copyFrom_16 rfl ?_
  refine go_getf_p (b := (ot + 1)) dX6_copyFrom_17 fl_6_18 ho.o rfl ho.p2 ?_
  refine go_iconst dX6_copyFrom_20 ?_
  refine go_aload_n dX6_copyFrom_21 rfl ?_
  refine go_getf_p (b := (st + 1)) dX6_copyFrom_22 fl_6_18 hs.o rfl hs.p2 ?_
  refine go_iconst dX6_copyFrom_25 ?_
  refine go_bipush dX6_copyFrom_26 (by decide) ?_
  refine go_copyi dX6_copyFrom_28 ac_6_46 ho.a1 hs.a1 (by omega) (by omega) (by omega) (by decide) (Nat.le_of_ble_eq_true rfl) ?_
  refine go_aload_n dX6_copyFrom_31 rfl ?_
  refine go_getf_p (b := (ot + 2)) dX6_copyFrom_32 fl_6_22 ho.o rfl ho.p3 ?_
  refine go_iconst dX6_copyFrom_35 ?_
  refine go_aload_n dX6_copyFrom_36 rfl ?_
  refine go_getf_p (b := (st + 2)) dX6_copyFrom_37 fl_6_22 hs.o rfl hs.p3 ?_
  refine go_iconst dX6_copyFrom_40 ?_
  refine go_iconst dX6_copyFrom_41 ?_
  refine go_copyi dX6_copyFrom_42 ac_6_46 ho.a2 hs.a2 (by omega) (by omega) (by omega) (by decide) (Nat.le_of_ble_eq_true rfl) ?_
  refine go_aload_n dX6_copyFrom_45 rfl ?_
  refine go_getf_p (b := (ot + 3)) dX6_copyFrom_46 fl_6_25 ho.o rfl ho.p4 ?_
  refine go_iconst dX6_copyFrom_49 ?_
  refine go_aload_n dX6_copyFrom_50 rfl ?_
  refine go_getf_p (b := (st + 3)) dX6_copyFrom_51 fl_6_25 hs.o rfl hs.p4 ?_
  refine go_iconst dX6_copyFrom_54 ?_
  refine go_iconst dX6_copyFrom_55 ?_
  refine go_copyi dX6_copyFrom_56 ac_6_46 ho.a3 hs.a3 (by omega) (by omega) (by omega) (by decide) (Nat.le_of_ble_eq_true rfl) ?_
  refine go_aload_n dX6_copyFrom_59 rfl ?_
  refine go_getf_p (b := (ot + 4)) dX6_copyFrom_60 fl_6_28 ho.o rfl ho.p5 ?_
  refine go_iconst dX6_copyFrom_63 ?_
  refine go_aload_n dX6_copyFrom_64 rfl ?_
  refine go_getf_p (b := (st + 4)) dX6_copyFrom_65 fl_6_28 hs.o rfl hs.p5 ?_
  refine go_iconst dX6_copyFrom_68 ?_
  refine go_iconst dX6_copyFrom_69 ?_
  refine go_copyi dX6_copyFrom_70 ac_6_46 ho.a4 hs.a4 (by omega) (by omega) (by omega) (by decide) (Nat.le_of_ble_eq_true rfl) ?_
  refine go_aload_n dX6_copyFrom_73 rfl ?_
  refine go_getf_p (b := (ot + 5)) dX6_copyFrom_74 fl_6_31 ho.o rfl ho.p6 ?_
  refine go_iconst dX6_copyFrom_77 ?_
  refine go_aload_n dX6_copyFrom_78 rfl ?_
  refine go_getf_p (b := (st + 5)) dX6_copyFrom_79 fl_6_31 hs.o rfl hs.p6 ?_
  refine go_iconst dX6_copyFrom_82 ?_
  refine go_iconst dX6_copyFrom_83 ?_
  refine go_copyi dX6_copyFrom_84 ac_6_46 ho.a5 hs.a5 (by omega) (by omega) (by omega) (by decide) (Nat.le_of_ble_eq_true rfl) ?_
  refine go_aload_n dX6_copyFrom_87 rfl ?_
  refine go_getf_p (b := (ot + 6)) dX6_copyFrom_88 fl_6_34 ho.o rfl ho.p7 ?_
  refine go_iconst dX6_copyFrom_91 ?_
  refine go_aload_n dX6_copyFrom_92 rfl ?_
  refine go_getf_p (b := (st + 6)) dX6_copyFrom_93 fl_6_34 hs.o rfl hs.p7 ?_
  refine go_iconst dX6_copyFrom_96 ?_
  refine go_iconst dX6_copyFrom_97 ?_
  refine go_copyi dX6_copyFrom_98 ac_6_46 ho.a6 hs.a6 (by omega) (by omega) (by omega) (by decide) (Nat.le_of_ble_eq_true rfl) ?_
  refine go_aload_n dX6_copyFrom_101 rfl ?_
  refine go_getf_p (b := (ot + 7)) dX6_copyFrom_102 fl_6_37 ho.o rfl ho.p8 ?_
  refine go_iconst dX6_copyFrom_105 ?_
  refine go_aload_n dX6_copyFrom_106 rfl ?_
  refine go_getf_p (b := (st + 7)) dX6_copyFrom_107 fl_6_37 hs.o rfl hs.p8 ?_
  refine go_iconst dX6_copyFrom_110 ?_
  refine go_iconst dX6_copyFrom_111 ?_
  refine go_copyi dX6_copyFrom_112 ac_6_46 ho.a7 hs.a7 (by omega) (by omega) (by omega) (by decide) (Nat.le_of_ble_eq_true rfl) ?_
  refine go_ret (v := 0) rfl dX6_copyFrom_115 rfl ?_
  funext b
  have hb : b = st ∨ b = st + 1 ∨ b = st + 2 ∨ b = st + 3 ∨ b = st + 4 ∨ b = st + 5 ∨ b = st + 6 ∨ b = st + 7 ∨ (b < st ∨ st + 8 ≤ b) := by omega
  rcases hb with hb | hb | hb | hb | hb | hb | hb | hb | hb
  · rw [hb, show rows m st ot 8 st = m ot from by unfold rows; rw [if_pos (by omega), show st - st = 0 by omega]; rfl]
    simp (disch := omega) only [cpy_row]
    funext j
    by_cases h1 : j = 1
    · rw [h1, wr_self]
    · rw [wr_ni h1]
      by_cases h0 : j = 0
      · rw [h0, wr_self]
      · rw [wr_ni h0, st_row2 hcan hs h0 h1, st_row2 hcan ho h0 h1]
  · rw [hb, show rows m st ot 8 (st + 1) = m (ot + 1) from by unfold rows; rw [if_pos (by omega), show st + 1 - st = 1 by omega]]
    try simp (disch := omega) only [cpy_row]
    exact cpy_full (by decide) (by simp (disch := omega) only [cpy_row, wr_row]) (by simp (disch := omega) only [cpy_row, wr_row]) hcan ho.a1 hs.a1
  · rw [hb, show rows m st ot 8 (st + 2) = m (ot + 2) from by unfold rows; rw [if_pos (by omega), show st + 2 - st = 2 by omega]]
    try simp (disch := omega) only [cpy_row]
    exact cpy_full (by decide) (by simp (disch := omega) only [cpy_row, wr_row]) (by simp (disch := omega) only [cpy_row, wr_row]) hcan ho.a2 hs.a2
  · rw [hb, show rows m st ot 8 (st + 3) = m (ot + 3) from by unfold rows; rw [if_pos (by omega), show st + 3 - st = 3 by omega]]
    try simp (disch := omega) only [cpy_row]
    exact cpy_full (by decide) (by simp (disch := omega) only [cpy_row, wr_row]) (by simp (disch := omega) only [cpy_row, wr_row]) hcan ho.a3 hs.a3
  · rw [hb, show rows m st ot 8 (st + 4) = m (ot + 4) from by unfold rows; rw [if_pos (by omega), show st + 4 - st = 4 by omega]]
    try simp (disch := omega) only [cpy_row]
    exact cpy_full (by decide) (by simp (disch := omega) only [cpy_row, wr_row]) (by simp (disch := omega) only [cpy_row, wr_row]) hcan ho.a4 hs.a4
  · rw [hb, show rows m st ot 8 (st + 5) = m (ot + 5) from by unfold rows; rw [if_pos (by omega), show st + 5 - st = 5 by omega]]
    try simp (disch := omega) only [cpy_row]
    exact cpy_full (by decide) (by simp (disch := omega) only [cpy_row, wr_row]) (by simp (disch := omega) only [cpy_row, wr_row]) hcan ho.a5 hs.a5
  · rw [hb, show rows m st ot 8 (st + 6) = m (ot + 6) from by unfold rows; rw [if_pos (by omega), show st + 6 - st = 6 by omega]]
    try simp (disch := omega) only [cpy_row]
    exact cpy_full (by decide) (by simp (disch := omega) only [cpy_row, wr_row]) (by simp (disch := omega) only [cpy_row, wr_row]) hcan ho.a6 hs.a6
  · rw [hb, show rows m st ot 8 (st + 7) = m (ot + 7) from by unfold rows; rw [if_pos (by omega), show st + 7 - st = 7 by omega]]
    try simp (disch := omega) only [cpy_row]
    exact cpy_full (by decide) (by simp (disch := omega) only [cpy_row, wr_row]) (by simp (disch := omega) only [cpy_row, wr_row]) hcan ho.a7 hs.a7
  · rw [show rows m st ot 8 b = m b from by unfold rows; rw [if_neg (by omega)]]
    simp (disch := omega) only [cpy_row, wr_row]
theorem dX1_copyFrom_0 : decode mX1_copyFrom.2.1 0 = .ok (.aload_n 0, 1) := by decide +kernel
theorem dX1_copyFrom_1 : decode mX1_copyFrom.2.1 1 = .ok (.aload_n 1, 1) := by decide +kernel
theorem dX1_copyFrom_2 : decode mX1_copyFrom.2.1 2 = .ok (.getfield 9, 3) := by decide +kernel
theorem dX1_copyFrom_5 : decode mX1_copyFrom.2.1 5 = .ok (.putfield 9, 3) := by decide +kernel
theorem dX1_copyFrom_8 : decode mX1_copyFrom.2.1 8 = .ok (.aload_n 0, 1) := by decide +kernel
theorem dX1_copyFrom_9 : decode mX1_copyFrom.2.1 9 = .ok (.aload_n 1, 1) := by decide +kernel
theorem dX1_copyFrom_10 : decode mX1_copyFrom.2.1 10 = .ok (.getfield 15, 3) := by decide +kernel
theorem dX1_copyFrom_13 : decode mX1_copyFrom.2.1 13 = .ok (.putfield 15, 3) := by decide +kernel
theorem dX1_copyFrom_16 : decode mX1_copyFrom.2.1 16 = .ok (.aload_n 0, 1) := by decide +kernel
theorem dX1_copyFrom_17 : decode mX1_copyFrom.2.1 17 = .ok (.aload_n 1, 1) := by decide +kernel
theorem dX1_copyFrom_18 : decode mX1_copyFrom.2.1 18 = .ok (.getfield 18, 3) := by decide +kernel
theorem dX1_copyFrom_21 : decode mX1_copyFrom.2.1 21 = .ok (.putfield 18, 3) := by decide +kernel
theorem dX1_copyFrom_24 : decode mX1_copyFrom.2.1 24 = .ok (.aload_n 0, 1) := by decide +kernel
theorem dX1_copyFrom_25 : decode mX1_copyFrom.2.1 25 = .ok (.aload_n 1, 1) := by decide +kernel
theorem dX1_copyFrom_26 : decode mX1_copyFrom.2.1 26 = .ok (.getfield 21, 3) := by decide +kernel
theorem dX1_copyFrom_29 : decode mX1_copyFrom.2.1 29 = .ok (.putfield 21, 3) := by decide +kernel
theorem dX1_copyFrom_32 : decode mX1_copyFrom.2.1 32 = .ok (.aload_n 0, 1) := by decide +kernel
theorem dX1_copyFrom_33 : decode mX1_copyFrom.2.1 33 = .ok (.aload_n 1, 1) := by decide +kernel
theorem dX1_copyFrom_34 : decode mX1_copyFrom.2.1 34 = .ok (.getfield 24, 3) := by decide +kernel
theorem dX1_copyFrom_37 : decode mX1_copyFrom.2.1 37 = .ok (.putfield 24, 3) := by decide +kernel
theorem dX1_copyFrom_40 : decode mX1_copyFrom.2.1 40 = .ok (.aload_n 1, 1) := by decide +kernel
theorem dX1_copyFrom_41 : decode mX1_copyFrom.2.1 41 = .ok (.getfield 27, 3) := by decide +kernel
theorem dX1_copyFrom_44 : decode mX1_copyFrom.2.1 44 = .ok (.iconst 0, 1) := by decide +kernel
theorem dX1_copyFrom_45 : decode mX1_copyFrom.2.1 45 = .ok (.aload_n 0, 1) := by decide +kernel
theorem dX1_copyFrom_46 : decode mX1_copyFrom.2.1 46 = .ok (.getfield 27, 3) := by decide +kernel
theorem dX1_copyFrom_49 : decode mX1_copyFrom.2.1 49 = .ok (.iconst 0, 1) := by decide +kernel
theorem dX1_copyFrom_50 : decode mX1_copyFrom.2.1 50 = .ok (.bipush 6, 2) := by decide +kernel
theorem dX1_copyFrom_52 : decode mX1_copyFrom.2.1 52 = .ok (.invokestatic 56, 3) := by decide +kernel
theorem dX1_copyFrom_55 : decode mX1_copyFrom.2.1 55 = .ok (.aload_n 1, 1) := by decide +kernel
theorem dX1_copyFrom_56 : decode mX1_copyFrom.2.1 56 = .ok (.getfield 31, 3) := by decide +kernel
theorem dX1_copyFrom_59 : decode mX1_copyFrom.2.1 59 = .ok (.iconst 0, 1) := by decide +kernel
theorem dX1_copyFrom_60 : decode mX1_copyFrom.2.1 60 = .ok (.aload_n 0, 1) := by decide +kernel
theorem dX1_copyFrom_61 : decode mX1_copyFrom.2.1 61 = .ok (.getfield 31, 3) := by decide +kernel
theorem dX1_copyFrom_64 : decode mX1_copyFrom.2.1 64 = .ok (.iconst 0, 1) := by decide +kernel
theorem dX1_copyFrom_65 : decode mX1_copyFrom.2.1 65 = .ok (.bipush 6, 2) := by decide +kernel
theorem dX1_copyFrom_67 : decode mX1_copyFrom.2.1 67 = .ok (.invokestatic 56, 3) := by decide +kernel
theorem dX1_copyFrom_70 : decode mX1_copyFrom.2.1 70 = .ok (.aload_n 1, 1) := by decide +kernel
theorem dX1_copyFrom_71 : decode mX1_copyFrom.2.1 71 = .ok (.getfield 35, 3) := by decide +kernel
theorem dX1_copyFrom_74 : decode mX1_copyFrom.2.1 74 = .ok (.iconst 0, 1) := by decide +kernel
theorem dX1_copyFrom_75 : decode mX1_copyFrom.2.1 75 = .ok (.aload_n 0, 1) := by decide +kernel
theorem dX1_copyFrom_76 : decode mX1_copyFrom.2.1 76 = .ok (.getfield 35, 3) := by decide +kernel
theorem dX1_copyFrom_79 : decode mX1_copyFrom.2.1 79 = .ok (.iconst 0, 1) := by decide +kernel
theorem dX1_copyFrom_80 : decode mX1_copyFrom.2.1 80 = .ok (.bipush 6, 2) := by decide +kernel
theorem dX1_copyFrom_82 : decode mX1_copyFrom.2.1 82 = .ok (.invokestatic 56, 3) := by decide +kernel
theorem dX1_copyFrom_85 : decode mX1_copyFrom.2.1 85 = .ok (.aload_n 1, 1) := by decide +kernel
theorem dX1_copyFrom_86 : decode mX1_copyFrom.2.1 86 = .ok (.getfield 38, 3) := by decide +kernel
theorem dX1_copyFrom_89 : decode mX1_copyFrom.2.1 89 = .ok (.iconst 0, 1) := by decide +kernel
theorem dX1_copyFrom_90 : decode mX1_copyFrom.2.1 90 = .ok (.aload_n 0, 1) := by decide +kernel
theorem dX1_copyFrom_91 : decode mX1_copyFrom.2.1 91 = .ok (.getfield 38, 3) := by decide +kernel
theorem dX1_copyFrom_94 : decode mX1_copyFrom.2.1 94 = .ok (.iconst 0, 1) := by decide +kernel
theorem dX1_copyFrom_95 : decode mX1_copyFrom.2.1 95 = .ok (.iconst 5, 1) := by decide +kernel
theorem dX1_copyFrom_96 : decode mX1_copyFrom.2.1 96 = .ok (.invokestatic 56, 3) := by decide +kernel
theorem dX1_copyFrom_99 : decode mX1_copyFrom.2.1 99 = .ok (.aload_n 1, 1) := by decide +kernel
theorem dX1_copyFrom_100 : decode mX1_copyFrom.2.1 100 = .ok (.getfield 41, 3) := by decide +kernel
theorem dX1_copyFrom_103 : decode mX1_copyFrom.2.1 103 = .ok (.iconst 0, 1) := by decide +kernel
theorem dX1_copyFrom_104 : decode mX1_copyFrom.2.1 104 = .ok (.aload_n 0, 1) := by decide +kernel
theorem dX1_copyFrom_105 : decode mX1_copyFrom.2.1 105 = .ok (.getfield 41, 3) := by decide +kernel
theorem dX1_copyFrom_108 : decode mX1_copyFrom.2.1 108 = .ok (.iconst 0, 1) := by decide +kernel
theorem dX1_copyFrom_109 : decode mX1_copyFrom.2.1 109 = .ok (.iconst 5, 1) := by decide +kernel
theorem dX1_copyFrom_110 : decode mX1_copyFrom.2.1 110 = .ok (.invokestatic 56, 3) := by decide +kernel
theorem dX1_copyFrom_113 : decode mX1_copyFrom.2.1 113 = .ok (.aload_n 1, 1) := by decide +kernel
theorem dX1_copyFrom_114 : decode mX1_copyFrom.2.1 114 = .ok (.getfield 44, 3) := by decide +kernel
theorem dX1_copyFrom_117 : decode mX1_copyFrom.2.1 117 = .ok (.iconst 0, 1) := by decide +kernel
theorem dX1_copyFrom_118 : decode mX1_copyFrom.2.1 118 = .ok (.aload_n 0, 1) := by decide +kernel
theorem dX1_copyFrom_119 : decode mX1_copyFrom.2.1 119 = .ok (.getfield 44, 3) := by decide +kernel
theorem dX1_copyFrom_122 : decode mX1_copyFrom.2.1 122 = .ok (.iconst 0, 1) := by decide +kernel
theorem dX1_copyFrom_123 : decode mX1_copyFrom.2.1 123 = .ok (.iconst 5, 1) := by decide +kernel
theorem dX1_copyFrom_124 : decode mX1_copyFrom.2.1 124 = .ok (.invokestatic 56, 3) := by decide +kernel
theorem dX1_copyFrom_127 : decode mX1_copyFrom.2.1 127 = .ok (.aload_n 1, 1) := by decide +kernel
theorem dX1_copyFrom_128 : decode mX1_copyFrom.2.1 128 = .ok (.getfield 47, 3) := by decide +kernel
theorem dX1_copyFrom_131 : decode mX1_copyFrom.2.1 131 = .ok (.iconst 0, 1) := by decide +kernel
theorem dX1_copyFrom_132 : decode mX1_copyFrom.2.1 132 = .ok (.aload_n 0, 1) := by decide +kernel
theorem dX1_copyFrom_133 : decode mX1_copyFrom.2.1 133 = .ok (.getfield 47, 3) := by decide +kernel
theorem dX1_copyFrom_136 : decode mX1_copyFrom.2.1 136 = .ok (.iconst 0, 1) := by decide +kernel
theorem dX1_copyFrom_137 : decode mX1_copyFrom.2.1 137 = .ok (.iconst 5, 1) := by decide +kernel
theorem dX1_copyFrom_138 : decode mX1_copyFrom.2.1 138 = .ok (.invokestatic 56, 3) := by decide +kernel
theorem dX1_copyFrom_141 : decode mX1_copyFrom.2.1 141 = .ok (.aload_n 1, 1) := by decide +kernel
theorem dX1_copyFrom_142 : decode mX1_copyFrom.2.1 142 = .ok (.getfield 50, 3) := by decide +kernel
theorem dX1_copyFrom_145 : decode mX1_copyFrom.2.1 145 = .ok (.iconst 0, 1) := by decide +kernel
theorem dX1_copyFrom_146 : decode mX1_copyFrom.2.1 146 = .ok (.aload_n 0, 1) := by decide +kernel
theorem dX1_copyFrom_147 : decode mX1_copyFrom.2.1 147 = .ok (.getfield 50, 3) := by decide +kernel
theorem dX1_copyFrom_150 : decode mX1_copyFrom.2.1 150 = .ok (.iconst 0, 1) := by decide +kernel
theorem dX1_copyFrom_151 : decode mX1_copyFrom.2.1 151 = .ok (.iconst 5, 1) := by decide +kernel
theorem dX1_copyFrom_152 : decode mX1_copyFrom.2.1 152 = .ok (.invokestatic 56, 3) := by decide +kernel
theorem dX1_copyFrom_155 : decode mX1_copyFrom.2.1 155 = .ok (.aload_n 1, 1) := by decide +kernel
theorem dX1_copyFrom_156 : decode mX1_copyFrom.2.1 156 = .ok (.getfield 53, 3) := by decide +kernel
theorem dX1_copyFrom_159 : decode mX1_copyFrom.2.1 159 = .ok (.iconst 0, 1) := by decide +kernel
theorem dX1_copyFrom_160 : decode mX1_copyFrom.2.1 160 = .ok (.aload_n 0, 1) := by decide +kernel
theorem dX1_copyFrom_161 : decode mX1_copyFrom.2.1 161 = .ok (.getfield 53, 3) := by decide +kernel
theorem dX1_copyFrom_164 : decode mX1_copyFrom.2.1 164 = .ok (.iconst 0, 1) := by decide +kernel
theorem dX1_copyFrom_165 : decode mX1_copyFrom.2.1 165 = .ok (.iconst 5, 1) := by decide +kernel
theorem dX1_copyFrom_166 : decode mX1_copyFrom.2.1 166 = .ok (.invokestatic 56, 3) := by decide +kernel
theorem dX1_copyFrom_169 : decode mX1_copyFrom.2.1 169 = .ok (.return_, 1) := by decide +kernel
set_option maxRecDepth 4000 in
theorem ev_X1_copyFrom {m : Mem} {d : Nat} {o : Nat} (hs : isDn d) (ho : isDn o) (hx : o + 10 ≤ d ∨ d + 10 ≤ o) : Ev 0 4 mX1_copyFrom [vr d, vr o] m (fun r m' => m' = rows m d o 10) := by
  refine Ev.of (L := [vr d, vr o]) (by decide +kernel) rfl (Nat.le_of_ble_eq_true rfl) rfl (fun t ht => by cases ht) (fun hcan => ?_)
  refine go_aload_n dX1_copyFrom_0 rfl ?_
  refine go_aload_n dX1_copyFrom_1 rfl ?_
  refine go_getf_i (ki := 0) dX1_copyFrom_2 fl_1_9 ho.o rfl rfl (fun hf_2 => ?_)
  refine go_putf_i (ki := 0) dX1_copyFrom_5 fw_1_9 hs.o rfl rfl ⟨by omega, by omega⟩ ?_
  refine go_aload_n dX1_copyFrom_8 rfl ?_
  refine go_aload_n dX1_copyFrom_9 rfl ?_
  refine go_getf_i (ki := 1) dX1_copyFrom_10 fl_1_15 ho.o rfl rfl (fun hf_10 => ?_)
  rw [show ((wr m d 0 (m o 0)) o 1 : Int) = (m o 1) from by rw [wr_na (by omega)]] at hf_10 ⊢
  refine go_putf_i (ki := 1) dX1_copyFrom_13 fw_1_15 hs.o rfl rfl ⟨by omega, by omega⟩ ?_
  refine go_aload_n dX1_copyFrom_16 rfl ?_
  refine go_aload_n dX1_copyFrom_17 rfl ?_
  refine go_getf_i (ki := 2) dX1_copyFrom_18 fl_1_18 ho.o rfl rfl (fun hf_18 => ?_)
  rw [show ((wr (wr m d 0 (m o 0)) d 1 (m o 1)) o 2 : Int) = (m o 2) from by rw [wr_na (by omega), wr_na (by omega)]] at hf_18 ⊢
  refine go_putf_i (ki := 2) dX1_copyFrom_21 fw_1_18 hs.o rfl rfl ⟨by omega, by omega⟩ ?_
  refine go_aload_n dX1_copyFrom_24 rfl ?_
  refine go_aload_n dX1_copyFrom_25 rfl ?_
  refine go_getf_i (ki := 3) dX1_copyFrom_26 fl_1_21 ho.o rfl rfl (fun hf_26 => ?_)
  rw [show ((wr (wr (wr m d 0 (m o 0)) d 1 (m o 1)) d 2 (m o 2)) o 3 : Int) = (m o 3) from by rw [wr_na (by omega), wr_na (by omega), wr_na (by omega)]] at hf_26 ⊢
  refine go_putf_i (ki := 3) dX1_copyFrom_29 fw_1_21 hs.o rfl rfl ⟨by omega, by omega⟩ ?_
  refine go_aload_n dX1_copyFrom_32 rfl ?_
  refine go_aload_n dX1_copyFrom_33 rfl ?_
  refine go_getf_i (ki := 4) dX1_copyFrom_34 fl_1_24 ho.o rfl rfl (fun hf_34 => ?_)
  rw [show ((wr (wr (wr (wr m d 0 (m o 0)) d 1 (m o 1)) d 2 (m o 2)) d 3 (m o 3)) o 4 : Int) = (m o 4) from by rw [wr_na (by omega), wr_na (by omega), wr_na (by omega), wr_na (by omega)]] at hf_34 ⊢
  refine go_putf_i (ki := 4) dX1_copyFrom_37 fw_1_24 hs.o rfl rfl ⟨by omega, by omega⟩ ?_
  refine go_aload_n dX1_copyFrom_40 rfl ?_
  refine go_getf_p (b := (o + 1)) dX1_copyFrom_41 fl_1_27 ho.o rfl ho.p5 ?_
  refine go_iconst dX1_copyFrom_44 ?_
  refine go_aload_n dX1_copyFrom_45 rfl ?_
  refine go_getf_p (b := (d + 1)) dX1_copyFrom_46 fl_1_27 hs.o rfl hs.p5 ?_
  refine go_iconst dX1_copyFrom_49 ?_
  refine go_bipush dX1_copyFrom_50 (by decide) ?_
  refine go_copyl dX1_copyFrom_52 ac_1_56 ho.a1 hs.a1 (by omega) (by omega) (by omega) (by decide) (Nat.le_of_ble_eq_true rfl) ?_
  refine go_aload_n dX1_copyFrom_55 rfl ?_
  refine go_getf_p (b := (o + 2)) dX1_copyFrom_56 fl_1_31 ho.o rfl ho.p6 ?_
  refine go_iconst dX1_copyFrom_59 ?_
  refine go_aload_n dX1_copyFrom_60 rfl ?_
  refine go_getf_p (b := (d + 2)) dX1_copyFrom_61 fl_1_31 hs.o rfl hs.p6 ?_
  refine go_iconst dX1_copyFrom_64 ?_
  refine go_bipush dX1_copyFrom_65 (by decide) ?_
  refine go_copyi dX1_copyFrom_67 ac_1_56 ho.a2 hs.a2 (by omega) (by omega) (by omega) (by decide) (Nat.le_of_ble_eq_true rfl) ?_
  refine go_aload_n dX1_copyFrom_70 rfl ?_
  refine go_getf_p (b := (o + 3)) dX1_copyFrom_71 fl_1_35 ho.o rfl ho.p7 ?_
  refine go_iconst dX1_copyFrom_74 ?_
  refine go_aload_n dX1_copyFrom_75 rfl ?_
  refine go_getf_p (b := (d + 3)) dX1_copyFrom_76 fl_1_35 hs.o rfl hs.p7 ?_
  refine go_iconst dX1_copyFrom_79 ?_
  refine go_bipush dX1_copyFrom_80 (by decide) ?_
  refine go_copyi dX1_copyFrom_82 ac_1_56 ho.a3 hs.a3 (by omega) (by omega) (by omega) (by decide) (Nat.le_of_ble_eq_true rfl) ?_
  refine go_aload_n dX1_copyFrom_85 rfl ?_
  refine go_getf_p (b := (o + 4)) dX1_copyFrom_86 fl_1_38 ho.o rfl ho.p8 ?_
  refine go_iconst dX1_copyFrom_89 ?_
  refine go_aload_n dX1_copyFrom_90 rfl ?_
  refine go_getf_p (b := (d + 4)) dX1_copyFrom_91 fl_1_38 hs.o rfl hs.p8 ?_
  refine go_iconst dX1_copyFrom_94 ?_
  refine go_iconst dX1_copyFrom_95 ?_
  refine go_copyl dX1_copyFrom_96 ac_1_56 ho.a4 hs.a4 (by omega) (by omega) (by omega) (by decide) (Nat.le_of_ble_eq_true rfl) ?_
  refine go_aload_n dX1_copyFrom_99 rfl ?_
  refine go_getf_p (b := (o + 5)) dX1_copyFrom_100 fl_1_41 ho.o rfl ho.p9 ?_
  refine go_iconst dX1_copyFrom_103 ?_
  refine go_aload_n dX1_copyFrom_104 rfl ?_
  refine go_getf_p (b := (d + 5)) dX1_copyFrom_105 fl_1_41 hs.o rfl hs.p9 ?_
  refine go_iconst dX1_copyFrom_108 ?_
  refine go_iconst dX1_copyFrom_109 ?_
  refine go_copyi dX1_copyFrom_110 ac_1_56 ho.a5 hs.a5 (by omega) (by omega) (by omega) (by decide) (Nat.le_of_ble_eq_true rfl) ?_
  refine go_aload_n dX1_copyFrom_113 rfl ?_
  refine go_getf_p (b := (o + 6)) dX1_copyFrom_114 fl_1_44 ho.o rfl ho.p10 ?_
  refine go_iconst dX1_copyFrom_117 ?_
  refine go_aload_n dX1_copyFrom_118 rfl ?_
  refine go_getf_p (b := (d + 6)) dX1_copyFrom_119 fl_1_44 hs.o rfl hs.p10 ?_
  refine go_iconst dX1_copyFrom_122 ?_
  refine go_iconst dX1_copyFrom_123 ?_
  refine go_copyl dX1_copyFrom_124 ac_1_56 ho.a6 hs.a6 (by omega) (by omega) (by omega) (by decide) (Nat.le_of_ble_eq_true rfl) ?_
  refine go_aload_n dX1_copyFrom_127 rfl ?_
  refine go_getf_p (b := (o + 7)) dX1_copyFrom_128 fl_1_47 ho.o rfl ho.p11 ?_
  refine go_iconst dX1_copyFrom_131 ?_
  refine go_aload_n dX1_copyFrom_132 rfl ?_
  refine go_getf_p (b := (d + 7)) dX1_copyFrom_133 fl_1_47 hs.o rfl hs.p11 ?_
  refine go_iconst dX1_copyFrom_136 ?_
  refine go_iconst dX1_copyFrom_137 ?_
  refine go_copyi dX1_copyFrom_138 ac_1_56 ho.a7 hs.a7 (by omega) (by omega) (by omega) (by decide) (Nat.le_of_ble_eq_true rfl) ?_
  refine go_aload_n dX1_copyFrom_141 rfl ?_
  refine go_getf_p (b := (o + 8)) dX1_copyFrom_142 fl_1_50 ho.o rfl ho.p12 ?_
  refine go_iconst dX1_copyFrom_145 ?_
  refine go_aload_n dX1_copyFrom_146 rfl ?_
  refine go_getf_p (b := (d + 8)) dX1_copyFrom_147 fl_1_50 hs.o rfl hs.p12 ?_
  refine go_iconst dX1_copyFrom_150 ?_
  refine go_iconst dX1_copyFrom_151 ?_
  refine go_copyi dX1_copyFrom_152 ac_1_56 ho.a8 hs.a8 (by omega) (by omega) (by omega) (by decide) (Nat.le_of_ble_eq_true rfl) ?_
  refine go_aload_n dX1_copyFrom_155 rfl ?_
  refine go_getf_p (b := (o + 9)) dX1_copyFrom_156 fl_1_53 ho.o rfl ho.p13 ?_
  refine go_iconst dX1_copyFrom_159 ?_
  refine go_aload_n dX1_copyFrom_160 rfl ?_
  refine go_getf_p (b := (d + 9)) dX1_copyFrom_161 fl_1_53 hs.o rfl hs.p13 ?_
  refine go_iconst dX1_copyFrom_164 ?_
  refine go_iconst dX1_copyFrom_165 ?_
  refine go_copyi dX1_copyFrom_166 ac_1_56 ho.a9 hs.a9 (by omega) (by omega) (by omega) (by decide) (Nat.le_of_ble_eq_true rfl) ?_
  refine go_ret (v := 0) rfl dX1_copyFrom_169 rfl ?_
  funext b
  have hb : b = d ∨ b = d + 1 ∨ b = d + 2 ∨ b = d + 3 ∨ b = d + 4 ∨ b = d + 5 ∨ b = d + 6 ∨ b = d + 7 ∨ b = d + 8 ∨ b = d + 9 ∨ (b < d ∨ d + 10 ≤ b) := by omega
  rcases hb with hb | hb | hb | hb | hb | hb | hb | hb | hb | hb | hb
  · rw [hb, show rows m d o 10 d = m o from by unfold rows; rw [if_pos (by omega), show d - d = 0 by omega]; rfl]
    simp (disch := omega) only [cpy_row]
    funext j
    by_cases h4 : j = 4
    · rw [h4, wr_self]
    · rw [wr_ni h4]
      by_cases h3 : j = 3
      · rw [h3, wr_self]
      · rw [wr_ni h3]
        by_cases h2 : j = 2
        · rw [h2, wr_self]
        · rw [wr_ni h2]
          by_cases h1 : j = 1
          · rw [h1, wr_self]
          · rw [wr_ni h1]
            by_cases h0 : j = 0
            · rw [h0, wr_self]
            · rw [wr_ni h0, dn_row5 hcan hs (by omega), dn_row5 hcan ho (by omega)]
  · rw [hb, show rows m d o 10 (d + 1) = m (o + 1) from by unfold rows; rw [if_pos (by omega), show d + 1 - d = 1 by omega]]
    try simp (disch := omega) only [cpy_row]
    exact cpy_full (by decide) (by simp (disch := omega) only [cpy_row, wr_row]) (by simp (disch := omega) only [cpy_row, wr_row]) hcan ho.a1 hs.a1
  · rw [hb, show rows m d o 10 (d + 2) = m (o + 2) from by unfold rows; rw [if_pos (by omega), show d + 2 - d = 2 by omega]]
    try simp (disch := omega) only [cpy_row]
    exact cpy_full (by decide) (by simp (disch := omega) only [cpy_row, wr_row]) (by simp (disch := omega) only [cpy_row, wr_row]) hcan ho.a2 hs.a2
  · rw [hb, show rows m d o 10 (d + 3) = m (o + 3) from by unfold rows; rw [if_pos (by omega), show d + 3 - d = 3 by omega]]
    try simp (disch := omega) only [cpy_row]
    exact cpy_full (by decide) (by simp (disch := omega) only [cpy_row, wr_row]) (by simp (disch := omega) only [cpy_row, wr_row]) hcan ho.a3 hs.a3
  · rw [hb, show rows m d o 10 (d + 4) = m (o + 4) from by unfold rows; rw [if_pos (by omega), show d + 4 - d = 4 by omega]]
    try simp (disch := omega) only [cpy_row]
    exact cpy_full (by decide) (by simp (disch := omega) only [cpy_row, wr_row]) (by simp (disch := omega) only [cpy_row, wr_row]) hcan ho.a4 hs.a4
  · rw [hb, show rows m d o 10 (d + 5) = m (o + 5) from by unfold rows; rw [if_pos (by omega), show d + 5 - d = 5 by omega]]
    try simp (disch := omega) only [cpy_row]
    exact cpy_full (by decide) (by simp (disch := omega) only [cpy_row, wr_row]) (by simp (disch := omega) only [cpy_row, wr_row]) hcan ho.a5 hs.a5
  · rw [hb, show rows m d o 10 (d + 6) = m (o + 6) from by unfold rows; rw [if_pos (by omega), show d + 6 - d = 6 by omega]]
    try simp (disch := omega) only [cpy_row]
    exact cpy_full (by decide) (by simp (disch := omega) only [cpy_row, wr_row]) (by simp (disch := omega) only [cpy_row, wr_row]) hcan ho.a6 hs.a6
  · rw [hb, show rows m d o 10 (d + 7) = m (o + 7) from by unfold rows; rw [if_pos (by omega), show d + 7 - d = 7 by omega]]
    try simp (disch := omega) only [cpy_row]
    exact cpy_full (by decide) (by simp (disch := omega) only [cpy_row, wr_row]) (by simp (disch := omega) only [cpy_row, wr_row]) hcan ho.a7 hs.a7
  · rw [hb, show rows m d o 10 (d + 8) = m (o + 8) from by unfold rows; rw [if_pos (by omega), show d + 8 - d = 8 by omega]]
    try simp (disch := omega) only [cpy_row]
    exact cpy_full (by decide) (by simp (disch := omega) only [cpy_row, wr_row]) (by simp (disch := omega) only [cpy_row, wr_row]) hcan ho.a8 hs.a8
  · rw [hb, show rows m d o 10 (d + 9) = m (o + 9) from by unfold rows; rw [if_pos (by omega), show d + 9 - d = 9 by omega]]
    try simp (disch := omega) only [cpy_row]
    exact cpy_full (by decide) (by simp (disch := omega) only [cpy_row, wr_row]) (by simp (disch := omega) only [cpy_row, wr_row]) hcan ho.a9 hs.a9
  · rw [show rows m d o 10 b = m b from by unfold rows; rw [if_neg (by omega)]]
    simp (disch := omega) only [cpy_row, wr_row]
theorem dX5_copyFrom_0 : decode mX5_copyFrom.2.1 0 = .ok (.aload_n 0, 1) := by decide +kernel
theorem dX5_copyFrom_1 : decode mX5_copyFrom.2.1 1 = .ok (.aload_n 1, 1) := by decide +kernel
theorem dX5_copyFrom_2 : decode mX5_copyFrom.2.1 2 = .ok (.getfield 9, 3) := by decide +kernel
theorem dX5_copyFrom_5 : decode mX5_copyFrom.2.1 5 = .ok (.putfield 9, 3) := by decide +kernel
theorem dX5_copyFrom_8 : decode mX5_copyFrom.2.1 8 = .ok (.aload_n 0, 1) := by decide +kernel
theorem dX5_copyFrom_9 : decode mX5_copyFrom.2.1 9 = .ok (.aload_n 1, 1) := by decide +kernel
theorem dX5_copyFrom_10 : decode mX5_copyFrom.2.1 10 = .ok (.getfield 15, 3) := by decide +kernel
theorem dX5_copyFrom_13 : decode mX5_copyFrom.2.1 13 = .ok (.putfield 15, 3) := by decide +kernel
theorem dX5_copyFrom_16 : decode mX5_copyFrom.2.1 16 = .ok (.aload_n 1, 1) := by decide +kernel
theorem dX5_copyFrom_17 : decode mX5_copyFrom.2.1 17 = .ok (.getfield 18, 3) := by decide +kernel
theorem dX5_copyFrom_20 : decode mX5_copyFrom.2.1 20 = .ok (.iconst 0, 1) := by decide +kernel
theorem dX5_copyFrom_21 : decode mX5_copyFrom.2.1 21 = .ok (.aload_n 0, 1) := by decide +kernel
theorem dX5_copyFrom_22 : decode mX5_copyFrom.2.1 22 = .ok (.getfield 18, 3) := by decide +kernel
theorem dX5_copyFrom_25 : decode mX5_copyFrom.2.1 25 = .ok (.iconst 0, 1) := by decide +kernel
theorem dX5_copyFrom_26 : decode mX5_copyFrom.2.1 26 = .ok (.aload_n 0, 1) := by decide +kernel
theorem dX5_copyFrom_27 : decode mX5_copyFrom.2.1 27 = .ok (.getfield 18, 3) := by decide +kernel
theorem dX5_copyFrom_30 : decode mX5_copyFrom.2.1 30 = .ok (.arraylength, 1) := by decide +kernel
theorem dX5_copyFrom_31 : decode mX5_copyFrom.2.1 31 = .ok (.invokestatic 32, 3) := by decide +kernel
theorem dX5_copyFrom_34 : decode mX5_copyFrom.2.1 34 = .ok (.aload_n 1, 1) := by decide +kernel
theorem dX5_copyFrom_35 : decode mX5_copyFrom.2.1 35 = .ok (.getfield 22, 3) := by decide +kernel
theorem dX5_copyFrom_38 : decode mX5_copyFrom.2.1 38 = .ok (.iconst 0, 1) := by decide +kernel
theorem dX5_copyFrom_39 : decode mX5_copyFrom.2.1 39 = .ok (.aload_n 0, 1) := by decide +kernel
theorem dX5_copyFrom_40 : decode mX5_copyFrom.2.1 40 = .ok (.getfield 22, 3) := by decide +kernel
theorem dX5_copyFrom_43 : decode mX5_copyFrom.2.1 43 = .ok (.iconst 0, 1) := by decide +kernel
theorem dX5_copyFrom_44 : decode mX5_copyFrom.2.1 44 = .ok (.aload_n 0, 1) := by decide +kernel
theorem dX5_copyFrom_45 : decode mX5_copyFrom.2.1 45 = .ok (.getfield 22, 3) := by decide +kernel
theorem dX5_copyFrom_48 : decode mX5_copyFrom.2.1 48 = .ok (.arraylength, 1) := by decide +kernel
theorem dX5_copyFrom_49 : decode mX5_copyFrom.2.1 49 = .ok (.invokestatic 32, 3) := by decide +kernel
theorem dX5_copyFrom_52 : decode mX5_copyFrom.2.1 52 = .ok (.aload_n 1, 1) := by decide +kernel
theorem dX5_copyFrom_53 : decode mX5_copyFrom.2.1 53 = .ok (.getfield 25, 3) := by decide +kernel
theorem dX5_copyFrom_56 : decode mX5_copyFrom.2.1 56 = .ok (.iconst 0, 1) := by decide +kernel
theorem dX5_copyFrom_57 : decode mX5_copyFrom.2.1 57 = .ok (.aload_n 0, 1) := by decide +kernel
theorem dX5_copyFrom_58 : decode mX5_copyFrom.2.1 58 = .ok (.getfield 25, 3) := by decide +kernel
theorem dX5_copyFrom_61 : decode mX5_copyFrom.2.1 61 = .ok (.iconst 0, 1) := by decide +kernel
theorem dX5_copyFrom_62 : decode mX5_copyFrom.2.1 62 = .ok (.aload_n 0, 1) := by decide +kernel
theorem dX5_copyFrom_63 : decode mX5_copyFrom.2.1 63 = .ok (.getfield 25, 3) := by decide +kernel
theorem dX5_copyFrom_66 : decode mX5_copyFrom.2.1 66 = .ok (.arraylength, 1) := by decide +kernel
theorem dX5_copyFrom_67 : decode mX5_copyFrom.2.1 67 = .ok (.invokestatic 32, 3) := by decide +kernel
theorem dX5_copyFrom_70 : decode mX5_copyFrom.2.1 70 = .ok (.return_, 1) := by decide +kernel
set_option maxRecDepth 4000 in
theorem ev_X5_copyFrom {m : Mem} {e : Nat} {o : Nat} (hs : isSe e) (ho : isSe o) (hx : o + 5 ≤ e ∨ e + 5 ≤ o) : Ev 0 4 mX5_copyFrom [vr e, vr o] m (fun r m' => m' = rows m e o 4) := by
  refine Ev.of (L := [vr e, vr o]) (by decide +kernel) rfl (Nat.le_of_ble_eq_true rfl) rfl (fun t ht => by cases ht) (fun hcan => ?_)
  refine go_aload_n dX5_copyFrom_0 rfl ?_
  refine go_aload_n dX5_copyFrom_1 rfl ?_
  refine go_getf_i (ki := 0) dX5_copyFrom_2 fl_5_9 ho.o rfl rfl (fun hf_2 => ?_)
  refine go_putf_i (ki := 0) dX5_copyFrom_5 fw_5_9 hs.o rfl rfl ⟨by omega, by omega⟩ ?_
  refine go_aload_n dX5_copyFrom_8 rfl ?_
  refine go_aload_n dX5_copyFrom_9 rfl ?_
  refine go_getf_i (ki := 1) dX5_copyFrom_10 fl_5_15 ho.o rfl rfl (fun hf_10 => ?_)
  rw [show ((wr m e 0 (m o 0)) o 1 : Int) = (m o 1) from by rw [wr_na (by omega)]] at hf_10 ⊢
  refine go_putf_i (ki := 1) dX5_copyFrom_13 fw_5_15 hs.o rfl rfl ⟨by omega, by omega⟩ ?_
  refine go_aload_n dX5_copyFrom_16 rfl ?_
  refine go_getf_p (b := (o + 1)) dX5_copyFrom_17 fl_5_18 ho.o rfl ho.p2 ?_
  refine go_iconst dX5_copyFrom_20 ?_
  refine go_aload_n dX5_copyFrom_21 rfl ?_
  refine go_getf_p (b := (e + 1)) dX5_copyFrom_22 fl_5_18 hs.o rfl hs.p2 ?_
  refine go_iconst dX5_copyFrom_25 ?_
  refine go_aload_n dX5_copyFrom_26 rfl ?_
  refine go_getf_p (b := (e + 1)) dX5_copyFrom_27 fl_5_18 hs.o rfl hs.p2 ?_
  refine go_alen (x := 40) dX5_copyFrom_30 hs.a1 (by decide) rfl ?_
  refine go_copyi dX5_copyFrom_31 ac_5_32 ho.a1 hs.a1 (by omega) (by omega) (by omega) (by decide) (Nat.le_of_ble_eq_true rfl) ?_
  refine go_aload_n dX5_copyFrom_34 rfl ?_
  refine go_getf_p (b := (o + 2)) dX5_copyFrom_35 fl_5_22 ho.o rfl ho.p3 ?_
  refine go_iconst dX5_copyFrom_38 ?_
  refine go_aload_n dX5_copyFrom_39 rfl ?_
  refine go_getf_p (b := (e + 2)) dX5_copyFrom_40 fl_5_22 hs.o rfl hs.p3 ?_
  refine go_iconst dX5_copyFrom_43 ?_
  refine go_aload_n dX5_copyFrom_44 rfl ?_
  refine go_getf_p (b := (e + 2)) dX5_copyFrom_45 fl_5_22 hs.o rfl hs.p3 ?_
  refine go_alen (x := 40) dX5_copyFrom_48 hs.a2 (by decide) rfl ?_
  refine go_copyi dX5_copyFrom_49 ac_5_32 ho.a2 hs.a2 (by omega) (by omega) (by omega) (by decide) (Nat.le_of_ble_eq_true rfl) ?_
  refine go_aload_n dX5_copyFrom_52 rfl ?_
  refine go_getf_p (b := (o + 3)) dX5_copyFrom_53 fl_5_25 ho.o rfl ho.p4 ?_
  refine go_iconst dX5_copyFrom_56 ?_
  refine go_aload_n dX5_copyFrom_57 rfl ?_
  refine go_getf_p (b := (e + 3)) dX5_copyFrom_58 fl_5_25 hs.o rfl hs.p4 ?_
  refine go_iconst dX5_copyFrom_61 ?_
  refine go_aload_n dX5_copyFrom_62 rfl ?_
  refine go_getf_p (b := (e + 3)) dX5_copyFrom_63 fl_5_25 hs.o rfl hs.p4 ?_
  refine go_alen (x := 40) dX5_copyFrom_66 hs.a3 (by decide) rfl ?_
  refine go_copyi dX5_copyFrom_67 ac_5_32 ho.a3 hs.a3 (by omega) (by omega) (by omega) (by decide) (Nat.le_of_ble_eq_true rfl) ?_
  refine go_ret (v := 0) rfl dX5_copyFrom_70 rfl ?_
  funext b
  have hb : b = e ∨ b = e + 1 ∨ b = e + 2 ∨ b = e + 3 ∨ (b < e ∨ e + 4 ≤ b) := by omega
  rcases hb with hb | hb | hb | hb | hb
  · rw [hb, show rows m e o 4 e = m o from by unfold rows; rw [if_pos (by omega), show e - e = 0 by omega]; rfl]
    simp (disch := omega) only [cpy_row]
    funext j
    by_cases h1 : j = 1
    · rw [h1, wr_self]
    · rw [wr_ni h1]
      by_cases h0 : j = 0
      · rw [h0, wr_self]
      · rw [wr_ni h0, se_row2 hcan hs h0 h1, se_row2 hcan ho h0 h1]
  · rw [hb, show rows m e o 4 (e + 1) = m (o + 1) from by unfold rows; rw [if_pos (by omega), show e + 1 - e = 1 by omega]]
    try simp (disch := omega) only [cpy_row]
    exact cpy_full (by decide) (by simp (disch := omega) only [cpy_row, wr_row]) (by simp (disch := omega) only [cpy_row, wr_row]) hcan ho.a1 hs.a1
  · rw [hb, show rows m e o 4 (e + 2) = m (o + 2) from by unfold rows; rw [if_pos (by omega), show e + 2 - e = 2 by omega]]
    try simp (disch := omega) only [cpy_row]
    exact cpy_full (by decide) (by simp (disch := omega) only [cpy_row, wr_row]) (by simp (disch := omega) only [cpy_row, wr_row]) hcan ho.a2 hs.a2
  · rw [hb, show rows m e o 4 (e + 3) = m (o + 3) from by unfold rows; rw [if_pos (by omega), show e + 3 - e = 3 by omega]]
    try simp (disch := omega) only [cpy_row]
    exact cpy_full (by decide) (by simp (disch := omega) only [cpy_row, wr_row]) (by simp (disch := omega) only [cpy_row, wr_row]) hcan ho.a3 hs.a3
  · rw [show rows m e o 4 b = m b from by unfold rows; rw [if_neg (by omega)]]
    simp (disch := omega) only [cpy_row, wr_row]
theorem dX5_clear_0 : decode mX5_clear.2.1 0 = .ok (.aload_n 0, 1) := by decide +kernel
theorem dX5_clear_1 : decode mX5_clear.2.1 1 = .ok (.iconst 0, 1) := by decide +kernel
theorem dX5_clear_2 : decode mX5_clear.2.1 2 = .ok (.putfield 9, 3) := by decide +kernel
theorem dX5_clear_5 : decode mX5_clear.2.1 5 = .ok (.aload_n 0, 1) := by decide +kernel
theorem dX5_clear_6 : decode mX5_clear.2.1 6 = .ok (.iconst 0, 1) := by decide +kernel
theorem dX5_clear_7 : decode mX5_clear.2.1 7 = .ok (.putfield 15, 3) := by decide +kernel
theorem dX5_clear_10 : decode mX5_clear.2.1 10 = .ok (.return_, 1) := by decide +kernel
set_option maxRecDepth 4000 in
theorem ev_X5_clear {m : Mem} {e : Nat} (hs : isSe e) : Ev 0 1 mX5_clear [vr e] m (fun r m' => m' = zse m e) := by
  refine Ev.of (L := [vr e]) (by decide +kernel) rfl (Nat.le_of_ble_eq_true rfl) rfl (fun t ht => by cases ht) (fun hcan => ?_)
  refine go_aload_n dX5_clear_0 rfl ?_
  refine go_iconst dX5_clear_1 ?_
  refine go_putf_i (ki := 0) dX5_clear_2 fw_5_9 hs.o rfl rfl ⟨by omega, by omega⟩ ?_
  refine go_aload_n dX5_clear_5 rfl ?_
  refine go_iconst dX5_clear_6 ?_
  refine go_putf_i (ki := 1) dX5_clear_7 fw_5_15 hs.o rfl rfl ⟨by omega, by omega⟩ ?_
  refine go_ret (v := 0) rfl dX5_clear_10 rfl ?_
  funext b j
  unfold zse
  by_cases hb : b = e
  · rw [if_pos hb, hb]
    by_cases h1 : j = 1
    · rw [h1, wr_self]
    · rw [wr_ni h1]
      by_cases h0 : j = 0
      · rw [h0, wr_self]
      · rw [wr_ni h0, se_row2 hcan hs h0 h1]
  · rw [if_neg hb, wr_na hb, wr_na hb]
theorem dX1_clear_0 : decode mX1_clear.2.1 0 = .ok (.aload_n 0, 1) := by decide +kernel
theorem dX1_clear_1 : decode mX1_clear.2.1 1 = .ok (.bipush 6, 2) := by decide +kernel
theorem dX1_clear_3 : decode mX1_clear.2.1 3 = .ok (.putfield 9, 3) := by decide +kernel
theorem dX1_clear_6 : decode mX1_clear.2.1 6 = .ok (.aload_n 0, 1) := by decide +kernel
theorem dX1_clear_7 : decode mX1_clear.2.1 7 = .ok (.bipush 6, 2) := by decide +kernel
theorem dX1_clear_9 : decode mX1_clear.2.1 9 = .ok (.putfield 15, 3) := by decide +kernel
theorem dX1_clear_12 : decode mX1_clear.2.1 12 = .ok (.aload_n 0, 1) := by decide +kernel
theorem dX1_clear_13 : decode mX1_clear.2.1 13 = .ok (.iconst 0, 1) := by decide +kernel
theorem dX1_clear_14 : decode mX1_clear.2.1 14 = .ok (.putfield 18, 3) := by decide +kernel
theorem dX1_clear_17 : decode mX1_clear.2.1 17 = .ok (.aload_n 0, 1) := by decide +kernel
theorem dX1_clear_18 : decode mX1_clear.2.1 18 = .ok (.iconst 0, 1) := by decide +kernel
theorem dX1_clear_19 : decode mX1_clear.2.1 19 = .ok (.putfield 21, 3) := by decide +kernel
theorem dX1_clear_22 : decode mX1_clear.2.1 22 = .ok (.aload_n 0, 1) := by decide +kernel
theorem dX1_clear_23 : decode mX1_clear.2.1 23 = .ok (.iconst 0, 1) := by decide +kernel
theorem dX1_clear_24 : decode mX1_clear.2.1 24 = .ok (.putfield 24, 3) := by decide +kernel
theorem dX1_clear_27 : decode mX1_clear.2.1 27 = .ok (.return_, 1) := by decide +kernel
set_option maxRecDepth 4000 in
theorem ev_X1_clear {m : Mem} {d : Nat} (hs : isDn d) : Ev 0 1 mX1_clear [vr d] m (fun r m' => m' = zdn m d) := by
  refine Ev.of (L := [vr d]) (by decide +kernel) rfl (Nat.le_of_ble_eq_true rfl) rfl (fun t ht => by cases ht) (fun hcan => ?_)
  refine go_aload_n dX1_clear_0 rfl ?_
  refine go_bipush dX1_clear_1 (by decide) ?_
  refine go_putf_i (ki := 0) dX1_clear_3 fw_1_9 hs.o rfl rfl ⟨by omega, by omega⟩ ?_
  refine go_aload_n dX1_clear_6 rfl ?_
  refine go_bipush dX1_clear_7 (by decide) ?_
  refine go_putf_i (ki := 1) dX1_clear_9 fw_1_15 hs.o rfl rfl ⟨by omega, by omega⟩ ?_
  refine go_aload_n dX1_clear_12 rfl ?_
  refine go_iconst dX1_clear_13 ?_
  refine go_putf_i (ki := 2) dX1_clear_14 fw_1_18 hs.o rfl rfl ⟨by omega, by omega⟩ ?_
  refine go_aload_n dX1_clear_17 rfl ?_
  refine go_iconst dX1_clear_18 ?_
  refine go_putf_i (ki := 3) dX1_clear_19 fw_1_21 hs.o rfl rfl ⟨by omega, by omega⟩ ?_
  refine go_aload_n dX1_clear_22 rfl ?_
  refine go_iconst dX1_clear_23 ?_
  refine go_putf_i (ki := 4) dX1_clear_24 fw_1_24 hs.o rfl rfl ⟨by omega, by omega⟩ ?_
  refine go_ret (v := 0) rfl dX1_clear_27 rfl ?_
  funext b j
  unfold zdn
  by_cases hb : b = d
  · rw [if_pos hb, hb]
    by_cases h : j < 0 ∨ 5 ≤ j
    · rw [wr_ni (by omega), wr_ni (by omega), wr_ni (by omega), wr_ni (by omega), wr_ni (by omega), dn_row5 hcan hs h, if_neg (by omega)]
    · have : j = 0 ∨ j = 1 ∨ j = 2 ∨ j = 3 ∨ j = 4 := by omega
      rcases this with rfl | rfl | rfl | rfl | rfl <;> simp [wr]
  · rw [if_neg hb, wr_na hb, wr_na hb, wr_na hb, wr_na hb, wr_na hb]
theorem dX6_clear_0 : decode mX6_clear.2.1 0 = .ok (.aload_n 0, 1) := by decide +kernel
theorem dX6_clear_1 : decode mX6_clear.2.1 1 = .ok (.iconst 0, 1) := by decide +kernel
theorem dX6_clear_2 : decode mX6_clear.2.1 2 = .ok (.putfield 9, 3) := by decide +kernel
theorem dX6_clear_5 : decode mX6_clear.2.1 5 = .ok (.aload_n 0, 1) := by decide +kernel
theorem dX6_clear_6 : decode mX6_clear.2.1 6 = .ok (.iconst 0, 1) := by decide +kernel
theorem dX6_clear_7 : decode mX6_clear.2.1 7 = .ok (.putfield 15, 3) := by decide +kernel
theorem dX6_clear_10 : decode mX6_clear.2.1 10 = .ok (.aload_n 0, 1) := by decide +kernel
theorem dX6_clear_11 : decode mX6_clear.2.1 11 = .ok (.getfield 18, 3) := by decide +kernel
theorem dX6_clear_14 : decode mX6_clear.2.1 14 = .ok (.iconst 0, 1) := by decide +kernel
theorem dX6_clear_15 : decode mX6_clear.2.1 15 = .ok (.invokestatic 40, 3) := by decide +kernel
theorem dX6_clear_18 : decode mX6_clear.2.1 18 = .ok (.aload_n 0, 1) := by decide +kernel
theorem dX6_clear_19 : decode mX6_clear.2.1 19 = .ok (.getfield 34, 3) := by decide +kernel
theorem dX6_clear_22 : decode mX6_clear.2.1 22 = .ok (.iconst 0, 1) := by decide +kernel
theorem dX6_clear_23 : decode mX6_clear.2.1 23 = .ok (.invokestatic 40, 3) := by decide +kernel
theorem dX6_clear_26 : decode mX6_clear.2.1 26 = .ok (.aload_n 0, 1) := by decide +kernel
theorem dX6_clear_27 : decode mX6_clear.2.1 27 = .ok (.getfield 37, 3) := by decide +kernel
theorem dX6_clear_30 : decode mX6_clear.2.1 30 = .ok (.iconst 0, 1) := by decide +kernel
theorem dX6_clear_31 : decode mX6_clear.2.1 31 = .ok (.invokestatic 40, 3) := by decide +kernel
theorem dX6_clear_34 : decode mX6_clear.2.1 34 = .ok (.return_, 1) := by decide +kernel
set_option maxRecDepth 4000 in
theorem ev_X6_clear {m : Mem} {st : Nat} (hs : isSt st) : Ev 0 4 mX6_clear [vr st] m (fun r m' => m' = zst m st) := by
  refine Ev.of (L := [vr st]) (by decide +kernel) rfl (Nat.le_of_ble_eq_true rfl) rfl (fun t ht => by cases ht) (fun hcan => ?_)
  refine go_aload_n dX6_clear_0 rfl ?_
  refine go_iconst dX6_clear_1 ?_
  refine go_putf_i (ki := 0) dX6_clear_2 fw_6_9 hs.o rfl rfl ⟨by omega, by omega⟩ ?_
  refine go_aload_n dX6_clear_5 rfl ?_
  refine go_iconst dX6_clear_6 ?_
  refine go_putf_i (ki := 1) dX6_clear_7 fw_6_15 hs.o rfl rfl ⟨by omega, by omega⟩ ?_
  refine go_aload_n dX6_clear_10 rfl ?_
  refine go_getf_p (b := (st + 1)) dX6_clear_11 fl_6_18 hs.o rfl hs.p2 ?_
  refine go_iconst dX6_clear_14 ?_
  refine go_callS_v (as := [vr (st + 1), vi 0]) (S := []) (ev_J7_fill_53178 (m := (wr (wr m st 0 0) st 1 0)) (a := (st + 1)) (x := 0) (n := 81) hs.a1 (by first | assumption | omega | exact ⟨by omega, by omega⟩ | (constructor <;> omega))) rfl dX6_clear_15 cs_6_40 rfl rfl (by decide) (Nat.le_of_ble_eq_true rfl) (fun m_15 hr_15 => ?_)
  refine go_aload_n dX6_clear_18 rfl ?_
  refine go_getf_p (b := (st + 6)) dX6_clear_19 fl_6_34 hs.o rfl hs.p7 ?_
  refine go_iconst dX6_clear_22 ?_
  refine go_callS_v (as := [vr (st + 6), vi 0]) (S := []) (ev_J7_fill_53178 (m := m_15) (a := (st + 6)) (x := 0) (n := 5) hs.a6 (by first | assumption | omega | exact ⟨by omega, by omega⟩ | (constructor <;> omega))) rfl dX6_clear_23 cs_6_40 rfl rfl (by decide) (Nat.le_of_ble_eq_true rfl) (fun m_23 hr_23 => ?_)
  refine go_aload_n dX6_clear_26 rfl ?_
  refine go_getf_p (b := (st + 7)) dX6_clear_27 fl_6_37 hs.o rfl hs.p8 ?_
  refine go_iconst dX6_clear_30 ?_
  refine go_callS_v (as := [vr (st + 7), vi 0]) (S := []) (ev_J7_fill_53178 (m := m_23) (a := (st + 7)) (x := 0) (n := 5) hs.a7 (by first | assumption | omega | exact ⟨by omega, by omega⟩ | (constructor <;> omega))) rfl dX6_clear_31 cs_6_40 rfl rfl (by decide) (Nat.le_of_ble_eq_true rfl) (fun m_31 hr_31 => ?_)
  refine go_ret (v := 0) rfl dX6_clear_34 rfl ?_
  rw [hr_31, hr_23, hr_15]
  funext b j
  unfold zst fill
  have z1 : ∀ j : Int, ¬ (0 ≤ j ∧ j < (81 : Nat)) → m (st + 1) j = 0 := fun j h => (hcan (st + 1) j).2 (by rw [hs.a1.2.2.1]; omega)
  have z6 : ∀ j : Int, ¬ (0 ≤ j ∧ j < (5 : Nat)) → m (st + 6) j = 0 := fun j h => (hcan (st + 6) j).2 (by rw [hs.a6.2.2.1]; omega)
  have z7 : ∀ j : Int, ¬ (0 ≤ j ∧ j < (5 : Nat)) → m (st + 7) j = 0 := fun j h => (hcan (st + 7) j).2 (by rw [hs.a7.2.2.1]; omega)
  by_cases h7 : b = st + 7
  · subst h7
    rw [show (if st + 7 = st ∨ st + 7 = st + 1 ∨ st + 7 = st + 6 ∨ st + 7 = st + 7 then (0 : Int) else m (st + 7) j) = 0 from if_pos (by omega)]
    by_cases hj : 0 ≤ j ∧ j < (5 : Nat)
    · rw [if_pos ⟨rfl, hj⟩]
    · rw [if_neg (fun q => hj q.2), if_neg (by omega), if_neg (by omega), wr_na (by omega), wr_na (by omega), z7 j hj]
  · rw [if_neg (fun q => h7 q.1)]
    by_cases h6 : b = st + 6
    · subst h6
      rw [show (if st + 6 = st ∨ st + 6 = st + 1 ∨ st + 6 = st + 6 ∨ st + 6 = st + 7 then (0 : Int) else m (st + 6) j) = 0 from if_pos (by omega)]
      by_cases hj : 0 ≤ j ∧ j < (5 : Nat)
      · rw [if_pos ⟨rfl, hj⟩]
      · rw [if_neg (fun q => hj q.2), if_neg (by omega), wr_na (by omega), wr_na (by omega), z6 j hj]
    · rw [if_neg (fun q => h6 q.1)]
      by_cases h1 : b = st + 1
      · subst h1
        rw [show (if st + 1 = st ∨ st + 1 = st + 1 ∨ st + 1 = st + 6 ∨ st + 1 = st + 7 then (0 : Int) else m (st + 1) j) = 0 from if_pos (by omega)]
        by_cases hj : 0 ≤ j ∧ j < (81 : Nat)
        · rw [if_pos ⟨rfl, hj⟩]
        · rw [if_neg (fun q => hj q.2), wr_na (by omega), wr_na (by omega), z1 j hj]
      · rw [if_neg (fun q => h1 q.1)]
        by_cases h0 : b = st
        · subst h0
          rw [show (if b = b ∨ b = b + 1 ∨ b = b + 6 ∨ b = b + 7 then (0 : Int) else m b j) = 0 from if_pos (by omega)]
          by_cases j1 : j = 1
          · rw [j1, wr_self]
          · rw [wr_ni j1]
            by_cases j0 : j = 0
            · rw [j0, wr_self]
            · rw [wr_ni j0, st_row2 hcan hs j0 j1]
        · rw [if_neg (by omega), wr_na h0, wr_na h0]
