theorem cpy_in {m : Mem} {a0 a : Nat} {n j : Int} (h0 : 0 ≤ j) (h1 : j < n) : cpy m a0 a n a j = m a0 j := by unfold cpy; rw [if_pos ⟨rfl, h0, h1⟩]
theorem sh2_s : ∀ n : Nat, n < 400 → ishr (n : Int) 2 = (n : Int) / 4 ∧ iand (n : Int) 3 = (n : Int) % 4 := by decide +kernel
theorem sh2 {x : Int} (h0 : 0 ≤ x) (h1 : x < 400) : ishr x 2 = x / 4 ∧ iand x 3 = x % 4 := by
  have := sh2_s x.toNat (by omega)
  rw [Int.toNat_of_nonneg h0] at this
  exact this
def cntI (P : Int → Bool) (n : Int) : Int := sumI (fun j => if P j then 1 else 0) n
theorem cntI_s (P : Int → Bool) {n : Int} (h : 0 ≤ n) : cntI P (n + 1) = cntI P n + if P n then 1 else 0 := sumI_succ _ h
theorem cntI_b (P : Int → Bool) {n : Int} (h : 0 ≤ n) : 0 ≤ cntI P n ∧ cntI P n ≤ n := by
  have := sumI_bnd (f := fun j => if P j then 1 else 0) (lo := 0) (hi := 1) h (fun j _ _ => by split <;> omega)
  unfold cntI; omega
theorem cntI_0 {P : Int → Bool} {n : Int} (h : 0 ≤ n) : cntI P n = 0 ↔ ∀ j : Int, 0 ≤ j → j < n → P j = false := by
  have key : ∀ k : Nat, cntI P k = 0 ↔ ∀ j : Int, 0 ≤ j → j < k → P j = false := by
    intro k
    induction k with
    | zero => exact ⟨fun _ j a b => by omega, fun _ => rfl⟩
    | succ k ih =>
      rw [show ((k + 1 : Nat) : Int) = (k : Int) + 1 from rfl, cntI_s P (by omega)]
      have hb := cntI_b P (n := (k : Int)) (by omega)
      by_cases hp : P (k : Int) = true
      · rw [if_pos hp]
        refine ⟨fun e => by omega, fun e => ?_⟩
        have := e k (by omega) (by omega)
        rw [this] at hp; exact absurd hp (by decide)
      · rw [if_neg hp, Int.add_zero, ih]
        have hp : P (k : Int) = false := by simpa using hp
        exact ⟨fun e => stp e hp, fun e j a b => e j a (by omega)⟩
  have := key n.toNat
  rw [Int.toNat_of_nonneg h] at this
  exact this
def stP (m : Mem) (d : Nat) (a b v : Int) : Bool := decide (m (d + 3) (v / 4) * dx (v % 4) = a ∧ m (d + 3) (v / 4) * dy (v % 4) = b)
def tkP (m : Mem) (k v : Int) : Bool := stP m 8 (tx m (2 * k + 2) - tx m (2 * k)) (tx m (2 * k + 3) - tx m (2 * k + 1)) v
def trN (m : Mem) : Nat → Int
  | 0 => 1
  | k + 1 => trN m k * cntI (tkP m (k : Int)) (4 * m 8 2)
theorem trN_s {m : Mem} {k : Int} (h : 0 ≤ k) : trN m (k + 1).toNat = trN m k.toNat * cntI (tkP m k) (4 * m 8 2) := by
  rw [show (k + 1).toNat = k.toNat + 1 by omega]
  show _ * cntI (tkP m (k.toNat : Int)) _ = _
  rw [Int.toNat_of_nonneg h]
theorem pow24 : ∀ n : Nat, n < 7 → (24 : Int) ^ n ≤ 191102976 := by decide +kernel
theorem trN_b {m : Mem} (h0 : 0 ≤ m 8 2) (h1 : m 8 2 ≤ 6) (n : Nat) : 0 ≤ trN m n ∧ trN m n ≤ 24 ^ n := by
  induction n with
  | zero => show (0 : Int) ≤ 1 ∧ (1 : Int) ≤ 24 ^ 0; decide
  | succ n ih =>
    have hc := cntI_b (tkP m (n : Int)) (n := 4 * m 8 2) (by omega)
    show 0 ≤ trN m n * _ ∧ trN m n * _ ≤ _
    refine ⟨Int.mul_nonneg ih.1 hc.1, ?_⟩
    rw [Int.pow_succ]
    exact Int.mul_le_mul ih.2 (by omega) hc.1 (by have := ih.1; omega)
def trV (m : Mem) : Prop := m 1 1 % 2 = 0 ∧ 2 ≤ m 1 1 / 2 ∧ m 1 1 / 2 ≤ 7 ∧ ∀ k : Int, 0 ≤ k → k < m 1 1 / 2 → insC m 8 (tx m (2 * k)) (tx m (2 * k + 1))
def FoPost (m : Mem) (r : Int) (m' : Mem) : Prop := (¬ trV m ∧ r = -1 ∧ m' = m) ∨ (trV m ∧ r = trN m (m 1 1 / 2 - 1).toNat ∧ (∀ b : Nat, b < 92 ∨ 97 ≤ b → m' b = m b) ∧
  ((r = 0 ∧ m' 92 = m 92 ∧ m' 93 = m 93 ∧ m' 94 = m 94) ∨ (0 < r ∧ m' 92 1 = m 1 1 / 2 - 1 ∧ ∀ k : Int, 0 ≤ k → k < m 1 1 / 2 - 1 → m' 93 k = fnd (tkP m k) (4 * m 8 2) ∧ m' 94 k = cntI (tkP m k) (4 * m 8 2))))

theorem dX8_tryStep_0 : decode mX8_tryStep.2.1 0 = .ok (.iconst 0, 1) := by decide +kernel
theorem dX8_tryStep_1 : decode mX8_tryStep.2.1 1 = .ok (.istore 5, 2) := by decide +kernel
theorem dX8_tryStep_3 : decode mX8_tryStep.2.1 3 = .ok (.iconst 4, 1) := by decide +kernel
theorem dX8_tryStep_4 : decode mX8_tryStep.2.1 4 = .ok (.aload_n 1, 1) := by decide +kernel
theorem dX8_tryStep_5 : decode mX8_tryStep.2.1 5 = .ok (.getfield 55, 3) := by decide +kernel
theorem dX8_tryStep_8 : decode mX8_tryStep.2.1 8 = .ok (.imul, 1) := by decide +kernel
theorem dX8_tryStep_9 : decode mX8_tryStep.2.1 9 = .ok (.iconst 1, 1) := by decide +kernel
theorem dX8_tryStep_10 : decode mX8_tryStep.2.1 10 = .ok (.isub, 1) := by decide +kernel
theorem dX8_tryStep_11 : decode mX8_tryStep.2.1 11 = .ok (.istore 6, 2) := by decide +kernel
theorem dX8_tryStep_13 : decode mX8_tryStep.2.1 13 = .ok (.iload 6, 2) := by decide +kernel
theorem dX8_tryStep_15 : decode mX8_tryStep.2.1 15 = .ok (.ifCond .lt 64, 3) := by decide +kernel
theorem dX8_tryStep_18 : decode mX8_tryStep.2.1 18 = .ok (.aload_n 1, 1) := by decide +kernel
theorem dX8_tryStep_19 : decode mX8_tryStep.2.1 19 = .ok (.getfield 58, 3) := by decide +kernel
theorem dX8_tryStep_22 : decode mX8_tryStep.2.1 22 = .ok (.iload 6, 2) := by decide +kernel
theorem dX8_tryStep_24 : decode mX8_tryStep.2.1 24 = .ok (.iconst 2, 1) := by decide +kernel
theorem dX8_tryStep_25 : decode mX8_tryStep.2.1 25 = .ok (.ishr, 1) := by decide +kernel
theorem dX8_tryStep_26 : decode mX8_tryStep.2.1 26 = .ok (.iaload, 1) := by decide +kernel
theorem dX8_tryStep_27 : decode mX8_tryStep.2.1 27 = .ok (.istore 7, 2) := by decide +kernel
theorem dX8_tryStep_29 : decode mX8_tryStep.2.1 29 = .ok (.iload 6, 2) := by decide +kernel
theorem dX8_tryStep_31 : decode mX8_tryStep.2.1 31 = .ok (.iconst 3, 1) := by decide +kernel
theorem dX8_tryStep_32 : decode mX8_tryStep.2.1 32 = .ok (.iand, 1) := by decide +kernel
theorem dX8_tryStep_33 : decode mX8_tryStep.2.1 33 = .ok (.istore 8, 2) := by decide +kernel
theorem dX8_tryStep_35 : decode mX8_tryStep.2.1 35 = .ok (.iload 7, 2) := by decide +kernel
theorem dX8_tryStep_37 : decode mX8_tryStep.2.1 37 = .ok (.getstatic 61, 3) := by decide +kernel
theorem dX8_tryStep_40 : decode mX8_tryStep.2.1 40 = .ok (.iload 8, 2) := by decide +kernel
theorem dX8_tryStep_42 : decode mX8_tryStep.2.1 42 = .ok (.iaload, 1) := by decide +kernel
theorem dX8_tryStep_43 : decode mX8_tryStep.2.1 43 = .ok (.imul, 1) := by decide +kernel
theorem dX8_tryStep_44 : decode mX8_tryStep.2.1 44 = .ok (.iload_n 3, 1) := by decide +kernel
theorem dX8_tryStep_45 : decode mX8_tryStep.2.1 45 = .ok (.if_icmp .ne 28, 3) := by decide +kernel
theorem dX8_tryStep_48 : decode mX8_tryStep.2.1 48 = .ok (.iload 7, 2) := by decide +kernel
theorem dX8_tryStep_50 : decode mX8_tryStep.2.1 50 = .ok (.getstatic 64, 3) := by decide +kernel
theorem dX8_tryStep_53 : decode mX8_tryStep.2.1 53 = .ok (.iload 8, 2) := by decide +kernel
theorem dX8_tryStep_55 : decode mX8_tryStep.2.1 55 = .ok (.iaload, 1) := by decide +kernel
theorem dX8_tryStep_56 : decode mX8_tryStep.2.1 56 = .ok (.imul, 1) := by decide +kernel
theorem dX8_tryStep_57 : decode mX8_tryStep.2.1 57 = .ok (.iload 4, 2) := by decide +kernel
theorem dX8_tryStep_59 : decode mX8_tryStep.2.1 59 = .ok (.if_icmp .ne 14, 3) := by decide +kernel
theorem dX8_tryStep_62 : decode mX8_tryStep.2.1 62 = .ok (.aload_n 0, 1) := by decide +kernel
theorem dX8_tryStep_63 : decode mX8_tryStep.2.1 63 = .ok (.getfield 22, 3) := by decide +kernel
theorem dX8_tryStep_66 : decode mX8_tryStep.2.1 66 = .ok (.iload_n 2, 1) := by decide +kernel
theorem dX8_tryStep_67 : decode mX8_tryStep.2.1 67 = .ok (.iload 6, 2) := by decide +kernel
theorem dX8_tryStep_69 : decode mX8_tryStep.2.1 69 = .ok (.iastore, 1) := by decide +kernel
theorem dX8_tryStep_70 : decode mX8_tryStep.2.1 70 = .ok (.iinc 5 1, 3) := by decide +kernel
theorem dX8_tryStep_73 : decode mX8_tryStep.2.1 73 = .ok (.iinc 6 (-1), 3) := by decide +kernel
theorem dX8_tryStep_76 : decode mX8_tryStep.2.1 76 = .ok (.goto (-63), 3) := by decide +kernel
theorem dX8_tryStep_79 : decode mX8_tryStep.2.1 79 = .ok (.aload_n 0, 1) := by decide +kernel
theorem dX8_tryStep_80 : decode mX8_tryStep.2.1 80 = .ok (.getfield 25, 3) := by decide +kernel
theorem dX8_tryStep_83 : decode mX8_tryStep.2.1 83 = .ok (.iload_n 2, 1) := by decide +kernel
theorem dX8_tryStep_84 : decode mX8_tryStep.2.1 84 = .ok (.iload 5, 2) := by decide +kernel
theorem dX8_tryStep_86 : decode mX8_tryStep.2.1 86 = .ok (.iastore, 1) := by decide +kernel
theorem dX8_tryStep_87 : decode mX8_tryStep.2.1 87 = .ok (.return_, 1) := by decide +kernel
set_option maxRecDepth 4000 in
theorem ev_X8_tryStep {m : Mem} {k : Int} {a : Int} {b : Int} (hdn : DnOk m 8) (hk : 0 ≤ k ∧ k < 6) (ha : InR a) (hb : InR b) : Ev 0 1 mX8_tryStep [vr 92, vr 8, vi k, vi a, vi b] m (fun r m' => m' = wr (wr m 95 k (if cntI (stP m 8 a b) (4 * m 8 2) = 0 then m 95 k else fnd (stP m 8 a b) (4 * m 8 2))) 96 k (cntI (stP m 8 a b) (4 * m 8 2))) := by
  refine Ev.of (L := [vr 92, vr 8, vi k, vi a, vi b, un, un, un, un]) (by decide +kernel) rfl (Nat.le_of_ble_eq_true rfl) rfl (fun t ht => by cases ht) (fun hcan => ?_)
  obtain ⟨⟨hd0, hd1⟩, ⟨hd2, hd3⟩, ⟨hd4, hd5⟩, ⟨hd6, hd7⟩, ⟨hd8, hd9⟩, hdf, hdp, hdq⟩ := id hdn
  refine go_iconst dX8_tryStep_0 ?_
  refine go_istore (L' := [vr 92, vr 8, vi k, vi a, vi b, vi 0, un, un, un]) dX8_tryStep_1 (by decide) rfl rfl ?_
  refine go_iconst dX8_tryStep_3 ?_
  refine go_aload_n dX8_tryStep_4 rfl ?_
  refine go_getf_i (ki := 2) dX8_tryStep_5 fl_8_55 ob_8 rfl rfl (fun hf_5 => ?_)
  refine go_imul dX8_tryStep_8 ?_
  refine go_iconst dX8_tryStep_9 ?_
  refine go_isub dX8_tryStep_10 ?_
  refine go_istore (L' := [vr 92, vr 8, vi k, vi a, vi b, vi 0, vi ((4 * (m 8 2)) - 1), un, un]) dX8_tryStep_11 (by decide) rfl rfl ?_
  have lp_13 : ∀ (n_13 : Nat) (m1 : Mem) (c : Int) (v : Int) (z : Int), (-1 ≤ v) → (v < (4 * m 8 2)) → (m1 = wr m 95 k z) → (c = cntI (stP m 8 a b) (4 * m 8 2) - cntI (stP m 8 a b) (v + 1)) → ((c = 0 ∧ z = m 95 k ∧ ∀ j : Int, v < j → j < (4 * m 8 2) → (stP m 8 a b) j = false) ∨ (0 < c ∧ v < z ∧ z < (4 * m 8 2) ∧ (stP m 8 a b) z = true ∧ ∀ j : Int, v < j → j < z → (stP m 8 a b) j = false)) → (v + 1).toNat < n_13 → Go 0 1 mX8_tryStep (fun r m' => m' = wr (wr m 95 k (if cntI (stP m 8 a b) (4 * m 8 2) = 0 then m 95 k else fnd (stP m 8 a b) (4 * m 8 2))) 96 k (cntI (stP m 8 a b) (4 * m 8 2))) 13 [vr 92, vr 8, vi k, vi a, vi b, vi c, vi v, un, un] [] m1 := by
    intro n_13
    induction n_13 with
    | zero => intro m1 c v z hv0 hv1 hm hc hz hmu; exact absurd hmu (Nat.not_lt_zero _)
    | succ n_13 ih_13 =>
      intro m1 c v z hv0 hv1 hm hc hz hmu
      subst hm
      have hcb := cntI_b (stP m 8 a b) (n := (4 * m 8 2)) (by omega)
      have hcb2 := cntI_b (stP m 8 a b) (n := v + 1) (by omega)
      have hcs : 0 ≤ v → cntI (stP m 8 a b) (v + 1) = cntI (stP m 8 a b) v + if (stP m 8 a b) v then 1 else 0 := fun h => cntI_s _ h
      refine go_iload dX8_tryStep_13 rfl ?_
      refine go_if_lt (tgt := 79) dX8_tryStep_15 (by decide) ⟨by omega, by omega⟩ (fun h_15 => ?_) (fun h_15 => ?_)
      · refine go_aload_n dX8_tryStep_79 rfl ?_
        refine go_getf_p (b := 96) dX8_tryStep_80 fl_8_25 ob_92 rfl pt_92_4 ?_
        refine go_iload_n dX8_tryStep_83 rfl ?_
        refine go_iload dX8_tryStep_84 rfl ?_
        refine go_iastore dX8_tryStep_86 ar_96 (by omega) (by omega) ⟨by omega, by omega⟩ ?_
        refine go_ret (v := 0) rfl dX8_tryStep_87 rfl ?_
        have ec : c = cntI (stP m 8 a b) (4 * m 8 2) := by rw [hc, show v + 1 = 0 by omega, show cntI (stP m 8 a b) 0 = 0 from sumI_0 _]; omega
        rw [← ec]
        rcases hz with ⟨q1, q2, q3⟩ | ⟨q1, q2, q3, q4, q5⟩
        · rw [if_pos q1, q2]
        · rw [if_neg (by omega), fnd_some (by omega) q3 q4 (fun j a b => q5 j (by omega) b)]
      · refine go_aload_n dX8_tryStep_18 rfl ?_
        refine go_getf_p (b := 11) dX8_tryStep_19 fl_8_58 ob_8 rfl pt_8_7 ?_
        refine go_iload dX8_tryStep_22 rfl ?_
        refine go_iconst dX8_tryStep_24 ?_
        refine go_ishr dX8_tryStep_25 ?_
        rw [show (ishr v 2 : Int) = (v / 4) from (sh2 (by omega) (by omega)).1]
        refine go_iaload dX8_tryStep_26 ar_11 (by omega) (by omega) (fun he_26 => ?_)
        rw [show ((wr m 95 k z) 11 (v / 4) : Int) = (m 11 (v / 4)) from by rw [wr_na (by omega)]] at he_26 ⊢
        refine go_istore (L' := [vr 92, vr 8, vi k, vi a, vi b, vi c, vi v, vi (m 11 (v / 4)), un]) dX8_tryStep_27 (by decide) rfl rfl ?_
        refine go_iload dX8_tryStep_29 rfl ?_
        refine go_iconst dX8_tryStep_31 ?_
        refine go_iand dX8_tryStep_32 ?_
        rw [show (iand v 3 : Int) = (v % 4) from (sh2 (by omega) (by omega)).2]
        refine go_istore (L' := [vr 92, vr 8, vi k, vi a, vi b, vi c, vi v, vi (m 11 (v / 4)), vi (v % 4)]) dX8_tryStep_33 (by decide) rfl rfl ?_
        have hcl := hdf (v / 4) (by omega) (by omega)
        have hcl : 0 ≤ m 11 (v / 4) ∧ m 11 (v / 4) ≤ 5 := ⟨hcl.2.2.1, hcl.2.2.2⟩
        have hX := mul_b (k := m 11 (v / 4)) (u := dx (v % 4)) (by omega) (dx_b (by omega) (by omega))
        have hY := mul_b (k := m 11 (v / 4)) (u := dy (v % 4)) (by omega) (dy_b (by omega) (by omega))
        refine go_iload dX8_tryStep_35 rfl ?_
        refine go_stepX dX8_tryStep_37 sl_8_61 ?_
        refine go_iload dX8_tryStep_40 rfl ?_
        refine go_dx dX8_tryStep_42 (by omega) (by omega) ?_
        refine go_imul dX8_tryStep_43 ?_
        refine go_iload_n dX8_tryStep_44 rfl ?_
        refine go_icmp_ne (tgt := 73) dX8_tryStep_45 (by decide) ⟨by omega, by omega⟩ ⟨by omega, by omega⟩ (fun h_45 => ?_) (fun h_45 => ?_)
        · refine go_iinc (L' := [vr 92, vr 8, vi k, vi a, vi b, vi c, vi (v + (-1)), vi (m 11 (v / 4)), vi (v % 4)]) dX8_tryStep_73 rfl (by decide) rfl rfl ?_
          refine go_goto (tgt := 13) dX8_tryStep_76 (by decide) ?_
          refine go_drop (j := 7) (L' := [vr 92, vr 8, vi k, vi a, vi b, vi c, vi (v + (-1)), un, vi (v % 4)]) rfl ?_
          refine go_drop (j := 8) (L' := [vr 92, vr 8, vi k, vi a, vi b, vi c, vi (v + (-1)), un, un]) rfl ?_
          exact ih_13 (wr m 95 k z) c (v + (-1)) (if (stP m 8 a b) v then v else z) (by first | assumption | omega | rfl) (by first | assumption | omega | rfl) (by first | (rw [if_pos (show (stP m 8 a b) v = true from decide_eq_true ⟨h_45, h_59⟩)]; exact wr_wr) | (rw [if_neg (show ¬ (stP m 8 a b) v = true from fun h => h_59 (of_decide_eq_true h).2)]) | (rw [if_neg (show ¬ (stP m 8 a b) v = true from fun h => h_45 (of_decide_eq_true h).1)])) (by have hcs := hcs (by omega); first | (rw [if_pos (show (stP m 8 a b) v = true from decide_eq_true ⟨h_45, h_59⟩)] at hcs; rw [show v + -1 + 1 = v by omega]; omega) | (rw [if_neg (show ¬ (stP m 8 a b) v = true from fun h => h_59 (of_decide_eq_true h).2)] at hcs; rw [show v + -1 + 1 = v by omega]; omega) | (rw [if_neg (show ¬ (stP m 8 a b) v = true from fun h => h_45 (of_decide_eq_true h).1)] at hcs; rw [show v + -1 + 1 = v by omega]; omega)) (by
                first
                | (have hp : (stP m 8 a b) v = true := decide_eq_true ⟨h_45, h_59⟩
                   rw [if_pos hp]
                   refine Or.inr ⟨?_, by omega, by omega, hp, fun j a b => by omega⟩
                   have := hcs (by omega)
                   rcases hz with ⟨q, -⟩ | ⟨q, -⟩ <;> omega)
                | (have hp : (stP m 8 a b) v = false := (by
                     rw [Bool.eq_false_iff]
                     intro h
                     first
                     | exact h_59 (of_decide_eq_true h).2
                     | exact h_45 (of_decide_eq_true h).1)
                   rw [if_neg (by rw [hp]; decide)]
                   rcases hz with ⟨q1, q2, q3⟩ | ⟨q1, q2, q3, q4, q5⟩
                   · refine Or.inl ⟨q1, q2, fun j a b => ?_⟩
                     by_cases e : j = v
                     · rw [e]; exact hp
                     · exact q3 j (by omega) b
                   · refine Or.inr ⟨q1, by omega, q3, q4, fun j a b => ?_⟩
                     by_cases e : j = v
                     · rw [e]; exact hp
                     · exact q5 j (by omega) b)) (by omega)
        · refine go_iload dX8_tryStep_48 rfl ?_
          refine go_stepY dX8_tryStep_50 sl_8_64 ?_
          refine go_iload dX8_tryStep_53 rfl ?_
          refine go_dy dX8_tryStep_55 (by omega) (by omega) ?_
          refine go_imul dX8_tryStep_56 ?_
          refine go_iload dX8_tryStep_57 rfl ?_
          refine go_icmp_ne (tgt := 73) dX8_tryStep_59 (by decide) ⟨by omega, by omega⟩ ⟨by omega, by omega⟩ (fun h_59 => ?_) (fun h_59 => ?_)
          · refine go_iinc (L' := [vr 92, vr 8, vi k, vi a, vi b, vi c, vi (v + (-1)), vi (m 11 (v / 4)), vi (v % 4)]) dX8_tryStep_73 rfl (by decide) rfl rfl ?_
            refine go_goto (tgt := 13) dX8_tryStep_76 (by decide) ?_
            refine go_drop (j := 7) (L' := [vr 92, vr 8, vi k, vi a, vi b, vi c, vi (v + (-1)), un, vi (v % 4)]) rfl ?_
            refine go_drop (j := 8) (L' := [vr 92, vr 8, vi k, vi a, vi b, vi c, vi (v + (-1)), un, un]) rfl ?_
            exact ih_13 (wr m 95 k z) c (v + (-1)) (if (stP m 8 a b) v then v else z) (by first | assumption | omega | rfl) (by first | assumption | omega | rfl) (by first | (rw [if_pos (show (stP m 8 a b) v = true from decide_eq_true ⟨h_45, h_59⟩)]; exact wr_wr) | (rw [if_neg (show ¬ (stP m 8 a b) v = true from fun h => h_59 (of_decide_eq_true h).2)]) | (rw [if_neg (show ¬ (stP m 8 a b) v = true from fun h => h_45 (of_decide_eq_true h).1)])) (by have hcs := hcs (by omega); first | (rw [if_pos (show (stP m 8 a b) v = true from decide_eq_true ⟨h_45, h_59⟩)] at hcs; rw [show v + -1 + 1 = v by omega]; omega) | (rw [if_neg (show ¬ (stP m 8 a b) v = true from fun h => h_59 (of_decide_eq_true h).2)] at hcs; rw [show v + -1 + 1 = v by omega]; omega) | (rw [if_neg (show ¬ (stP m 8 a b) v = true from fun h => h_45 (of_decide_eq_true h).1)] at hcs; rw [show v + -1 + 1 = v by omega]; omega)) (by
                  first
                  | (have hp : (stP m 8 a b) v = true := decide_eq_true ⟨h_45, h_59⟩
                     rw [if_pos hp]
                     refine Or.inr ⟨?_, by omega, by omega, hp, fun j a b => by omega⟩
                     have := hcs (by omega)
                     rcases hz with ⟨q, -⟩ | ⟨q, -⟩ <;> omega)
                  | (have hp : (stP m 8 a b) v = false := (by
                       rw [Bool.eq_false_iff]
                       intro h
                       first
                       | exact h_59 (of_decide_eq_true h).2
                       | exact h_45 (of_decide_eq_true h).1)
                     rw [if_neg (by rw [hp]; decide)]
                     rcases hz with ⟨q1, q2, q3⟩ | ⟨q1, q2, q3, q4, q5⟩
                     · refine Or.inl ⟨q1, q2, fun j a b => ?_⟩
                       by_cases e : j = v
                       · rw [e]; exact hp
                       · exact q3 j (by omega) b
                     · refine Or.inr ⟨q1, by omega, q3, q4, fun j a b => ?_⟩
                       by_cases e : j = v
                       · rw [e]; exact hp
                       · exact q5 j (by omega) b)) (by omega)
          · refine go_aload_n dX8_tryStep_62 rfl ?_
            refine go_getf_p (b := 95) dX8_tryStep_63 fl_8_22 ob_92 rfl pt_92_3 ?_
            refine go_iload_n dX8_tryStep_66 rfl ?_
            refine go_iload dX8_tryStep_67 rfl ?_
            refine go_iastore dX8_tryStep_69 ar_95 (by omega) (by omega) ⟨by omega, by omega⟩ ?_
            refine go_iinc (L' := [vr 92, vr 8, vi k, vi a, vi b, vi (c + 1), vi v, vi (m 11 (v / 4)), vi (v % 4)]) dX8_tryStep_70 rfl (by decide) rfl rfl ?_
            refine go_iinc (L' := [vr 92, vr 8, vi k, vi a, vi b, vi (c + 1), vi (v + (-1)), vi (m 11 (v / 4)), vi (v % 4)]) dX8_tryStep_73 rfl (by decide) rfl rfl ?_
            refine go_goto (tgt := 13) dX8_tryStep_76 (by decide) ?_
            refine go_drop (j := 7) (L' := [vr 92, vr 8, vi k, vi a, vi b, vi (c + 1), vi (v + (-1)), un, vi (v % 4)]) rfl ?_
            refine go_drop (j := 8) (L' := [vr 92, vr 8, vi k, vi a, vi b, vi (c + 1), vi (v + (-1)), un, un]) rfl ?_
            exact ih_13 (wr (wr m 95 k z) 95 k v) (c + 1) (v + (-1)) (if (stP m 8 a b) v then v else z) (by first | assumption | omega | rfl) (by first | assumption | omega | rfl) (by first | (rw [if_pos (show (stP m 8 a b) v = true from decide_eq_true ⟨h_45, h_59⟩)]; exact wr_wr) | (rw [if_neg (show ¬ (stP m 8 a b) v = true from fun h => h_59 (of_decide_eq_true h).2)]) | (rw [if_neg (show ¬ (stP m 8 a b) v = true from fun h => h_45 (of_decide_eq_true h).1)])) (by have hcs := hcs (by omega); first | (rw [if_pos (show (stP m 8 a b) v = true from decide_eq_true ⟨h_45, h_59⟩)] at hcs; rw [show v + -1 + 1 = v by omega]; omega) | (rw [if_neg (show ¬ (stP m 8 a b) v = true from fun h => h_59 (of_decide_eq_true h).2)] at hcs; rw [show v + -1 + 1 = v by omega]; omega) | (rw [if_neg (show ¬ (stP m 8 a b) v = true from fun h => h_45 (of_decide_eq_true h).1)] at hcs; rw [show v + -1 + 1 = v by omega]; omega)) (by
                  first
                  | (have hp : (stP m 8 a b) v = true := decide_eq_true ⟨h_45, h_59⟩
                     rw [if_pos hp]
                     refine Or.inr ⟨?_, by omega, by omega, hp, fun j a b => by omega⟩
                     have := hcs (by omega)
                     rcases hz with ⟨q, -⟩ | ⟨q, -⟩ <;> omega)
                  | (have hp : (stP m 8 a b) v = false := (by
                       rw [Bool.eq_false_iff]
                       intro h
                       first
                       | exact h_59 (of_decide_eq_true h).2
                       | exact h_45 (of_decide_eq_true h).1)
                     rw [if_neg (by rw [hp]; decide)]
                     rcases hz with ⟨q1, q2, q3⟩ | ⟨q1, q2, q3, q4, q5⟩
                     · refine Or.inl ⟨q1, q2, fun j a b => ?_⟩
                       by_cases e : j = v
                       · rw [e]; exact hp
                       · exact q3 j (by omega) b
                     · refine Or.inr ⟨q1, by omega, q3, q4, fun j a b => ?_⟩
                       by_cases e : j = v
                       · rw [e]; exact hp
                       · exact q5 j (by omega) b)) (by omega)
  exact lp_13 _ m 0 ((4 * (m 8 2)) - 1) (m 95 k) (by first | assumption | omega | rfl) (by first | assumption | omega | rfl) wr_id.symm (by rw [show (4 * m 8 2) - 1 + 1 = (4 * m 8 2) by omega]; omega) (Or.inl ⟨rfl, rfl, fun j a b => by omega⟩) (Nat.lt_succ_self _)
theorem dX8_keep_0 : decode mX8_keep.2.1 0 = .ok (.aload_n 0, 1) := by decide +kernel
theorem dX8_keep_1 : decode mX8_keep.2.1 1 = .ok (.iload_n 1, 1) := by decide +kernel
theorem dX8_keep_2 : decode mX8_keep.2.1 2 = .ok (.putfield 15, 3) := by decide +kernel
theorem dX8_keep_5 : decode mX8_keep.2.1 5 = .ok (.aload_n 0, 1) := by decide +kernel
theorem dX8_keep_6 : decode mX8_keep.2.1 6 = .ok (.getfield 22, 3) := by decide +kernel
theorem dX8_keep_9 : decode mX8_keep.2.1 9 = .ok (.iconst 0, 1) := by decide +kernel
theorem dX8_keep_10 : decode mX8_keep.2.1 10 = .ok (.aload_n 0, 1) := by decide +kernel
theorem dX8_keep_11 : decode mX8_keep.2.1 11 = .ok (.getfield 9, 3) := by decide +kernel
theorem dX8_keep_14 : decode mX8_keep.2.1 14 = .ok (.iconst 0, 1) := by decide +kernel
theorem dX8_keep_15 : decode mX8_keep.2.1 15 = .ok (.bipush 6, 2) := by decide +kernel
theorem dX8_keep_17 : decode mX8_keep.2.1 17 = .ok (.invokestatic 67, 3) := by decide +kernel
theorem dX8_keep_20 : decode mX8_keep.2.1 20 = .ok (.aload_n 0, 1) := by decide +kernel
theorem dX8_keep_21 : decode mX8_keep.2.1 21 = .ok (.getfield 25, 3) := by decide +kernel
theorem dX8_keep_24 : decode mX8_keep.2.1 24 = .ok (.iconst 0, 1) := by decide +kernel
theorem dX8_keep_25 : decode mX8_keep.2.1 25 = .ok (.aload_n 0, 1) := by decide +kernel
theorem dX8_keep_26 : decode mX8_keep.2.1 26 = .ok (.getfield 19, 3) := by decide +kernel
theorem dX8_keep_29 : decode mX8_keep.2.1 29 = .ok (.iconst 0, 1) := by decide +kernel
theorem dX8_keep_30 : decode mX8_keep.2.1 30 = .ok (.bipush 6, 2) := by decide +kernel
theorem dX8_keep_32 : decode mX8_keep.2.1 32 = .ok (.invokestatic 67, 3) := by decide +kernel
theorem dX8_keep_35 : decode mX8_keep.2.1 35 = .ok (.return_, 1) := by decide +kernel
set_option maxRecDepth 4000 in
theorem ev_X8_keep {m : Mem} {n : Int} (hn : InR n) : Ev 0 4 mX8_keep [vr 92, vi n] m (fun r m' => m' = cpy (cpy (wr m 92 1 n) 95 93 6) 96 94 6) := by
  refine Ev.of (L := [vr 92, vi n]) (by decide +kernel) rfl (Nat.le_of_ble_eq_true rfl) rfl (fun t ht => by cases ht) (fun hcan => ?_)
  refine go_aload_n dX8_keep_0 rfl ?_
  refine go_iload_n dX8_keep_1 rfl ?_
  refine go_putf_i (ki := 1) dX8_keep_2 fw_8_15 ob_92 rfl rfl ⟨by omega, by omega⟩ ?_
  refine go_aload_n dX8_keep_5 rfl ?_
  refine go_getf_p (b := 95) dX8_keep_6 fl_8_22 ob_92 rfl pt_92_3 ?_
  refine go_iconst dX8_keep_9 ?_
  refine go_aload_n dX8_keep_10 rfl ?_
  refine go_getf_p (b := 93) dX8_keep_11 fl_8_9 ob_92 rfl pt_92_0 ?_
  refine go_iconst dX8_keep_14 ?_
  refine go_bipush dX8_keep_15 (by decide) ?_
  refine go_copyi dX8_keep_17 ac_8_67 ar_95 ar_93 (by omega) (by omega) (by omega) (by decide) (Nat.le_of_ble_eq_true rfl) ?_
  refine go_aload_n dX8_keep_20 rfl ?_
  refine go_getf_p (b := 96) dX8_keep_21 fl_8_25 ob_92 rfl pt_92_4 ?_
  refine go_iconst dX8_keep_24 ?_
  refine go_aload_n dX8_keep_25 rfl ?_
  refine go_getf_p (b := 94) dX8_keep_26 fl_8_19 ob_92 rfl pt_92_2 ?_
  refine go_iconst dX8_keep_29 ?_
  refine go_bipush dX8_keep_30 (by decide) ?_
  refine go_copyi dX8_keep_32 ac_8_67 ar_96 ar_94 (by omega) (by omega) (by omega) (by decide) (Nat.le_of_ble_eq_true rfl) ?_
  exact go_ret (v := 0) rfl dX8_keep_35 rfl (by first | assumption | rfl | omega)
theorem dX8_follow_0 : decode mX8_follow.2.1 0 = .ok (.aload_n 1, 1) := by decide +kernel
theorem dX8_follow_1 : decode mX8_follow.2.1 1 = .ok (.getfield 28, 3) := by decide +kernel
theorem dX8_follow_4 : decode mX8_follow.2.1 4 = .ok (.iconst 2, 1) := by decide +kernel
theorem dX8_follow_5 : decode mX8_follow.2.1 5 = .ok (.idiv, 1) := by decide +kernel
theorem dX8_follow_6 : decode mX8_follow.2.1 6 = .ok (.istore_n 3, 1) := by decide +kernel
theorem dX8_follow_7 : decode mX8_follow.2.1 7 = .ok (.aload_n 1, 1) := by decide +kernel
theorem dX8_follow_8 : decode mX8_follow.2.1 8 = .ok (.getfield 28, 3) := by decide +kernel
theorem dX8_follow_11 : decode mX8_follow.2.1 11 = .ok (.iconst 2, 1) := by decide +kernel
theorem dX8_follow_12 : decode mX8_follow.2.1 12 = .ok (.irem, 1) := by decide +kernel
theorem dX8_follow_13 : decode mX8_follow.2.1 13 = .ok (.ifCond .ne 13, 3) := by decide +kernel
theorem dX8_follow_16 : decode mX8_follow.2.1 16 = .ok (.iload_n 3, 1) := by decide +kernel
theorem dX8_follow_17 : decode mX8_follow.2.1 17 = .ok (.iconst 2, 1) := by decide +kernel
theorem dX8_follow_18 : decode mX8_follow.2.1 18 = .ok (.bipush 7, 2) := by decide +kernel
theorem dX8_follow_20 : decode mX8_follow.2.1 20 = .ok (.invokestatic 33, 3) := by decide +kernel
theorem dX8_follow_23 : decode mX8_follow.2.1 23 = .ok (.ifCond .ne 5, 3) := by decide +kernel
theorem dX8_follow_26 : decode mX8_follow.2.1 26 = .ok (.iconst (-1), 1) := by decide +kernel
theorem dX8_follow_27 : decode mX8_follow.2.1 27 = .ok (.ireturn, 1) := by decide +kernel
theorem dX8_follow_28 : decode mX8_follow.2.1 28 = .ok (.iconst 0, 1) := by decide +kernel
theorem dX8_follow_29 : decode mX8_follow.2.1 29 = .ok (.istore 4, 2) := by decide +kernel
theorem dX8_follow_31 : decode mX8_follow.2.1 31 = .ok (.iload 4, 2) := by decide +kernel
theorem dX8_follow_33 : decode mX8_follow.2.1 33 = .ok (.iload_n 3, 1) := by decide +kernel
theorem dX8_follow_34 : decode mX8_follow.2.1 34 = .ok (.if_icmp .ge 36, 3) := by decide +kernel
theorem dX8_follow_37 : decode mX8_follow.2.1 37 = .ok (.aload_n 2, 1) := by decide +kernel
theorem dX8_follow_38 : decode mX8_follow.2.1 38 = .ok (.aload_n 1, 1) := by decide +kernel
theorem dX8_follow_39 : decode mX8_follow.2.1 39 = .ok (.iconst 2, 1) := by decide +kernel
theorem dX8_follow_40 : decode mX8_follow.2.1 40 = .ok (.iload 4, 2) := by decide +kernel
theorem dX8_follow_42 : decode mX8_follow.2.1 42 = .ok (.imul, 1) := by decide +kernel
theorem dX8_follow_43 : decode mX8_follow.2.1 43 = .ok (.invokevirtual 37, 3) := by decide +kernel
theorem dX8_follow_46 : decode mX8_follow.2.1 46 = .ok (.aload_n 1, 1) := by decide +kernel
theorem dX8_follow_47 : decode mX8_follow.2.1 47 = .ok (.iconst 2, 1) := by decide +kernel
theorem dX8_follow_48 : decode mX8_follow.2.1 48 = .ok (.iload 4, 2) := by decide +kernel
theorem dX8_follow_50 : decode mX8_follow.2.1 50 = .ok (.imul, 1) := by decide +kernel
theorem dX8_follow_51 : decode mX8_follow.2.1 51 = .ok (.iconst 1, 1) := by decide +kernel
theorem dX8_follow_52 : decode mX8_follow.2.1 52 = .ok (.iadd, 1) := by decide +kernel
theorem dX8_follow_53 : decode mX8_follow.2.1 53 = .ok (.invokevirtual 37, 3) := by decide +kernel
theorem dX8_follow_56 : decode mX8_follow.2.1 56 = .ok (.invokevirtual 41, 3) := by decide +kernel
theorem dX8_follow_59 : decode mX8_follow.2.1 59 = .ok (.ifCond .ne 5, 3) := by decide +kernel
theorem dX8_follow_62 : decode mX8_follow.2.1 62 = .ok (.iconst (-1), 1) := by decide +kernel
theorem dX8_follow_63 : decode mX8_follow.2.1 63 = .ok (.ireturn, 1) := by decide +kernel
theorem dX8_follow_64 : decode mX8_follow.2.1 64 = .ok (.iinc 4 1, 3) := by decide +kernel
theorem dX8_follow_67 : decode mX8_follow.2.1 67 = .ok (.goto (-36), 3) := by decide +kernel
theorem dX8_follow_70 : decode mX8_follow.2.1 70 = .ok (.iconst 1, 1) := by decide +kernel
theorem dX8_follow_71 : decode mX8_follow.2.1 71 = .ok (.istore 4, 2) := by decide +kernel
theorem dX8_follow_73 : decode mX8_follow.2.1 73 = .ok (.iconst 0, 1) := by decide +kernel
theorem dX8_follow_74 : decode mX8_follow.2.1 74 = .ok (.istore 5, 2) := by decide +kernel
theorem dX8_follow_76 : decode mX8_follow.2.1 76 = .ok (.iload 5, 2) := by decide +kernel
theorem dX8_follow_78 : decode mX8_follow.2.1 78 = .ok (.iload_n 3, 1) := by decide +kernel
theorem dX8_follow_79 : decode mX8_follow.2.1 79 = .ok (.iconst 1, 1) := by decide +kernel
theorem dX8_follow_80 : decode mX8_follow.2.1 80 = .ok (.isub, 1) := by decide +kernel
theorem dX8_follow_81 : decode mX8_follow.2.1 81 = .ok (.if_icmp .ge 68, 3) := by decide +kernel
theorem dX8_follow_84 : decode mX8_follow.2.1 84 = .ok (.aload_n 0, 1) := by decide +kernel
theorem dX8_follow_85 : decode mX8_follow.2.1 85 = .ok (.aload_n 2, 1) := by decide +kernel
theorem dX8_follow_86 : decode mX8_follow.2.1 86 = .ok (.iload 5, 2) := by decide +kernel
theorem dX8_follow_88 : decode mX8_follow.2.1 88 = .ok (.aload_n 1, 1) := by decide +kernel
theorem dX8_follow_89 : decode mX8_follow.2.1 89 = .ok (.iconst 2, 1) := by decide +kernel
theorem dX8_follow_90 : decode mX8_follow.2.1 90 = .ok (.iload 5, 2) := by decide +kernel
theorem dX8_follow_92 : decode mX8_follow.2.1 92 = .ok (.imul, 1) := by decide +kernel
theorem dX8_follow_93 : decode mX8_follow.2.1 93 = .ok (.iconst 2, 1) := by decide +kernel
theorem dX8_follow_94 : decode mX8_follow.2.1 94 = .ok (.iadd, 1) := by decide +kernel
theorem dX8_follow_95 : decode mX8_follow.2.1 95 = .ok (.invokevirtual 37, 3) := by decide +kernel
theorem dX8_follow_98 : decode mX8_follow.2.1 98 = .ok (.aload_n 1, 1) := by decide +kernel
theorem dX8_follow_99 : decode mX8_follow.2.1 99 = .ok (.iconst 2, 1) := by decide +kernel
theorem dX8_follow_100 : decode mX8_follow.2.1 100 = .ok (.iload 5, 2) := by decide +kernel
theorem dX8_follow_102 : decode mX8_follow.2.1 102 = .ok (.imul, 1) := by decide +kernel
theorem dX8_follow_103 : decode mX8_follow.2.1 103 = .ok (.invokevirtual 37, 3) := by decide +kernel
theorem dX8_follow_106 : decode mX8_follow.2.1 106 = .ok (.isub, 1) := by decide +kernel
theorem dX8_follow_107 : decode mX8_follow.2.1 107 = .ok (.aload_n 1, 1) := by decide +kernel
theorem dX8_follow_108 : decode mX8_follow.2.1 108 = .ok (.iconst 2, 1) := by decide +kernel
theorem dX8_follow_109 : decode mX8_follow.2.1 109 = .ok (.iload 5, 2) := by decide +kernel
theorem dX8_follow_111 : decode mX8_follow.2.1 111 = .ok (.imul, 1) := by decide +kernel
theorem dX8_follow_112 : decode mX8_follow.2.1 112 = .ok (.iconst 3, 1) := by decide +kernel
theorem dX8_follow_113 : decode mX8_follow.2.1 113 = .ok (.iadd, 1) := by decide +kernel
theorem dX8_follow_114 : decode mX8_follow.2.1 114 = .ok (.invokevirtual 37, 3) := by decide +kernel
theorem dX8_follow_117 : decode mX8_follow.2.1 117 = .ok (.aload_n 1, 1) := by decide +kernel
theorem dX8_follow_118 : decode mX8_follow.2.1 118 = .ok (.iconst 2, 1) := by decide +kernel
theorem dX8_follow_119 : decode mX8_follow.2.1 119 = .ok (.iload 5, 2) := by decide +kernel
theorem dX8_follow_121 : decode mX8_follow.2.1 121 = .ok (.imul, 1) := by decide +kernel
theorem dX8_follow_122 : decode mX8_follow.2.1 122 = .ok (.iconst 1, 1) := by decide +kernel
theorem dX8_follow_123 : decode mX8_follow.2.1 123 = .ok (.iadd, 1) := by decide +kernel
theorem dX8_follow_124 : decode mX8_follow.2.1 124 = .ok (.invokevirtual 37, 3) := by decide +kernel
theorem dX8_follow_127 : decode mX8_follow.2.1 127 = .ok (.isub, 1) := by decide +kernel
theorem dX8_follow_128 : decode mX8_follow.2.1 128 = .ok (.invokevirtual 47, 3) := by decide +kernel
theorem dX8_follow_131 : decode mX8_follow.2.1 131 = .ok (.iload 4, 2) := by decide +kernel
theorem dX8_follow_133 : decode mX8_follow.2.1 133 = .ok (.aload_n 0, 1) := by decide +kernel
theorem dX8_follow_134 : decode mX8_follow.2.1 134 = .ok (.getfield 25, 3) := by decide +kernel
theorem dX8_follow_137 : decode mX8_follow.2.1 137 = .ok (.iload 5, 2) := by decide +kernel
theorem dX8_follow_139 : decode mX8_follow.2.1 139 = .ok (.iaload, 1) := by decide +kernel
theorem dX8_follow_140 : decode mX8_follow.2.1 140 = .ok (.imul, 1) := by decide +kernel
theorem dX8_follow_141 : decode mX8_follow.2.1 141 = .ok (.istore 4, 2) := by decide +kernel
theorem dX8_follow_143 : decode mX8_follow.2.1 143 = .ok (.iinc 5 1, 3) := by decide +kernel
theorem dX8_follow_146 : decode mX8_follow.2.1 146 = .ok (.goto (-70), 3) := by decide +kernel
theorem dX8_follow_149 : decode mX8_follow.2.1 149 = .ok (.iload 4, 2) := by decide +kernel
theorem dX8_follow_151 : decode mX8_follow.2.1 151 = .ok (.ifCond .le 10, 3) := by decide +kernel
theorem dX8_follow_154 : decode mX8_follow.2.1 154 = .ok (.aload_n 0, 1) := by decide +kernel
theorem dX8_follow_155 : decode mX8_follow.2.1 155 = .ok (.iload_n 3, 1) := by decide +kernel
theorem dX8_follow_156 : decode mX8_follow.2.1 156 = .ok (.iconst 1, 1) := by decide +kernel
theorem dX8_follow_157 : decode mX8_follow.2.1 157 = .ok (.isub, 1) := by decide +kernel
theorem dX8_follow_158 : decode mX8_follow.2.1 158 = .ok (.invokevirtual 51, 3) := by decide +kernel
theorem dX8_follow_161 : decode mX8_follow.2.1 161 = .ok (.iload 4, 2) := by decide +kernel
theorem dX8_follow_163 : decode mX8_follow.2.1 163 = .ok (.ireturn, 1) := by decide +kernel
set_option maxRecDepth 4000 in
theorem ev_X8_follow {m : Mem}  (hsz : 0 ≤ m 1 1 ∧ m 1 1 ≤ 940) (hdn : DnOk m 8) : Ev 0 5 mX8_follow [vr 92, vr 1, vr 8] m (fun r m' => FoPost m r m') := by
  refine Ev.of (L := [vr 92, vr 1, vr 8, un, un, un]) (by decide +kernel) rfl (Nat.le_of_ble_eq_true rfl) rfl (fun t ht => by cases ht; first | exact Or.inl rfl | exact Or.inr (Or.inl rfl) | exact Or.inr (Or.inr rfl)) (fun hcan => ?_)
  obtain ⟨⟨hd0, hd1⟩, ⟨hd2, hd3⟩, ⟨hd4, hd5⟩, ⟨hd6, hd7⟩, ⟨hd8, hd9⟩, hdf, hdp, hdq⟩ := id hdn
  have htb : ∀ i, 0 ≤ tx m i ∧ tx m i ≤ 255 := fun i => iand255 _
  refine go_aload_n dX8_follow_0 rfl ?_
  refine go_getf_i (ki := 1) dX8_follow_1 fl_8_28 ob_1 rfl rfl (fun hf_1 => ?_)
  refine go_iconst dX8_follow_4 ?_
  refine go_idiv dX8_follow_5 ⟨by omega, by omega⟩ ⟨by omega, by omega⟩ (by omega) (by omega) ?_
  refine go_istore_n (L' := [vr 92, vr 1, vr 8, vi ((m 1 1) / 2), un, un]) dX8_follow_6 (by decide) rfl rfl ?_
  refine go_aload_n dX8_follow_7 rfl ?_
  refine go_getf_i (ki := 1) dX8_follow_8 fl_8_28 ob_1 rfl rfl (fun hf_8 => ?_)
  refine go_iconst dX8_follow_11 ?_
  refine go_irem dX8_follow_12 ⟨by omega, by omega⟩ ⟨by omega, by omega⟩ (by omega) (by omega) ?_
  refine go_if_ne (tgt := 26) dX8_follow_13 (by decide) ⟨by omega, by omega⟩ (fun h_13 => ?_) (fun h_13 => ?_)
  · refine go_iconst dX8_follow_26 ?_
    refine go_ret (v := (-1)) rfl dX8_follow_27 (okI ⟨by omega, by omega⟩) ?_
    exact Or.inl ⟨fun h => by have h1 := h.1; have h2 := h.2.1; have h3 := h.2.2.1; omega, rfl, rfl⟩
  · refine go_iload_n dX8_follow_16 rfl ?_
    refine go_iconst dX8_follow_17 ?_
    refine go_bipush dX8_follow_18 (by decide) ?_
    refine go_callSp_z (as := [vi ((m 1 1) / 2), vi 2, vi 7]) (S := []) (ev_X11_isIn (m := m) (n := ((m 1 1) / 2)) (lo := 2) (hi := 7) (by first | assumption | omega | exact ⟨by omega, by omega⟩ | (constructor <;> omega)) (by first | assumption | omega | exact ⟨by omega, by omega⟩ | (constructor <;> omega)) (by first | assumption | omega | exact ⟨by omega, by omega⟩ | (constructor <;> omega))) rfl dX8_follow_20 cs_8_33 rfl rfl (by decide) (Nat.le_of_ble_eq_true rfl) (fun r_20 hr_20 ho_20 => ?_)
    refine go_if_ne (tgt := 28) dX8_follow_23 (by decide) ⟨by omega, by omega⟩ (fun h_23 => ?_) (fun h_23 => ?_)
    · refine go_iconst dX8_follow_28 ?_
      refine go_istore (L' := [vr 92, vr 1, vr 8, vi ((m 1 1) / 2), vi 0, un]) dX8_follow_29 (by decide) rfl rfl ?_
      have lp_31 : ∀ (n_31 : Nat) (k : Int) , (0 ≤ k) → (k ≤ m 1 1 / 2) → (∀ j : Int, 0 ≤ j → j < k → insC m 8 (tx m (2 * j)) (tx m (2 * j + 1))) → (m 1 1 / 2 - k).toNat < n_31 → Go 0 5 mX8_follow (fun r m' => FoPost m r m') 31 [vr 92, vr 1, vr 8, vi ((m 1 1) / 2), vi k, un] [] m := by
        intro n_31
        induction n_31 with
        | zero => intro k hk0 hk1 hin hmu; exact absurd hmu (Nat.not_lt_zero _)
        | succ n_31 ih_31 =>
          intro k hk0 hk1 hin hmu
          have hb0 := htb (2 * k)
          have hb1 := htb (2 * k + 1)
          refine go_iload dX8_follow_31 rfl ?_
          refine go_iload_n dX8_follow_33 rfl ?_
          refine go_icmp_ge (tgt := 70) dX8_follow_34 (by decide) ⟨by omega, by omega⟩ ⟨by omega, by omega⟩ (fun h_34 => ?_) (fun h_34 => ?_)
          · refine go_iconst dX8_follow_70 ?_
            refine go_istore (L' := [vr 92, vr 1, vr 8, vi ((m 1 1) / 2), vi 1, un]) dX8_follow_71 (by decide) rfl rfl ?_
            refine go_iconst dX8_follow_73 ?_
            refine go_istore (L' := [vr 92, vr 1, vr 8, vi ((m 1 1) / 2), vi 1, vi 0]) dX8_follow_74 (by decide) rfl rfl ?_
            have lp_76 : ∀ (n_76 : Nat) (m1 : Mem) (w : Int) (k : Int) , (0 ≤ k) → (k ≤ m 1 1 / 2 - 1) → (w = trN m k.toNat) → (∀ b : Nat, b ≠ 95 → b ≠ 96 → m1 b = m b) → (∀ j : Int, 0 ≤ j → j < k → m1 96 j = cntI (tkP m j) (4 * m 8 2) ∧ (cntI (tkP m j) (4 * m 8 2) ≠ 0 → m1 95 j = fnd (tkP m j) (4 * m 8 2))) → (w ≠ 0 → ∀ j : Int, 0 ≤ j → j < k → cntI (tkP m j) (4 * m 8 2) ≠ 0) → (m 1 1 / 2 - 1 - k).toNat < n_76 → Go 0 5 mX8_follow (fun r m' => FoPost m r m') 76 [vr 92, vr 1, vr 8, vi ((m 1 1) / 2), vi w, vi k] [] m1 := by
              intro n_76
              induction n_76 with
              | zero => intro m1 w k hk0 hk1 hw hfr hrw hnz hmu; exact absurd hmu (Nat.not_lt_zero _)
              | succ n_76 ih_76 =>
                intro m1 w k hk0 hk1 hw hfr hrw hnz hmu
                have etx : tx m1 = tx m := by funext j; unfold tx; rw [hfr 2 (by decide) (by decide)]
                have e1 : m1 1 = m 1 := hfr 1 (by decide) (by decide)
                have hwb := trN_b (m := m) hd4 hd5 k.toNat
                have hpw := pow24 k.toNat (by omega)
                rw [← hw] at hwb
                have hb0 := htb (2 * k)
                have hb1 := htb (2 * k + 1)
                have hb2 := htb (2 * k + 2)
                have hb3 := htb (2 * k + 3)
                refine go_iload dX8_follow_76 rfl ?_
                refine go_iload_n dX8_follow_78 rfl ?_
                refine go_iconst dX8_follow_79 ?_
                refine go_isub dX8_follow_80 ?_
                refine go_icmp_ge (tgt := 149) dX8_follow_81 (by decide) ⟨by omega, by omega⟩ ⟨by omega, by omega⟩ (fun h_81 => ?_) (fun h_81 => ?_)
                · refine go_iload dX8_follow_149 rfl ?_
                  refine go_if_le (tgt := 161) dX8_follow_151 (by decide) ⟨by omega, by omega⟩ (fun h_151 => ?_) (fun h_151 => ?_)
                  · refine go_iload dX8_follow_161 rfl ?_
                    refine go_ret (v := w) rfl dX8_follow_163 (okI ⟨by omega, by omega⟩) ?_
                    have ek : k = m 1 1 / 2 - 1 := by omega
                    have hV : trV m := ⟨by omega, by omega, by omega, fun j a b => hin j a (by omega)⟩
                    refine Or.inr ⟨hV, by rw [hw, ek], ?_, ?_⟩
                    · intro b hb
                      first
                      | exact hfr b (by omega) (by omega)
                      | (rw [hr_158, cpy_row (by omega), cpy_row (by omega), wr_row (by omega)]; exact hfr b (by omega) (by omega))
                    · first
                      | (exact Or.inl ⟨by omega, hfr 92 (by decide) (by decide), hfr 93 (by decide) (by decide), hfr 94 (by decide) (by decide)⟩)
                      | (refine Or.inr ⟨by omega, ?_, fun j a b => ?_⟩
                         · rw [hr_158, cpy_row (by decide), cpy_row (by decide), wr_self]
                         · have q := hrw j a (by omega)
                           have z := hnz (by omega) j a (by omega)
                           rw [hr_158]
                           refine ⟨?_, ?_⟩
                           · rw [cpy_row (by decide), cpy_in a (by omega), wr_na (by decide)]; exact q.2 z
                           · rw [cpy_in a (by omega), cpy_row (by decide), wr_na (by decide)]; exact q.1)
                  · refine go_aload_n dX8_follow_154 rfl ?_
                    refine go_iload_n dX8_follow_155 rfl ?_
                    refine go_iconst dX8_follow_156 ?_
                    refine go_isub dX8_follow_157 ?_
                    refine go_callV_v (as := [vi (((m 1 1) / 2) - 1)]) (S := []) (b := 92) (ev_X8_keep (m := m1) (n := (((m 1 1) / 2) - 1)) (by first | assumption | omega | exact ⟨by omega, by omega⟩ | (constructor <;> omega))) rfl dX8_follow_158 cv_8_51 rfl rfl ob_92 rfl (by decide) (Nat.le_of_ble_eq_true rfl) (fun m_158 hr_158 => ?_)
                    refine go_iload dX8_follow_161 rfl ?_
                    refine go_ret (v := w) rfl dX8_follow_163 (okI ⟨by omega, by omega⟩) ?_
                    have ek : k = m 1 1 / 2 - 1 := by omega
                    have hV : trV m := ⟨by omega, by omega, by omega, fun j a b => hin j a (by omega)⟩
                    refine Or.inr ⟨hV, by rw [hw, ek], ?_, ?_⟩
                    · intro b hb
                      first
                      | exact hfr b (by omega) (by omega)
                      | (rw [hr_158, cpy_row (by omega), cpy_row (by omega), wr_row (by omega)]; exact hfr b (by omega) (by omega))
                    · first
                      | (exact Or.inl ⟨by omega, hfr 92 (by decide) (by decide), hfr 93 (by decide) (by decide), hfr 94 (by decide) (by decide)⟩)
                      | (refine Or.inr ⟨by omega, ?_, fun j a b => ?_⟩
                         · rw [hr_158, cpy_row (by decide), cpy_row (by decide), wr_self]
                         · have q := hrw j a (by omega)
                           have z := hnz (by omega) j a (by omega)
                           rw [hr_158]
                           refine ⟨?_, ?_⟩
                           · rw [cpy_row (by decide), cpy_in a (by omega), wr_na (by decide)]; exact q.2 z
                           · rw [cpy_in a (by omega), cpy_row (by decide), wr_na (by decide)]; exact q.1)
                · refine go_aload_n dX8_follow_84 rfl ?_
                  refine go_aload_n dX8_follow_85 rfl ?_
                  refine go_iload dX8_follow_86 rfl ?_
                  refine go_aload_n dX8_follow_88 rfl ?_
                  refine go_iconst dX8_follow_89 ?_
                  refine go_iload dX8_follow_90 rfl ?_
                  refine go_imul dX8_follow_92 ?_
                  refine go_iconst dX8_follow_93 ?_
                  refine go_iadd dX8_follow_94 ?_
                  refine go_callVp_i (as := [vi ((2 * k) + 2)]) (S := [vi k, vr 8, vr 92]) (b := 1) (ev_X7_byteOf (m := m1) (i := ((2 * k) + 2)) (by rw [e1]; exact hsz) (by first | assumption | omega | exact ⟨by omega, by omega⟩ | (constructor <;> omega))) rfl dX8_follow_95 cv_8_37 rfl rfl ob_1 rfl (by decide) (Nat.le_of_ble_eq_true rfl) (fun r_95 hr_95 ho_95 => ?_)
                  rw [etx, e1, if_pos (by omega)] at hr_95
                  refine go_aload_n dX8_follow_98 rfl ?_
                  refine go_iconst dX8_follow_99 ?_
                  refine go_iload dX8_follow_100 rfl ?_
                  refine go_imul dX8_follow_102 ?_
                  refine go_callVp_i (as := [vi (2 * k)]) (S := [vi r_95, vi k, vr 8, vr 92]) (b := 1) (ev_X7_byteOf (m := m1) (i := (2 * k)) (by rw [e1]; exact hsz) (by first | assumption | omega | exact ⟨by omega, by omega⟩ | (constructor <;> omega))) rfl dX8_follow_103 cv_8_37 rfl rfl ob_1 rfl (by decide) (Nat.le_of_ble_eq_true rfl) (fun r_103 hr_103 ho_103 => ?_)
                  rw [etx, e1, if_pos (by omega)] at hr_103
                  refine go_isub dX8_follow_106 ?_
                  refine go_aload_n dX8_follow_107 rfl ?_
                  refine go_iconst dX8_follow_108 ?_
                  refine go_iload dX8_follow_109 rfl ?_
                  refine go_imul dX8_follow_111 ?_
                  refine go_iconst dX8_follow_112 ?_
                  refine go_iadd dX8_follow_113 ?_
                  refine go_callVp_i (as := [vi ((2 * k) + 3)]) (S := [vi (r_95 - r_103), vi k, vr 8, vr 92]) (b := 1) (ev_X7_byteOf (m := m1) (i := ((2 * k) + 3)) (by rw [e1]; exact hsz) (by first | assumption | omega | exact ⟨by omega, by omega⟩ | (constructor <;> omega))) rfl dX8_follow_114 cv_8_37 rfl rfl ob_1 rfl (by decide) (Nat.le_of_ble_eq_true rfl) (fun r_114 hr_114 ho_114 => ?_)
                  rw [etx, e1, if_pos (by omega)] at hr_114
                  refine go_aload_n dX8_follow_117 rfl ?_
                  refine go_iconst dX8_follow_118 ?_
                  refine go_iload dX8_follow_119 rfl ?_
                  refine go_imul dX8_follow_121 ?_
                  refine go_iconst dX8_follow_122 ?_
                  refine go_iadd dX8_follow_123 ?_
                  refine go_callVp_i (as := [vi ((2 * k) + 1)]) (S := [vi r_114, vi (r_95 - r_103), vi k, vr 8, vr 92]) (b := 1) (ev_X7_byteOf (m := m1) (i := ((2 * k) + 1)) (by rw [e1]; exact hsz) (by first | assumption | omega | exact ⟨by omega, by omega⟩ | (constructor <;> omega))) rfl dX8_follow_124 cv_8_37 rfl rfl ob_1 rfl (by decide) (Nat.le_of_ble_eq_true rfl) (fun r_124 hr_124 ho_124 => ?_)
                  rw [etx, e1, if_pos (by omega)] at hr_124
                  refine go_isub dX8_follow_127 ?_
                  refine go_callV_v (as := [vr 8, vi k, vi (r_95 - r_103), vi (r_114 - r_124)]) (S := []) (b := 92) (ev_X8_tryStep (m := m1) (k := k) (a := (r_95 - r_103)) (b := (r_114 - r_124)) (hdn.congr (fun k hk => hfr _ (by omega) (by omega))) (by first | assumption | omega | exact ⟨by omega, by omega⟩ | (constructor <;> omega)) (by first | assumption | omega | exact ⟨by omega, by omega⟩ | (constructor <;> omega)) (by first | assumption | omega | exact ⟨by omega, by omega⟩ | (constructor <;> omega))) rfl dX8_follow_128 cv_8_47 rfl rfl ob_92 rfl (by decide) (Nat.le_of_ble_eq_true rfl) (fun m_128 hr_128 => ?_)
                  have eP : stP m1 8 (r_95 - r_103) (r_114 - r_124) = tkP m k := by
                    funext v
                    unfold tkP stP
                    rw [hfr (8 + 3) (by decide) (by decide), hr_95, hr_103, hr_114, hr_124]
                  rw [eP, hfr 8 (by decide) (by decide)] at hr_128
                  have x96 : m_128 96 k = cntI (tkP m k) (4 * m 8 2) := by rw [hr_128, wr_self]
                  have hcb := cntI_b (tkP m k) (n := 4 * m 8 2) (by omega)
                  have hmb : 0 ≤ w * cntI (tkP m k) (4 * m 8 2) ∧ w * cntI (tkP m k) (4 * m 8 2) ≤ 191102976 := by
                    have h1 := trN_b (m := m) hd4 hd5 (k + 1).toNat
                    rw [trN_s hk0, ← hw] at h1
                    have h2 := pow24 (k + 1).toNat (by omega)
                    omega
                  refine go_iload dX8_follow_131 rfl ?_
                  refine go_aload_n dX8_follow_133 rfl ?_
                  refine go_getf_p (b := 96) dX8_follow_134 fl_8_25 ob_92 rfl pt_92_4 ?_
                  refine go_iload dX8_follow_137 rfl ?_
                  refine go_iaload dX8_follow_139 ar_96 (by omega) (by omega) (fun he_139 => ?_)
                  rw [show (m_128 96 k : Int) = (cntI (tkP m k) (4 * m 8 2)) from x96] at he_139 ⊢
                  refine go_imul dX8_follow_140 ?_
                  refine go_istore (L' := [vr 92, vr 1, vr 8, vi ((m 1 1) / 2), vi (w * (cntI (tkP m k) (4 * m 8 2))), vi k]) dX8_follow_141 (by decide) rfl rfl ?_
                  refine go_iinc (L' := [vr 92, vr 1, vr 8, vi ((m 1 1) / 2), vi (w * (cntI (tkP m k) (4 * m 8 2))), vi (k + 1)]) dX8_follow_143 rfl (by decide) rfl rfl ?_
                  refine go_goto (tgt := 76) dX8_follow_146 (by decide) ?_
                  exact ih_76 m_128 (w * (cntI (tkP m k) (4 * m 8 2))) (k + 1) (by first | assumption | omega | rfl) (by first | assumption | omega | rfl) (by rw [trN_s hk0, ← hw]) (fun b h1 h2 => by rw [hr_128, wr_row h2, wr_row h1]; exact hfr b h1 h2) (fun j a b => by
                        by_cases e : j = k
                        · subst e
                          exact ⟨x96, fun h => by rw [hr_128, wr_na (by decide), wr_self, if_neg h]⟩
                        · have q := hrw j a (by omega)
                          rw [hr_128]
                          exact ⟨by rw [wr_ni e, wr_na (by decide)]; exact q.1, fun h => by rw [wr_na (by decide), wr_ni e]; exact q.2 h⟩) (fun h j a b => by
                        by_cases e : j = k
                        · rw [e]; intro h0; exact h (by rw [h0, Int.mul_zero])
                        · exact hnz (fun h0 => h (by rw [h0, Int.zero_mul])) j a (by omega)) (by omega)
            exact lp_76 _ m 1 0 (by first | assumption | omega | rfl) (by first | assumption | omega | rfl) rfl (fun b _ _ => rfl) (fun j a b => by omega) (fun _ j a b => by omega) (Nat.lt_succ_self _)
          · refine go_aload_n dX8_follow_37 rfl ?_
            refine go_aload_n dX8_follow_38 rfl ?_
            refine go_iconst dX8_follow_39 ?_
            refine go_iload dX8_follow_40 rfl ?_
            refine go_imul dX8_follow_42 ?_
            refine go_callVp_i (as := [vi (2 * k)]) (S := [vr 8]) (b := 1) (ev_X7_byteOf (m := m) (i := (2 * k)) (by first | assumption | omega | exact ⟨by omega, by omega⟩ | (constructor <;> omega)) (by first | assumption | omega | exact ⟨by omega, by omega⟩ | (constructor <;> omega))) rfl dX8_follow_43 cv_8_37 rfl rfl ob_1 rfl (by decide) (Nat.le_of_ble_eq_true rfl) (fun r_43 hr_43 ho_43 => ?_)
            rw [if_pos (by omega)] at hr_43
            refine go_aload_n dX8_follow_46 rfl ?_
            refine go_iconst dX8_follow_47 ?_
            refine go_iload dX8_follow_48 rfl ?_
            refine go_imul dX8_follow_50 ?_
            refine go_iconst dX8_follow_51 ?_
            refine go_iadd dX8_follow_52 ?_
            refine go_callVp_i (as := [vi ((2 * k) + 1)]) (S := [vi r_43, vr 8]) (b := 1) (ev_X7_byteOf (m := m) (i := ((2 * k) + 1)) (by first | assumption | omega | exact ⟨by omega, by omega⟩ | (constructor <;> omega)) (by first | assumption | omega | exact ⟨by omega, by omega⟩ | (constructor <;> omega))) rfl dX8_follow_53 cv_8_37 rfl rfl ob_1 rfl (by decide) (Nat.le_of_ble_eq_true rfl) (fun r_53 hr_53 ho_53 => ?_)
            rw [if_pos (by omega)] at hr_53
            refine go_callVp_z (as := [vi r_43, vi r_53]) (S := []) (b := 8) (ev_X1_isInside (m := m) (d := 8) (x := r_43) (y := r_53) isDn_8 (by first | assumption | omega | exact ⟨by omega, by omega⟩ | (constructor <;> omega)) (by first | assumption | omega | exact ⟨by omega, by omega⟩ | (constructor <;> omega))) rfl dX8_follow_56 cv_8_41 rfl rfl ob_8 rfl (by decide) (Nat.le_of_ble_eq_true rfl) (fun r_56 hr_56 ho_56 => ?_)
            rw [hr_43, hr_53] at hr_56
            refine go_if_ne (tgt := 64) dX8_follow_59 (by decide) ⟨by omega, by omega⟩ (fun h_59 => ?_) (fun h_59 => ?_)
            · refine go_iinc (L' := [vr 92, vr 1, vr 8, vi ((m 1 1) / 2), vi (k + 1), un]) dX8_follow_64 rfl (by decide) rfl rfl ?_
              refine go_goto (tgt := 31) dX8_follow_67 (by decide) ?_
              exact ih_31 (k + 1) (by first | assumption | omega | rfl) (by first | assumption | omega | rfl) (stp hin (by omega)) (by omega)
            · refine go_iconst dX8_follow_62 ?_
              refine go_ret (v := (-1)) rfl dX8_follow_63 (okI ⟨by omega, by omega⟩) ?_
              exact Or.inl ⟨fun h => by have h1 := h.2.2.2 k hk0 (by omega); omega, rfl, rfl⟩
      exact lp_31 _ 0 (by first | assumption | omega | rfl) (by first | assumption | omega | rfl) (fun j a b => by omega) (Nat.lt_succ_self _)
    · refine go_iconst dX8_follow_26 ?_
      refine go_ret (v := (-1)) rfl dX8_follow_27 (okI ⟨by omega, by omega⟩) ?_
      exact Or.inl ⟨fun h => by have h1 := h.1; have h2 := h.2.1; have h3 := h.2.2.1; omega, rfl, rfl⟩
theorem dX11_tracks_0 : decode mX11_tracks.2.1 0 = .ok (.aload_n 0, 1) := by decide +kernel
theorem dX11_tracks_1 : decode mX11_tracks.2.1 1 = .ok (.getfield 75, 3) := by decide +kernel
theorem dX11_tracks_4 : decode mX11_tracks.2.1 4 = .ok (.aload_n 0, 1) := by decide +kernel
theorem dX11_tracks_5 : decode mX11_tracks.2.1 5 = .ok (.getfield 12, 3) := by decide +kernel
theorem dX11_tracks_8 : decode mX11_tracks.2.1 8 = .ok (.aload_n 0, 1) := by decide +kernel
theorem dX11_tracks_9 : decode mX11_tracks.2.1 9 = .ok (.getfield 24, 3) := by decide +kernel
theorem dX11_tracks_12 : decode mX11_tracks.2.1 12 = .ok (.getfield 28, 3) := by decide +kernel
theorem dX11_tracks_15 : decode mX11_tracks.2.1 15 = .ok (.invokevirtual 311, 3) := by decide +kernel
theorem dX11_tracks_18 : decode mX11_tracks.2.1 18 = .ok (.istore_n 1, 1) := by decide +kernel
theorem dX11_tracks_19 : decode mX11_tracks.2.1 19 = .ok (.aload_n 0, 1) := by decide +kernel
theorem dX11_tracks_20 : decode mX11_tracks.2.1 20 = .ok (.getfield 12, 3) := by decide +kernel
theorem dX11_tracks_23 : decode mX11_tracks.2.1 23 = .ok (.iconst 0, 1) := by decide +kernel
theorem dX11_tracks_24 : decode mX11_tracks.2.1 24 = .ok (.putfield 102, 3) := by decide +kernel
theorem dX11_tracks_27 : decode mX11_tracks.2.1 27 = .ok (.iload_n 1, 1) := by decide +kernel
theorem dX11_tracks_28 : decode mX11_tracks.2.1 28 = .ok (.ireturn, 1) := by decide +kernel
set_option maxRecDepth 4000 in
theorem ev_X11_tracks {m : Mem}  (hsz : 0 ≤ m 1 1 ∧ m 1 1 ≤ 940) (hdn : DnOk m 8) : Ev 0 6 mX11_tracks [vr 0] m (fun r m' => ∃ m1 : Mem, FoPost m r m1 ∧ m' = wr m1 1 1 0) := by
  refine Ev.of (L := [vr 0, un]) (by decide +kernel) rfl (Nat.le_of_ble_eq_true rfl) rfl (fun t ht => by cases ht; first | exact Or.inl rfl | exact Or.inr (Or.inl rfl) | exact Or.inr (Or.inr rfl)) (fun hcan => ?_)
  refine go_aload_n dX11_tracks_0 rfl ?_
  refine go_getf_p (b := 92) dX11_tracks_1 fl_11_75 ob_0 rfl pt_0_8 ?_
  refine go_aload_n dX11_tracks_4 rfl ?_
  refine go_getf_p (b := 1) dX11_tracks_5 fl_11_12 ob_0 rfl pt_0_0 ?_
  refine go_aload_n dX11_tracks_8 rfl ?_
  refine go_getf_p (b := 7) dX11_tracks_9 fl_11_24 ob_0 rfl pt_0_1 ?_
  refine go_getf_p (b := 8) dX11_tracks_12 fl_11_28 ob_7 rfl pt_7_0 ?_
  refine go_callV_i (as := [vr 1, vr 8]) (S := []) (b := 92) (ev_X8_follow (m := m)  (by first | assumption | omega | exact ⟨by omega, by omega⟩ | (constructor <;> omega)) (by first | assumption | omega | exact ⟨by omega, by omega⟩ | (constructor <;> omega))) rfl dX11_tracks_15 cv_11_311 rfl rfl ob_92 rfl (by decide) (Nat.le_of_ble_eq_true rfl) (fun r_15 m_15 hr_15 ho_15 => ?_)
  refine go_istore_n (L' := [vr 0, vi r_15]) dX11_tracks_18 (by decide) rfl rfl ?_
  refine go_aload_n dX11_tracks_19 rfl ?_
  refine go_getf_p (b := 1) dX11_tracks_20 fl_11_12 ob_0 rfl pt_0_0 ?_
  refine go_iconst dX11_tracks_23 ?_
  refine go_putf_i (ki := 1) dX11_tracks_24 fw_11_102 ob_1 rfl rfl ⟨by omega, by omega⟩ ?_
  refine go_iload_n dX11_tracks_27 rfl ?_
  exact go_ret (v := r_15) rfl dX11_tracks_28 (okI ⟨by omega, by omega⟩) ⟨m_15, hr_15, rfl⟩
