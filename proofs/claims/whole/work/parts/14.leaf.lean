theorem stp {Q : Int → Prop} {p : Int} (h : ∀ j : Int, 0 ≤ j → j < p → Q j) (hp : Q p) : ∀ j : Int, 0 ≤ j → j < p + 1 → Q j := fun j a b => by
  by_cases e : j < p
  · exact h j a e
  · have : j = p := by omega
    subst this; exact hp
theorem pow2_small : ∀ n : Nat, n < 7 → (2 : Int) ^ n ≤ 64 := by decide +kernel
theorem pow2_le {q : Int} (h1 : q < 7) : pow2 q ≤ 64 := pow2_small q.toNat (by omega)
def fill (m : Mem) (a : Nat) (n x : Int) : Mem := fun b j => if b = a ∧ 0 ≤ j ∧ j < n then x else m b j
theorem fill_0 (m : Mem) (a : Nat) (x : Int) : fill m a 0 x = m := by
  funext b j; unfold fill; rw [if_neg (by omega)]
theorem fill_s {m : Mem} {a : Nat} {n x : Int} (h : 0 ≤ n) : wr (fill m a n x) a n x = fill m a (n + 1) x := by
  funext b j
  unfold wr fill
  by_cases h1 : b = a ∧ j = n
  · rw [if_pos h1, if_pos (by omega)]
  · rw [if_neg h1]
    by_cases h2 : b = a ∧ 0 ≤ j ∧ j < n
    · rw [if_pos h2, if_pos (by omega)]
    · rw [if_neg h2, if_neg (by omega)]
def DnOk (m : Mem) (d : Nat) : Prop := (2 ≤ m d 0 ∧ m d 0 ≤ 9) ∧ (2 ≤ m d 1 ∧ m d 1 ≤ 9) ∧ (0 ≤ m d 2 ∧ m d 2 ≤ 6) ∧ (0 ≤ m d 3 ∧ m d 3 ≤ 5) ∧ (0 ≤ m d 4 ∧ m d 4 ≤ 5) ∧
  (∀ f : Int, 0 ≤ f → f < m d 2 → 0 ≤ m (d + 2) f ∧ m (d + 2) f ≤ 7 ∧ 0 ≤ m (d + 3) f ∧ m (d + 3) f ≤ 5) ∧ (∀ p : Int, 0 ≤ p → p < m d 3 → 1 ≤ m (d + 5) p ∧ m (d + 5) p ≤ 60) ∧
  (∀ q : Int, 0 ≤ q → q < m d 4 → 0 ≤ m (d + 7) q ∧ m (d + 7) q < m d 0 ∧ 0 ≤ m (d + 8) q ∧ m (d + 8) q < m d 1 ∧ 0 ≤ m (d + 9) q ∧ m (d + 9) q ≤ 3)
def StOk (m : Mem) (d st : Nat) (B : Int) : Prop := (0 ≤ m st 0 ∧ m st 0 ≤ 400) ∧ (0 ≤ m st 1 ∧ m st 1 ≤ B) ∧ (∀ c : Int, 0 ≤ m (st + 1) c ∧ m (st + 1) c ≤ 9) ∧
  (∀ p : Int, 0 ≤ p → p < m d 3 → 0 ≤ m (st + 2) p ∧ m (st + 2) p < m d 0 ∧ 0 ≤ m (st + 3) p ∧ m (st + 3) p < m d 1 ∧ 0 ≤ m (st + 4) p ∧ m (st + 4) p ≤ 3 ∧ 0 ≤ m (st + 5) p ∧ m (st + 5) p ≤ m (d + 5) p ∧ 0 ≤ m (st + 6) p ∧ m (st + 6) p < pow2 (m d 4) ∧ 0 ≤ m (st + 7) p ∧ m (st + 7) p ≤ B) ∧
  (∀ p q : Int, 0 ≤ p → p < m d 3 → 0 ≤ q → q < m d 3 → m (st + 2) p = m (st + 2) q → m (st + 3) p = m (st + 3) q → p = q) ∧
  (∀ p : Int, 0 ≤ p → p < m d 3 → m (st + 1) (9 * m (st + 3) p + m (st + 2) p) = 0)
def ptsAt (m : Mem) (d : Nat) (x y : Int) : Int := bits (fun q => decide (m (d + 7) q = x ∧ m (d + 8) q = y)) (m d 4)
def whoC (m : Mem) (d st : Nat) (x y : Int) : Int := fnd (fun p => decide (m (st + 2) p = x ∧ m (st + 3) p = y)) (m d 3)
abbrev insC (m : Mem) (d : Nat) (x y : Int) : Prop := 0 ≤ x ∧ x < m d 0 ∧ 0 ≤ y ∧ y < m d 1
abbrev costC (m : Mem) (d : Nat) (f : Int) : Int := max 1 (m (d + 2) f + m (d + 3) f)

theorem dX11_isIn_0 : decode mX11_isIn.2.1 0 = .ok (.iload_n 0, 1) := by decide +kernel
theorem dX11_isIn_1 : decode mX11_isIn.2.1 1 = .ok (.iload_n 1, 1) := by decide +kernel
theorem dX11_isIn_2 : decode mX11_isIn.2.1 2 = .ok (.if_icmp .lt 12, 3) := by decide +kernel
theorem dX11_isIn_5 : decode mX11_isIn.2.1 5 = .ok (.iload_n 0, 1) := by decide +kernel
theorem dX11_isIn_6 : decode mX11_isIn.2.1 6 = .ok (.iload_n 2, 1) := by decide +kernel
theorem dX11_isIn_7 : decode mX11_isIn.2.1 7 = .ok (.if_icmp .gt 7, 3) := by decide +kernel
theorem dX11_isIn_10 : decode mX11_isIn.2.1 10 = .ok (.iconst 1, 1) := by decide +kernel
theorem dX11_isIn_11 : decode mX11_isIn.2.1 11 = .ok (.goto 4, 3) := by decide +kernel
theorem dX11_isIn_14 : decode mX11_isIn.2.1 14 = .ok (.iconst 0, 1) := by decide +kernel
theorem dX11_isIn_15 : decode mX11_isIn.2.1 15 = .ok (.ireturn, 1) := by decide +kernel
set_option maxRecDepth 4000 in
theorem ev_X11_isIn {m : Mem} {n : Int} {lo : Int} {hi : Int} (hn : InR n) (h1 : InR lo) (h2 : InR hi) : Ev 0 1 mX11_isIn [vi n, vi lo, vi hi] m (fun r m' => m' = m ∧ (r = if lo ≤ n ∧ n ≤ hi then 1 else 0)) := by
  refine Ev.of (L := [vi n, vi lo, vi hi]) (by decide +kernel) rfl (Nat.le_of_ble_eq_true rfl) rfl (fun t ht => by cases ht; first | exact Or.inl rfl | exact Or.inr (Or.inl rfl) | exact Or.inr (Or.inr rfl)) (fun hcan => ?_)
  refine go_iload_n dX11_isIn_0 rfl ?_
  refine go_iload_n dX11_isIn_1 rfl ?_
  refine go_icmp_lt (tgt := 14) dX11_isIn_2 (by decide) ⟨by omega, by omega⟩ ⟨by omega, by omega⟩ (fun h_2 => ?_) (fun h_2 => ?_)
  · refine go_iconst dX11_isIn_14 ?_
    exact go_ret (v := 0) rfl dX11_isIn_15 (okZ (by first | exact Or.inl rfl | exact Or.inr rfl | assumption | omega)) ⟨rfl, (by first | assumption | rfl | omega)⟩
  · refine go_iload_n dX11_isIn_5 rfl ?_
    refine go_iload_n dX11_isIn_6 rfl ?_
    refine go_icmp_gt (tgt := 14) dX11_isIn_7 (by decide) ⟨by omega, by omega⟩ ⟨by omega, by omega⟩ (fun h_7 => ?_) (fun h_7 => ?_)
    · refine go_iconst dX11_isIn_14 ?_
      exact go_ret (v := 0) rfl dX11_isIn_15 (okZ (by first | exact Or.inl rfl | exact Or.inr rfl | assumption | omega)) ⟨rfl, (by first | assumption | rfl | omega)⟩
    · refine go_iconst dX11_isIn_10 ?_
      refine go_goto (tgt := 15) dX11_isIn_11 (by decide) ?_
      exact go_ret (v := 1) rfl dX11_isIn_15 (okZ (by first | exact Or.inl rfl | exact Or.inr rfl | assumption | omega)) ⟨rfl, (by first | assumption | rfl | omega)⟩
theorem dX11_isSide_0 : decode mX11_isSide.2.1 0 = .ok (.iload_n 0, 1) := by decide +kernel
theorem dX11_isSide_1 : decode mX11_isSide.2.1 1 = .ok (.iconst 0, 1) := by decide +kernel
theorem dX11_isSide_2 : decode mX11_isSide.2.1 2 = .ok (.iconst 3, 1) := by decide +kernel
theorem dX11_isSide_3 : decode mX11_isSide.2.1 3 = .ok (.invokestatic 261, 3) := by decide +kernel
theorem dX11_isSide_6 : decode mX11_isSide.2.1 6 = .ok (.ireturn, 1) := by decide +kernel
set_option maxRecDepth 4000 in
theorem ev_X11_isSide {m : Mem} {n : Int} (hn : InR n) : Ev 0 2 mX11_isSide [vi n] m (fun r m' => m' = m ∧ (r = if 0 ≤ n ∧ n ≤ 3 then 1 else 0)) := by
  refine Ev.of (L := [vi n]) (by decide +kernel) rfl (Nat.le_of_ble_eq_true rfl) rfl (fun t ht => by cases ht; first | exact Or.inl rfl | exact Or.inr (Or.inl rfl) | exact Or.inr (Or.inr rfl)) (fun hcan => ?_)
  refine go_iload_n dX11_isSide_0 rfl ?_
  refine go_iconst dX11_isSide_1 ?_
  refine go_iconst dX11_isSide_2 ?_
  refine go_callSp_z (as := [vi n, vi 0, vi 3]) (S := []) (ev_X11_isIn (m := m) (n := n) (lo := 0) (hi := 3) (by first | assumption | omega | exact ⟨by omega, by omega⟩ | (constructor <;> omega)) (by first | assumption | omega | exact ⟨by omega, by omega⟩ | (constructor <;> omega)) (by first | assumption | omega | exact ⟨by omega, by omega⟩ | (constructor <;> omega))) rfl dX11_isSide_3 cs_11_261 rfl rfl (by decide) (by decide) (fun r_3 hr_3 ho_3 => ?_)
  exact go_ret (v := r_3) rfl dX11_isSide_6 (okZ (by first | exact Or.inl rfl | exact Or.inr rfl | assumption | omega)) ⟨rfl, (by first | assumption | rfl | omega)⟩
theorem dX11_cellOf_0 : decode mX11_cellOf.2.1 0 = .ok (.bipush 9, 2) := by decide +kernel
theorem dX11_cellOf_2 : decode mX11_cellOf.2.1 2 = .ok (.iload_n 1, 1) := by decide +kernel
theorem dX11_cellOf_3 : decode mX11_cellOf.2.1 3 = .ok (.imul, 1) := by decide +kernel
theorem dX11_cellOf_4 : decode mX11_cellOf.2.1 4 = .ok (.iload_n 0, 1) := by decide +kernel
theorem dX11_cellOf_5 : decode mX11_cellOf.2.1 5 = .ok (.iadd, 1) := by decide +kernel
theorem dX11_cellOf_6 : decode mX11_cellOf.2.1 6 = .ok (.ireturn, 1) := by decide +kernel
set_option maxRecDepth 4000 in
theorem ev_X11_cellOf {m : Mem} {x : Int} {y : Int} (hx : -100 ≤ x ∧ x ≤ 100) (hy : -100 ≤ y ∧ y ≤ 100) : Ev 0 1 mX11_cellOf [vi x, vi y] m (fun r m' => m' = m ∧ (r = 9 * y + x)) := by
  refine Ev.of (L := [vi x, vi y]) (by decide +kernel) rfl (Nat.le_of_ble_eq_true rfl) rfl (fun t ht => by cases ht; first | exact Or.inl rfl | exact Or.inr (Or.inl rfl) | exact Or.inr (Or.inr rfl)) (fun hcan => ?_)
  refine go_bipush dX11_cellOf_0 (by decide) ?_
  refine go_iload_n dX11_cellOf_2 rfl ?_
  refine go_imul dX11_cellOf_3 ?_
  refine go_iload_n dX11_cellOf_4 rfl ?_
  refine go_iadd dX11_cellOf_5 ?_
  exact go_ret (v := ((9 * y) + x)) rfl dX11_cellOf_6 (okI ⟨by omega, by omega⟩) ⟨rfl, (by first | assumption | rfl | omega)⟩
theorem dJ7_fill_53178_0 : decode mJ7_fill_53178.2.1 0 = .ok (.iconst 0, 1) := by decide +kernel
theorem dJ7_fill_53178_1 : decode mJ7_fill_53178.2.1 1 = .ok (.istore_n 2, 1) := by decide +kernel
theorem dJ7_fill_53178_2 : decode mJ7_fill_53178.2.1 2 = .ok (.aload_n 0, 1) := by decide +kernel
theorem dJ7_fill_53178_3 : decode mJ7_fill_53178.2.1 3 = .ok (.arraylength, 1) := by decide +kernel
theorem dJ7_fill_53178_4 : decode mJ7_fill_53178.2.1 4 = .ok (.istore_n 3, 1) := by decide +kernel
theorem dJ7_fill_53178_5 : decode mJ7_fill_53178.2.1 5 = .ok (.iload_n 2, 1) := by decide +kernel
theorem dJ7_fill_53178_6 : decode mJ7_fill_53178.2.1 6 = .ok (.iload_n 3, 1) := by decide +kernel
theorem dJ7_fill_53178_7 : decode mJ7_fill_53178.2.1 7 = .ok (.if_icmp .ge 13, 3) := by decide +kernel
theorem dJ7_fill_53178_10 : decode mJ7_fill_53178.2.1 10 = .ok (.aload_n 0, 1) := by decide +kernel
theorem dJ7_fill_53178_11 : decode mJ7_fill_53178.2.1 11 = .ok (.iload_n 2, 1) := by decide +kernel
theorem dJ7_fill_53178_12 : decode mJ7_fill_53178.2.1 12 = .ok (.iload_n 1, 1) := by decide +kernel
theorem dJ7_fill_53178_13 : decode mJ7_fill_53178.2.1 13 = .ok (.iastore, 1) := by decide +kernel
theorem dJ7_fill_53178_14 : decode mJ7_fill_53178.2.1 14 = .ok (.iinc 2 1, 3) := by decide +kernel
theorem dJ7_fill_53178_17 : decode mJ7_fill_53178.2.1 17 = .ok (.goto (-12), 3) := by decide +kernel
theorem dJ7_fill_53178_20 : decode mJ7_fill_53178.2.1 20 = .ok (.return_, 1) := by decide +kernel
set_option maxRecDepth 4000 in
theorem ev_J7_fill_53178 {m : Mem} {a : Nat} {n : Nat} {x : Int} (ha : ar a 0 n) (hx : InR x) : Ev 0 1 mJ7_fill_53178 [vr a, vi x] m (fun r m' => m' = fill m a n x) := by
  refine Ev.of (L := [vr a, vi x, un, un]) (by decide +kernel) rfl (Nat.le_of_ble_eq_true rfl) rfl (fun t ht => by cases ht) (fun hcan => ?_)
  have hn := ha.2.2.2
  refine go_iconst dJ7_fill_53178_0 ?_
  refine go_istore_n (L' := [vr a, vi x, vi 0, un]) dJ7_fill_53178_1 (by decide) rfl rfl ?_
  refine go_aload_n dJ7_fill_53178_2 rfl ?_
  refine go_alen (x := n) dJ7_fill_53178_3 ha (by decide) rfl ?_
  refine go_istore_n (L' := [vr a, vi x, vi 0, vi n]) dJ7_fill_53178_4 (by decide) rfl rfl ?_
  have lp_5 : ∀ (n_5 : Nat) (m1 : Mem) (i : Int), (0 ≤ i) → (i ≤ n) → (m1 = fill m a i x) → ((n : Int) - i).toNat < n_5 → Go 0 1 mJ7_fill_53178 (fun r m' => m' = fill m a n x) 5 [vr a, vi x, vi i, vi n] [] m1 := by
    intro n_5
    induction n_5 with
    | zero => intro m1 i hi0 hi1 hm hmu; exact absurd hmu (Nat.not_lt_zero _)
    | succ n_5 ih_5 =>
      intro m1 i hi0 hi1 hm hmu
      refine go_iload_n dJ7_fill_53178_5 rfl ?_
      refine go_iload_n dJ7_fill_53178_6 rfl ?_
      refine go_icmp_ge (tgt := 20) dJ7_fill_53178_7 (by decide) ⟨by omega, by omega⟩ ⟨by omega, by omega⟩ (fun h_7 => ?_) (fun h_7 => ?_)
      · exact go_ret (v := 0) rfl dJ7_fill_53178_20 rfl (by rw [hm, show i = (n : Int) by omega])
      · refine go_aload_n dJ7_fill_53178_10 rfl ?_
        refine go_iload_n dJ7_fill_53178_11 rfl ?_
        refine go_iload_n dJ7_fill_53178_12 rfl ?_
        refine go_iastore dJ7_fill_53178_13 ha (by omega) (by omega) ⟨by omega, by omega⟩ ?_
        refine go_iinc (L' := [vr a, vi x, vi (i + 1), vi n]) dJ7_fill_53178_14 rfl (by decide) rfl rfl ?_
        refine go_goto (tgt := 5) dJ7_fill_53178_17 (by decide) ?_
        exact ih_5 (wr m1 a i x) (i + 1) (by first | assumption | omega | rfl) (by first | assumption | omega | rfl) (by rw [hm]; exact fill_s hi0) (by omega)
  exact lp_5 _ m 0 (by first | assumption | omega | rfl) (by first | assumption | omega | rfl) (fill_0 m a x).symm (Nat.lt_succ_self _)
theorem dX1_isInside_0 : decode mX1_isInside.2.1 0 = .ok (.iload_n 1, 1) := by decide +kernel
theorem dX1_isInside_1 : decode mX1_isInside.2.1 1 = .ok (.ifCond .lt 27, 3) := by decide +kernel
theorem dX1_isInside_4 : decode mX1_isInside.2.1 4 = .ok (.iload_n 1, 1) := by decide +kernel
theorem dX1_isInside_5 : decode mX1_isInside.2.1 5 = .ok (.aload_n 0, 1) := by decide +kernel
theorem dX1_isInside_6 : decode mX1_isInside.2.1 6 = .ok (.getfield 9, 3) := by decide +kernel
theorem dX1_isInside_9 : decode mX1_isInside.2.1 9 = .ok (.if_icmp .ge 19, 3) := by decide +kernel
theorem dX1_isInside_12 : decode mX1_isInside.2.1 12 = .ok (.iload_n 2, 1) := by decide +kernel
theorem dX1_isInside_13 : decode mX1_isInside.2.1 13 = .ok (.ifCond .lt 15, 3) := by decide +kernel
theorem dX1_isInside_16 : decode mX1_isInside.2.1 16 = .ok (.iload_n 2, 1) := by decide +kernel
theorem dX1_isInside_17 : decode mX1_isInside.2.1 17 = .ok (.aload_n 0, 1) := by decide +kernel
theorem dX1_isInside_18 : decode mX1_isInside.2.1 18 = .ok (.getfield 15, 3) := by decide +kernel
theorem dX1_isInside_21 : decode mX1_isInside.2.1 21 = .ok (.if_icmp .ge 7, 3) := by decide +kernel
theorem dX1_isInside_24 : decode mX1_isInside.2.1 24 = .ok (.iconst 1, 1) := by decide +kernel
theorem dX1_isInside_25 : decode mX1_isInside.2.1 25 = .ok (.goto 4, 3) := by decide +kernel
theorem dX1_isInside_28 : decode mX1_isInside.2.1 28 = .ok (.iconst 0, 1) := by decide +kernel
theorem dX1_isInside_29 : decode mX1_isInside.2.1 29 = .ok (.ireturn, 1) := by decide +kernel
set_option maxRecDepth 4000 in
theorem ev_X1_isInside {m : Mem} {d : Nat} {x : Int} {y : Int} (hd : isDn d) (hx : InR x) (hy : InR y) : Ev 0 1 mX1_isInside [vr d, vi x, vi y] m (fun r m' => m' = m ∧ ((r = 1 ∧ insC m d x y) ∨ (r = 0 ∧ ¬ insC m d x y))) := by
  refine Ev.of (L := [vr d, vi x, vi y]) (by decide +kernel) rfl (Nat.le_of_ble_eq_true rfl) rfl (fun t ht => by cases ht; first | exact Or.inl rfl | exact Or.inr (Or.inl rfl) | exact Or.inr (Or.inr rfl)) (fun hcan => ?_)
  refine go_iload_n dX1_isInside_0 rfl ?_
  refine go_if_lt (tgt := 28) dX1_isInside_1 (by decide) ⟨by omega, by omega⟩ (fun h_1 => ?_) (fun h_1 => ?_)
  · refine go_iconst dX1_isInside_28 ?_
    exact go_ret (v := 0) rfl dX1_isInside_29 (okZ (by first | exact Or.inl rfl | exact Or.inr rfl | assumption | omega)) ⟨rfl, (by first | assumption | rfl | omega)⟩
  · refine go_iload_n dX1_isInside_4 rfl ?_
    refine go_aload_n dX1_isInside_5 rfl ?_
    refine go_getf_i (ki := 0) dX1_isInside_6 fl_1_9 hd.o rfl rfl (fun hf_6 => ?_)
    refine go_icmp_ge (tgt := 28) dX1_isInside_9 (by decide) ⟨by omega, by omega⟩ ⟨by omega, by omega⟩ (fun h_9 => ?_) (fun h_9 => ?_)
    · refine go_iconst dX1_isInside_28 ?_
      exact go_ret (v := 0) rfl dX1_isInside_29 (okZ (by first | exact Or.inl rfl | exact Or.inr rfl | assumption | omega)) ⟨rfl, (by first | assumption | rfl | omega)⟩
    · refine go_iload_n dX1_isInside_12 rfl ?_
      refine go_if_lt (tgt := 28) dX1_isInside_13 (by decide) ⟨by omega, by omega⟩ (fun h_13 => ?_) (fun h_13 => ?_)
      · refine go_iconst dX1_isInside_28 ?_
        exact go_ret (v := 0) rfl dX1_isInside_29 (okZ (by first | exact Or.inl rfl | exact Or.inr rfl | assumption | omega)) ⟨rfl, (by first | assumption | rfl | omega)⟩
      · refine go_iload_n dX1_isInside_16 rfl ?_
        refine go_aload_n dX1_isInside_17 rfl ?_
        refine go_getf_i (ki := 1) dX1_isInside_18 fl_1_15 hd.o rfl rfl (fun hf_18 => ?_)
        refine go_icmp_ge (tgt := 28) dX1_isInside_21 (by decide) ⟨by omega, by omega⟩ ⟨by omega, by omega⟩ (fun h_21 => ?_) (fun h_21 => ?_)
        · refine go_iconst dX1_isInside_28 ?_
          exact go_ret (v := 0) rfl dX1_isInside_29 (okZ (by first | exact Or.inl rfl | exact Or.inr rfl | assumption | omega)) ⟨rfl, (by first | assumption | rfl | omega)⟩
        · refine go_iconst dX1_isInside_24 ?_
          refine go_goto (tgt := 29) dX1_isInside_25 (by decide) ?_
          exact go_ret (v := 1) rfl dX1_isInside_29 (okZ (by first | exact Or.inl rfl | exact Or.inr rfl | assumption | omega)) ⟨rfl, (by first | assumption | rfl | omega)⟩
theorem dX1_cost_0 : decode mX1_cost.2.1 0 = .ok (.iconst 1, 1) := by decide +kernel
theorem dX1_cost_1 : decode mX1_cost.2.1 1 = .ok (.aload_n 0, 1) := by decide +kernel
theorem dX1_cost_2 : decode mX1_cost.2.1 2 = .ok (.getfield 31, 3) := by decide +kernel
theorem dX1_cost_5 : decode mX1_cost.2.1 5 = .ok (.iload_n 1, 1) := by decide +kernel
theorem dX1_cost_6 : decode mX1_cost.2.1 6 = .ok (.iaload, 1) := by decide +kernel
theorem dX1_cost_7 : decode mX1_cost.2.1 7 = .ok (.aload_n 0, 1) := by decide +kernel
theorem dX1_cost_8 : decode mX1_cost.2.1 8 = .ok (.getfield 35, 3) := by decide +kernel
theorem dX1_cost_11 : decode mX1_cost.2.1 11 = .ok (.iload_n 1, 1) := by decide +kernel
theorem dX1_cost_12 : decode mX1_cost.2.1 12 = .ok (.iaload, 1) := by decide +kernel
theorem dX1_cost_13 : decode mX1_cost.2.1 13 = .ok (.iadd, 1) := by decide +kernel
theorem dX1_cost_14 : decode mX1_cost.2.1 14 = .ok (.invokestatic 62, 3) := by decide +kernel
theorem dX1_cost_17 : decode mX1_cost.2.1 17 = .ok (.ireturn, 1) := by decide +kernel
set_option maxRecDepth 4000 in
theorem ev_X1_cost {m : Mem} {d : Nat} {f : Int} (hd : isDn d) (hf : 0 ≤ f ∧ f < 6) (hv : 0 ≤ m (d + 2) f ∧ m (d + 2) f ≤ 7 ∧ 0 ≤ m (d + 3) f ∧ m (d + 3) f ≤ 5) : Ev 0 4 mX1_cost [vr d, vi f] m (fun r m' => m' = m ∧ (r = costC m d f)) := by
  refine Ev.of (L := [vr d, vi f]) (by decide +kernel) rfl (Nat.le_of_ble_eq_true rfl) rfl (fun t ht => by cases ht; first | exact Or.inl rfl | exact Or.inr (Or.inl rfl) | exact Or.inr (Or.inr rfl)) (fun hcan => ?_)
  refine go_iconst dX1_cost_0 ?_
  refine go_aload_n dX1_cost_1 rfl ?_
  refine go_getf_p (b := (d + 2)) dX1_cost_2 fl_1_31 hd.o rfl hd.p6 ?_
  refine go_iload_n dX1_cost_5 rfl ?_
  refine go_iaload dX1_cost_6 hd.a2 (by omega) (by omega) (fun he_6 => ?_)
  refine go_aload_n dX1_cost_7 rfl ?_
  refine go_getf_p (b := (d + 3)) dX1_cost_8 fl_1_35 hd.o rfl hd.p7 ?_
  refine go_iload_n dX1_cost_11 rfl ?_
  refine go_iaload dX1_cost_12 hd.a3 (by omega) (by omega) (fun he_12 => ?_)
  refine go_iadd dX1_cost_13 ?_
  refine go_max dX1_cost_14 jl_1_62 ⟨by omega, by omega⟩ ⟨by omega, by omega⟩ (by decide) (by decide) ?_
  exact go_ret (v := (max 1 ((m (d + 2) f) + (m (d + 3) f)))) rfl dX1_cost_17 (okI ⟨by omega, by omega⟩) ⟨rfl, (by first | assumption | rfl | omega)⟩
theorem dX1_standOfPoint_0 : decode mX1_standOfPoint.2.1 0 = .ok (.iconst 4, 1) := by decide +kernel
theorem dX1_standOfPoint_1 : decode mX1_standOfPoint.2.1 1 = .ok (.aload_n 0, 1) := by decide +kernel
theorem dX1_standOfPoint_2 : decode mX1_standOfPoint.2.1 2 = .ok (.getfield 47, 3) := by decide +kernel
theorem dX1_standOfPoint_5 : decode mX1_standOfPoint.2.1 5 = .ok (.iload_n 1, 1) := by decide +kernel
theorem dX1_standOfPoint_6 : decode mX1_standOfPoint.2.1 6 = .ok (.iaload, 1) := by decide +kernel
theorem dX1_standOfPoint_7 : decode mX1_standOfPoint.2.1 7 = .ok (.aload_n 0, 1) := by decide +kernel
theorem dX1_standOfPoint_8 : decode mX1_standOfPoint.2.1 8 = .ok (.getfield 50, 3) := by decide +kernel
theorem dX1_standOfPoint_11 : decode mX1_standOfPoint.2.1 11 = .ok (.iload_n 1, 1) := by decide +kernel
theorem dX1_standOfPoint_12 : decode mX1_standOfPoint.2.1 12 = .ok (.iaload, 1) := by decide +kernel
theorem dX1_standOfPoint_13 : decode mX1_standOfPoint.2.1 13 = .ok (.invokestatic 68, 3) := by decide +kernel
theorem dX1_standOfPoint_16 : decode mX1_standOfPoint.2.1 16 = .ok (.imul, 1) := by decide +kernel
theorem dX1_standOfPoint_17 : decode mX1_standOfPoint.2.1 17 = .ok (.aload_n 0, 1) := by decide +kernel
theorem dX1_standOfPoint_18 : decode mX1_standOfPoint.2.1 18 = .ok (.getfield 53, 3) := by decide +kernel
theorem dX1_standOfPoint_21 : decode mX1_standOfPoint.2.1 21 = .ok (.iload_n 1, 1) := by decide +kernel
theorem dX1_standOfPoint_22 : decode mX1_standOfPoint.2.1 22 = .ok (.iaload, 1) := by decide +kernel
theorem dX1_standOfPoint_23 : decode mX1_standOfPoint.2.1 23 = .ok (.iadd, 1) := by decide +kernel
theorem dX1_standOfPoint_24 : decode mX1_standOfPoint.2.1 24 = .ok (.ireturn, 1) := by decide +kernel
set_option maxRecDepth 4000 in
theorem ev_X1_standOfPoint {m : Mem} {d : Nat} {q : Int} (hd : isDn d) (hdn : DnOk m d) (hq : 0 ≤ q ∧ q < m d 4) : Ev 0 2 mX1_standOfPoint [vr d, vi q] m (fun r m' => m' = m ∧ (r = 4 * (9 * m (d + 8) q + m (d + 7) q) + m (d + 9) q)) := by
  refine Ev.of (L := [vr d, vi q]) (by decide +kernel) rfl (Nat.le_of_ble_eq_true rfl) rfl (fun t ht => by cases ht; first | exact Or.inl rfl | exact Or.inr (Or.inl rfl) | exact Or.inr (Or.inr rfl)) (fun hcan => ?_)
  obtain ⟨⟨hd0, hd1⟩, ⟨hd2, hd3⟩, ⟨hd4, hd5⟩, ⟨hd6, hd7⟩, ⟨hd8, hd9⟩, hdf, hdp, hdq⟩ := id hdn
  have hqq := hdq q hq.1 hq.2
  refine go_iconst dX1_standOfPoint_0 ?_
  refine go_aload_n dX1_standOfPoint_1 rfl ?_
  refine go_getf_p (b := (d + 7)) dX1_standOfPoint_2 fl_1_47 hd.o rfl hd.p11 ?_
  refine go_iload_n dX1_standOfPoint_5 rfl ?_
  refine go_iaload dX1_standOfPoint_6 hd.a7 (by omega) (by omega) (fun he_6 => ?_)
  refine go_aload_n dX1_standOfPoint_7 rfl ?_
  refine go_getf_p (b := (d + 8)) dX1_standOfPoint_8 fl_1_50 hd.o rfl hd.p12 ?_
  refine go_iload_n dX1_standOfPoint_11 rfl ?_
  refine go_iaload dX1_standOfPoint_12 hd.a8 (by omega) (by omega) (fun he_12 => ?_)
  refine go_callSp_i (as := [vi (m (d + 7) q), vi (m (d + 8) q)]) (S := [vi 4]) (ev_X11_cellOf (m := m) (x := (m (d + 7) q)) (y := (m (d + 8) q)) (by first | assumption | omega | exact ⟨by omega, by omega⟩ | (constructor <;> omega)) (by first | assumption | omega | exact ⟨by omega, by omega⟩ | (constructor <;> omega))) rfl dX1_standOfPoint_13 cs_1_68 rfl rfl (by decide) (by decide) (fun r_13 hr_13 ho_13 => ?_)
  refine go_imul dX1_standOfPoint_16 ?_
  refine go_aload_n dX1_standOfPoint_17 rfl ?_
  refine go_getf_p (b := (d + 9)) dX1_standOfPoint_18 fl_1_53 hd.o rfl hd.p13 ?_
  refine go_iload_n dX1_standOfPoint_21 rfl ?_
  refine go_iaload dX1_standOfPoint_22 hd.a9 (by omega) (by omega) (fun he_22 => ?_)
  refine go_iadd dX1_standOfPoint_23 ?_
  exact go_ret (v := ((4 * r_13) + (m (d + 9) q))) rfl dX1_standOfPoint_24 (okI ⟨by omega, by omega⟩) ⟨rfl, (by first | assumption | rfl | omega)⟩
theorem dX1_pointsAt_0 : decode mX1_pointsAt.2.1 0 = .ok (.iconst 0, 1) := by decide +kernel
theorem dX1_pointsAt_1 : decode mX1_pointsAt.2.1 1 = .ok (.istore_n 3, 1) := by decide +kernel
theorem dX1_pointsAt_2 : decode mX1_pointsAt.2.1 2 = .ok (.iconst 0, 1) := by decide +kernel
theorem dX1_pointsAt_3 : decode mX1_pointsAt.2.1 3 = .ok (.istore 4, 2) := by decide +kernel
theorem dX1_pointsAt_5 : decode mX1_pointsAt.2.1 5 = .ok (.iload 4, 2) := by decide +kernel
theorem dX1_pointsAt_7 : decode mX1_pointsAt.2.1 7 = .ok (.aload_n 0, 1) := by decide +kernel
theorem dX1_pointsAt_8 : decode mX1_pointsAt.2.1 8 = .ok (.getfield 24, 3) := by decide +kernel
theorem dX1_pointsAt_11 : decode mX1_pointsAt.2.1 11 = .ok (.if_icmp .ge 38, 3) := by decide +kernel
theorem dX1_pointsAt_14 : decode mX1_pointsAt.2.1 14 = .ok (.aload_n 0, 1) := by decide +kernel
theorem dX1_pointsAt_15 : decode mX1_pointsAt.2.1 15 = .ok (.getfield 47, 3) := by decide +kernel
theorem dX1_pointsAt_18 : decode mX1_pointsAt.2.1 18 = .ok (.iload 4, 2) := by decide +kernel
theorem dX1_pointsAt_20 : decode mX1_pointsAt.2.1 20 = .ok (.iaload, 1) := by decide +kernel
theorem dX1_pointsAt_21 : decode mX1_pointsAt.2.1 21 = .ok (.iload_n 1, 1) := by decide +kernel
theorem dX1_pointsAt_22 : decode mX1_pointsAt.2.1 22 = .ok (.if_icmp .ne 21, 3) := by decide +kernel
theorem dX1_pointsAt_25 : decode mX1_pointsAt.2.1 25 = .ok (.aload_n 0, 1) := by decide +kernel
theorem dX1_pointsAt_26 : decode mX1_pointsAt.2.1 26 = .ok (.getfield 50, 3) := by decide +kernel
theorem dX1_pointsAt_29 : decode mX1_pointsAt.2.1 29 = .ok (.iload 4, 2) := by decide +kernel
theorem dX1_pointsAt_31 : decode mX1_pointsAt.2.1 31 = .ok (.iaload, 1) := by decide +kernel
theorem dX1_pointsAt_32 : decode mX1_pointsAt.2.1 32 = .ok (.iload_n 2, 1) := by decide +kernel
theorem dX1_pointsAt_33 : decode mX1_pointsAt.2.1 33 = .ok (.if_icmp .ne 10, 3) := by decide +kernel
theorem dX1_pointsAt_36 : decode mX1_pointsAt.2.1 36 = .ok (.iload_n 3, 1) := by decide +kernel
theorem dX1_pointsAt_37 : decode mX1_pointsAt.2.1 37 = .ok (.iconst 1, 1) := by decide +kernel
theorem dX1_pointsAt_38 : decode mX1_pointsAt.2.1 38 = .ok (.iload 4, 2) := by decide +kernel
theorem dX1_pointsAt_40 : decode mX1_pointsAt.2.1 40 = .ok (.ishl, 1) := by decide +kernel
theorem dX1_pointsAt_41 : decode mX1_pointsAt.2.1 41 = .ok (.ior, 1) := by decide +kernel
theorem dX1_pointsAt_42 : decode mX1_pointsAt.2.1 42 = .ok (.istore_n 3, 1) := by decide +kernel
theorem dX1_pointsAt_43 : decode mX1_pointsAt.2.1 43 = .ok (.iinc 4 1, 3) := by decide +kernel
theorem dX1_pointsAt_46 : decode mX1_pointsAt.2.1 46 = .ok (.goto (-41), 3) := by decide +kernel
theorem dX1_pointsAt_49 : decode mX1_pointsAt.2.1 49 = .ok (.iload_n 3, 1) := by decide +kernel
theorem dX1_pointsAt_50 : decode mX1_pointsAt.2.1 50 = .ok (.ireturn, 1) := by decide +kernel
set_option maxRecDepth 4000 in
theorem ev_X1_pointsAt {m : Mem} {d : Nat} {x : Int} {y : Int} (hd : isDn d) (hdn : DnOk m d) (hx : InR x) (hy : InR y) : Ev 0 1 mX1_pointsAt [vr d, vi x, vi y] m (fun r m' => m' = m ∧ (r = ptsAt m d x y)) := by
  refine Ev.of (L := [vr d, vi x, vi y, un, un]) (by decide +kernel) rfl (Nat.le_of_ble_eq_true rfl) rfl (fun t ht => by cases ht; first | exact Or.inl rfl | exact Or.inr (Or.inl rfl) | exact Or.inr (Or.inr rfl)) (fun hcan => ?_)
  obtain ⟨⟨hd0, hd1⟩, ⟨hd2, hd3⟩, ⟨hd4, hd5⟩, ⟨hd6, hd7⟩, ⟨hd8, hd9⟩, hdf, hdp, hdq⟩ := id hdn
  refine go_iconst dX1_pointsAt_0 ?_
  refine go_istore_n (L' := [vr d, vi x, vi y, vi 0, un]) dX1_pointsAt_1 (by decide) rfl rfl ?_
  refine go_iconst dX1_pointsAt_2 ?_
  refine go_istore (L' := [vr d, vi x, vi y, vi 0, vi 0]) dX1_pointsAt_3 (by decide) rfl rfl ?_
  have lp_5 : ∀ (n_5 : Nat) (b : Int) (q : Int), (0 ≤ q) → (q ≤ m d 4) → (b = bits (fun q => decide (m (d + 7) q = x ∧ m (d + 8) q = y)) q) → (m d 4 - q).toNat < n_5 → Go 0 1 mX1_pointsAt (fun r m' => m' = m ∧ (r = ptsAt m d x y)) 5 [vr d, vi x, vi y, vi b, vi q] [] m := by
    intro n_5
    induction n_5 with
    | zero => intro b q hq0 hq1 hb hmu; exact absurd hmu (Nat.not_lt_zero _)
    | succ n_5 ih_5 =>
      intro b q hq0 hq1 hb hmu
      have hbb := bits_bnd (fun q => decide (m (d + 7) q = x ∧ m (d + 8) q = y)) hq0
      have hpw := pow2_le (q := q) (by omega)
      rw [← hb] at hbb
      refine go_iload dX1_pointsAt_5 rfl ?_
      refine go_aload_n dX1_pointsAt_7 rfl ?_
      refine go_getf_i (ki := 4) dX1_pointsAt_8 fl_1_24 hd.o rfl rfl (fun hf_8 => ?_)
      refine go_icmp_ge (tgt := 49) dX1_pointsAt_11 (by decide) ⟨by omega, by omega⟩ ⟨by omega, by omega⟩ (fun h_11 => ?_) (fun h_11 => ?_)
      · refine go_iload_n dX1_pointsAt_49 rfl ?_
        exact go_ret (v := b) rfl dX1_pointsAt_50 (okI ⟨by omega, by omega⟩) ⟨rfl, (by rw [hb, show q = m d 4 by omega]; rfl)⟩
      · refine go_aload_n dX1_pointsAt_14 rfl ?_
        refine go_getf_p (b := (d + 7)) dX1_pointsAt_15 fl_1_47 hd.o rfl hd.p11 ?_
        refine go_iload dX1_pointsAt_18 rfl ?_
        refine go_iaload dX1_pointsAt_20 hd.a7 (by omega) (by omega) (fun he_20 => ?_)
        refine go_iload_n dX1_pointsAt_21 rfl ?_
        refine go_icmp_ne (tgt := 43) dX1_pointsAt_22 (by decide) ⟨by omega, by omega⟩ ⟨by omega, by omega⟩ (fun h_22 => ?_) (fun h_22 => ?_)
        · refine go_iinc (L' := [vr d, vi x, vi y, vi b, vi (q + 1)]) dX1_pointsAt_43 rfl (by decide) rfl rfl ?_
          refine go_goto (tgt := 5) dX1_pointsAt_46 (by decide) ?_
          exact ih_5 b (q + 1) (by first | assumption | omega | rfl) (by first | assumption | omega | rfl) (by rw [bits_s _ hq0, ← hb]; first | simp [h_22, h_33] | simp [h_22]) (by omega)
        · refine go_aload_n dX1_pointsAt_25 rfl ?_
          refine go_getf_p (b := (d + 8)) dX1_pointsAt_26 fl_1_50 hd.o rfl hd.p12 ?_
          refine go_iload dX1_pointsAt_29 rfl ?_
          refine go_iaload dX1_pointsAt_31 hd.a8 (by omega) (by omega) (fun he_31 => ?_)
          refine go_iload_n dX1_pointsAt_32 rfl ?_
          refine go_icmp_ne (tgt := 43) dX1_pointsAt_33 (by decide) ⟨by omega, by omega⟩ ⟨by omega, by omega⟩ (fun h_33 => ?_) (fun h_33 => ?_)
          · refine go_iinc (L' := [vr d, vi x, vi y, vi b, vi (q + 1)]) dX1_pointsAt_43 rfl (by decide) rfl rfl ?_
            refine go_goto (tgt := 5) dX1_pointsAt_46 (by decide) ?_
            exact ih_5 b (q + 1) (by first | assumption | omega | rfl) (by first | assumption | omega | rfl) (by rw [bits_s _ hq0, ← hb]; first | simp [h_22, h_33] | simp [h_22]) (by omega)
          · refine go_iload_n dX1_pointsAt_36 rfl ?_
            refine go_iconst dX1_pointsAt_37 ?_
            refine go_iload dX1_pointsAt_38 rfl ?_
            refine go_ishl dX1_pointsAt_40 ?_
            refine go_ior dX1_pointsAt_41 ?_
            rw [show (ior b (ishl 1 q) : Int) = (b + pow2 q) from (ior_bit hq0 (by omega) hbb.1 hbb.2)]
            refine go_istore_n (L' := [vr d, vi x, vi y, vi (b + pow2 q), vi q]) dX1_pointsAt_42 (by decide) rfl rfl ?_
            refine go_iinc (L' := [vr d, vi x, vi y, vi (b + pow2 q), vi (q + 1)]) dX1_pointsAt_43 rfl (by decide) rfl rfl ?_
            refine go_goto (tgt := 5) dX1_pointsAt_46 (by decide) ?_
            exact ih_5 (b + pow2 q) (q + 1) (by first | assumption | omega | rfl) (by first | assumption | omega | rfl) (by rw [bits_s _ hq0, ← hb]; first | simp [h_22, h_33] | simp [h_22]) (by omega)
  exact lp_5 _ 0 0 (by first | assumption | omega | rfl) (by first | assumption | omega | rfl) (sumI_0 _).symm (Nat.lt_succ_self _)
theorem dX10_whoIsAt_0 : decode mX10_whoIsAt.2.1 0 = .ok (.iconst 0, 1) := by decide +kernel
theorem dX10_whoIsAt_1 : decode mX10_whoIsAt.2.1 1 = .ok (.istore_n 3, 1) := by decide +kernel
theorem dX10_whoIsAt_2 : decode mX10_whoIsAt.2.1 2 = .ok (.iload_n 3, 1) := by decide +kernel
theorem dX10_whoIsAt_3 : decode mX10_whoIsAt.2.1 3 = .ok (.aload_n 0, 1) := by decide +kernel
theorem dX10_whoIsAt_4 : decode mX10_whoIsAt.2.1 4 = .ok (.getfield 29, 3) := by decide +kernel
theorem dX10_whoIsAt_7 : decode mX10_whoIsAt.2.1 7 = .ok (.getfield 53, 3) := by decide +kernel
theorem dX10_whoIsAt_10 : decode mX10_whoIsAt.2.1 10 = .ok (.if_icmp .ge 37, 3) := by decide +kernel
theorem dX10_whoIsAt_13 : decode mX10_whoIsAt.2.1 13 = .ok (.aload_n 0, 1) := by decide +kernel
theorem dX10_whoIsAt_14 : decode mX10_whoIsAt.2.1 14 = .ok (.getfield 12, 3) := by decide +kernel
theorem dX10_whoIsAt_17 : decode mX10_whoIsAt.2.1 17 = .ok (.getfield 59, 3) := by decide +kernel
theorem dX10_whoIsAt_20 : decode mX10_whoIsAt.2.1 20 = .ok (.iload_n 3, 1) := by decide +kernel
theorem dX10_whoIsAt_21 : decode mX10_whoIsAt.2.1 21 = .ok (.iaload, 1) := by decide +kernel
theorem dX10_whoIsAt_22 : decode mX10_whoIsAt.2.1 22 = .ok (.iload_n 1, 1) := by decide +kernel
theorem dX10_whoIsAt_23 : decode mX10_whoIsAt.2.1 23 = .ok (.if_icmp .ne 18, 3) := by decide +kernel
theorem dX10_whoIsAt_26 : decode mX10_whoIsAt.2.1 26 = .ok (.aload_n 0, 1) := by decide +kernel
theorem dX10_whoIsAt_27 : decode mX10_whoIsAt.2.1 27 = .ok (.getfield 12, 3) := by decide +kernel
theorem dX10_whoIsAt_30 : decode mX10_whoIsAt.2.1 30 = .ok (.getfield 63, 3) := by decide +kernel
theorem dX10_whoIsAt_33 : decode mX10_whoIsAt.2.1 33 = .ok (.iload_n 3, 1) := by decide +kernel
theorem dX10_whoIsAt_34 : decode mX10_whoIsAt.2.1 34 = .ok (.iaload, 1) := by decide +kernel
theorem dX10_whoIsAt_35 : decode mX10_whoIsAt.2.1 35 = .ok (.iload_n 2, 1) := by decide +kernel
theorem dX10_whoIsAt_36 : decode mX10_whoIsAt.2.1 36 = .ok (.if_icmp .ne 5, 3) := by decide +kernel
theorem dX10_whoIsAt_39 : decode mX10_whoIsAt.2.1 39 = .ok (.iload_n 3, 1) := by decide +kernel
theorem dX10_whoIsAt_40 : decode mX10_whoIsAt.2.1 40 = .ok (.ireturn, 1) := by decide +kernel
theorem dX10_whoIsAt_41 : decode mX10_whoIsAt.2.1 41 = .ok (.iinc 3 1, 3) := by decide +kernel
theorem dX10_whoIsAt_44 : decode mX10_whoIsAt.2.1 44 = .ok (.goto (-42), 3) := by decide +kernel
theorem dX10_whoIsAt_47 : decode mX10_whoIsAt.2.1 47 = .ok (.iconst (-1), 1) := by decide +kernel
theorem dX10_whoIsAt_48 : decode mX10_whoIsAt.2.1 48 = .ok (.ireturn, 1) := by decide +kernel
set_option maxRecDepth 4000 in
theorem ev_X10_whoIsAt {m : Mem} {w : Nat} {d : Nat} {st : Nat} {x : Int} {y : Int} (hw : isWd w d st) (hdn : DnOk m d) (hx : InR x) (hy : InR y) : Ev 0 1 mX10_whoIsAt [vr w, vi x, vi y] m (fun r m' => m' = m ∧ (r = whoC m d st x y)) := by
  refine Ev.of (L := [vr w, vi x, vi y, un]) (by decide +kernel) rfl (Nat.le_of_ble_eq_true rfl) rfl (fun t ht => by cases ht; first | exact Or.inl rfl | exact Or.inr (Or.inl rfl) | exact Or.inr (Or.inr rfl)) (fun hcan => ?_)
  obtain ⟨⟨hd0, hd1⟩, ⟨hd2, hd3⟩, ⟨hd4, hd5⟩, ⟨hd6, hd7⟩, ⟨hd8, hd9⟩, hdf, hdp, hdq⟩ := id hdn
  refine go_iconst dX10_whoIsAt_0 ?_
  refine go_istore_n (L' := [vr w, vi x, vi y, vi 0]) dX10_whoIsAt_1 (by decide) rfl rfl ?_
  have lp_2 : ∀ (n_2 : Nat) (p : Int), (0 ≤ p) → (p ≤ m d 3) → (∀ j : Int, 0 ≤ j → j < p → decide (m (st + 2) j = x ∧ m (st + 3) j = y) = false) → (m d 3 - p).toNat < n_2 → Go 0 1 mX10_whoIsAt (fun r m' => m' = m ∧ (r = whoC m d st x y)) 2 [vr w, vi x, vi y, vi p] [] m := by
    intro n_2
    induction n_2 with
    | zero => intro p hp0 hp1 hno hmu; exact absurd hmu (Nat.not_lt_zero _)
    | succ n_2 ih_2 =>
      intro p hp0 hp1 hno hmu
      refine go_iload_n dX10_whoIsAt_2 rfl ?_
      refine go_aload_n dX10_whoIsAt_3 rfl ?_
      refine go_getf_p (b := d) dX10_whoIsAt_4 fl_10_29 hw.o rfl hw.p0 ?_
      refine go_getf_i (ki := 3) dX10_whoIsAt_7 fl_10_53 hw.dn.o rfl rfl (fun hf_7 => ?_)
      refine go_icmp_ge (tgt := 47) dX10_whoIsAt_10 (by decide) ⟨by omega, by omega⟩ ⟨by omega, by omega⟩ (fun h_10 => ?_) (fun h_10 => ?_)
      · refine go_iconst dX10_whoIsAt_47 ?_
        exact go_ret (v := (-1)) rfl dX10_whoIsAt_48 (okI ⟨by omega, by omega⟩) ⟨rfl, (fnd_none (fun j a b => hno j a (by omega))).symm⟩
      · refine go_aload_n dX10_whoIsAt_13 rfl ?_
        refine go_getf_p (b := st) dX10_whoIsAt_14 fl_10_12 hw.o rfl hw.p1 ?_
        refine go_getf_p (b := (st + 2)) dX10_whoIsAt_17 fl_10_59 hw.st.o rfl hw.st.p3 ?_
        refine go_iload_n dX10_whoIsAt_20 rfl ?_
        refine go_iaload dX10_whoIsAt_21 hw.st.a2 (by omega) (by omega) (fun he_21 => ?_)
        refine go_iload_n dX10_whoIsAt_22 rfl ?_
        refine go_icmp_ne (tgt := 41) dX10_whoIsAt_23 (by decide) ⟨by omega, by omega⟩ ⟨by omega, by omega⟩ (fun h_23 => ?_) (fun h_23 => ?_)
        · refine go_iinc (L' := [vr w, vi x, vi y, vi (p + 1)]) dX10_whoIsAt_41 rfl (by decide) rfl rfl ?_
          refine go_goto (tgt := 2) dX10_whoIsAt_44 (by decide) ?_
          exact ih_2 (p + 1) (by first | assumption | omega | rfl) (by first | assumption | omega | rfl) (stp hno (by first | simp [h_23, h_36] | simp [h_23])) (by omega)
        · refine go_aload_n dX10_whoIsAt_26 rfl ?_
          refine go_getf_p (b := st) dX10_whoIsAt_27 fl_10_12 hw.o rfl hw.p1 ?_
          refine go_getf_p (b := (st + 3)) dX10_whoIsAt_30 fl_10_63 hw.st.o rfl hw.st.p4 ?_
          refine go_iload_n dX10_whoIsAt_33 rfl ?_
          refine go_iaload dX10_whoIsAt_34 hw.st.a3 (by omega) (by omega) (fun he_34 => ?_)
          refine go_iload_n dX10_whoIsAt_35 rfl ?_
          refine go_icmp_ne (tgt := 41) dX10_whoIsAt_36 (by decide) ⟨by omega, by omega⟩ ⟨by omega, by omega⟩ (fun h_36 => ?_) (fun h_36 => ?_)
          · refine go_iinc (L' := [vr w, vi x, vi y, vi (p + 1)]) dX10_whoIsAt_41 rfl (by decide) rfl rfl ?_
            refine go_goto (tgt := 2) dX10_whoIsAt_44 (by decide) ?_
            exact ih_2 (p + 1) (by first | assumption | omega | rfl) (by first | assumption | omega | rfl) (stp hno (by first | simp [h_23, h_36] | simp [h_23])) (by omega)
          · refine go_iload_n dX10_whoIsAt_39 rfl ?_
            exact go_ret (v := p) rfl dX10_whoIsAt_40 (okI ⟨by omega, by omega⟩) ⟨rfl, (fnd_some hp0 (by omega) (by simp [h_23, h_36]) hno).symm⟩
  exact lp_2 _ 0 (by first | assumption | omega | rfl) (by first | assumption | omega | rfl) (fun j a b => by omega) (Nat.lt_succ_self _)
