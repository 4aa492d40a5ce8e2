/-! ===== the reference: its row of numbers, told by a ghost World G of the class ===== -/
def BgD (G : Mem) (d : Nat) (N : Int → Int) : Prop := (N 0 = G d 0 ∧ N 1 = G d 1 ∧ N 2 = G d 2 ∧ N 3 = G d 3 ∧ N 4 = G d 4) ∧
  (∀ f : Int, 0 ≤ f → f < G d 2 → N (5 + f) = G (d + 2) f ∧ N (11 + f) = G (d + 3) f) ∧
  (∀ p : Int, 0 ≤ p → p < G d 3 → N (27 + p) = G (d + 5) p) ∧
  (∀ q : Int, 0 ≤ q → q < G d 4 → N (32 + q) = 9 * G (d + 8) q + G (d + 7) q ∧ N (37 + q) = G (d + 9) q)
def BgS (G : Mem) (d st : Nat) (N : Int → Int) : Prop := (N 123 = G st 0 ∧ N 124 = sumI (G (st + 7)) (G d 3) ∧ N 125 = G st 1) ∧
  (∀ p : Int, 0 ≤ p → p < G d 3 → N (126 + p) = 9 * G (st + 3) p + G (st + 2) p ∧ N (131 + p) = G (st + 4) p ∧ N (136 + p) = G (st + 5) p ∧ N (141 + p) = G (st + 6) p ∧ N (146 + p) = G (st + 7) p) ∧
  (∀ p : Int, G d 3 ≤ p → p < 5 → N (136 + p) = 0) ∧
  (∀ c : Int, 0 ≤ c → c < 81 → N (151 + c) = G (st + 1) c)
def Bg (G : Mem) (d st : Nat) (N : Int → Int) : Prop := BgD G d N ∧ BgS G d st N
section
variable {G : Mem} {d st : Nat} {N : Int → Int} {f p q c : Int}
theorem Bg.n0 (h : Bg G d st N) : N 0 = G d 0 := h.1.1.1
theorem Bg.n1 (h : Bg G d st N) : N 1 = G d 1 := h.1.1.2.1
theorem Bg.n2 (h : Bg G d st N) : N 2 = G d 2 := h.1.1.2.2.1
theorem Bg.n3 (h : Bg G d st N) : N 3 = G d 3 := h.1.1.2.2.2.1
theorem Bg.n4 (h : Bg G d st N) : N 4 = G d 4 := h.1.1.2.2.2.2
theorem Bg.qu (h : Bg G d st N) (h0 : 0 ≤ f) (h1 : f < G d 2) : N (5 + f) = G (d + 2) f := (h.1.2.1 f h0 h1).1
theorem Bg.go (h : Bg G d st N) (h0 : 0 ≤ f) (h1 : f < G d 2) : N (11 + f) = G (d + 3) f := (h.1.2.1 f h0 h1).2
theorem Bg.mo (h : Bg G d st N) (h0 : 0 ≤ p) (h1 : p < G d 3) : N (27 + p) = G (d + 5) p := h.1.2.2.1 p h0 h1
theorem Bg.sp (h : Bg G d st N) (h0 : 0 ≤ q) (h1 : q < G d 4) : N (32 + q) = 9 * G (d + 8) q + G (d + 7) q := (h.1.2.2.2 q h0 h1).1
theorem Bg.su (h : Bg G d st N) (h0 : 0 ≤ q) (h1 : q < G d 4) : N (37 + q) = G (d + 9) q := (h.1.2.2.2 q h0 h1).2
theorem Bg.hr (h : Bg G d st N) : N 123 = G st 0 := h.2.1.1
theorem Bg.sy (h : Bg G d st N) : N 124 = sumI (G (st + 7)) (G d 3) := h.2.1.2.1
theorem Bg.ki (h : Bg G d st N) : N 125 = G st 1 := h.2.1.2.2
theorem Bg.at (h : Bg G d st N) (h0 : 0 ≤ p) (h1 : p < G d 3) : N (126 + p) = 9 * G (st + 3) p + G (st + 2) p := (h.2.2.1 p h0 h1).1
theorem Bg.up (h : Bg G d st N) (h0 : 0 ≤ p) (h1 : p < G d 3) : N (131 + p) = G (st + 4) p := (h.2.2.1 p h0 h1).2.1
theorem Bg.br (h : Bg G d st N) (h0 : 0 ≤ p) (h1 : p < G d 3) : N (136 + p) = G (st + 5) p := (h.2.2.1 p h0 h1).2.2.1
theorem Bg.ca (h : Bg G d st N) (h0 : 0 ≤ p) (h1 : p < G d 3) : N (141 + p) = G (st + 6) p := (h.2.2.1 p h0 h1).2.2.2.1
theorem Bg.sa (h : Bg G d st N) (h0 : 0 ≤ p) (h1 : p < G d 3) : N (146 + p) = G (st + 7) p := (h.2.2.1 p h0 h1).2.2.2.2
theorem Bg.zr (h : Bg G d st N) (h0 : G d 3 ≤ p) (h1 : p < 5) : N (136 + p) = 0 := h.2.2.2.1 p h0 h1
theorem Bg.wl (h : Bg G d st N) (h0 : 0 ≤ c) (h1 : c < 81) : N (151 + c) = G (st + 1) c := h.2.2.2.2 c h0 h1
end
theorem Bg.w {m : Mem} {G : Mem} {d st b : Nat} {j x : Int} (hb : Bg G d st (m 216)) (h : b ≠ 216) : Bg G d st (wr m b j x 216) := by
  rw [wr_row (fun e => h e.symm)]; exact hb
theorem sdx {s n : Int} (h0 : 0 ≤ s) (h1 : s < 4) : (s = 0 ∧ n * dx s = n ∧ n * dy s = 0) ∨ (s = 1 ∧ n * dx s = 0 ∧ n * dy s = n) ∨ (s = 2 ∧ n * dx s = -n ∧ n * dy s = 0) ∨ (s = 3 ∧ n * dx s = 0 ∧ n * dy s = -n) := by
  have : s = 0 ∨ s = 1 ∨ s = 2 ∨ s = 3 := by omega
  rcases this with rfl | rfl | rfl | rfl
  · left; exact ⟨rfl, by rw [show dx 0 = 1 from rfl]; omega, by rw [show dy 0 = 0 from rfl]; omega⟩
  · right; left; exact ⟨rfl, by rw [show dx 1 = 0 from rfl]; omega, by rw [show dy 1 = 1 from rfl]; omega⟩
  · right; right; left; exact ⟨rfl, by rw [show dx 2 = -1 from rfl]; omega, by rw [show dy 2 = 0 from rfl]; omega⟩
  · right; right; right; exact ⟨rfl, by rw [show dx 3 = 0 from rfl]; omega, by rw [show dy 3 = -1 from rfl]; omega⟩
abbrev hasP (b k : Int) : Prop := iand (ishr b k) 1 = 1
def barP (G : Mem) (d st : Nat) (but x y : Int) : Int := if insC G d x y then (if 0 < G (st + 1) (9 * y + x) then 3 else if whoC G d st x y = -1 ∨ hasP but (whoC G d st x y) then 0 else 4) else 2
def lwP (G : Mem) (d st : Nat) (but x y u v : Int) : Nat → Int
  | 0 => 0
  | n + 1 => if barP G d st but (x + (n + 1 : Int) * u) (y + (n + 1 : Int) * v) ≠ 0 ∧ (lwP G d st but x y u v n = 0 ∨ barP G d st but (x + (n + 1 : Int) * u) (y + (n + 1 : Int) * v) < lwP G d st but x y u v n) then barP G d st but (x + (n + 1 : Int) * u) (y + (n + 1 : Int) * v) else lwP G d st but x y u v n
theorem barP_b (G : Mem) (d st : Nat) (but x y : Int) : 0 ≤ barP G d st but x y ∧ barP G d st but x y ≤ 4 := by
  unfold barP; split <;> (try split) <;> (try split) <;> omega
theorem lwP_b (G : Mem) (d st : Nat) (but x y u v : Int) (n : Nat) : 0 ≤ lwP G d st but x y u v n ∧ lwP G d st but x y u v n ≤ 4 := by
  induction n with
  | zero => simp [lwP]
  | succ n ih =>
    have := barP_b G d st but (x + (n + 1 : Int) * u) (y + (n + 1 : Int) * v)
    simp only [lwP]; split <;> omega
theorem lwP_s {G : Mem} {d st : Nat} {but x y u v k : Int} (h : 1 ≤ k) : lwP G d st but x y u v k.toNat = if barP G d st but (x + k * u) (y + k * v) ≠ 0 ∧ (lwP G d st but x y u v (k - 1).toNat = 0 ∨ barP G d st but (x + k * u) (y + k * v) < lwP G d st but x y u v (k - 1).toNat) then barP G d st but (x + k * u) (y + k * v) else lwP G d st but x y u v (k - 1).toNat := by
  obtain ⟨n, rfl⟩ : ∃ n : Nat, k = (n : Int) + 1 := ⟨(k - 1).toNat, by omega⟩
  rw [show ((n : Int) + 1).toNat = n + 1 by omega, show ((n : Int) + 1 - 1).toNat = n by omega]
  rfl
theorem ishr0 : ∀ n : Nat, n < 6 → iand (ishr 0 (n : Int)) 1 = 0 := by decide +kernel
theorem whoC_b (G : Mem) (d st : Nat) (x y : Int) : whoC G d st x y = -1 ∨ (0 ≤ whoC G d st x y ∧ whoC G d st x y < G d 3 ∧ G (st + 2) (whoC G d st x y) = x ∧ G (st + 3) (whoC G d st x y) = y) := by
  rcases fnd_cases (fun p => decide (G (st + 2) p = x ∧ G (st + 3) p = y)) (G d 3) with ⟨h, -⟩ | ⟨h1, h2, h3, -⟩
  · left; exact h
  · right; exact ⟨h1, h2, (of_decide_eq_true h3).1, (of_decide_eq_true h3).2⟩
theorem barP_0 {G : Mem} {d st : Nat} {x y : Int} (h5 : G d 3 ≤ 5) : barP G d st 0 x y = barC G d st x y := by
  unfold barP barC
  split
  · split
    · rfl
    · rcases whoC_b G d st x y with h | ⟨h, h2, -⟩
      · rw [if_pos (Or.inl h), if_pos h]
      · have e := ishr0 (whoC G d st x y).toNat (by omega)
        rw [Int.toNat_of_nonneg h] at e
        rw [if_neg (by unfold hasP; omega), if_neg (by omega)]
  · rfl
theorem lwP_0 {G : Mem} {d st : Nat} {x y u v : Int} (h5 : G d 3 ≤ 5) (n : Nat) : lwP G d st 0 x y u v n = lwC G d st x y u v n := by
  induction n with
  | zero => rfl
  | succ n ih => simp only [lwP, lwC, barP_0 h5, ih]
def whP (G : Mem) (d st : Nat) (v : Int) : Int → Bool := fun p => if v = 0 then decide (G (st + 5) p = 0) else if v = 1 then setlC G d st p else decide (G (st + 4) p = 0)
def perF (G : Mem) (d st : Nat) (p v : Int) : Int := if v = 0 then G (st + 2) p else if v = 1 then G (st + 3) p else if v = 2 then G (st + 4) p else if v = 3 then G (st + 5) p else if v = 4 then G (d + 5) p else if v = 5 then G (st + 6) p else G (st + 7) p
def gcdI (x y : Int) : Int := ((Nat.gcd x.toNat y.toNat : Nat) : Int)
theorem gcdI_s {x y : Int} (hx : 0 ≤ x) (hy : 0 < y) : gcdI y (x % y) = gcdI x y := by
  unfold gcdI
  obtain ⟨a, rfl⟩ := Int.eq_ofNat_of_zero_le hx
  obtain ⟨b, rfl⟩ := Int.eq_ofNat_of_zero_le (Int.le_of_lt hy)
  congr 1
  show Nat.gcd b (((a : Int) % (b : Int)).toNat) = Nat.gcd a b
  rw [show (((a : Int) % (b : Int)).toNat) = a % b by omega, Nat.gcd_comm a b, Nat.gcd_rec b a, Nat.gcd_comm]
theorem gcdI_0 {x : Int} (hx : 0 ≤ x) : gcdI x 0 = x := by
  unfold gcdI
  show ((Nat.gcd x.toNat 0 : Nat) : Int) = x
  rw [Nat.gcd_zero_right]; omega
theorem sumI_add {f : Int → Int} {a b : Int} (ha : 0 ≤ a) (hb : a ≤ b) (h : ∀ j : Int, a ≤ j → j < b → f j = 0) : sumI f b = sumI f a := by
  have key : ∀ n : Nat, a + n ≤ b → sumI f (a + n) = sumI f a := by
    intro n
    induction n with
    | zero => intro _; rw [show a + ((0 : Nat) : Int) = a by omega]
    | succ n ih =>
      intro hn
      rw [show a + ((n + 1 : Nat) : Int) = a + n + 1 by omega, sumI_succ f (by omega), ih (by omega), h (a + n) (by omega) (by omega)]
      omega
  have := key (b - a).toNat (by omega)
  rw [show a + ((b - a).toNat : Int) = b by omega] at this
  exact this

theorem dX12_isIn_0 : decode mX12_isIn.2.1 0 = .ok (.iload_n 0, 1) := by decide +kernel
theorem dX12_isIn_1 : decode mX12_isIn.2.1 1 = .ok (.iload_n 1, 1) := by decide +kernel
theorem dX12_isIn_2 : decode mX12_isIn.2.1 2 = .ok (.if_icmp .lt 12, 3) := by decide +kernel
theorem dX12_isIn_5 : decode mX12_isIn.2.1 5 = .ok (.iload_n 0, 1) := by decide +kernel
theorem dX12_isIn_6 : decode mX12_isIn.2.1 6 = .ok (.iload_n 2, 1) := by decide +kernel
theorem dX12_isIn_7 : decode mX12_isIn.2.1 7 = .ok (.if_icmp .gt 7, 3) := by decide +kernel
theorem dX12_isIn_10 : decode mX12_isIn.2.1 10 = .ok (.iconst 1, 1) := by decide +kernel
theorem dX12_isIn_11 : decode mX12_isIn.2.1 11 = .ok (.goto 4, 3) := by decide +kernel
theorem dX12_isIn_14 : decode mX12_isIn.2.1 14 = .ok (.iconst 0, 1) := by decide +kernel
theorem dX12_isIn_15 : decode mX12_isIn.2.1 15 = .ok (.ireturn, 1) := by decide +kernel
set_option maxRecDepth 4000 in
theorem ev_X12_isIn {m : Mem} {n : Int} {lo : Int} {hi : Int} (hn : InR n) (h1 : InR lo) (h2 : InR hi) : Ev 0 1 mX12_isIn [vi n, vi lo, vi hi] m (fun r m' => m' = m ∧ (r = if lo ≤ n ∧ n ≤ hi then 1 else 0)) := by
  refine Ev.of (L := [vi n, vi lo, vi hi]) (by decide +kernel) rfl (Nat.le_of_ble_eq_true rfl) rfl (fun t ht => by cases ht; first | exact Or.inl rfl | exact Or.inr (Or.inl rfl) | exact Or.inr (Or.inr rfl)) (fun hcan => ?_)
  refine go_iload_n dX12_isIn_0 rfl ?_
  refine go_iload_n dX12_isIn_1 rfl ?_
  refine go_icmp_lt (tgt := 14) dX12_isIn_2 (by decide) ⟨by omega, by omega⟩ ⟨by omega, by omega⟩ (fun h_2 => ?_) (fun h_2 => ?_)
  · refine go_iconst dX12_isIn_14 ?_
    exact go_ret (v := 0) rfl dX12_isIn_15 (okZ (by first | exact Or.inl rfl | exact Or.inr rfl | assumption | omega)) ⟨rfl, (by first | assumption | rfl | omega)⟩
  · refine go_iload_n dX12_isIn_5 rfl ?_
    refine go_iload_n dX12_isIn_6 rfl ?_
    refine go_icmp_gt (tgt := 14) dX12_isIn_7 (by decide) ⟨by omega, by omega⟩ ⟨by omega, by omega⟩ (fun h_7 => ?_) (fun h_7 => ?_)
    · refine go_iconst dX12_isIn_14 ?_
      exact go_ret (v := 0) rfl dX12_isIn_15 (okZ (by first | exact Or.inl rfl | exact Or.inr rfl | assumption | omega)) ⟨rfl, (by first | assumption | rfl | omega)⟩
    · refine go_iconst dX12_isIn_10 ?_
      refine go_goto (tgt := 15) dX12_isIn_11 (by decide) ?_
      exact go_ret (v := 1) rfl dX12_isIn_15 (okZ (by first | exact Or.inl rfl | exact Or.inr rfl | assumption | omega)) ⟨rfl, (by first | assumption | rfl | omega)⟩
theorem dX12_has_0 : decode mX12_has.2.1 0 = .ok (.iload_n 0, 1) := by decide +kernel
theorem dX12_has_1 : decode mX12_has.2.1 1 = .ok (.iload_n 1, 1) := by decide +kernel
theorem dX12_has_2 : decode mX12_has.2.1 2 = .ok (.ishr, 1) := by decide +kernel
theorem dX12_has_3 : decode mX12_has.2.1 3 = .ok (.iconst 1, 1) := by decide +kernel
theorem dX12_has_4 : decode mX12_has.2.1 4 = .ok (.iand, 1) := by decide +kernel
theorem dX12_has_5 : decode mX12_has.2.1 5 = .ok (.iconst 1, 1) := by decide +kernel
theorem dX12_has_6 : decode mX12_has.2.1 6 = .ok (.if_icmp .ne 7, 3) := by decide +kernel
theorem dX12_has_9 : decode mX12_has.2.1 9 = .ok (.iconst 1, 1) := by decide +kernel
theorem dX12_has_10 : decode mX12_has.2.1 10 = .ok (.goto 4, 3) := by decide +kernel
theorem dX12_has_13 : decode mX12_has.2.1 13 = .ok (.iconst 0, 1) := by decide +kernel
theorem dX12_has_14 : decode mX12_has.2.1 14 = .ok (.ireturn, 1) := by decide +kernel
set_option maxRecDepth 4000 in
theorem ev_X12_has {m : Mem} {a : Int} {k : Int}  : Ev 0 1 mX12_has [vi a, vi k] m (fun r m' => m' = m ∧ ((r = 1 ∧ hasP a k) ∨ (r = 0 ∧ ¬ hasP a k))) := by
  refine Ev.of (L := [vi a, vi k]) (by decide +kernel) rfl (Nat.le_of_ble_eq_true rfl) rfl (fun t ht => by cases ht; first | exact Or.inl rfl | exact Or.inr (Or.inl rfl) | exact Or.inr (Or.inr rfl)) (fun hcan => ?_)
  refine go_iload_n dX12_has_0 rfl ?_
  refine go_iload_n dX12_has_1 rfl ?_
  refine go_ishr dX12_has_2 ?_
  refine go_iconst dX12_has_3 ?_
  refine go_iand dX12_has_4 ?_
  refine go_iconst dX12_has_5 ?_
  have hia := iand1_R (ishr a k)
  refine go_icmp_ne (tgt := 13) dX12_has_6 (by decide) ⟨by omega, by omega⟩ ⟨by omega, by omega⟩ (fun h_6 => ?_) (fun h_6 => ?_)
  · refine go_iconst dX12_has_13 ?_
    exact go_ret (v := 0) rfl dX12_has_14 (okZ (by first | exact Or.inl rfl | exact Or.inr rfl | assumption | omega)) ⟨rfl, (by first | assumption | rfl | omega)⟩
  · refine go_iconst dX12_has_9 ?_
    refine go_goto (tgt := 14) dX12_has_10 (by decide) ?_
    exact go_ret (v := 1) rfl dX12_has_14 (okZ (by first | exact Or.inl rfl | exact Or.inr rfl | assumption | omega)) ⟨rfl, (by first | assumption | rfl | omega)⟩
theorem dX12_lesser_0 : decode mX12_lesser.2.1 0 = .ok (.iload_n 0, 1) := by decide +kernel
theorem dX12_lesser_1 : decode mX12_lesser.2.1 1 = .ok (.iload_n 1, 1) := by decide +kernel
theorem dX12_lesser_2 : decode mX12_lesser.2.1 2 = .ok (.if_icmp .ge 7, 3) := by decide +kernel
theorem dX12_lesser_5 : decode mX12_lesser.2.1 5 = .ok (.iload_n 0, 1) := by decide +kernel
theorem dX12_lesser_6 : decode mX12_lesser.2.1 6 = .ok (.goto 4, 3) := by decide +kernel
theorem dX12_lesser_9 : decode mX12_lesser.2.1 9 = .ok (.iload_n 1, 1) := by decide +kernel
theorem dX12_lesser_10 : decode mX12_lesser.2.1 10 = .ok (.ireturn, 1) := by decide +kernel
set_option maxRecDepth 4000 in
theorem ev_X12_lesser {m : Mem} {a : Int} {b : Int} (ha : InR a) (hb1 : InR b) : Ev 0 1 mX12_lesser [vi a, vi b] m (fun r m' => m' = m ∧ (r = min a b)) := by
  refine Ev.of (L := [vi a, vi b]) (by decide +kernel) rfl (Nat.le_of_ble_eq_true rfl) rfl (fun t ht => by cases ht; first | exact Or.inl rfl | exact Or.inr (Or.inl rfl) | exact Or.inr (Or.inr rfl)) (fun hcan => ?_)
  refine go_iload_n dX12_lesser_0 rfl ?_
  refine go_iload_n dX12_lesser_1 rfl ?_
  refine go_icmp_ge (tgt := 9) dX12_lesser_2 (by decide) ⟨by omega, by omega⟩ ⟨by omega, by omega⟩ (fun h_2 => ?_) (fun h_2 => ?_)
  · refine go_iload_n dX12_lesser_9 rfl ?_
    exact go_ret (v := b) rfl dX12_lesser_10 (okI ⟨by omega, by omega⟩) ⟨rfl, (by first | assumption | rfl | omega)⟩
  · refine go_iload_n dX12_lesser_5 rfl ?_
    refine go_goto (tgt := 10) dX12_lesser_6 (by decide) ?_
    exact go_ret (v := a) rfl dX12_lesser_10 (okI ⟨by omega, by omega⟩) ⟨rfl, (by first | assumption | rfl | omega)⟩
theorem dX12_common_0 : decode mX12_common.2.1 0 = .ok (.iload_n 0, 1) := by decide +kernel
theorem dX12_common_1 : decode mX12_common.2.1 1 = .ok (.istore_n 2, 1) := by decide +kernel
theorem dX12_common_2 : decode mX12_common.2.1 2 = .ok (.iload_n 1, 1) := by decide +kernel
theorem dX12_common_3 : decode mX12_common.2.1 3 = .ok (.istore_n 3, 1) := by decide +kernel
theorem dX12_common_4 : decode mX12_common.2.1 4 = .ok (.iload_n 3, 1) := by decide +kernel
theorem dX12_common_5 : decode mX12_common.2.1 5 = .ok (.ifCond .eq 16, 3) := by decide +kernel
theorem dX12_common_8 : decode mX12_common.2.1 8 = .ok (.iload_n 2, 1) := by decide +kernel
theorem dX12_common_9 : decode mX12_common.2.1 9 = .ok (.iload_n 3, 1) := by decide +kernel
theorem dX12_common_10 : decode mX12_common.2.1 10 = .ok (.irem, 1) := by decide +kernel
theorem dX12_common_11 : decode mX12_common.2.1 11 = .ok (.istore 4, 2) := by decide +kernel
theorem dX12_common_13 : decode mX12_common.2.1 13 = .ok (.iload_n 3, 1) := by decide +kernel
theorem dX12_common_14 : decode mX12_common.2.1 14 = .ok (.istore_n 2, 1) := by decide +kernel
theorem dX12_common_15 : decode mX12_common.2.1 15 = .ok (.iload 4, 2) := by decide +kernel
theorem dX12_common_17 : decode mX12_common.2.1 17 = .ok (.istore_n 3, 1) := by decide +kernel
theorem dX12_common_18 : decode mX12_common.2.1 18 = .ok (.goto (-14), 3) := by decide +kernel
theorem dX12_common_21 : decode mX12_common.2.1 21 = .ok (.iload_n 2, 1) := by decide +kernel
theorem dX12_common_22 : decode mX12_common.2.1 22 = .ok (.ireturn, 1) := by decide +kernel
set_option maxRecDepth 4000 in
theorem ev_X12_common {m : Mem} {a : Int} {b : Int} (ha : 0 ≤ a ∧ a ≤ 1000) (hb1 : 0 ≤ b ∧ b ≤ 1000) : Ev 0 1 mX12_common [vi a, vi b] m (fun r m' => m' = m ∧ (r = gcdI a b)) := by
  refine Ev.of (L := [vi a, vi b, un, un, un]) (by decide +kernel) rfl (Nat.le_of_ble_eq_true rfl) rfl (fun t ht => by cases ht; first | exact Or.inl rfl | exact Or.inr (Or.inl rfl) | exact Or.inr (Or.inr rfl)) (fun hcan => ?_)
  refine go_iload_n dX12_common_0 rfl ?_
  refine go_istore_n (L' := [vi a, vi b, vi a, un, un]) dX12_common_1 (by decide) rfl rfl ?_
  refine go_iload_n dX12_common_2 rfl ?_
  refine go_istore_n (L' := [vi a, vi b, vi a, vi b, un]) dX12_common_3 (by decide) rfl rfl ?_
  refine go_drop (j := 0) (L' := [un, vi b, vi a, vi b, un]) rfl ?_
  refine go_drop (j := 1) (L' := [un, un, vi a, vi b, un]) rfl ?_
  have lp_4 : ∀ (n_4 : Nat) (x : Int) (y : Int) , (0 ≤ x ∧ x ≤ 1000) → (0 ≤ y ∧ y ≤ 1000) → (gcdI x y = gcdI a b) → y.toNat < n_4 → Go 0 1 mX12_common (fun r m' => m' = m ∧ (r = gcdI a b)) 4 [un, un, vi x, vi y, un] [] m := by
    intro n_4
    induction n_4 with
    | zero => intro x y hx hy hg hmu; exact absurd hmu (Nat.not_lt_zero _)
    | succ n_4 ih_4 =>
      intro x y hx hy hg hmu
      refine go_iload_n dX12_common_4 rfl ?_
      refine go_if_eq (tgt := 21) dX12_common_5 (by decide) ⟨by omega, by omega⟩ (fun h_5 => ?_) (fun h_5 => ?_)
      · refine go_iload_n dX12_common_21 rfl ?_
        exact go_ret (v := x) rfl dX12_common_22 (okI ⟨by omega, by omega⟩) ⟨rfl, (by rw [← hg, show y = 0 by omega, gcdI_0 (by omega)])⟩
      · refine go_iload_n dX12_common_8 rfl ?_
        refine go_iload_n dX12_common_9 rfl ?_
        refine go_irem dX12_common_10 ⟨by omega, by omega⟩ ⟨by omega, by omega⟩ (by omega) (by omega) ?_
        have hm0 := Int.emod_nonneg x (show y ≠ 0 by omega)
        have hm1 := Int.emod_lt_of_pos x (show 0 < y by omega)
        refine go_istore (L' := [un, un, vi x, vi y, vi (x % y)]) dX12_common_11 (by decide) rfl rfl ?_
        refine go_iload_n dX12_common_13 rfl ?_
        refine go_istore_n (L' := [un, un, vi y, vi y, vi (x % y)]) dX12_common_14 (by decide) rfl rfl ?_
        refine go_iload dX12_common_15 rfl ?_
        refine go_istore_n (L' := [un, un, vi y, vi (x % y), vi (x % y)]) dX12_common_17 (by decide) rfl rfl ?_
        refine go_goto (tgt := 4) dX12_common_18 (by decide) ?_
        refine go_drop (j := 4) (L' := [un, un, vi y, vi (x % y), un]) rfl ?_
        exact ih_4 y (x % y) (by first | assumption | omega | rfl) (by first | assumption | omega | rfl) (by rw [← hg]; exact gcdI_s (by omega) (by omega)) (by omega)
  exact lp_4 _ a b (by first | assumption | omega | rfl) (by first | assumption | omega | rfl) rfl (Nat.lt_succ_self _)
theorem dX12_thrown_0 : decode mX12_thrown.2.1 0 = .ok (.aload_n 0, 1) := by decide +kernel
theorem dX12_thrown_1 : decode mX12_thrown.2.1 1 = .ok (.getfield 1, 3) := by decide +kernel
theorem dX12_thrown_4 : decode mX12_thrown.2.1 4 = .ok (.ireturn, 1) := by decide +kernel
set_option maxRecDepth 4000 in
theorem ev_X12_thrown {m : Mem}   : Ev 0 1 mX12_thrown [vr 214] m (fun r m' => m' = m ∧ (r = m 214 0)) := by
  refine Ev.of (L := [vr 214]) (by decide +kernel) rfl (Nat.le_of_ble_eq_true rfl) rfl (fun t ht => by cases ht; first | exact Or.inl rfl | exact Or.inr (Or.inl rfl) | exact Or.inr (Or.inr rfl)) (fun hcan => ?_)
  refine go_aload_n dX12_thrown_0 rfl ?_
  refine go_getf_i (ki := 0) dX12_thrown_1 fl_12_1 ob_214 rfl rfl (fun hf_1 => ?_)
  exact go_ret (v := (m 214 0)) rfl dX12_thrown_4 (okI ⟨by omega, by omega⟩) ⟨rfl, (by first | assumption | rfl | omega)⟩
theorem dX12_refuse_0 : decode mX12_refuse.2.1 0 = .ok (.aload_n 0, 1) := by decide +kernel
theorem dX12_refuse_1 : decode mX12_refuse.2.1 1 = .ok (.iconst 1, 1) := by decide +kernel
theorem dX12_refuse_2 : decode mX12_refuse.2.1 2 = .ok (.putfield 1, 3) := by decide +kernel
theorem dX12_refuse_5 : decode mX12_refuse.2.1 5 = .ok (.iconst 0, 1) := by decide +kernel
theorem dX12_refuse_6 : decode mX12_refuse.2.1 6 = .ok (.ireturn, 1) := by decide +kernel
set_option maxRecDepth 4000 in
theorem ev_X12_refuse {m : Mem}   : Ev 0 1 mX12_refuse [vr 214] m (fun r m' => r = 0 ∧ m' = wr m 214 0 1) := by
  refine Ev.of (L := [vr 214]) (by decide +kernel) rfl (Nat.le_of_ble_eq_true rfl) rfl (fun t ht => by cases ht; first | exact Or.inl rfl | exact Or.inr (Or.inl rfl) | exact Or.inr (Or.inr rfl)) (fun hcan => ?_)
  refine go_aload_n dX12_refuse_0 rfl ?_
  refine go_iconst dX12_refuse_1 ?_
  refine go_putf_i (ki := 0) dX12_refuse_2 fw_12_1 ob_214 rfl rfl ⟨by omega, by omega⟩ ?_
  refine go_iconst dX12_refuse_5 ?_
  exact go_ret (v := 0) rfl dX12_refuse_6 (okI ⟨by omega, by omega⟩) ⟨rfl, rfl⟩
theorem dX12_isCell_0 : decode mX12_isCell.2.1 0 = .ok (.iload_n 1, 1) := by decide +kernel
theorem dX12_isCell_1 : decode mX12_isCell.2.1 1 = .ok (.iconst 0, 1) := by decide +kernel
theorem dX12_isCell_2 : decode mX12_isCell.2.1 2 = .ok (.aload_n 0, 1) := by decide +kernel
theorem dX12_isCell_3 : decode mX12_isCell.2.1 3 = .ok (.getfield 98, 3) := by decide +kernel
theorem dX12_isCell_6 : decode mX12_isCell.2.1 6 = .ok (.iconst 0, 1) := by decide +kernel
theorem dX12_isCell_7 : decode mX12_isCell.2.1 7 = .ok (.iaload, 1) := by decide +kernel
theorem dX12_isCell_8 : decode mX12_isCell.2.1 8 = .ok (.iconst 1, 1) := by decide +kernel
theorem dX12_isCell_9 : decode mX12_isCell.2.1 9 = .ok (.isub, 1) := by decide +kernel
theorem dX12_isCell_10 : decode mX12_isCell.2.1 10 = .ok (.invokestatic 75, 3) := by decide +kernel
theorem dX12_isCell_13 : decode mX12_isCell.2.1 13 = .ok (.ifCond .eq 23, 3) := by decide +kernel
theorem dX12_isCell_16 : decode mX12_isCell.2.1 16 = .ok (.iload_n 2, 1) := by decide +kernel
theorem dX12_isCell_17 : decode mX12_isCell.2.1 17 = .ok (.iconst 0, 1) := by decide +kernel
theorem dX12_isCell_18 : decode mX12_isCell.2.1 18 = .ok (.aload_n 0, 1) := by decide +kernel
theorem dX12_isCell_19 : decode mX12_isCell.2.1 19 = .ok (.getfield 98, 3) := by decide +kernel
theorem dX12_isCell_22 : decode mX12_isCell.2.1 22 = .ok (.iconst 1, 1) := by decide +kernel
theorem dX12_isCell_23 : decode mX12_isCell.2.1 23 = .ok (.iaload, 1) := by decide +kernel
theorem dX12_isCell_24 : decode mX12_isCell.2.1 24 = .ok (.iconst 1, 1) := by decide +kernel
theorem dX12_isCell_25 : decode mX12_isCell.2.1 25 = .ok (.isub, 1) := by decide +kernel
theorem dX12_isCell_26 : decode mX12_isCell.2.1 26 = .ok (.invokestatic 75, 3) := by decide +kernel
theorem dX12_isCell_29 : decode mX12_isCell.2.1 29 = .ok (.ifCond .eq 7, 3) := by decide +kernel
theorem dX12_isCell_32 : decode mX12_isCell.2.1 32 = .ok (.iconst 1, 1) := by decide +kernel
theorem dX12_isCell_33 : decode mX12_isCell.2.1 33 = .ok (.goto 4, 3) := by decide +kernel
theorem dX12_isCell_36 : decode mX12_isCell.2.1 36 = .ok (.iconst 0, 1) := by decide +kernel
theorem dX12_isCell_37 : decode mX12_isCell.2.1 37 = .ok (.ireturn, 1) := by decide +kernel
set_option maxRecDepth 4000 in
theorem ev_X12_isCell {m : Mem} {G : Mem} {d : Nat} {st : Nat} {x : Int} {y : Int} (hb : Bg G d st (m 216)) (hdn : DnOk G d) (hx : InR x) (hy : InR y) : Ev 0 2 mX12_isCell [vr 214, vi x, vi y] m (fun r m' => m' = m ∧ ((r = 1 ∧ insC G d x y) ∨ (r = 0 ∧ ¬ insC G d x y))) := by
  refine Ev.of (L := [vr 214, vi x, vi y]) (by decide +kernel) rfl (Nat.le_of_ble_eq_true rfl) rfl (fun t ht => by cases ht; first | exact Or.inl rfl | exact Or.inr (Or.inl rfl) | exact Or.inr (Or.inr rfl)) (fun hcan => ?_)
  obtain ⟨⟨hd0, hd1⟩, ⟨hd2, hd3⟩, ⟨hd4, hd5⟩, ⟨hd6, hd7⟩, ⟨hd8, hd9⟩, hdf, hdp, hdq⟩ := id hdn
  refine go_iload_n dX12_isCell_0 rfl ?_
  refine go_iconst dX12_isCell_1 ?_
  refine go_aload_n dX12_isCell_2 rfl ?_
  refine go_getf_p (b := 216) dX12_isCell_3 fl_12_98 ob_214 rfl pt_214_14 ?_
  refine go_iconst dX12_isCell_6 ?_
  refine go_iaload dX12_isCell_7 ar_216 (by omega) (by omega) (fun he_7 => ?_)
  rw [show (m 216 0 : Int) = (G d 0) from hb.n0] at he_7 ⊢
  refine go_iconst dX12_isCell_8 ?_
  refine go_isub dX12_isCell_9 ?_
  refine go_callSp_z (as := [vi x, vi 0, vi ((G d 0) - 1)]) (S := []) (ev_X12_isIn (m := m) (n := x) (lo := 0) (hi := ((G d 0) - 1)) (by first | assumption | omega | exact ⟨by omega, by omega⟩ | (constructor <;> omega)) (by first | assumption | omega | exact ⟨by omega, by omega⟩ | (constructor <;> omega)) (by first | assumption | omega | exact ⟨by omega, by omega⟩ | (constructor <;> omega))) rfl dX12_isCell_10 cs_12_75 rfl rfl (by decide) (Nat.le_of_ble_eq_true rfl) (fun r_10 hr_10 ho_10 => ?_)
  refine go_if_eq (tgt := 36) dX12_isCell_13 (by decide) ⟨by omega, by omega⟩ (fun h_13 => ?_) (fun h_13 => ?_)
  · refine go_iconst dX12_isCell_36 ?_
    exact go_ret (v := 0) rfl dX12_isCell_37 (okZ (by first | exact Or.inl rfl | exact Or.inr rfl | assumption | omega)) ⟨rfl, (by first | assumption | rfl | omega)⟩
  · refine go_iload_n dX12_isCell_16 rfl ?_
    refine go_iconst dX12_isCell_17 ?_
    refine go_aload_n dX12_isCell_18 rfl ?_
    refine go_getf_p (b := 216) dX12_isCell_19 fl_12_98 ob_214 rfl pt_214_14 ?_
    refine go_iconst dX12_isCell_22 ?_
    refine go_iaload dX12_isCell_23 ar_216 (by omega) (by omega) (fun he_23 => ?_)
    rw [show (m 216 1 : Int) = (G d 1) from hb.n1] at he_23 ⊢
    refine go_iconst dX12_isCell_24 ?_
    refine go_isub dX12_isCell_25 ?_
    refine go_callSp_z (as := [vi y, vi 0, vi ((G d 1) - 1)]) (S := []) (ev_X12_isIn (m := m) (n := y) (lo := 0) (hi := ((G d 1) - 1)) (by first | assumption | omega | exact ⟨by omega, by omega⟩ | (constructor <;> omega)) (by first | assumption | omega | exact ⟨by omega, by omega⟩ | (constructor <;> omega)) (by first | assumption | omega | exact ⟨by omega, by omega⟩ | (constructor <;> omega))) rfl dX12_isCell_26 cs_12_75 rfl rfl (by decide) (Nat.le_of_ble_eq_true rfl) (fun r_26 hr_26 ho_26 => ?_)
    refine go_if_eq (tgt := 36) dX12_isCell_29 (by decide) ⟨by omega, by omega⟩ (fun h_29 => ?_) (fun h_29 => ?_)
    · refine go_iconst dX12_isCell_36 ?_
      exact go_ret (v := 0) rfl dX12_isCell_37 (okZ (by first | exact Or.inl rfl | exact Or.inr rfl | assumption | omega)) ⟨rfl, (by first | assumption | rfl | omega)⟩
    · refine go_iconst dX12_isCell_32 ?_
      refine go_goto (tgt := 37) dX12_isCell_33 (by decide) ?_
      exact go_ret (v := 1) rfl dX12_isCell_37 (okZ (by first | exact Or.inl rfl | exact Or.inr rfl | assumption | omega)) ⟨rfl, (by first | assumption | rfl | omega)⟩
theorem dX12_isFigure_0 : decode mX12_isFigure.2.1 0 = .ok (.iload_n 1, 1) := by decide +kernel
theorem dX12_isFigure_1 : decode mX12_isFigure.2.1 1 = .ok (.iconst 0, 1) := by decide +kernel
theorem dX12_isFigure_2 : decode mX12_isFigure.2.1 2 = .ok (.aload_n 0, 1) := by decide +kernel
theorem dX12_isFigure_3 : decode mX12_isFigure.2.1 3 = .ok (.getfield 98, 3) := by decide +kernel
theorem dX12_isFigure_6 : decode mX12_isFigure.2.1 6 = .ok (.iconst 2, 1) := by decide +kernel
theorem dX12_isFigure_7 : decode mX12_isFigure.2.1 7 = .ok (.iaload, 1) := by decide +kernel
theorem dX12_isFigure_8 : decode mX12_isFigure.2.1 8 = .ok (.iconst 1, 1) := by decide +kernel
theorem dX12_isFigure_9 : decode mX12_isFigure.2.1 9 = .ok (.isub, 1) := by decide +kernel
theorem dX12_isFigure_10 : decode mX12_isFigure.2.1 10 = .ok (.invokestatic 75, 3) := by decide +kernel
theorem dX12_isFigure_13 : decode mX12_isFigure.2.1 13 = .ok (.ireturn, 1) := by decide +kernel
set_option maxRecDepth 4000 in
theorem ev_X12_isFigure {m : Mem} {G : Mem} {d : Nat} {st : Nat} {f : Int} (hb : Bg G d st (m 216)) (hdn : DnOk G d) (hf : InR f) : Ev 0 2 mX12_isFigure [vr 214, vi f] m (fun r m' => m' = m ∧ ((r = 1 ∧ 0 ≤ f ∧ f < G d 2) ∨ (r = 0 ∧ ¬ (0 ≤ f ∧ f < G d 2)))) := by
  refine Ev.of (L := [vr 214, vi f]) (by decide +kernel) rfl (Nat.le_of_ble_eq_true rfl) rfl (fun t ht => by cases ht; first | exact Or.inl rfl | exact Or.inr (Or.inl rfl) | exact Or.inr (Or.inr rfl)) (fun hcan => ?_)
  obtain ⟨⟨hd0, hd1⟩, ⟨hd2, hd3⟩, ⟨hd4, hd5⟩, ⟨hd6, hd7⟩, ⟨hd8, hd9⟩, hdf, hdp, hdq⟩ := id hdn
  refine go_iload_n dX12_isFigure_0 rfl ?_
  refine go_iconst dX12_isFigure_1 ?_
  refine go_aload_n dX12_isFigure_2 rfl ?_
  refine go_getf_p (b := 216) dX12_isFigure_3 fl_12_98 ob_214 rfl pt_214_14 ?_
  refine go_iconst dX12_isFigure_6 ?_
  refine go_iaload dX12_isFigure_7 ar_216 (by omega) (by omega) (fun he_7 => ?_)
  rw [show (m 216 2 : Int) = (G d 2) from hb.n2] at he_7 ⊢
  refine go_iconst dX12_isFigure_8 ?_
  refine go_isub dX12_isFigure_9 ?_
  refine go_callSp_z (as := [vi f, vi 0, vi ((G d 2) - 1)]) (S := []) (ev_X12_isIn (m := m) (n := f) (lo := 0) (hi := ((G d 2) - 1)) (by first | assumption | omega | exact ⟨by omega, by omega⟩ | (constructor <;> omega)) (by first | assumption | omega | exact ⟨by omega, by omega⟩ | (constructor <;> omega)) (by first | assumption | omega | exact ⟨by omega, by omega⟩ | (constructor <;> omega))) rfl dX12_isFigure_10 cs_12_75 rfl rfl (by decide) (Nat.le_of_ble_eq_true rfl) (fun r_10 hr_10 ho_10 => ?_)
  exact go_ret (v := r_10) rfl dX12_isFigure_13 (okZ (by first | exact Or.inl rfl | exact Or.inr rfl | assumption | omega)) ⟨rfl, (by split at hr_10 <;> omega)⟩
theorem dX12_isPerson_0 : decode mX12_isPerson.2.1 0 = .ok (.iload_n 1, 1) := by decide +kernel
theorem dX12_isPerson_1 : decode mX12_isPerson.2.1 1 = .ok (.iconst 0, 1) := by decide +kernel
theorem dX12_isPerson_2 : decode mX12_isPerson.2.1 2 = .ok (.aload_n 0, 1) := by decide +kernel
theorem dX12_isPerson_3 : decode mX12_isPerson.2.1 3 = .ok (.getfield 98, 3) := by decide +kernel
theorem dX12_isPerson_6 : decode mX12_isPerson.2.1 6 = .ok (.iconst 3, 1) := by decide +kernel
theorem dX12_isPerson_7 : decode mX12_isPerson.2.1 7 = .ok (.iaload, 1) := by decide +kernel
theorem dX12_isPerson_8 : decode mX12_isPerson.2.1 8 = .ok (.iconst 1, 1) := by decide +kernel
theorem dX12_isPerson_9 : decode mX12_isPerson.2.1 9 = .ok (.isub, 1) := by decide +kernel
theorem dX12_isPerson_10 : decode mX12_isPerson.2.1 10 = .ok (.invokestatic 75, 3) := by decide +kernel
theorem dX12_isPerson_13 : decode mX12_isPerson.2.1 13 = .ok (.ireturn, 1) := by decide +kernel
set_option maxRecDepth 4000 in
theorem ev_X12_isPerson {m : Mem} {G : Mem} {d : Nat} {st : Nat} {f : Int} (hb : Bg G d st (m 216)) (hdn : DnOk G d) (hf : InR f) : Ev 0 2 mX12_isPerson [vr 214, vi f] m (fun r m' => m' = m ∧ ((r = 1 ∧ 0 ≤ f ∧ f < G d 3) ∨ (r = 0 ∧ ¬ (0 ≤ f ∧ f < G d 3)))) := by
  refine Ev.of (L := [vr 214, vi f]) (by decide +kernel) rfl (Nat.le_of_ble_eq_true rfl) rfl (fun t ht => by cases ht; first | exact Or.inl rfl | exact Or.inr (Or.inl rfl) | exact Or.inr (Or.inr rfl)) (fun hcan => ?_)
  obtain ⟨⟨hd0, hd1⟩, ⟨hd2, hd3⟩, ⟨hd4, hd5⟩, ⟨hd6, hd7⟩, ⟨hd8, hd9⟩, hdf, hdp, hdq⟩ := id hdn
  refine go_iload_n dX12_isPerson_0 rfl ?_
  refine go_iconst dX12_isPerson_1 ?_
  refine go_aload_n dX12_isPerson_2 rfl ?_
  refine go_getf_p (b := 216) dX12_isPerson_3 fl_12_98 ob_214 rfl pt_214_14 ?_
  refine go_iconst dX12_isPerson_6 ?_
  refine go_iaload dX12_isPerson_7 ar_216 (by omega) (by omega) (fun he_7 => ?_)
  rw [show (m 216 3 : Int) = (G d 3) from hb.n3] at he_7 ⊢
  refine go_iconst dX12_isPerson_8 ?_
  refine go_isub dX12_isPerson_9 ?_
  refine go_callSp_z (as := [vi f, vi 0, vi ((G d 3) - 1)]) (S := []) (ev_X12_isIn (m := m) (n := f) (lo := 0) (hi := ((G d 3) - 1)) (by first | assumption | omega | exact ⟨by omega, by omega⟩ | (constructor <;> omega)) (by first | assumption | omega | exact ⟨by omega, by omega⟩ | (constructor <;> omega)) (by first | assumption | omega | exact ⟨by omega, by omega⟩ | (constructor <;> omega))) rfl dX12_isPerson_10 cs_12_75 rfl rfl (by decide) (Nat.le_of_ble_eq_true rfl) (fun r_10 hr_10 ho_10 => ?_)
  exact go_ret (v := r_10) rfl dX12_isPerson_13 (okZ (by first | exact Or.inl rfl | exact Or.inr rfl | assumption | omega)) ⟨rfl, (by split at hr_10 <;> omega)⟩
theorem dX12_isPoint_0 : decode mX12_isPoint.2.1 0 = .ok (.iload_n 1, 1) := by decide +kernel
theorem dX12_isPoint_1 : decode mX12_isPoint.2.1 1 = .ok (.iconst 0, 1) := by decide +kernel
theorem dX12_isPoint_2 : decode mX12_isPoint.2.1 2 = .ok (.aload_n 0, 1) := by decide +kernel
theorem dX12_isPoint_3 : decode mX12_isPoint.2.1 3 = .ok (.getfield 98, 3) := by decide +kernel
theorem dX12_isPoint_6 : decode mX12_isPoint.2.1 6 = .ok (.iconst 4, 1) := by decide +kernel
theorem dX12_isPoint_7 : decode mX12_isPoint.2.1 7 = .ok (.iaload, 1) := by decide +kernel
theorem dX12_isPoint_8 : decode mX12_isPoint.2.1 8 = .ok (.iconst 1, 1) := by decide +kernel
theorem dX12_isPoint_9 : decode mX12_isPoint.2.1 9 = .ok (.isub, 1) := by decide +kernel
theorem dX12_isPoint_10 : decode mX12_isPoint.2.1 10 = .ok (.invokestatic 75, 3) := by decide +kernel
theorem dX12_isPoint_13 : decode mX12_isPoint.2.1 13 = .ok (.ireturn, 1) := by decide +kernel
set_option maxRecDepth 4000 in
theorem ev_X12_isPoint {m : Mem} {G : Mem} {d : Nat} {st : Nat} {f : Int} (hb : Bg G d st (m 216)) (hdn : DnOk G d) (hf : InR f) : Ev 0 2 mX12_isPoint [vr 214, vi f] m (fun r m' => m' = m ∧ ((r = 1 ∧ 0 ≤ f ∧ f < G d 4) ∨ (r = 0 ∧ ¬ (0 ≤ f ∧ f < G d 4)))) := by
  refine Ev.of (L := [vr 214, vi f]) (by decide +kernel) rfl (Nat.le_of_ble_eq_true rfl) rfl (fun t ht => by cases ht; first | exact Or.inl rfl | exact Or.inr (Or.inl rfl) | exact Or.inr (Or.inr rfl)) (fun hcan => ?_)
  obtain ⟨⟨hd0, hd1⟩, ⟨hd2, hd3⟩, ⟨hd4, hd5⟩, ⟨hd6, hd7⟩, ⟨hd8, hd9⟩, hdf, hdp, hdq⟩ := id hdn
  refine go_iload_n dX12_isPoint_0 rfl ?_
  refine go_iconst dX12_isPoint_1 ?_
  refine go_aload_n dX12_isPoint_2 rfl ?_
  refine go_getf_p (b := 216) dX12_isPoint_3 fl_12_98 ob_214 rfl pt_214_14 ?_
  refine go_iconst dX12_isPoint_6 ?_
  refine go_iaload dX12_isPoint_7 ar_216 (by omega) (by omega) (fun he_7 => ?_)
  rw [show (m 216 4 : Int) = (G d 4) from hb.n4] at he_7 ⊢
  refine go_iconst dX12_isPoint_8 ?_
  refine go_isub dX12_isPoint_9 ?_
  refine go_callSp_z (as := [vi f, vi 0, vi ((G d 4) - 1)]) (S := []) (ev_X12_isIn (m := m) (n := f) (lo := 0) (hi := ((G d 4) - 1)) (by first | assumption | omega | exact ⟨by omega, by omega⟩ | (constructor <;> omega)) (by first | assumption | omega | exact ⟨by omega, by omega⟩ | (constructor <;> omega)) (by first | assumption | omega | exact ⟨by omega, by omega⟩ | (constructor <;> omega))) rfl dX12_isPoint_10 cs_12_75 rfl rfl (by decide) (Nat.le_of_ble_eq_true rfl) (fun r_10 hr_10 ho_10 => ?_)
  exact go_ret (v := r_10) rfl dX12_isPoint_13 (okZ (by first | exact Or.inl rfl | exact Or.inr rfl | assumption | omega)) ⟨rfl, (by split at hr_10 <;> omega)⟩
theorem dX12_isSide_0 : decode mX12_isSide.2.1 0 = .ok (.iload_n 1, 1) := by decide +kernel
theorem dX12_isSide_1 : decode mX12_isSide.2.1 1 = .ok (.iconst 0, 1) := by decide +kernel
theorem dX12_isSide_2 : decode mX12_isSide.2.1 2 = .ok (.iconst 3, 1) := by decide +kernel
theorem dX12_isSide_3 : decode mX12_isSide.2.1 3 = .ok (.invokestatic 75, 3) := by decide +kernel
theorem dX12_isSide_6 : decode mX12_isSide.2.1 6 = .ok (.ireturn, 1) := by decide +kernel
set_option maxRecDepth 4000 in
theorem ev_X12_isSide {m : Mem} {n : Int} (hn : InR n) : Ev 0 2 mX12_isSide [vr 214, vi n] m (fun r m' => m' = m ∧ (r = if 0 ≤ n ∧ n ≤ 3 then 1 else 0)) := by
  refine Ev.of (L := [vr 214, vi n]) (by decide +kernel) rfl (Nat.le_of_ble_eq_true rfl) rfl (fun t ht => by cases ht; first | exact Or.inl rfl | exact Or.inr (Or.inl rfl) | exact Or.inr (Or.inr rfl)) (fun hcan => ?_)
  refine go_iload_n dX12_isSide_0 rfl ?_
  refine go_iconst dX12_isSide_1 ?_
  refine go_iconst dX12_isSide_2 ?_
  refine go_callSp_z (as := [vi n, vi 0, vi 3]) (S := []) (ev_X12_isIn (m := m) (n := n) (lo := 0) (hi := 3) (by first | assumption | omega | exact ⟨by omega, by omega⟩ | (constructor <;> omega)) (by first | assumption | omega | exact ⟨by omega, by omega⟩ | (constructor <;> omega)) (by first | assumption | omega | exact ⟨by omega, by omega⟩ | (constructor <;> omega))) rfl dX12_isSide_3 cs_12_75 rfl rfl (by decide) (Nat.le_of_ble_eq_true rfl) (fun r_3 hr_3 ho_3 => ?_)
  exact go_ret (v := r_3) rfl dX12_isSide_6 (okZ (by first | exact Or.inl rfl | exact Or.inr rfl | assumption | omega)) ⟨rfl, (by first | assumption | rfl | omega)⟩
theorem dX12_whoIsAt_0 : decode mX12_whoIsAt.2.1 0 = .ok (.iconst 0, 1) := by decide +kernel
theorem dX12_whoIsAt_1 : decode mX12_whoIsAt.2.1 1 = .ok (.istore_n 2, 1) := by decide +kernel
theorem dX12_whoIsAt_2 : decode mX12_whoIsAt.2.1 2 = .ok (.iload_n 2, 1) := by decide +kernel
theorem dX12_whoIsAt_3 : decode mX12_whoIsAt.2.1 3 = .ok (.aload_n 0, 1) := by decide +kernel
theorem dX12_whoIsAt_4 : decode mX12_whoIsAt.2.1 4 = .ok (.getfield 98, 3) := by decide +kernel
theorem dX12_whoIsAt_7 : decode mX12_whoIsAt.2.1 7 = .ok (.iconst 3, 1) := by decide +kernel
theorem dX12_whoIsAt_8 : decode mX12_whoIsAt.2.1 8 = .ok (.iaload, 1) := by decide +kernel
theorem dX12_whoIsAt_9 : decode mX12_whoIsAt.2.1 9 = .ok (.if_icmp .ge 24, 3) := by decide +kernel
theorem dX12_whoIsAt_12 : decode mX12_whoIsAt.2.1 12 = .ok (.aload_n 0, 1) := by decide +kernel
theorem dX12_whoIsAt_13 : decode mX12_whoIsAt.2.1 13 = .ok (.getfield 98, 3) := by decide +kernel
theorem dX12_whoIsAt_16 : decode mX12_whoIsAt.2.1 16 = .ok (.bipush 126, 2) := by decide +kernel
theorem dX12_whoIsAt_18 : decode mX12_whoIsAt.2.1 18 = .ok (.iload_n 2, 1) := by decide +kernel
theorem dX12_whoIsAt_19 : decode mX12_whoIsAt.2.1 19 = .ok (.iadd, 1) := by decide +kernel
theorem dX12_whoIsAt_20 : decode mX12_whoIsAt.2.1 20 = .ok (.iaload, 1) := by decide +kernel
theorem dX12_whoIsAt_21 : decode mX12_whoIsAt.2.1 21 = .ok (.iload_n 1, 1) := by decide +kernel
theorem dX12_whoIsAt_22 : decode mX12_whoIsAt.2.1 22 = .ok (.if_icmp .ne 5, 3) := by decide +kernel
theorem dX12_whoIsAt_25 : decode mX12_whoIsAt.2.1 25 = .ok (.iload_n 2, 1) := by decide +kernel
theorem dX12_whoIsAt_26 : decode mX12_whoIsAt.2.1 26 = .ok (.ireturn, 1) := by decide +kernel
theorem dX12_whoIsAt_27 : decode mX12_whoIsAt.2.1 27 = .ok (.iinc 2 1, 3) := by decide +kernel
theorem dX12_whoIsAt_30 : decode mX12_whoIsAt.2.1 30 = .ok (.goto (-28), 3) := by decide +kernel
theorem dX12_whoIsAt_33 : decode mX12_whoIsAt.2.1 33 = .ok (.iconst (-1), 1) := by decide +kernel
theorem dX12_whoIsAt_34 : decode mX12_whoIsAt.2.1 34 = .ok (.ireturn, 1) := by decide +kernel
set_option maxRecDepth 4000 in
theorem ev_X12_whoIsAt {m : Mem} {G : Mem} {d : Nat} {st : Nat} {B : Int} {c : Int} {x : Int} {y : Int} (hb : Bg G d st (m 216)) (hdn : DnOk G d) (hst : StOk G d st B) (hc : c = 9 * y + x) (hxy : 0 ≤ x ∧ x ≤ 8 ∧ 0 ≤ y ∧ y ≤ 8) : Ev 0 1 mX12_whoIsAt [vr 214, vi c] m (fun r m' => m' = m ∧ (r = whoC G d st x y)) := by
  refine Ev.of (L := [vr 214, vi c, un]) (by decide +kernel) rfl (Nat.le_of_ble_eq_true rfl) rfl (fun t ht => by cases ht; first | exact Or.inl rfl | exact Or.inr (Or.inl rfl) | exact Or.inr (Or.inr rfl)) (fun hcan => ?_)
  obtain ⟨⟨hd0, hd1⟩, ⟨hd2, hd3⟩, ⟨hd4, hd5⟩, ⟨hd6, hd7⟩, ⟨hd8, hd9⟩, hdf, hdp, hdq⟩ := id hdn
  obtain ⟨⟨hs0, hs1⟩, ⟨hs2, hs3⟩, hsw, hsp, hsd, hsz⟩ := id hst
  refine go_iconst dX12_whoIsAt_0 ?_
  refine go_istore_n (L' := [vr 214, vi c, vi 0]) dX12_whoIsAt_1 (by decide) rfl rfl ?_
  have lp_2 : ∀ (n_2 : Nat) (p : Int) , (0 ≤ p) → (p ≤ G d 3) → (∀ j : Int, 0 ≤ j → j < p → decide (G (st + 2) j = x ∧ G (st + 3) j = y) = false) → (G d 3 - p).toNat < n_2 → Go 0 1 mX12_whoIsAt (fun r m' => m' = m ∧ (r = whoC G d st x y)) 2 [vr 214, vi c, vi p] [] m := by
    intro n_2
    induction n_2 with
    | zero => intro p hp0 hp1 hno hmu; exact absurd hmu (Nat.not_lt_zero _)
    | succ n_2 ih_2 =>
      intro p hp0 hp1 hno hmu
      have hpp := hsp p hp0
      refine go_iload_n dX12_whoIsAt_2 rfl ?_
      refine go_aload_n dX12_whoIsAt_3 rfl ?_
      refine go_getf_p (b := 216) dX12_whoIsAt_4 fl_12_98 ob_214 rfl pt_214_14 ?_
      refine go_iconst dX12_whoIsAt_7 ?_
      refine go_iaload dX12_whoIsAt_8 ar_216 (by omega) (by omega) (fun he_8 => ?_)
      rw [show (m 216 3 : Int) = (G d 3) from hb.n3] at he_8 ⊢
      refine go_icmp_ge (tgt := 33) dX12_whoIsAt_9 (by decide) ⟨by omega, by omega⟩ ⟨by omega, by omega⟩ (fun h_9 => ?_) (fun h_9 => ?_)
      · refine go_iconst dX12_whoIsAt_33 ?_
        exact go_ret (v := (-1)) rfl dX12_whoIsAt_34 (okI ⟨by omega, by omega⟩) ⟨rfl, (fnd_none (fun j a b => hno j a (by omega))).symm⟩
      · have hpp := hpp h_9
        refine go_aload_n dX12_whoIsAt_12 rfl ?_
        refine go_getf_p (b := 216) dX12_whoIsAt_13 fl_12_98 ob_214 rfl pt_214_14 ?_
        refine go_bipush dX12_whoIsAt_16 (by decide) ?_
        refine go_iload_n dX12_whoIsAt_18 rfl ?_
        refine go_iadd dX12_whoIsAt_19 ?_
        refine go_iaload dX12_whoIsAt_20 ar_216 (by omega) (by omega) (fun he_20 => ?_)
        rw [show (m 216 (126 + p) : Int) = (9 * G (st + 3) p + G (st + 2) p) from (hb.at (p := p) (by omega) (by omega))] at he_20 ⊢
        refine go_iload_n dX12_whoIsAt_21 rfl ?_
        refine go_icmp_ne (tgt := 27) dX12_whoIsAt_22 (by decide) ⟨by omega, by omega⟩ ⟨by omega, by omega⟩ (fun h_22 => ?_) (fun h_22 => ?_)
        · refine go_iinc (L' := [vr 214, vi c, vi (p + 1)]) dX12_whoIsAt_27 rfl (by decide) rfl rfl ?_
          refine go_goto (tgt := 2) dX12_whoIsAt_30 (by decide) ?_
          exact ih_2 (p + 1) (by first | assumption | omega | rfl) (by first | assumption | omega | rfl) (stp hno (decide_eq_false (by omega))) (by omega)
        · refine go_iload_n dX12_whoIsAt_25 rfl ?_
          exact go_ret (v := p) rfl dX12_whoIsAt_26 (okI ⟨by omega, by omega⟩) ⟨rfl, (fnd_some hp0 (by omega) (decide_eq_true (by omega)) hno).symm⟩
  exact lp_2 _ 0 (by first | assumption | omega | rfl) (by first | assumption | omega | rfl) (fun j a b => by omega) (Nat.lt_succ_self _)
theorem dX12_costOf_0 : decode mX12_costOf.2.1 0 = .ok (.aload_n 0, 1) := by decide +kernel
theorem dX12_costOf_1 : decode mX12_costOf.2.1 1 = .ok (.getfield 98, 3) := by decide +kernel
theorem dX12_costOf_4 : decode mX12_costOf.2.1 4 = .ok (.iconst 5, 1) := by decide +kernel
theorem dX12_costOf_5 : decode mX12_costOf.2.1 5 = .ok (.iload_n 1, 1) := by decide +kernel
theorem dX12_costOf_6 : decode mX12_costOf.2.1 6 = .ok (.iadd, 1) := by decide +kernel
theorem dX12_costOf_7 : decode mX12_costOf.2.1 7 = .ok (.iaload, 1) := by decide +kernel
theorem dX12_costOf_8 : decode mX12_costOf.2.1 8 = .ok (.aload_n 0, 1) := by decide +kernel
theorem dX12_costOf_9 : decode mX12_costOf.2.1 9 = .ok (.getfield 98, 3) := by decide +kernel
theorem dX12_costOf_12 : decode mX12_costOf.2.1 12 = .ok (.bipush 11, 2) := by decide +kernel
theorem dX12_costOf_14 : decode mX12_costOf.2.1 14 = .ok (.iload_n 1, 1) := by decide +kernel
theorem dX12_costOf_15 : decode mX12_costOf.2.1 15 = .ok (.iadd, 1) := by decide +kernel
theorem dX12_costOf_16 : decode mX12_costOf.2.1 16 = .ok (.iaload, 1) := by decide +kernel
theorem dX12_costOf_17 : decode mX12_costOf.2.1 17 = .ok (.iadd, 1) := by decide +kernel
theorem dX12_costOf_18 : decode mX12_costOf.2.1 18 = .ok (.istore_n 2, 1) := by decide +kernel
theorem dX12_costOf_19 : decode mX12_costOf.2.1 19 = .ok (.iload_n 2, 1) := by decide +kernel
theorem dX12_costOf_20 : decode mX12_costOf.2.1 20 = .ok (.ifCond .ne 7, 3) := by decide +kernel
theorem dX12_costOf_23 : decode mX12_costOf.2.1 23 = .ok (.iconst 1, 1) := by decide +kernel
theorem dX12_costOf_24 : decode mX12_costOf.2.1 24 = .ok (.goto 4, 3) := by decide +kernel
theorem dX12_costOf_27 : decode mX12_costOf.2.1 27 = .ok (.iload_n 2, 1) := by decide +kernel
theorem dX12_costOf_28 : decode mX12_costOf.2.1 28 = .ok (.ireturn, 1) := by decide +kernel
set_option maxRecDepth 4000 in
theorem ev_X12_costOf {m : Mem} {G : Mem} {d : Nat} {st : Nat} {f : Int} (hb : Bg G d st (m 216)) (hdn : DnOk G d) (hf : 0 ≤ f ∧ f < G d 2) : Ev 0 1 mX12_costOf [vr 214, vi f] m (fun r m' => m' = m ∧ (r = costC G d f)) := by
  refine Ev.of (L := [vr 214, vi f, un]) (by decide +kernel) rfl (Nat.le_of_ble_eq_true rfl) rfl (fun t ht => by cases ht; first | exact Or.inl rfl | exact Or.inr (Or.inl rfl) | exact Or.inr (Or.inr rfl)) (fun hcan => ?_)
  obtain ⟨⟨hd0, hd1⟩, ⟨hd2, hd3⟩, ⟨hd4, hd5⟩, ⟨hd6, hd7⟩, ⟨hd8, hd9⟩, hdf, hdp, hdq⟩ := id hdn
  have hff := hdf f hf.1 hf.2
  refine go_aload_n dX12_costOf_0 rfl ?_
  refine go_getf_p (b := 216) dX12_costOf_1 fl_12_98 ob_214 rfl pt_214_14 ?_
  refine go_iconst dX12_costOf_4 ?_
  refine go_iload_n dX12_costOf_5 rfl ?_
  refine go_iadd dX12_costOf_6 ?_
  refine go_iaload dX12_costOf_7 ar_216 (by omega) (by omega) (fun he_7 => ?_)
  rw [show (m 216 (5 + f) : Int) = (G (d + 2) f) from (hb.qu (f := f) (by omega) (by omega))] at he_7 ⊢
  refine go_aload_n dX12_costOf_8 rfl ?_
  refine go_getf_p (b := 216) dX12_costOf_9 fl_12_98 ob_214 rfl pt_214_14 ?_
  refine go_bipush dX12_costOf_12 (by decide) ?_
  refine go_iload_n dX12_costOf_14 rfl ?_
  refine go_iadd dX12_costOf_15 ?_
  refine go_iaload dX12_costOf_16 ar_216 (by omega) (by omega) (fun he_16 => ?_)
  rw [show (m 216 (11 + f) : Int) = (G (d + 3) f) from (hb.go (f := f) (by omega) (by omega))] at he_16 ⊢
  refine go_iadd dX12_costOf_17 ?_
  refine go_istore_n (L' := [vr 214, vi f, vi ((G (d + 2) f) + (G (d + 3) f))]) dX12_costOf_18 (by decide) rfl rfl ?_
  refine go_iload_n dX12_costOf_19 rfl ?_
  refine go_if_ne (tgt := 27) dX12_costOf_20 (by decide) ⟨by omega, by omega⟩ (fun h_20 => ?_) (fun h_20 => ?_)
  · refine go_iload_n dX12_costOf_27 rfl ?_
    exact go_ret (v := ((G (d + 2) f) + (G (d + 3) f))) rfl dX12_costOf_28 (okI ⟨by omega, by omega⟩) ⟨rfl, (by unfold costC; omega)⟩
  · refine go_iconst dX12_costOf_23 ?_
    refine go_goto (tgt := 28) dX12_costOf_24 (by decide) ?_
    exact go_ret (v := 1) rfl dX12_costOf_28 (okI ⟨by omega, by omega⟩) ⟨rfl, (by unfold costC; omega)⟩
theorem dX12_cellOn_0 : decode mX12_cellOn.2.1 0 = .ok (.iload_n 1, 1) := by decide +kernel
theorem dX12_cellOn_1 : decode mX12_cellOn.2.1 1 = .ok (.bipush 9, 2) := by decide +kernel
theorem dX12_cellOn_3 : decode mX12_cellOn.2.1 3 = .ok (.irem, 1) := by decide +kernel
theorem dX12_cellOn_4 : decode mX12_cellOn.2.1 4 = .ok (.iload_n 2, 1) := by decide +kernel
theorem dX12_cellOn_5 : decode mX12_cellOn.2.1 5 = .ok (.ifCond .ne 7, 3) := by decide +kernel
theorem dX12_cellOn_8 : decode mX12_cellOn.2.1 8 = .ok (.iload_n 3, 1) := by decide +kernel
theorem dX12_cellOn_9 : decode mX12_cellOn.2.1 9 = .ok (.goto 14, 3) := by decide +kernel
theorem dX12_cellOn_12 : decode mX12_cellOn.2.1 12 = .ok (.iload_n 2, 1) := by decide +kernel
theorem dX12_cellOn_13 : decode mX12_cellOn.2.1 13 = .ok (.iconst 2, 1) := by decide +kernel
theorem dX12_cellOn_14 : decode mX12_cellOn.2.1 14 = .ok (.if_icmp .ne 8, 3) := by decide +kernel
theorem dX12_cellOn_17 : decode mX12_cellOn.2.1 17 = .ok (.iload_n 3, 1) := by decide +kernel
theorem dX12_cellOn_18 : decode mX12_cellOn.2.1 18 = .ok (.ineg, 1) := by decide +kernel
theorem dX12_cellOn_19 : decode mX12_cellOn.2.1 19 = .ok (.goto 4, 3) := by decide +kernel
theorem dX12_cellOn_22 : decode mX12_cellOn.2.1 22 = .ok (.iconst 0, 1) := by decide +kernel
theorem dX12_cellOn_23 : decode mX12_cellOn.2.1 23 = .ok (.iadd, 1) := by decide +kernel
theorem dX12_cellOn_24 : decode mX12_cellOn.2.1 24 = .ok (.istore 4, 2) := by decide +kernel
theorem dX12_cellOn_26 : decode mX12_cellOn.2.1 26 = .ok (.iload_n 1, 1) := by decide +kernel
theorem dX12_cellOn_27 : decode mX12_cellOn.2.1 27 = .ok (.bipush 9, 2) := by decide +kernel
theorem dX12_cellOn_29 : decode mX12_cellOn.2.1 29 = .ok (.idiv, 1) := by decide +kernel
theorem dX12_cellOn_30 : decode mX12_cellOn.2.1 30 = .ok (.iload_n 2, 1) := by decide +kernel
theorem dX12_cellOn_31 : decode mX12_cellOn.2.1 31 = .ok (.iconst 1, 1) := by decide +kernel
theorem dX12_cellOn_32 : decode mX12_cellOn.2.1 32 = .ok (.if_icmp .ne 7, 3) := by decide +kernel
theorem dX12_cellOn_35 : decode mX12_cellOn.2.1 35 = .ok (.iload_n 3, 1) := by decide +kernel
theorem dX12_cellOn_36 : decode mX12_cellOn.2.1 36 = .ok (.goto 14, 3) := by decide +kernel
theorem dX12_cellOn_39 : decode mX12_cellOn.2.1 39 = .ok (.iload_n 2, 1) := by decide +kernel
theorem dX12_cellOn_40 : decode mX12_cellOn.2.1 40 = .ok (.iconst 3, 1) := by decide +kernel
theorem dX12_cellOn_41 : decode mX12_cellOn.2.1 41 = .ok (.if_icmp .ne 8, 3) := by decide +kernel
theorem dX12_cellOn_44 : decode mX12_cellOn.2.1 44 = .ok (.iload_n 3, 1) := by decide +kernel
theorem dX12_cellOn_45 : decode mX12_cellOn.2.1 45 = .ok (.ineg, 1) := by decide +kernel
theorem dX12_cellOn_46 : decode mX12_cellOn.2.1 46 = .ok (.goto 4, 3) := by decide +kernel
theorem dX12_cellOn_49 : decode mX12_cellOn.2.1 49 = .ok (.iconst 0, 1) := by decide +kernel
theorem dX12_cellOn_50 : decode mX12_cellOn.2.1 50 = .ok (.iadd, 1) := by decide +kernel
theorem dX12_cellOn_51 : decode mX12_cellOn.2.1 51 = .ok (.istore 5, 2) := by decide +kernel
theorem dX12_cellOn_53 : decode mX12_cellOn.2.1 53 = .ok (.aload_n 0, 1) := by decide +kernel
theorem dX12_cellOn_54 : decode mX12_cellOn.2.1 54 = .ok (.iload 4, 2) := by decide +kernel
theorem dX12_cellOn_56 : decode mX12_cellOn.2.1 56 = .ok (.iload 5, 2) := by decide +kernel
theorem dX12_cellOn_58 : decode mX12_cellOn.2.1 58 = .ok (.invokevirtual 232, 3) := by decide +kernel
theorem dX12_cellOn_61 : decode mX12_cellOn.2.1 61 = .ok (.ifCond .eq 14, 3) := by decide +kernel
theorem dX12_cellOn_64 : decode mX12_cellOn.2.1 64 = .ok (.bipush 9, 2) := by decide +kernel
theorem dX12_cellOn_66 : decode mX12_cellOn.2.1 66 = .ok (.iload 5, 2) := by decide +kernel
theorem dX12_cellOn_68 : decode mX12_cellOn.2.1 68 = .ok (.imul, 1) := by decide +kernel
theorem dX12_cellOn_69 : decode mX12_cellOn.2.1 69 = .ok (.iload 4, 2) := by decide +kernel
theorem dX12_cellOn_71 : decode mX12_cellOn.2.1 71 = .ok (.iadd, 1) := by decide +kernel
theorem dX12_cellOn_72 : decode mX12_cellOn.2.1 72 = .ok (.goto 4, 3) := by decide +kernel
theorem dX12_cellOn_75 : decode mX12_cellOn.2.1 75 = .ok (.iconst (-1), 1) := by decide +kernel
theorem dX12_cellOn_76 : decode mX12_cellOn.2.1 76 = .ok (.ireturn, 1) := by decide +kernel
set_option maxRecDepth 4000 in
theorem ev_X12_cellOn {m : Mem} {G : Mem} {d : Nat} {st : Nat} {c : Int} {x : Int} {y : Int} {s : Int} {n : Int} (hb : Bg G d st (m 216)) (hdn : DnOk G d) (hc : c = 9 * y + x) (hxy : 0 ≤ x ∧ x ≤ 8 ∧ 0 ≤ y ∧ y ≤ 8) (hs : 0 ≤ s ∧ s < 4) (hn : 0 ≤ n ∧ n ≤ 9) : Ev 0 3 mX12_cellOn [vr 214, vi c, vi s, vi n] m (fun r m' => m' = m ∧ (r = if insC G d (x + n * dx s) (y + n * dy s) then 9 * (y + n * dy s) + (x + n * dx s) else -1)) := by
  refine Ev.of (L := [vr 214, vi c, vi s, vi n, un, un]) (by decide +kernel) rfl (Nat.le_of_ble_eq_true rfl) rfl (fun t ht => by cases ht; first | exact Or.inl rfl | exact Or.inr (Or.inl rfl) | exact Or.inr (Or.inr rfl)) (fun hcan => ?_)
  obtain ⟨⟨hd0, hd1⟩, ⟨hd2, hd3⟩, ⟨hd4, hd5⟩, ⟨hd6, hd7⟩, ⟨hd8, hd9⟩, hdf, hdp, hdq⟩ := id hdn
  have hsd := sdx (n := n) hs.1 hs.2
  refine go_iload_n dX12_cellOn_0 rfl ?_
  refine go_bipush dX12_cellOn_1 (by decide) ?_
  refine go_irem dX12_cellOn_3 ⟨by omega, by omega⟩ ⟨by omega, by omega⟩ (by omega) (by omega) ?_
  refine go_iload_n dX12_cellOn_4 rfl ?_
  refine go_if_ne (tgt := 12) dX12_cellOn_5 (by decide) ⟨by omega, by omega⟩ (fun h_5 => ?_) (fun h_5 => ?_)
  · refine go_iload_n dX12_cellOn_12 rfl ?_
    refine go_iconst dX12_cellOn_13 ?_
    refine go_icmp_ne (tgt := 22) dX12_cellOn_14 (by decide) ⟨by omega, by omega⟩ ⟨by omega, by omega⟩ (fun h_14 => ?_) (fun h_14 => ?_)
    · refine go_iconst dX12_cellOn_22 ?_
      refine go_iadd dX12_cellOn_23 ?_
      refine go_istore (L' := [vr 214, vi c, vi s, vi n, vi ((c % 9) + 0), un]) dX12_cellOn_24 (by decide) rfl rfl ?_
      refine go_iload_n dX12_cellOn_26 rfl ?_
      refine go_bipush dX12_cellOn_27 (by decide) ?_
      refine go_idiv dX12_cellOn_29 ⟨by omega, by omega⟩ ⟨by omega, by omega⟩ (by omega) (by omega) ?_
      refine go_iload_n dX12_cellOn_30 rfl ?_
      refine go_iconst dX12_cellOn_31 ?_
      refine go_icmp_ne (tgt := 39) dX12_cellOn_32 (by decide) ⟨by omega, by omega⟩ ⟨by omega, by omega⟩ (fun h_32 => ?_) (fun h_32 => ?_)
      · refine go_iload_n dX12_cellOn_39 rfl ?_
        refine go_iconst dX12_cellOn_40 ?_
        refine go_icmp_ne (tgt := 49) dX12_cellOn_41 (by decide) ⟨by omega, by omega⟩ ⟨by omega, by omega⟩ (fun h_41 => ?_) (fun h_41 => ?_)
        · refine go_iconst dX12_cellOn_49 ?_
          refine go_iadd dX12_cellOn_50 ?_
          refine go_istore (L' := [vr 214, vi c, vi s, vi n, vi ((c % 9) + 0), vi ((c / 9) + 0)]) dX12_cellOn_51 (by decide) rfl rfl ?_
          refine go_aload_n dX12_cellOn_53 rfl ?_
          refine go_iload dX12_cellOn_54 rfl ?_
          refine go_iload dX12_cellOn_56 rfl ?_
          refine go_callVp_z (as := [vi ((c % 9) + 0), vi ((c / 9) + 0)]) (S := []) (b := 214) (ev_X12_isCell (m := m) (x := ((c % 9) + 0)) (y := ((c / 9) + 0)) (G := G) (d := d) (st := st) (by first | exact hb | exact hb.w (by decide) | exact (hb.w (by decide)).w (by decide)) (by first | assumption | omega | exact ⟨by omega, by omega⟩ | (constructor <;> omega)) (by first | assumption | omega | exact ⟨by omega, by omega⟩ | (constructor <;> omega)) (by first | assumption | omega | exact ⟨by omega, by omega⟩ | (constructor <;> omega))) rfl dX12_cellOn_58 cv_12_232 rfl rfl ob_214 rfl (by decide) (Nat.le_of_ble_eq_true rfl) (fun r_58 hr_58 ho_58 => ?_)
          refine go_if_eq (tgt := 75) dX12_cellOn_61 (by decide) ⟨by omega, by omega⟩ (fun h_61 => ?_) (fun h_61 => ?_)
          · refine go_iconst dX12_cellOn_75 ?_
            exact go_ret (v := (-1)) rfl dX12_cellOn_76 (okI ⟨by omega, by omega⟩) ⟨rfl, (by first | (rw [if_pos (by unfold insC at *; omega)]; omega) | (rw [if_neg (by unfold insC at *; omega)]))⟩
          · refine go_bipush dX12_cellOn_64 (by decide) ?_
            refine go_iload dX12_cellOn_66 rfl ?_
            refine go_imul dX12_cellOn_68 ?_
            refine go_iload dX12_cellOn_69 rfl ?_
            refine go_iadd dX12_cellOn_71 ?_
            refine go_goto (tgt := 76) dX12_cellOn_72 (by decide) ?_
            exact go_ret (v := ((9 * ((c / 9) + 0)) + ((c % 9) + 0))) rfl dX12_cellOn_76 (okI ⟨by omega, by omega⟩) ⟨rfl, (by first | (rw [if_pos (by unfold insC at *; omega)]; omega) | (rw [if_neg (by unfold insC at *; omega)]))⟩
        · refine go_iload_n dX12_cellOn_44 rfl ?_
          refine go_ineg dX12_cellOn_45 ?_
          refine go_goto (tgt := 50) dX12_cellOn_46 (by decide) ?_
          refine go_iadd dX12_cellOn_50 ?_
          refine go_istore (L' := [vr 214, vi c, vi s, vi n, vi ((c % 9) + 0), vi ((c / 9) + (-n))]) dX12_cellOn_51 (by decide) rfl rfl ?_
          refine go_aload_n dX12_cellOn_53 rfl ?_
          refine go_iload dX12_cellOn_54 rfl ?_
          refine go_iload dX12_cellOn_56 rfl ?_
          refine go_callVp_z (as := [vi ((c % 9) + 0), vi ((c / 9) + (-n))]) (S := []) (b := 214) (ev_X12_isCell (m := m) (x := ((c % 9) + 0)) (y := ((c / 9) + (-n))) (G := G) (d := d) (st := st) (by first | exact hb | exact hb.w (by decide) | exact (hb.w (by decide)).w (by decide)) (by first | assumption | omega | exact ⟨by omega, by omega⟩ | (constructor <;> omega)) (by first | assumption | omega | exact ⟨by omega, by omega⟩ | (constructor <;> omega)) (by first | assumption | omega | exact ⟨by omega, by omega⟩ | (constructor <;> omega))) rfl dX12_cellOn_58 cv_12_232 rfl rfl ob_214 rfl (by decide) (Nat.le_of_ble_eq_true rfl) (fun r_58 hr_58 ho_58 => ?_)
          refine go_if_eq (tgt := 75) dX12_cellOn_61 (by decide) ⟨by omega, by omega⟩ (fun h_61 => ?_) (fun h_61 => ?_)
          · refine go_iconst dX12_cellOn_75 ?_
            exact go_ret (v := (-1)) rfl dX12_cellOn_76 (okI ⟨by omega, by omega⟩) ⟨rfl, (by first | (rw [if_pos (by unfold insC at *; omega)]; omega) | (rw [if_neg (by unfold insC at *; omega)]))⟩
          · refine go_bipush dX12_cellOn_64 (by decide) ?_
            refine go_iload dX12_cellOn_66 rfl ?_
            refine go_imul dX12_cellOn_68 ?_
            refine go_iload dX12_cellOn_69 rfl ?_
            refine go_iadd dX12_cellOn_71 ?_
            refine go_goto (tgt := 76) dX12_cellOn_72 (by decide) ?_
            exact go_ret (v := ((9 * ((c / 9) + (-n))) + ((c % 9) + 0))) rfl dX12_cellOn_76 (okI ⟨by omega, by omega⟩) ⟨rfl, (by first | (rw [if_pos (by unfold insC at *; omega)]; omega) | (rw [if_neg (by unfold insC at *; omega)]))⟩
      · refine go_iload_n dX12_cellOn_35 rfl ?_
        refine go_goto (tgt := 50) dX12_cellOn_36 (by decide) ?_
        refine go_iadd dX12_cellOn_50 ?_
        refine go_istore (L' := [vr 214, vi c, vi s, vi n, vi ((c % 9) + 0), vi ((c / 9) + n)]) dX12_cellOn_51 (by decide) rfl rfl ?_
        refine go_aload_n dX12_cellOn_53 rfl ?_
        refine go_iload dX12_cellOn_54 rfl ?_
        refine go_iload dX12_cellOn_56 rfl ?_
        refine go_callVp_z (as := [vi ((c % 9) + 0), vi ((c / 9) + n)]) (S := []) (b := 214) (ev_X12_isCell (m := m) (x := ((c % 9) + 0)) (y := ((c / 9) + n)) (G := G) (d := d) (st := st) (by first | exact hb | exact hb.w (by decide) | exact (hb.w (by decide)).w (by decide)) (by first | assumption | omega | exact ⟨by omega, by omega⟩ | (constructor <;> omega)) (by first | assumption | omega | exact ⟨by omega, by omega⟩ | (constructor <;> omega)) (by first | assumption | omega | exact ⟨by omega, by omega⟩ | (constructor <;> omega))) rfl dX12_cellOn_58 cv_12_232 rfl rfl ob_214 rfl (by decide) (Nat.le_of_ble_eq_true rfl) (fun r_58 hr_58 ho_58 => ?_)
        refine go_if_eq (tgt := 75) dX12_cellOn_61 (by decide) ⟨by omega, by omega⟩ (fun h_61 => ?_) (fun h_61 => ?_)
        · refine go_iconst dX12_cellOn_75 ?_
          exact go_ret (v := (-1)) rfl dX12_cellOn_76 (okI ⟨by omega, by omega⟩) ⟨rfl, (by first | (rw [if_pos (by unfold insC at *; omega)]; omega) | (rw [if_neg (by unfold insC at *; omega)]))⟩
        · refine go_bipush dX12_cellOn_64 (by decide) ?_
          refine go_iload dX12_cellOn_66 rfl ?_
          refine go_imul dX12_cellOn_68 ?_
          refine go_iload dX12_cellOn_69 rfl ?_
          refine go_iadd dX12_cellOn_71 ?_
          refine go_goto (tgt := 76) dX12_cellOn_72 (by decide) ?_
          exact go_ret (v := ((9 * ((c / 9) + n)) + ((c % 9) + 0))) rfl dX12_cellOn_76 (okI ⟨by omega, by omega⟩) ⟨rfl, (by first | (rw [if_pos (by unfold insC at *; omega)]; omega) | (rw [if_neg (by unfold insC at *; omega)]))⟩
    · refine go_iload_n dX12_cellOn_17 rfl ?_
      refine go_ineg dX12_cellOn_18 ?_
      refine go_goto (tgt := 23) dX12_cellOn_19 (by decide) ?_
      refine go_iadd dX12_cellOn_23 ?_
      refine go_istore (L' := [vr 214, vi c, vi s, vi n, vi ((c % 9) + (-n)), un]) dX12_cellOn_24 (by decide) rfl rfl ?_
      refine go_iload_n dX12_cellOn_26 rfl ?_
      refine go_bipush dX12_cellOn_27 (by decide) ?_
      refine go_idiv dX12_cellOn_29 ⟨by omega, by omega⟩ ⟨by omega, by omega⟩ (by omega) (by omega) ?_
      refine go_iload_n dX12_cellOn_30 rfl ?_
      refine go_iconst dX12_cellOn_31 ?_
      refine go_icmp_ne (tgt := 39) dX12_cellOn_32 (by decide) ⟨by omega, by omega⟩ ⟨by omega, by omega⟩ (fun h_32 => ?_) (fun h_32 => ?_)
      · refine go_iload_n dX12_cellOn_39 rfl ?_
        refine go_iconst dX12_cellOn_40 ?_
        refine go_icmp_ne (tgt := 49) dX12_cellOn_41 (by decide) ⟨by omega, by omega⟩ ⟨by omega, by omega⟩ (fun h_41 => ?_) (fun h_41 => ?_)
        · refine go_iconst dX12_cellOn_49 ?_
          refine go_iadd dX12_cellOn_50 ?_
          refine go_istore (L' := [vr 214, vi c, vi s, vi n, vi ((c % 9) + (-n)), vi ((c / 9) + 0)]) dX12_cellOn_51 (by decide) rfl rfl ?_
          refine go_aload_n dX12_cellOn_53 rfl ?_
          refine go_iload dX12_cellOn_54 rfl ?_
          refine go_iload dX12_cellOn_56 rfl ?_
          refine go_callVp_z (as := [vi ((c % 9) + (-n)), vi ((c / 9) + 0)]) (S := []) (b := 214) (ev_X12_isCell (m := m) (x := ((c % 9) + (-n))) (y := ((c / 9) + 0)) (G := G) (d := d) (st := st) (by first | exact hb | exact hb.w (by decide) | exact (hb.w (by decide)).w (by decide)) (by first | assumption | omega | exact ⟨by omega, by omega⟩ | (constructor <;> omega)) (by first | assumption | omega | exact ⟨by omega, by omega⟩ | (constructor <;> omega)) (by first | assumption | omega | exact ⟨by omega, by omega⟩ | (constructor <;> omega))) rfl dX12_cellOn_58 cv_12_232 rfl rfl ob_214 rfl (by decide) (Nat.le_of_ble_eq_true rfl) (fun r_58 hr_58 ho_58 => ?_)
          refine go_if_eq (tgt := 75) dX12_cellOn_61 (by decide) ⟨by omega, by omega⟩ (fun h_61 => ?_) (fun h_61 => ?_)
          · refine go_iconst dX12_cellOn_75 ?_
            exact go_ret (v := (-1)) rfl dX12_cellOn_76 (okI ⟨by omega, by omega⟩) ⟨rfl, (by first | (rw [if_pos (by unfold insC at *; omega)]; omega) | (rw [if_neg (by unfold insC at *; omega)]))⟩
          · refine go_bipush dX12_cellOn_64 (by decide) ?_
            refine go_iload dX12_cellOn_66 rfl ?_
            refine go_imul dX12_cellOn_68 ?_
            refine go_iload dX12_cellOn_69 rfl ?_
            refine go_iadd dX12_cellOn_71 ?_
            refine go_goto (tgt := 76) dX12_cellOn_72 (by decide) ?_
            exact go_ret (v := ((9 * ((c / 9) + 0)) + ((c % 9) + (-n)))) rfl dX12_cellOn_76 (okI ⟨by omega, by omega⟩) ⟨rfl, (by first | (rw [if_pos (by unfold insC at *; omega)]; omega) | (rw [if_neg (by unfold insC at *; omega)]))⟩
        · refine go_iload_n dX12_cellOn_44 rfl ?_
          refine go_ineg dX12_cellOn_45 ?_
          refine go_goto (tgt := 50) dX12_cellOn_46 (by decide) ?_
          refine go_iadd dX12_cellOn_50 ?_
          refine go_istore (L' := [vr 214, vi c, vi s, vi n, vi ((c % 9) + (-n)), vi ((c / 9) + (-n))]) dX12_cellOn_51 (by decide) rfl rfl ?_
          refine go_aload_n dX12_cellOn_53 rfl ?_
          refine go_iload dX12_cellOn_54 rfl ?_
          refine go_iload dX12_cellOn_56 rfl ?_
          refine go_callVp_z (as := [vi ((c % 9) + (-n)), vi ((c / 9) + (-n))]) (S := []) (b := 214) (ev_X12_isCell (m := m) (x := ((c % 9) + (-n))) (y := ((c / 9) + (-n))) (G := G) (d := d) (st := st) (by first | exact hb | exact hb.w (by decide) | exact (hb.w (by decide)).w (by decide)) (by first | assumption | omega | exact ⟨by omega, by omega⟩ | (constructor <;> omega)) (by first | assumption | omega | exact ⟨by omega, by omega⟩ | (constructor <;> omega)) (by first | assumption | omega | exact ⟨by omega, by omega⟩ | (constructor <;> omega))) rfl dX12_cellOn_58 cv_12_232 rfl rfl ob_214 rfl (by decide) (Nat.le_of_ble_eq_true rfl) (fun r_58 hr_58 ho_58 => ?_)
          refine go_if_eq (tgt := 75) dX12_cellOn_61 (by decide) ⟨by omega, by omega⟩ (fun h_61 => ?_) (fun h_61 => ?_)
          · refine go_iconst dX12_cellOn_75 ?_
            exact go_ret (v := (-1)) rfl dX12_cellOn_76 (okI ⟨by omega, by omega⟩) ⟨rfl, (by first | (rw [if_pos (by unfold insC at *; omega)]; omega) | (rw [if_neg (by unfold insC at *; omega)]))⟩
          · refine go_bipush dX12_cellOn_64 (by decide) ?_
            refine go_iload dX12_cellOn_66 rfl ?_
            refine go_imul dX12_cellOn_68 ?_
            refine go_iload dX12_cellOn_69 rfl ?_
            refine go_iadd dX12_cellOn_71 ?_
            refine go_goto (tgt := 76) dX12_cellOn_72 (by decide) ?_
            exact go_ret (v := ((9 * ((c / 9) + (-n))) + ((c % 9) + (-n)))) rfl dX12_cellOn_76 (okI ⟨by omega, by omega⟩) ⟨rfl, (by first | (rw [if_pos (by unfold insC at *; omega)]; omega) | (rw [if_neg (by unfold insC at *; omega)]))⟩
      · refine go_iload_n dX12_cellOn_35 rfl ?_
        refine go_goto (tgt := 50) dX12_cellOn_36 (by decide) ?_
        refine go_iadd dX12_cellOn_50 ?_
        refine go_istore (L' := [vr 214, vi c, vi s, vi n, vi ((c % 9) + (-n)), vi ((c / 9) + n)]) dX12_cellOn_51 (by decide) rfl rfl ?_
        refine go_aload_n dX12_cellOn_53 rfl ?_
        refine go_iload dX12_cellOn_54 rfl ?_
        refine go_iload dX12_cellOn_56 rfl ?_
        refine go_callVp_z (as := [vi ((c % 9) + (-n)), vi ((c / 9) + n)]) (S := []) (b := 214) (ev_X12_isCell (m := m) (x := ((c % 9) + (-n))) (y := ((c / 9) + n)) (G := G) (d := d) (st := st) (by first | exact hb | exact hb.w (by decide) | exact (hb.w (by decide)).w (by decide)) (by first | assumption | omega | exact ⟨by omega, by omega⟩ | (constructor <;> omega)) (by first | assumption | omega | exact ⟨by omega, by omega⟩ | (constructor <;> omega)) (by first | assumption | omega | exact ⟨by omega, by omega⟩ | (constructor <;> omega))) rfl dX12_cellOn_58 cv_12_232 rfl rfl ob_214 rfl (by decide) (Nat.le_of_ble_eq_true rfl) (fun r_58 hr_58 ho_58 => ?_)
        refine go_if_eq (tgt := 75) dX12_cellOn_61 (by decide) ⟨by omega, by omega⟩ (fun h_61 => ?_) (fun h_61 => ?_)
        · refine go_iconst dX12_cellOn_75 ?_
          exact go_ret (v := (-1)) rfl dX12_cellOn_76 (okI ⟨by omega, by omega⟩) ⟨rfl, (by first | (rw [if_pos (by unfold insC at *; omega)]; omega) | (rw [if_neg (by unfold insC at *; omega)]))⟩
        · refine go_bipush dX12_cellOn_64 (by decide) ?_
          refine go_iload dX12_cellOn_66 rfl ?_
          refine go_imul dX12_cellOn_68 ?_
          refine go_iload dX12_cellOn_69 rfl ?_
          refine go_iadd dX12_cellOn_71 ?_
          refine go_goto (tgt := 76) dX12_cellOn_72 (by decide) ?_
          exact go_ret (v := ((9 * ((c / 9) + n)) + ((c % 9) + (-n)))) rfl dX12_cellOn_76 (okI ⟨by omega, by omega⟩) ⟨rfl, (by first | (rw [if_pos (by unfold insC at *; omega)]; omega) | (rw [if_neg (by unfold insC at *; omega)]))⟩
  · refine go_iload_n dX12_cellOn_8 rfl ?_
    refine go_goto (tgt := 23) dX12_cellOn_9 (by decide) ?_
    refine go_iadd dX12_cellOn_23 ?_
    refine go_istore (L' := [vr 214, vi c, vi s, vi n, vi ((c % 9) + n), un]) dX12_cellOn_24 (by decide) rfl rfl ?_
    refine go_iload_n dX12_cellOn_26 rfl ?_
    refine go_bipush dX12_cellOn_27 (by decide) ?_
    refine go_idiv dX12_cellOn_29 ⟨by omega, by omega⟩ ⟨by omega, by omega⟩ (by omega) (by omega) ?_
    refine go_iload_n dX12_cellOn_30 rfl ?_
    refine go_iconst dX12_cellOn_31 ?_
    refine go_icmp_ne (tgt := 39) dX12_cellOn_32 (by decide) ⟨by omega, by omega⟩ ⟨by omega, by omega⟩ (fun h_32 => ?_) (fun h_32 => ?_)
    · refine go_iload_n dX12_cellOn_39 rfl ?_
      refine go_iconst dX12_cellOn_40 ?_
      refine go_icmp_ne (tgt := 49) dX12_cellOn_41 (by decide) ⟨by omega, by omega⟩ ⟨by omega, by omega⟩ (fun h_41 => ?_) (fun h_41 => ?_)
      · refine go_iconst dX12_cellOn_49 ?_
        refine go_iadd dX12_cellOn_50 ?_
        refine go_istore (L' := [vr 214, vi c, vi s, vi n, vi ((c % 9) + n), vi ((c / 9) + 0)]) dX12_cellOn_51 (by decide) rfl rfl ?_
        refine go_aload_n dX12_cellOn_53 rfl ?_
        refine go_iload dX12_cellOn_54 rfl ?_
        refine go_iload dX12_cellOn_56 rfl ?_
        refine go_callVp_z (as := [vi ((c % 9) + n), vi ((c / 9) + 0)]) (S := []) (b := 214) (ev_X12_isCell (m := m) (x := ((c % 9) + n)) (y := ((c / 9) + 0)) (G := G) (d := d) (st := st) (by first | exact hb | exact hb.w (by decide) | exact (hb.w (by decide)).w (by decide)) (by first | assumption | omega | exact ⟨by omega, by omega⟩ | (constructor <;> omega)) (by first | assumption | omega | exact ⟨by omega, by omega⟩ | (constructor <;> omega)) (by first | assumption | omega | exact ⟨by omega, by omega⟩ | (constructor <;> omega))) rfl dX12_cellOn_58 cv_12_232 rfl rfl ob_214 rfl (by decide) (Nat.le_of_ble_eq_true rfl) (fun r_58 hr_58 ho_58 => ?_)
        refine go_if_eq (tgt := 75) dX12_cellOn_61 (by decide) ⟨by omega, by omega⟩ (fun h_61 => ?_) (fun h_61 => ?_)
        · refine go_iconst dX12_cellOn_75 ?_
          exact go_ret (v := (-1)) rfl dX12_cellOn_76 (okI ⟨by omega, by omega⟩) ⟨rfl, (by first | (rw [if_pos (by unfold insC at *; omega)]; omega) | (rw [if_neg (by unfold insC at *; omega)]))⟩
        · refine go_bipush dX12_cellOn_64 (by decide) ?_
          refine go_iload dX12_cellOn_66 rfl ?_
          refine go_imul dX12_cellOn_68 ?_
          refine go_iload dX12_cellOn_69 rfl ?_
          refine go_iadd dX12_cellOn_71 ?_
          refine go_goto (tgt := 76) dX12_cellOn_72 (by decide) ?_
          exact go_ret (v := ((9 * ((c / 9) + 0)) + ((c % 9) + n))) rfl dX12_cellOn_76 (okI ⟨by omega, by omega⟩) ⟨rfl, (by first | (rw [if_pos (by unfold insC at *; omega)]; omega) | (rw [if_neg (by unfold insC at *; omega)]))⟩
      · refine go_iload_n dX12_cellOn_44 rfl ?_
        refine go_ineg dX12_cellOn_45 ?_
        refine go_goto (tgt := 50) dX12_cellOn_46 (by decide) ?_
        refine go_iadd dX12_cellOn_50 ?_
        refine go_istore (L' := [vr 214, vi c, vi s, vi n, vi ((c % 9) + n), vi ((c / 9) + (-n))]) dX12_cellOn_51 (by decide) rfl rfl ?_
        refine go_aload_n dX12_cellOn_53 rfl ?_
        refine go_iload dX12_cellOn_54 rfl ?_
        refine go_iload dX12_cellOn_56 rfl ?_
        refine go_callVp_z (as := [vi ((c % 9) + n), vi ((c / 9) + (-n))]) (S := []) (b := 214) (ev_X12_isCell (m := m) (x := ((c % 9) + n)) (y := ((c / 9) + (-n))) (G := G) (d := d) (st := st) (by first | exact hb | exact hb.w (by decide) | exact (hb.w (by decide)).w (by decide)) (by first | assumption | omega | exact ⟨by omega, by omega⟩ | (constructor <;> omega)) (by first | assumption | omega | exact ⟨by omega, by omega⟩ | (constructor <;> omega)) (by first | assumption | omega | exact ⟨by omega, by omega⟩ | (constructor <;> omega))) rfl dX12_cellOn_58 cv_12_232 rfl rfl ob_214 rfl (by decide) (Nat.le_of_ble_eq_true rfl) (fun r_58 hr_58 ho_58 => ?_)
        refine go_if_eq (tgt := 75) dX12_cellOn_61 (by decide) ⟨by omega, by omega⟩ (fun h_61 => ?_) (fun h_61 => ?_)
        · refine go_iconst dX12_cellOn_75 ?_
          exact go_ret (v := (-1)) rfl dX12_cellOn_76 (okI ⟨by omega, by omega⟩) ⟨rfl, (by first | (rw [if_pos (by unfold insC at *; omega)]; omega) | (rw [if_neg (by unfold insC at *; omega)]))⟩
        · refine go_bipush dX12_cellOn_64 (by decide) ?_
          refine go_iload dX12_cellOn_66 rfl ?_
          refine go_imul dX12_cellOn_68 ?_
          refine go_iload dX12_cellOn_69 rfl ?_
          refine go_iadd dX12_cellOn_71 ?_
          refine go_goto (tgt := 76) dX12_cellOn_72 (by decide) ?_
          exact go_ret (v := ((9 * ((c / 9) + (-n))) + ((c % 9) + n))) rfl dX12_cellOn_76 (okI ⟨by omega, by omega⟩) ⟨rfl, (by first | (rw [if_pos (by unfold insC at *; omega)]; omega) | (rw [if_neg (by unfold insC at *; omega)]))⟩
    · refine go_iload_n dX12_cellOn_35 rfl ?_
      refine go_goto (tgt := 50) dX12_cellOn_36 (by decide) ?_
      refine go_iadd dX12_cellOn_50 ?_
      refine go_istore (L' := [vr 214, vi c, vi s, vi n, vi ((c % 9) + n), vi ((c / 9) + n)]) dX12_cellOn_51 (by decide) rfl rfl ?_
      refine go_aload_n dX12_cellOn_53 rfl ?_
      refine go_iload dX12_cellOn_54 rfl ?_
      refine go_iload dX12_cellOn_56 rfl ?_
      refine go_callVp_z (as := [vi ((c % 9) + n), vi ((c / 9) + n)]) (S := []) (b := 214) (ev_X12_isCell (m := m) (x := ((c % 9) + n)) (y := ((c / 9) + n)) (G := G) (d := d) (st := st) (by first | exact hb | exact hb.w (by decide) | exact (hb.w (by decide)).w (by decide)) (by first | assumption | omega | exact ⟨by omega, by omega⟩ | (constructor <;> omega)) (by first | assumption | omega | exact ⟨by omega, by omega⟩ | (constructor <;> omega)) (by first | assumption | omega | exact ⟨by omega, by omega⟩ | (constructor <;> omega))) rfl dX12_cellOn_58 cv_12_232 rfl rfl ob_214 rfl (by decide) (Nat.le_of_ble_eq_true rfl) (fun r_58 hr_58 ho_58 => ?_)
      refine go_if_eq (tgt := 75) dX12_cellOn_61 (by decide) ⟨by omega, by omega⟩ (fun h_61 => ?_) (fun h_61 => ?_)
      · refine go_iconst dX12_cellOn_75 ?_
        exact go_ret (v := (-1)) rfl dX12_cellOn_76 (okI ⟨by omega, by omega⟩) ⟨rfl, (by first | (rw [if_pos (by unfold insC at *; omega)]; omega) | (rw [if_neg (by unfold insC at *; omega)]))⟩
      · refine go_bipush dX12_cellOn_64 (by decide) ?_
        refine go_iload dX12_cellOn_66 rfl ?_
        refine go_imul dX12_cellOn_68 ?_
        refine go_iload dX12_cellOn_69 rfl ?_
        refine go_iadd dX12_cellOn_71 ?_
        refine go_goto (tgt := 76) dX12_cellOn_72 (by decide) ?_
        exact go_ret (v := ((9 * ((c / 9) + n)) + ((c % 9) + n))) rfl dX12_cellOn_76 (okI ⟨by omega, by omega⟩) ⟨rfl, (by first | (rw [if_pos (by unfold insC at *; omega)]; omega) | (rw [if_neg (by unfold insC at *; omega)]))⟩
theorem dX12_onWay_0 : decode mX12_onWay.2.1 0 = .ok (.bipush 9, 2) := by decide +kernel
theorem dX12_onWay_2 : decode mX12_onWay.2.1 2 = .ok (.istore 5, 2) := by decide +kernel
theorem dX12_onWay_4 : decode mX12_onWay.2.1 4 = .ok (.iconst 1, 1) := by decide +kernel
theorem dX12_onWay_5 : decode mX12_onWay.2.1 5 = .ok (.istore 6, 2) := by decide +kernel
theorem dX12_onWay_7 : decode mX12_onWay.2.1 7 = .ok (.iload 6, 2) := by decide +kernel
theorem dX12_onWay_9 : decode mX12_onWay.2.1 9 = .ok (.aload_n 0, 1) := by decide +kernel
theorem dX12_onWay_10 : decode mX12_onWay.2.1 10 = .ok (.getfield 98, 3) := by decide +kernel
theorem dX12_onWay_13 : decode mX12_onWay.2.1 13 = .ok (.bipush 11, 2) := by decide +kernel
theorem dX12_onWay_15 : decode mX12_onWay.2.1 15 = .ok (.iload_n 2, 1) := by decide +kernel
theorem dX12_onWay_16 : decode mX12_onWay.2.1 16 = .ok (.iadd, 1) := by decide +kernel
theorem dX12_onWay_17 : decode mX12_onWay.2.1 17 = .ok (.iaload, 1) := by decide +kernel
theorem dX12_onWay_18 : decode mX12_onWay.2.1 18 = .ok (.if_icmp .gt 100, 3) := by decide +kernel
theorem dX12_onWay_21 : decode mX12_onWay.2.1 21 = .ok (.aload_n 0, 1) := by decide +kernel
theorem dX12_onWay_22 : decode mX12_onWay.2.1 22 = .ok (.iload_n 1, 1) := by decide +kernel
theorem dX12_onWay_23 : decode mX12_onWay.2.1 23 = .ok (.iload_n 3, 1) := by decide +kernel
theorem dX12_onWay_24 : decode mX12_onWay.2.1 24 = .ok (.iload 6, 2) := by decide +kernel
theorem dX12_onWay_26 : decode mX12_onWay.2.1 26 = .ok (.invokevirtual 235, 3) := by decide +kernel
theorem dX12_onWay_29 : decode mX12_onWay.2.1 29 = .ok (.istore 7, 2) := by decide +kernel
theorem dX12_onWay_31 : decode mX12_onWay.2.1 31 = .ok (.iload 7, 2) := by decide +kernel
theorem dX12_onWay_33 : decode mX12_onWay.2.1 33 = .ok (.iconst (-1), 1) := by decide +kernel
theorem dX12_onWay_34 : decode mX12_onWay.2.1 34 = .ok (.if_icmp .ne 7, 3) := by decide +kernel
theorem dX12_onWay_37 : decode mX12_onWay.2.1 37 = .ok (.iconst (-1), 1) := by decide +kernel
theorem dX12_onWay_38 : decode mX12_onWay.2.1 38 = .ok (.goto 9, 3) := by decide +kernel
theorem dX12_onWay_41 : decode mX12_onWay.2.1 41 = .ok (.aload_n 0, 1) := by decide +kernel
theorem dX12_onWay_42 : decode mX12_onWay.2.1 42 = .ok (.iload 7, 2) := by decide +kernel
theorem dX12_onWay_44 : decode mX12_onWay.2.1 44 = .ok (.invokevirtual 239, 3) := by decide +kernel
theorem dX12_onWay_47 : decode mX12_onWay.2.1 47 = .ok (.istore 8, 2) := by decide +kernel
theorem dX12_onWay_49 : decode mX12_onWay.2.1 49 = .ok (.iload 7, 2) := by decide +kernel
theorem dX12_onWay_51 : decode mX12_onWay.2.1 51 = .ok (.iconst (-1), 1) := by decide +kernel
theorem dX12_onWay_52 : decode mX12_onWay.2.1 52 = .ok (.if_icmp .ne 7, 3) := by decide +kernel
theorem dX12_onWay_55 : decode mX12_onWay.2.1 55 = .ok (.iconst 2, 1) := by decide +kernel
theorem dX12_onWay_56 : decode mX12_onWay.2.1 56 = .ok (.goto 43, 3) := by decide +kernel
theorem dX12_onWay_59 : decode mX12_onWay.2.1 59 = .ok (.aload_n 0, 1) := by decide +kernel
theorem dX12_onWay_60 : decode mX12_onWay.2.1 60 = .ok (.getfield 98, 3) := by decide +kernel
theorem dX12_onWay_63 : decode mX12_onWay.2.1 63 = .ok (.sipush 151, 3) := by decide +kernel
theorem dX12_onWay_66 : decode mX12_onWay.2.1 66 = .ok (.iload 7, 2) := by decide +kernel
theorem dX12_onWay_68 : decode mX12_onWay.2.1 68 = .ok (.iadd, 1) := by decide +kernel
theorem dX12_onWay_69 : decode mX12_onWay.2.1 69 = .ok (.iaload, 1) := by decide +kernel
theorem dX12_onWay_70 : decode mX12_onWay.2.1 70 = .ok (.ifCond .le 7, 3) := by decide +kernel
theorem dX12_onWay_73 : decode mX12_onWay.2.1 73 = .ok (.iconst 3, 1) := by decide +kernel
theorem dX12_onWay_74 : decode mX12_onWay.2.1 74 = .ok (.goto 25, 3) := by decide +kernel
theorem dX12_onWay_77 : decode mX12_onWay.2.1 77 = .ok (.iload 8, 2) := by decide +kernel
theorem dX12_onWay_79 : decode mX12_onWay.2.1 79 = .ok (.iconst (-1), 1) := by decide +kernel
theorem dX12_onWay_80 : decode mX12_onWay.2.1 80 = .ok (.if_icmp .eq 17, 3) := by decide +kernel
theorem dX12_onWay_83 : decode mX12_onWay.2.1 83 = .ok (.iload 4, 2) := by decide +kernel
theorem dX12_onWay_85 : decode mX12_onWay.2.1 85 = .ok (.iload 8, 2) := by decide +kernel
theorem dX12_onWay_87 : decode mX12_onWay.2.1 87 = .ok (.invokestatic 242, 3) := by decide +kernel
theorem dX12_onWay_90 : decode mX12_onWay.2.1 90 = .ok (.ifCond .ne 7, 3) := by decide +kernel
theorem dX12_onWay_93 : decode mX12_onWay.2.1 93 = .ok (.iconst 4, 1) := by decide +kernel
theorem dX12_onWay_94 : decode mX12_onWay.2.1 94 = .ok (.goto 5, 3) := by decide +kernel
theorem dX12_onWay_97 : decode mX12_onWay.2.1 97 = .ok (.bipush 9, 2) := by decide +kernel
theorem dX12_onWay_99 : decode mX12_onWay.2.1 99 = .ok (.istore 9, 2) := by decide +kernel
theorem dX12_onWay_101 : decode mX12_onWay.2.1 101 = .ok (.iload 9, 2) := by decide +kernel
theorem dX12_onWay_103 : decode mX12_onWay.2.1 103 = .ok (.iload 5, 2) := by decide +kernel
theorem dX12_onWay_105 : decode mX12_onWay.2.1 105 = .ok (.if_icmp .ge 7, 3) := by decide +kernel
theorem dX12_onWay_108 : decode mX12_onWay.2.1 108 = .ok (.iload 9, 2) := by decide +kernel
theorem dX12_onWay_110 : decode mX12_onWay.2.1 110 = .ok (.istore 5, 2) := by decide +kernel
theorem dX12_onWay_112 : decode mX12_onWay.2.1 112 = .ok (.iinc 6 1, 3) := by decide +kernel
theorem dX12_onWay_115 : decode mX12_onWay.2.1 115 = .ok (.goto (-108), 3) := by decide +kernel
theorem dX12_onWay_118 : decode mX12_onWay.2.1 118 = .ok (.iload 5, 2) := by decide +kernel
theorem dX12_onWay_120 : decode mX12_onWay.2.1 120 = .ok (.bipush 9, 2) := by decide +kernel
theorem dX12_onWay_122 : decode mX12_onWay.2.1 122 = .ok (.if_icmp .ne 7, 3) := by decide +kernel
theorem dX12_onWay_125 : decode mX12_onWay.2.1 125 = .ok (.iconst 0, 1) := by decide +kernel
theorem dX12_onWay_126 : decode mX12_onWay.2.1 126 = .ok (.goto 5, 3) := by decide +kernel
theorem dX12_onWay_129 : decode mX12_onWay.2.1 129 = .ok (.iload 5, 2) := by decide +kernel
theorem dX12_onWay_131 : decode mX12_onWay.2.1 131 = .ok (.ireturn, 1) := by decide +kernel
set_option maxRecDepth 4000 in
theorem ev_X12_onWay {m : Mem} {G : Mem} {d : Nat} {st : Nat} {B : Int} {c : Int} {f : Int} {s : Int} {but : Int} {x : Int} {y : Int} (hb : Bg G d st (m 216)) (hdn : DnOk G d) (hst : StOk G d st B) (hc : c = 9 * y + x) (hxy : 0 ≤ x ∧ x ≤ 8 ∧ 0 ≤ y ∧ y ≤ 8) (hf : 0 ≤ f ∧ f < G d 2) (hs : 0 ≤ s ∧ s < 4) : Ev 0 4 mX12_onWay [vr 214, vi c, vi f, vi s, vi but] m (fun r m' => m' = m ∧ (r = lwP G d st but x y (dx s) (dy s) (G (d + 3) f).toNat)) := by
  refine Ev.of (L := [vr 214, vi c, vi f, vi s, vi but, un, un, un, un, un]) (by decide +kernel) rfl (Nat.le_of_ble_eq_true rfl) rfl (fun t ht => by cases ht; first | exact Or.inl rfl | exact Or.inr (Or.inl rfl) | exact Or.inr (Or.inr rfl)) (fun hcan => ?_)
  obtain ⟨⟨hd0, hd1⟩, ⟨hd2, hd3⟩, ⟨hd4, hd5⟩, ⟨hd6, hd7⟩, ⟨hd8, hd9⟩, hdf, hdp, hdq⟩ := id hdn
  obtain ⟨⟨hs0, hs1⟩, ⟨hs2, hs3⟩, hsw, hsp, hsd, hsz⟩ := id hst
  have hff := hdf f hf.1 hf.2
  refine go_bipush dX12_onWay_0 (by decide) ?_
  refine go_istore (L' := [vr 214, vi c, vi f, vi s, vi but, vi 9, un, un, un, un]) dX12_onWay_2 (by decide) rfl rfl ?_
  refine go_iconst dX12_onWay_4 ?_
  refine go_istore (L' := [vr 214, vi c, vi f, vi s, vi but, vi 9, vi 1, un, un, un]) dX12_onWay_5 (by decide) rfl rfl ?_
  have lp_7 : ∀ (n_7 : Nat) (a : Int) (k : Int) , (1 ≤ k) → (k ≤ G (d + 3) f + 1) → ((a = 9 ∧ lwP G d st but x y (dx s) (dy s) (k - 1).toNat = 0) ∨ (a = lwP G d st but x y (dx s) (dy s) (k - 1).toNat ∧ a ≠ 0)) → (G (d + 3) f + 1 - k).toNat < n_7 → Go 0 4 mX12_onWay (fun r m' => m' = m ∧ (r = lwP G d st but x y (dx s) (dy s) (G (d + 3) f).toNat)) 7 [vr 214, vi c, vi f, vi s, vi but, vi a, vi k, un, un, un] [] m := by
    intro n_7
    induction n_7 with
    | zero => intro a k hk0 hk1 ha hmu; exact absurd hmu (Nat.not_lt_zero _)
    | succ n_7 ih_7 =>
      intro a k hk0 hk1 ha hmu
      have hab := lwP_b G d st but x y (dx s) (dy s) (k - 1).toNat
      have hls := lwP_s (G := G) (d := d) (st := st) (but := but) (x := x) (y := y) (u := dx s) (v := dy s) hk0
      have hsd := sdx (n := k) hs.1 hs.2
      have hbb := barP_b G d st but (x + k * dx s) (y + k * dy s)
      obtain ⟨X, hX⟩ : ∃ z, z = x + k * dx s := ⟨_, rfl⟩
      obtain ⟨Y, hY⟩ : ∃ z, z = y + k * dy s := ⟨_, rfl⟩
      rw [← hX, ← hY] at hls hbb
      have hbu : barP G d st but X Y = if insC G d X Y then (if 0 < G (st + 1) (9 * Y + X) then 3 else if whoC G d st X Y = -1 ∨ hasP but (whoC G d st X Y) then 0 else 4) else 2 := rfl
      have hwb := whoC_b G d st X Y
      refine go_iload dX12_onWay_7 rfl ?_
      refine go_aload_n dX12_onWay_9 rfl ?_
      refine go_getf_p (b := 216) dX12_onWay_10 fl_12_98 ob_214 rfl pt_214_14 ?_
      refine go_bipush dX12_onWay_13 (by decide) ?_
      refine go_iload_n dX12_onWay_15 rfl ?_
      refine go_iadd dX12_onWay_16 ?_
      refine go_iaload dX12_onWay_17 ar_216 (by omega) (by omega) (fun he_17 => ?_)
      rw [show (m 216 (11 + f) : Int) = (G (d + 3) f) from (hb.go (f := f) (by omega) (by omega))] at he_17 ⊢
      refine go_icmp_gt (tgt := 118) dX12_onWay_18 (by decide) ⟨by omega, by omega⟩ ⟨by omega, by omega⟩ (fun h_18 => ?_) (fun h_18 => ?_)
      · refine go_iload dX12_onWay_118 rfl ?_
        refine go_bipush dX12_onWay_120 (by decide) ?_
        refine go_icmp_ne (tgt := 129) dX12_onWay_122 (by decide) ⟨by omega, by omega⟩ ⟨by omega, by omega⟩ (fun h_122 => ?_) (fun h_122 => ?_)
        · refine go_iload dX12_onWay_129 rfl ?_
          exact go_ret (v := a) rfl dX12_onWay_131 (okI ⟨by omega, by omega⟩) ⟨rfl, (by rw [show G (d + 3) f = k - 1 by omega]; omega)⟩
        · refine go_iconst dX12_onWay_125 ?_
          refine go_goto (tgt := 131) dX12_onWay_126 (by decide) ?_
          exact go_ret (v := 0) rfl dX12_onWay_131 (okI ⟨by omega, by omega⟩) ⟨rfl, (by rw [show G (d + 3) f = k - 1 by omega]; omega)⟩
      · refine go_aload_n dX12_onWay_21 rfl ?_
        refine go_iload_n dX12_onWay_22 rfl ?_
        refine go_iload_n dX12_onWay_23 rfl ?_
        refine go_iload dX12_onWay_24 rfl ?_
        refine go_callVp_i (as := [vi c, vi s, vi k]) (S := []) (b := 214) (ev_X12_cellOn (m := m) (c := c) (s := s) (n := k) (G := G) (d := d) (st := st) (x := x) (y := y) (by first | exact hb | exact hb.w (by decide) | exact (hb.w (by decide)).w (by decide)) (by first | assumption | omega | exact ⟨by omega, by omega⟩ | (constructor <;> omega)) (by first | assumption | omega | exact ⟨by omega, by omega⟩ | (constructor <;> omega)) (by first | assumption | omega | exact ⟨by omega, by omega⟩ | (constructor <;> omega)) (by first | assumption | omega | exact ⟨by omega, by omega⟩ | (constructor <;> omega)) (by first | assumption | omega | exact ⟨by omega, by omega⟩ | (constructor <;> omega))) rfl dX12_onWay_26 cv_12_235 rfl rfl ob_214 rfl (by decide) (Nat.le_of_ble_eq_true rfl) (fun r_26 hr_26 ho_26 => ?_)
        rw [← hX, ← hY] at hr_26
        refine go_istore (L' := [vr 214, vi c, vi f, vi s, vi but, vi a, vi k, vi r_26, un, un]) dX12_onWay_29 (by decide) rfl rfl ?_
        refine go_iload dX12_onWay_31 rfl ?_
        refine go_iconst dX12_onWay_33 ?_
        refine go_icmp_ne (tgt := 41) dX12_onWay_34 (by decide) ⟨by omega, by omega⟩ ⟨by omega, by omega⟩ (fun h_34 => ?_) (fun h_34 => ?_)
        · have hin : insC G d X Y := by by_cases q : insC G d X Y; exact q; rw [if_neg q] at hr_26; omega
          rw [if_pos hin] at hbu hr_26
          rw [← hr_26] at hbu
          have hin2 := hin
          unfold insC at hin2
          refine go_aload_n dX12_onWay_41 rfl ?_
          refine go_iload dX12_onWay_42 rfl ?_
          refine go_callVp_i (as := [vi r_26]) (S := []) (b := 214) (ev_X12_whoIsAt (m := m) (c := r_26) (G := G) (d := d) (st := st) (B := B) (x := X) (y := Y) (by first | exact hb | exact hb.w (by decide) | exact (hb.w (by decide)).w (by decide)) (by first | assumption | omega | exact ⟨by omega, by omega⟩ | (constructor <;> omega)) (by first | assumption | omega | exact ⟨by omega, by omega⟩ | (constructor <;> omega)) hr_26 (by omega)) rfl dX12_onWay_44 cv_12_239 rfl rfl ob_214 rfl (by decide) (Nat.le_of_ble_eq_true rfl) (fun r_44 hr_44 ho_44 => ?_)
          rw [← hr_44] at hbu hwb
          refine go_istore (L' := [vr 214, vi c, vi f, vi s, vi but, vi a, vi k, vi r_26, vi r_44, un]) dX12_onWay_47 (by decide) rfl rfl ?_
          refine go_iload dX12_onWay_49 rfl ?_
          refine go_iconst dX12_onWay_51 ?_
          refine go_icmp_ne (tgt := 59) dX12_onWay_52 (by decide) ⟨by omega, by omega⟩ ⟨by omega, by omega⟩ (fun h_52 => ?_) (fun h_52 => ?_)
          · refine go_aload_n dX12_onWay_59 rfl ?_
            refine go_getf_p (b := 216) dX12_onWay_60 fl_12_98 ob_214 rfl pt_214_14 ?_
            refine go_sipush dX12_onWay_63 (by decide) ?_
            refine go_iload dX12_onWay_66 rfl ?_
            refine go_iadd dX12_onWay_68 ?_
            refine go_iaload dX12_onWay_69 ar_216 (by omega) (by omega) (fun he_69 => ?_)
            rw [show (m 216 (151 + r_26) : Int) = (G (st + 1) r_26) from (hb.wl (c := r_26) (by omega) (by omega))] at he_69 ⊢
            refine go_if_le (tgt := 77) dX12_onWay_70 (by decide) ⟨by omega, by omega⟩ (fun h_70 => ?_) (fun h_70 => ?_)
            · refine go_iload dX12_onWay_77 rfl ?_
              refine go_iconst dX12_onWay_79 ?_
              refine go_icmp_eq (tgt := 97) dX12_onWay_80 (by decide) ⟨by omega, by omega⟩ ⟨by omega, by omega⟩ (fun h_80 => ?_) (fun h_80 => ?_)
              · refine go_bipush dX12_onWay_97 (by decide) ?_
                refine go_istore (L' := [vr 214, vi c, vi f, vi s, vi but, vi a, vi k, vi r_26, vi r_44, vi 9]) dX12_onWay_99 (by decide) rfl rfl ?_
                refine go_iload dX12_onWay_101 rfl ?_
                refine go_iload dX12_onWay_103 rfl ?_
                refine go_icmp_ge (tgt := 112) dX12_onWay_105 (by decide) ⟨by omega, by omega⟩ ⟨by omega, by omega⟩ (fun h_105 => ?_) (fun h_105 => ?_)
                · refine go_iinc (L' := [vr 214, vi c, vi f, vi s, vi but, vi a, vi (k + 1), vi r_26, vi r_44, vi 9]) dX12_onWay_112 rfl (by decide) rfl rfl ?_
                  refine go_goto (tgt := 7) dX12_onWay_115 (by decide) ?_
                  refine go_drop (j := 7) (L' := [vr 214, vi c, vi f, vi s, vi but, vi a, vi (k + 1), un, vi r_44, vi 9]) rfl ?_
                  refine go_drop (j := 8) (L' := [vr 214, vi c, vi f, vi s, vi but, vi a, vi (k + 1), un, un, vi 9]) rfl ?_
                  refine go_drop (j := 9) (L' := [vr 214, vi c, vi f, vi s, vi but, vi a, vi (k + 1), un, un, un]) rfl ?_
                  exact ih_7 a (k + 1) (by first | assumption | omega | rfl) (by first | assumption | omega | rfl) (by rw [show k + 1 - 1 = k by omega, hls]; first | (rw [if_pos (by omega)]; right; omega) | (rw [if_neg (by omega)]; omega)) (by omega)
                · refine go_iload dX12_onWay_108 rfl ?_
                  refine go_istore (L' := [vr 214, vi c, vi f, vi s, vi but, vi 9, vi k, vi r_26, vi r_44, vi 9]) dX12_onWay_110 (by decide) rfl rfl ?_
                  refine go_iinc (L' := [vr 214, vi c, vi f, vi s, vi but, vi 9, vi (k + 1), vi r_26, vi r_44, vi 9]) dX12_onWay_112 rfl (by decide) rfl rfl ?_
                  refine go_goto (tgt := 7) dX12_onWay_115 (by decide) ?_
                  refine go_drop (j := 7) (L' := [vr 214, vi c, vi f, vi s, vi but, vi 9, vi (k + 1), un, vi r_44, vi 9]) rfl ?_
                  refine go_drop (j := 8) (L' := [vr 214, vi c, vi f, vi s, vi but, vi 9, vi (k + 1), un, un, vi 9]) rfl ?_
                  refine go_drop (j := 9) (L' := [vr 214, vi c, vi f, vi s, vi but, vi 9, vi (k + 1), un, un, un]) rfl ?_
                  exact ih_7 9 (k + 1) (by first | assumption | omega | rfl) (by first | assumption | omega | rfl) (by rw [show k + 1 - 1 = k by omega, hls]; first | (rw [if_pos (by omega)]; right; omega) | (rw [if_neg (by omega)]; omega)) (by omega)
              · refine go_iload dX12_onWay_83 rfl ?_
                refine go_iload dX12_onWay_85 rfl ?_
                refine go_callSp_z (as := [vi but, vi r_44]) (S := []) (ev_X12_has (m := m) (a := but) (k := r_44) ) rfl dX12_onWay_87 cs_12_242 rfl rfl (by decide) (Nat.le_of_ble_eq_true rfl) (fun r_87 hr_87 ho_87 => ?_)
                refine go_if_ne (tgt := 97) dX12_onWay_90 (by decide) ⟨by omega, by omega⟩ (fun h_90 => ?_) (fun h_90 => ?_)
                · refine go_bipush dX12_onWay_97 (by decide) ?_
                  refine go_istore (L' := [vr 214, vi c, vi f, vi s, vi but, vi a, vi k, vi r_26, vi r_44, vi 9]) dX12_onWay_99 (by decide) rfl rfl ?_
                  refine go_iload dX12_onWay_101 rfl ?_
                  refine go_iload dX12_onWay_103 rfl ?_
                  refine go_icmp_ge (tgt := 112) dX12_onWay_105 (by decide) ⟨by omega, by omega⟩ ⟨by omega, by omega⟩ (fun h_105 => ?_) (fun h_105 => ?_)
                  · refine go_iinc (L' := [vr 214, vi c, vi f, vi s, vi but, vi a, vi (k + 1), vi r_26, vi r_44, vi 9]) dX12_onWay_112 rfl (by decide) rfl rfl ?_
                    refine go_goto (tgt := 7) dX12_onWay_115 (by decide) ?_
                    refine go_drop (j := 7) (L' := [vr 214, vi c, vi f, vi s, vi but, vi a, vi (k + 1), un, vi r_44, vi 9]) rfl ?_
                    refine go_drop (j := 8) (L' := [vr 214, vi c, vi f, vi s, vi but, vi a, vi (k + 1), un, un, vi 9]) rfl ?_
                    refine go_drop (j := 9) (L' := [vr 214, vi c, vi f, vi s, vi but, vi a, vi (k + 1), un, un, un]) rfl ?_
                    exact ih_7 a (k + 1) (by first | assumption | omega | rfl) (by first | assumption | omega | rfl) (by rw [show k + 1 - 1 = k by omega, hls]; first | (rw [if_pos (by omega)]; right; omega) | (rw [if_neg (by omega)]; omega)) (by omega)
                  · refine go_iload dX12_onWay_108 rfl ?_
                    refine go_istore (L' := [vr 214, vi c, vi f, vi s, vi but, vi 9, vi k, vi r_26, vi r_44, vi 9]) dX12_onWay_110 (by decide) rfl rfl ?_
                    refine go_iinc (L' := [vr 214, vi c, vi f, vi s, vi but, vi 9, vi (k + 1), vi r_26, vi r_44, vi 9]) dX12_onWay_112 rfl (by decide) rfl rfl ?_
                    refine go_goto (tgt := 7) dX12_onWay_115 (by decide) ?_
                    refine go_drop (j := 7) (L' := [vr 214, vi c, vi f, vi s, vi but, vi 9, vi (k + 1), un, vi r_44, vi 9]) rfl ?_
                    refine go_drop (j := 8) (L' := [vr 214, vi c, vi f, vi s, vi but, vi 9, vi (k + 1), un, un, vi 9]) rfl ?_
                    refine go_drop (j := 9) (L' := [vr 214, vi c, vi f, vi s, vi but, vi 9, vi (k + 1), un, un, un]) rfl ?_
                    exact ih_7 9 (k + 1) (by first | assumption | omega | rfl) (by first | assumption | omega | rfl) (by rw [show k + 1 - 1 = k by omega, hls]; first | (rw [if_pos (by omega)]; right; omega) | (rw [if_neg (by omega)]; omega)) (by omega)
                · refine go_iconst dX12_onWay_93 ?_
                  refine go_goto (tgt := 99) dX12_onWay_94 (by decide) ?_
                  refine go_istore (L' := [vr 214, vi c, vi f, vi s, vi but, vi a, vi k, vi r_26, vi r_44, vi 4]) dX12_onWay_99 (by decide) rfl rfl ?_
                  refine go_iload dX12_onWay_101 rfl ?_
                  refine go_iload dX12_onWay_103 rfl ?_
                  refine go_icmp_ge (tgt := 112) dX12_onWay_105 (by decide) ⟨by omega, by omega⟩ ⟨by omega, by omega⟩ (fun h_105 => ?_) (fun h_105 => ?_)
                  · refine go_iinc (L' := [vr 214, vi c, vi f, vi s, vi but, vi a, vi (k + 1), vi r_26, vi r_44, vi 4]) dX12_onWay_112 rfl (by decide) rfl rfl ?_
                    refine go_goto (tgt := 7) dX12_onWay_115 (by decide) ?_
                    refine go_drop (j := 7) (L' := [vr 214, vi c, vi f, vi s, vi but, vi a, vi (k + 1), un, vi r_44, vi 4]) rfl ?_
                    refine go_drop (j := 8) (L' := [vr 214, vi c, vi f, vi s, vi but, vi a, vi (k + 1), un, un, vi 4]) rfl ?_
                    refine go_drop (j := 9) (L' := [vr 214, vi c, vi f, vi s, vi but, vi a, vi (k + 1), un, un, un]) rfl ?_
                    exact ih_7 a (k + 1) (by first | assumption | omega | rfl) (by first | assumption | omega | rfl) (by rw [show k + 1 - 1 = k by omega, hls]; first | (rw [if_pos (by omega)]; right; omega) | (rw [if_neg (by omega)]; omega)) (by omega)
                  · refine go_iload dX12_onWay_108 rfl ?_
                    refine go_istore (L' := [vr 214, vi c, vi f, vi s, vi but, vi 4, vi k, vi r_26, vi r_44, vi 4]) dX12_onWay_110 (by decide) rfl rfl ?_
                    refine go_iinc (L' := [vr 214, vi c, vi f, vi s, vi but, vi 4, vi (k + 1), vi r_26, vi r_44, vi 4]) dX12_onWay_112 rfl (by decide) rfl rfl ?_
                    refine go_goto (tgt := 7) dX12_onWay_115 (by decide) ?_
                    refine go_drop (j := 7) (L' := [vr 214, vi c, vi f, vi s, vi but, vi 4, vi (k + 1), un, vi r_44, vi 4]) rfl ?_
                    refine go_drop (j := 8) (L' := [vr 214, vi c, vi f, vi s, vi but, vi 4, vi (k + 1), un, un, vi 4]) rfl ?_
                    refine go_drop (j := 9) (L' := [vr 214, vi c, vi f, vi s, vi but, vi 4, vi (k + 1), un, un, un]) rfl ?_
                    exact ih_7 4 (k + 1) (by first | assumption | omega | rfl) (by first | assumption | omega | rfl) (by rw [show k + 1 - 1 = k by omega, hls]; first | (rw [if_pos (by omega)]; right; omega) | (rw [if_neg (by omega)]; omega)) (by omega)
            · refine go_iconst dX12_onWay_73 ?_
              refine go_goto (tgt := 99) dX12_onWay_74 (by decide) ?_
              refine go_istore (L' := [vr 214, vi c, vi f, vi s, vi but, vi a, vi k, vi r_26, vi r_44, vi 3]) dX12_onWay_99 (by decide) rfl rfl ?_
              refine go_iload dX12_onWay_101 rfl ?_
              refine go_iload dX12_onWay_103 rfl ?_
              refine go_icmp_ge (tgt := 112) dX12_onWay_105 (by decide) ⟨by omega, by omega⟩ ⟨by omega, by omega⟩ (fun h_105 => ?_) (fun h_105 => ?_)
              · refine go_iinc (L' := [vr 214, vi c, vi f, vi s, vi but, vi a, vi (k + 1), vi r_26, vi r_44, vi 3]) dX12_onWay_112 rfl (by decide) rfl rfl ?_
                refine go_goto (tgt := 7) dX12_onWay_115 (by decide) ?_
                refine go_drop (j := 7) (L' := [vr 214, vi c, vi f, vi s, vi but, vi a, vi (k + 1), un, vi r_44, vi 3]) rfl ?_
                refine go_drop (j := 8) (L' := [vr 214, vi c, vi f, vi s, vi but, vi a, vi (k + 1), un, un, vi 3]) rfl ?_
                refine go_drop (j := 9) (L' := [vr 214, vi c, vi f, vi s, vi but, vi a, vi (k + 1), un, un, un]) rfl ?_
                exact ih_7 a (k + 1) (by first | assumption | omega | rfl) (by first | assumption | omega | rfl) (by rw [show k + 1 - 1 = k by omega, hls]; first | (rw [if_pos (by omega)]; right; omega) | (rw [if_neg (by omega)]; omega)) (by omega)
              · refine go_iload dX12_onWay_108 rfl ?_
                refine go_istore (L' := [vr 214, vi c, vi f, vi s, vi but, vi 3, vi k, vi r_26, vi r_44, vi 3]) dX12_onWay_110 (by decide) rfl rfl ?_
                refine go_iinc (L' := [vr 214, vi c, vi f, vi s, vi but, vi 3, vi (k + 1), vi r_26, vi r_44, vi 3]) dX12_onWay_112 rfl (by decide) rfl rfl ?_
                refine go_goto (tgt := 7) dX12_onWay_115 (by decide) ?_
                refine go_drop (j := 7) (L' := [vr 214, vi c, vi f, vi s, vi but, vi 3, vi (k + 1), un, vi r_44, vi 3]) rfl ?_
                refine go_drop (j := 8) (L' := [vr 214, vi c, vi f, vi s, vi but, vi 3, vi (k + 1), un, un, vi 3]) rfl ?_
                refine go_drop (j := 9) (L' := [vr 214, vi c, vi f, vi s, vi but, vi 3, vi (k + 1), un, un, un]) rfl ?_
                exact ih_7 3 (k + 1) (by first | assumption | omega | rfl) (by first | assumption | omega | rfl) (by rw [show k + 1 - 1 = k by omega, hls]; first | (rw [if_pos (by omega)]; right; omega) | (rw [if_neg (by omega)]; omega)) (by omega)
          · refine go_iconst dX12_onWay_55 ?_
            refine go_goto (tgt := 99) dX12_onWay_56 (by decide) ?_
            refine go_istore (L' := [vr 214, vi c, vi f, vi s, vi but, vi a, vi k, vi r_26, vi r_44, vi 2]) dX12_onWay_99 (by decide) rfl rfl ?_
            refine go_iload dX12_onWay_101 rfl ?_
            refine go_iload dX12_onWay_103 rfl ?_
            refine go_icmp_ge (tgt := 112) dX12_onWay_105 (by decide) ⟨by omega, by omega⟩ ⟨by omega, by omega⟩ (fun h_105 => ?_) (fun h_105 => ?_)
            · refine go_iinc (L' := [vr 214, vi c, vi f, vi s, vi but, vi a, vi (k + 1), vi r_26, vi r_44, vi 2]) dX12_onWay_112 rfl (by decide) rfl rfl ?_
              refine go_goto (tgt := 7) dX12_onWay_115 (by decide) ?_
              refine go_drop (j := 7) (L' := [vr 214, vi c, vi f, vi s, vi but, vi a, vi (k + 1), un, vi r_44, vi 2]) rfl ?_
              refine go_drop (j := 8) (L' := [vr 214, vi c, vi f, vi s, vi but, vi a, vi (k + 1), un, un, vi 2]) rfl ?_
              refine go_drop (j := 9) (L' := [vr 214, vi c, vi f, vi s, vi but, vi a, vi (k + 1), un, un, un]) rfl ?_
              exact ih_7 a (k + 1) (by first | assumption | omega | rfl) (by first | assumption | omega | rfl) (by rw [show k + 1 - 1 = k by omega, hls]; first | (rw [if_pos (by omega)]; right; omega) | (rw [if_neg (by omega)]; omega)) (by omega)
            · refine go_iload dX12_onWay_108 rfl ?_
              refine go_istore (L' := [vr 214, vi c, vi f, vi s, vi but, vi 2, vi k, vi r_26, vi r_44, vi 2]) dX12_onWay_110 (by decide) rfl rfl ?_
              refine go_iinc (L' := [vr 214, vi c, vi f, vi s, vi but, vi 2, vi (k + 1), vi r_26, vi r_44, vi 2]) dX12_onWay_112 rfl (by decide) rfl rfl ?_
              refine go_goto (tgt := 7) dX12_onWay_115 (by decide) ?_
              refine go_drop (j := 7) (L' := [vr 214, vi c, vi f, vi s, vi but, vi 2, vi (k + 1), un, vi r_44, vi 2]) rfl ?_
              refine go_drop (j := 8) (L' := [vr 214, vi c, vi f, vi s, vi but, vi 2, vi (k + 1), un, un, vi 2]) rfl ?_
              refine go_drop (j := 9) (L' := [vr 214, vi c, vi f, vi s, vi but, vi 2, vi (k + 1), un, un, un]) rfl ?_
              exact ih_7 2 (k + 1) (by first | assumption | omega | rfl) (by first | assumption | omega | rfl) (by rw [show k + 1 - 1 = k by omega, hls]; first | (rw [if_pos (by omega)]; right; omega) | (rw [if_neg (by omega)]; omega)) (by omega)
        · have hni : ¬ insC G d X Y := fun q => by rw [if_pos q] at hr_26; unfold insC at q; omega
          rw [if_neg hni] at hbu
          refine go_iconst dX12_onWay_37 ?_
          refine go_goto (tgt := 47) dX12_onWay_38 (by decide) ?_
          refine go_istore (L' := [vr 214, vi c, vi f, vi s, vi but, vi a, vi k, vi r_26, vi (-1), un]) dX12_onWay_47 (by decide) rfl rfl ?_
          refine go_iload dX12_onWay_49 rfl ?_
          refine go_iconst dX12_onWay_51 ?_
          refine go_icmp_ne (tgt := 59) dX12_onWay_52 (by decide) ⟨by omega, by omega⟩ ⟨by omega, by omega⟩ (fun h_52 => ?_) (fun h_52 => ?_)
          · refine go_aload_n dX12_onWay_59 rfl ?_
            refine go_getf_p (b := 216) dX12_onWay_60 fl_12_98 ob_214 rfl pt_214_14 ?_
            refine go_sipush dX12_onWay_63 (by decide) ?_
            refine go_iload dX12_onWay_66 rfl ?_
            refine go_iadd dX12_onWay_68 ?_
            refine go_iaload dX12_onWay_69 ar_216 (by omega) (by omega) (fun he_69 => ?_)
            rw [show (m 216 (151 + r_26) : Int) = (G (st + 1) r_26) from (hb.wl (c := r_26) (by omega) (by omega))] at he_69 ⊢
            refine go_if_le (tgt := 77) dX12_onWay_70 (by decide) ⟨by omega, by omega⟩ (fun h_70 => ?_) (fun h_70 => ?_)
            · refine go_iload dX12_onWay_77 rfl ?_
              refine go_iconst dX12_onWay_79 ?_
              refine go_icmp_eq (tgt := 97) dX12_onWay_80 (by decide) ⟨by omega, by omega⟩ ⟨by omega, by omega⟩ (fun h_80 => ?_) (fun h_80 => ?_)
              · refine go_bipush dX12_onWay_97 (by decide) ?_
                refine go_istore (L' := [vr 214, vi c, vi f, vi s, vi but, vi a, vi k, vi r_26, vi (-1), vi 9]) dX12_onWay_99 (by decide) rfl rfl ?_
                refine go_iload dX12_onWay_101 rfl ?_
                refine go_iload dX12_onWay_103 rfl ?_
                refine go_icmp_ge (tgt := 112) dX12_onWay_105 (by decide) ⟨by omega, by omega⟩ ⟨by omega, by omega⟩ (fun h_105 => ?_) (fun h_105 => ?_)
                · refine go_iinc (L' := [vr 214, vi c, vi f, vi s, vi but, vi a, vi (k + 1), vi r_26, vi (-1), vi 9]) dX12_onWay_112 rfl (by decide) rfl rfl ?_
                  refine go_goto (tgt := 7) dX12_onWay_115 (by decide) ?_
                  refine go_drop (j := 7) (L' := [vr 214, vi c, vi f, vi s, vi but, vi a, vi (k + 1), un, vi (-1), vi 9]) rfl ?_
                  refine go_drop (j := 8) (L' := [vr 214, vi c, vi f, vi s, vi but, vi a, vi (k + 1), un, un, vi 9]) rfl ?_
                  refine go_drop (j := 9) (L' := [vr 214, vi c, vi f, vi s, vi but, vi a, vi (k + 1), un, un, un]) rfl ?_
                  exact ih_7 a (k + 1) (by first | assumption | omega | rfl) (by first | assumption | omega | rfl) (by rw [show k + 1 - 1 = k by omega, hls]; first | (rw [if_pos (by omega)]; right; omega) | (rw [if_neg (by omega)]; omega)) (by omega)
                · refine go_iload dX12_onWay_108 rfl ?_
                  refine go_istore (L' := [vr 214, vi c, vi f, vi s, vi but, vi 9, vi k, vi r_26, vi (-1), vi 9]) dX12_onWay_110 (by decide) rfl rfl ?_
                  refine go_iinc (L' := [vr 214, vi c, vi f, vi s, vi but, vi 9, vi (k + 1), vi r_26, vi (-1), vi 9]) dX12_onWay_112 rfl (by decide) rfl rfl ?_
                  refine go_goto (tgt := 7) dX12_onWay_115 (by decide) ?_
                  refine go_drop (j := 7) (L' := [vr 214, vi c, vi f, vi s, vi but, vi 9, vi (k + 1), un, vi (-1), vi 9]) rfl ?_
                  refine go_drop (j := 8) (L' := [vr 214, vi c, vi f, vi s, vi but, vi 9, vi (k + 1), un, un, vi 9]) rfl ?_
                  refine go_drop (j := 9) (L' := [vr 214, vi c, vi f, vi s, vi but, vi 9, vi (k + 1), un, un, un]) rfl ?_
                  exact ih_7 9 (k + 1) (by first | assumption | omega | rfl) (by first | assumption | omega | rfl) (by rw [show k + 1 - 1 = k by omega, hls]; first | (rw [if_pos (by omega)]; right; omega) | (rw [if_neg (by omega)]; omega)) (by omega)
              · exfalso; omega
            · refine go_iconst dX12_onWay_73 ?_
              refine go_goto (tgt := 99) dX12_onWay_74 (by decide) ?_
              refine go_istore (L' := [vr 214, vi c, vi f, vi s, vi but, vi a, vi k, vi r_26, vi (-1), vi 3]) dX12_onWay_99 (by decide) rfl rfl ?_
              refine go_iload dX12_onWay_101 rfl ?_
              refine go_iload dX12_onWay_103 rfl ?_
              refine go_icmp_ge (tgt := 112) dX12_onWay_105 (by decide) ⟨by omega, by omega⟩ ⟨by omega, by omega⟩ (fun h_105 => ?_) (fun h_105 => ?_)
              · refine go_iinc (L' := [vr 214, vi c, vi f, vi s, vi but, vi a, vi (k + 1), vi r_26, vi (-1), vi 3]) dX12_onWay_112 rfl (by decide) rfl rfl ?_
                refine go_goto (tgt := 7) dX12_onWay_115 (by decide) ?_
                refine go_drop (j := 7) (L' := [vr 214, vi c, vi f, vi s, vi but, vi a, vi (k + 1), un, vi (-1), vi 3]) rfl ?_
                refine go_drop (j := 8) (L' := [vr 214, vi c, vi f, vi s, vi but, vi a, vi (k + 1), un, un, vi 3]) rfl ?_
                refine go_drop (j := 9) (L' := [vr 214, vi c, vi f, vi s, vi but, vi a, vi (k + 1), un, un, un]) rfl ?_
                exact ih_7 a (k + 1) (by first | assumption | omega | rfl) (by first | assumption | omega | rfl) (by rw [show k + 1 - 1 = k by omega, hls]; first | (rw [if_pos (by omega)]; right; omega) | (rw [if_neg (by omega)]; omega)) (by omega)
              · refine go_iload dX12_onWay_108 rfl ?_
                refine go_istore (L' := [vr 214, vi c, vi f, vi s, vi but, vi 3, vi k, vi r_26, vi (-1), vi 3]) dX12_onWay_110 (by decide) rfl rfl ?_
                refine go_iinc (L' := [vr 214, vi c, vi f, vi s, vi but, vi 3, vi (k + 1), vi r_26, vi (-1), vi 3]) dX12_onWay_112 rfl (by decide) rfl rfl ?_
                refine go_goto (tgt := 7) dX12_onWay_115 (by decide) ?_
                refine go_drop (j := 7) (L' := [vr 214, vi c, vi f, vi s, vi but, vi 3, vi (k + 1), un, vi (-1), vi 3]) rfl ?_
                refine go_drop (j := 8) (L' := [vr 214, vi c, vi f, vi s, vi but, vi 3, vi (k + 1), un, un, vi 3]) rfl ?_
                refine go_drop (j := 9) (L' := [vr 214, vi c, vi f, vi s, vi but, vi 3, vi (k + 1), un, un, un]) rfl ?_
                exact ih_7 3 (k + 1) (by first | assumption | omega | rfl) (by first | assumption | omega | rfl) (by rw [show k + 1 - 1 = k by omega, hls]; first | (rw [if_pos (by omega)]; right; omega) | (rw [if_neg (by omega)]; omega)) (by omega)
          · refine go_iconst dX12_onWay_55 ?_
            refine go_goto (tgt := 99) dX12_onWay_56 (by decide) ?_
            refine go_istore (L' := [vr 214, vi c, vi f, vi s, vi but, vi a, vi k, vi r_26, vi (-1), vi 2]) dX12_onWay_99 (by decide) rfl rfl ?_
            refine go_iload dX12_onWay_101 rfl ?_
            refine go_iload dX12_onWay_103 rfl ?_
            refine go_icmp_ge (tgt := 112) dX12_onWay_105 (by decide) ⟨by omega, by omega⟩ ⟨by omega, by omega⟩ (fun h_105 => ?_) (fun h_105 => ?_)
            · refine go_iinc (L' := [vr 214, vi c, vi f, vi s, vi but, vi a, vi (k + 1), vi r_26, vi (-1), vi 2]) dX12_onWay_112 rfl (by decide) rfl rfl ?_
              refine go_goto (tgt := 7) dX12_onWay_115 (by decide) ?_
              refine go_drop (j := 7) (L' := [vr 214, vi c, vi f, vi s, vi but, vi a, vi (k + 1), un, vi (-1), vi 2]) rfl ?_
              refine go_drop (j := 8) (L' := [vr 214, vi c, vi f, vi s, vi but, vi a, vi (k + 1), un, un, vi 2]) rfl ?_
              refine go_drop (j := 9) (L' := [vr 214, vi c, vi f, vi s, vi but, vi a, vi (k + 1), un, un, un]) rfl ?_
              exact ih_7 a (k + 1) (by first | assumption | omega | rfl) (by first | assumption | omega | rfl) (by rw [show k + 1 - 1 = k by omega, hls]; first | (rw [if_pos (by omega)]; right; omega) | (rw [if_neg (by omega)]; omega)) (by omega)
            · refine go_iload dX12_onWay_108 rfl ?_
              refine go_istore (L' := [vr 214, vi c, vi f, vi s, vi but, vi 2, vi k, vi r_26, vi (-1), vi 2]) dX12_onWay_110 (by decide) rfl rfl ?_
              refine go_iinc (L' := [vr 214, vi c, vi f, vi s, vi but, vi 2, vi (k + 1), vi r_26, vi (-1), vi 2]) dX12_onWay_112 rfl (by decide) rfl rfl ?_
              refine go_goto (tgt := 7) dX12_onWay_115 (by decide) ?_
              refine go_drop (j := 7) (L' := [vr 214, vi c, vi f, vi s, vi but, vi 2, vi (k + 1), un, vi (-1), vi 2]) rfl ?_
              refine go_drop (j := 8) (L' := [vr 214, vi c, vi f, vi s, vi but, vi 2, vi (k + 1), un, un, vi 2]) rfl ?_
              refine go_drop (j := 9) (L' := [vr 214, vi c, vi f, vi s, vi but, vi 2, vi (k + 1), un, un, un]) rfl ?_
              exact ih_7 2 (k + 1) (by first | assumption | omega | rfl) (by first | assumption | omega | rfl) (by rw [show k + 1 - 1 = k by omega, hls]; first | (rw [if_pos (by omega)]; right; omega) | (rw [if_neg (by omega)]; omega)) (by omega)
  exact lp_7 _ 9 1 (by first | assumption | omega | rfl) (by first | assumption | omega | rfl) (Or.inl ⟨rfl, rfl⟩) (Nat.lt_succ_self _)
theorem dX12_isSettled_0 : decode mX12_isSettled.2.1 0 = .ok (.aload_n 0, 1) := by decide +kernel
theorem dX12_isSettled_1 : decode mX12_isSettled.2.1 1 = .ok (.getfield 98, 3) := by decide +kernel
theorem dX12_isSettled_4 : decode mX12_isSettled.2.1 4 = .ok (.sipush 141, 3) := by decide +kernel
theorem dX12_isSettled_7 : decode mX12_isSettled.2.1 7 = .ok (.iload_n 1, 1) := by decide +kernel
theorem dX12_isSettled_8 : decode mX12_isSettled.2.1 8 = .ok (.iadd, 1) := by decide +kernel
theorem dX12_isSettled_9 : decode mX12_isSettled.2.1 9 = .ok (.iaload, 1) := by decide +kernel
theorem dX12_isSettled_10 : decode mX12_isSettled.2.1 10 = .ok (.iconst 1, 1) := by decide +kernel
theorem dX12_isSettled_11 : decode mX12_isSettled.2.1 11 = .ok (.aload_n 0, 1) := by decide +kernel
theorem dX12_isSettled_12 : decode mX12_isSettled.2.1 12 = .ok (.getfield 98, 3) := by decide +kernel
theorem dX12_isSettled_15 : decode mX12_isSettled.2.1 15 = .ok (.iconst 4, 1) := by decide +kernel
theorem dX12_isSettled_16 : decode mX12_isSettled.2.1 16 = .ok (.iaload, 1) := by decide +kernel
theorem dX12_isSettled_17 : decode mX12_isSettled.2.1 17 = .ok (.ishl, 1) := by decide +kernel
theorem dX12_isSettled_18 : decode mX12_isSettled.2.1 18 = .ok (.iconst 1, 1) := by decide +kernel
theorem dX12_isSettled_19 : decode mX12_isSettled.2.1 19 = .ok (.isub, 1) := by decide +kernel
theorem dX12_isSettled_20 : decode mX12_isSettled.2.1 20 = .ok (.if_icmp .ne 7, 3) := by decide +kernel
theorem dX12_isSettled_23 : decode mX12_isSettled.2.1 23 = .ok (.iconst 1, 1) := by decide +kernel
theorem dX12_isSettled_24 : decode mX12_isSettled.2.1 24 = .ok (.goto 4, 3) := by decide +kernel
theorem dX12_isSettled_27 : decode mX12_isSettled.2.1 27 = .ok (.iconst 0, 1) := by decide +kernel
theorem dX12_isSettled_28 : decode mX12_isSettled.2.1 28 = .ok (.ireturn, 1) := by decide +kernel
set_option maxRecDepth 4000 in
theorem ev_X12_isSettled {m : Mem} {G : Mem} {d : Nat} {st : Nat} {p : Int} (hb : Bg G d st (m 216)) (hdn : DnOk G d) (hp : 0 ≤ p ∧ p < G d 3) : Ev 0 1 mX12_isSettled [vr 214, vi p] m (fun r m' => m' = m ∧ ((r = 1 ∧ setlC G d st p = true) ∨ (r = 0 ∧ setlC G d st p = false))) := by
  refine Ev.of (L := [vr 214, vi p]) (by decide +kernel) rfl (Nat.le_of_ble_eq_true rfl) rfl (fun t ht => by cases ht; first | exact Or.inl rfl | exact Or.inr (Or.inl rfl) | exact Or.inr (Or.inr rfl)) (fun hcan => ?_)
  obtain ⟨⟨hd0, hd1⟩, ⟨hd2, hd3⟩, ⟨hd4, hd5⟩, ⟨hd6, hd7⟩, ⟨hd8, hd9⟩, hdf, hdp, hdq⟩ := id hdn
  have hsh := ishl1_b hd8 (show G d 4 < 6 by omega)
  refine go_aload_n dX12_isSettled_0 rfl ?_
  refine go_getf_p (b := 216) dX12_isSettled_1 fl_12_98 ob_214 rfl pt_214_14 ?_
  refine go_sipush dX12_isSettled_4 (by decide) ?_
  refine go_iload_n dX12_isSettled_7 rfl ?_
  refine go_iadd dX12_isSettled_8 ?_
  refine go_iaload dX12_isSettled_9 ar_216 (by omega) (by omega) (fun he_9 => ?_)
  rw [show (m 216 (141 + p) : Int) = (G (st + 6) p) from (hb.ca (p := p) (by omega) (by omega))] at he_9 ⊢
  refine go_iconst dX12_isSettled_10 ?_
  refine go_aload_n dX12_isSettled_11 rfl ?_
  refine go_getf_p (b := 216) dX12_isSettled_12 fl_12_98 ob_214 rfl pt_214_14 ?_
  refine go_iconst dX12_isSettled_15 ?_
  refine go_iaload dX12_isSettled_16 ar_216 (by omega) (by omega) (fun he_16 => ?_)
  rw [show (m 216 4 : Int) = (G d 4) from hb.n4] at he_16 ⊢
  refine go_ishl dX12_isSettled_17 ?_
  refine go_iconst dX12_isSettled_18 ?_
  refine go_isub dX12_isSettled_19 ?_
  refine go_icmp_ne (tgt := 27) dX12_isSettled_20 (by decide) ⟨by omega, by omega⟩ ⟨by omega, by omega⟩ (fun h_20 => ?_) (fun h_20 => ?_)
  · refine go_iconst dX12_isSettled_27 ?_
    exact go_ret (v := 0) rfl dX12_isSettled_28 (okZ (by first | exact Or.inl rfl | exact Or.inr rfl | assumption | omega)) ⟨rfl, (by first | exact Or.inl ⟨rfl, by simp [setlC, h_20]; done⟩ | exact Or.inr ⟨rfl, by simp [setlC, h_20]; done⟩)⟩
  · refine go_iconst dX12_isSettled_23 ?_
    refine go_goto (tgt := 28) dX12_isSettled_24 (by decide) ?_
    exact go_ret (v := 1) rfl dX12_isSettled_28 (okZ (by first | exact Or.inl rfl | exact Or.inr rfl | assumption | omega)) ⟨rfl, (by first | exact Or.inl ⟨rfl, by simp [setlC, h_20]; done⟩ | exact Or.inr ⟨rfl, by simp [setlC, h_20]; done⟩)⟩
