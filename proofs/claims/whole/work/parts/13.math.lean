/-! ===== plain mathematics: first, sum, bits; the board in one row of numbers ===== -/
def fndN (P : Int → Bool) : Nat → Int
  | 0 => -1
  | n + 1 => if fndN P n ≠ -1 then fndN P n else if P (n : Int) then (n : Int) else -1
def fnd (P : Int → Bool) (n : Int) : Int := fndN P n.toNat
theorem fndN_none {P : Int → Bool} : ∀ {n : Nat}, (∀ j : Int, 0 ≤ j → j < n → P j = false) → fndN P n = -1 := by
  intro n
  induction n with
  | zero => intro _; rfl
  | succ n ih =>
    intro h
    have h1 := ih (fun j h0 h1 => h j h0 (by omega))
    have h2 := h n (by omega) (by omega)
    simp [fndN, h1, h2]
theorem fndN_some {P : Int → Bool} {p : Int} : ∀ {n : Nat}, 0 ≤ p → p < n → P p = true → (∀ j : Int, 0 ≤ j → j < p → P j = false) → fndN P n = p := by
  intro n
  induction n with
  | zero => intro h0 h1; omega
  | succ n ih =>
    intro h0 h1 h2 h3
    by_cases hp : p < n
    · have e := ih h0 hp h2 h3
      have : ¬ p = -1 := by omega
      simp [fndN, e, this]
    · have hp : p = n := by omega
      subst hp
      have e := fndN_none (P := P) (n := n) h3
      simp [fndN, e, h2]
theorem fnd_none {P : Int → Bool} {n : Int} (h : ∀ j : Int, 0 ≤ j → j < n → P j = false) : fnd P n = -1 := fndN_none (fun j h0 h1 => h j h0 (by omega))
theorem fnd_some {P : Int → Bool} {p n : Int} (h0 : 0 ≤ p) (h1 : p < n) (h2 : P p = true) (h3 : ∀ j : Int, 0 ≤ j → j < p → P j = false) : fnd P n = p := fndN_some h0 (by omega) h2 h3
theorem fnd_cases (P : Int → Bool) (n : Int) : (fnd P n = -1 ∧ ∀ j : Int, 0 ≤ j → j < n → P j = false) ∨ (0 ≤ fnd P n ∧ fnd P n < n ∧ P (fnd P n) = true ∧ ∀ j : Int, 0 ≤ j → j < fnd P n → P j = false) := by
  have key : ∀ k : Nat, (k : Int) ≤ n → (∀ j : Int, 0 ≤ j → j < k → P j = false) ∨ (∃ p : Int, 0 ≤ p ∧ p < k ∧ P p = true ∧ ∀ j : Int, 0 ≤ j → j < p → P j = false) := by
    intro k
    induction k with
    | zero => intro _; left; intro j h0 h1; omega
    | succ k ih =>
      intro hk
      rcases ih (by omega) with h | ⟨p, h0, h1, h2, h3⟩
      · by_cases hp : P (k : Int) = true
        · right; exact ⟨k, by omega, by omega, hp, h⟩
        · left
          intro j h0 h1
          by_cases hj : j < k
          · exact h j h0 hj
          · have : j = k := by omega
            subst this; simpa using hp
      · right; exact ⟨p, h0, by omega, h2, h3⟩
  by_cases hn : 0 ≤ n
  · rcases key n.toNat (by omega) with h | ⟨p, h0, h1, h2, h3⟩
    · left
      have h' : ∀ j : Int, 0 ≤ j → j < n → P j = false := fun j a b => h j a (by omega)
      exact ⟨fnd_none h', h'⟩
    · right
      have e := fnd_some (n := n) h0 (by omega) h2 h3
      rw [e]; exact ⟨h0, by omega, h2, h3⟩
  · left
    have h' : ∀ j : Int, 0 ≤ j → j < n → P j = false := fun j a b => by omega
    exact ⟨fnd_none h', h'⟩
theorem fnd_congr {P P' : Int → Bool} {n : Int} (h : ∀ j : Int, 0 ≤ j → j < n → P j = P' j) : fnd P n = fnd P' n := by
  rcases fnd_cases P n with ⟨h1, h2⟩ | ⟨h1, h2, h3, h4⟩
  · rw [h1, fnd_none (fun j a b => by rw [← h j a b]; exact h2 j a b)]
  · exact (fnd_some h1 h2 (by rw [← h _ h1 h2]; exact h3) (fun j a b => by rw [← h j a (by omega)]; exact h4 j a b)).symm
def sumN (f : Int → Int) : Nat → Int
  | 0 => 0
  | n + 1 => sumN f n + f (n : Int)
def sumI (f : Int → Int) (n : Int) : Int := sumN f n.toNat
theorem sumI_0 (f : Int → Int) : sumI f 0 = 0 := rfl
theorem sumI_neg (f : Int → Int) {n : Int} (h : n ≤ 0) : sumI f n = 0 := by
  unfold sumI; rw [show n.toNat = 0 by omega]; rfl
theorem sumI_succ (f : Int → Int) {n : Int} (h : 0 ≤ n) : sumI f (n + 1) = sumI f n + f n := by
  unfold sumI
  rw [show (n + 1).toNat = n.toNat + 1 by omega]
  show sumN f n.toNat + f (n.toNat : Int) = _
  rw [Int.toNat_of_nonneg h]
theorem sumN_congr {f f' : Int → Int} : ∀ {n : Nat}, (∀ j : Int, 0 ≤ j → j < n → f j = f' j) → sumN f n = sumN f' n := by
  intro n
  induction n with
  | zero => intro _; rfl
  | succ n ih => intro h; show sumN f n + _ = sumN f' n + _; rw [ih (fun j a b => h j a (by omega)), h n (by omega) (by omega)]
theorem sumI_congr {f f' : Int → Int} {n : Int} (h : ∀ j : Int, 0 ≤ j → j < n → f j = f' j) : sumI f n = sumI f' n := sumN_congr (fun j a b => h j a (by omega))
theorem sumN_bnd {f : Int → Int} {lo hi : Int} : ∀ {n : Nat}, (∀ j : Int, 0 ≤ j → j < n → lo ≤ f j ∧ f j ≤ hi) → n * lo ≤ sumN f n ∧ sumN f n ≤ n * hi := by
  intro n
  induction n with
  | zero => intro _; simp [sumN]
  | succ n ih =>
    intro h
    have h1 := ih (fun j a b => h j a (by omega))
    have h2 := h n (by omega) (by omega)
    have e1 : ((n + 1 : Nat) : Int) * lo = n * lo + lo := by rw [Int.natCast_add, Int.add_mul]; simp
    have e2 : ((n + 1 : Nat) : Int) * hi = n * hi + hi := by rw [Int.natCast_add, Int.add_mul]; simp
    rw [e1, e2]
    show _ ≤ sumN f n + f n ∧ sumN f n + f n ≤ _
    omega
theorem sumI_bnd {f : Int → Int} {lo hi n : Int} (hn : 0 ≤ n) (h : ∀ j : Int, 0 ≤ j → j < n → lo ≤ f j ∧ f j ≤ hi) : n * lo ≤ sumI f n ∧ sumI f n ≤ n * hi := by
  have := sumN_bnd (f := f) (lo := lo) (hi := hi) (n := n.toNat) (fun j a b => h j a (by omega))
  rw [Int.toNat_of_nonneg hn] at this
  exact this
theorem sumI_upd {f : Int → Int} {p x n : Int} (h0 : 0 ≤ p) (h1 : p < n) : sumI (fun j => if j = p then x else f j) n = sumI f n - f p + x := by
  have key : ∀ k : Nat, sumN (fun j => if j = p then x else f j) k = if p < k then sumN f k - f p + x else sumN f k := by
    intro k
    induction k with
    | zero => rw [if_neg (by omega)]; rfl
    | succ k ih =>
      show sumN _ k + (if (k : Int) = p then x else f k) = _
      rw [ih]
      show _ = if p < ((k + 1 : Nat) : Int) then sumN f k + f k - f p + x else sumN f k + f k
      by_cases a : p < k
      · rw [if_pos a, if_neg (by omega), if_pos (by omega)]; omega
      · rw [if_neg a]
        by_cases b : (k : Int) = p
        · rw [if_pos b, if_pos (by omega), ← b]; omega
        · rw [if_neg b, if_neg (by omega)]
  have := key n.toNat
  rw [if_pos (by omega)] at this
  exact this
/-- bits of those that are so -/
def pow2 (n : Int) : Int := 2 ^ n.toNat
def bits (P : Int → Bool) (n : Int) : Int := sumI (fun j => if P j then pow2 j else 0) n
theorem pow2_s {n : Int} (h : 0 ≤ n) : pow2 (n + 1) = 2 * pow2 n := by
  unfold pow2
  rw [show (n + 1).toNat = n.toNat + 1 by omega, Int.pow_succ, Int.mul_comm]
theorem pow2_pos (n : Int) : 0 < pow2 n := Int.pow_pos (by decide)
theorem bits_bnd (P : Int → Bool) {n : Int} (h : 0 ≤ n) : 0 ≤ bits P n ∧ bits P n < pow2 n := by
  have key : ∀ k : Nat, 0 ≤ bits P k ∧ bits P k < pow2 k := by
    intro k
    induction k with
    | zero => unfold bits pow2; rw [show ((0 : Nat) : Int) = 0 from rfl, sumI_0]; decide
    | succ k ih =>
      unfold bits at ih ⊢
      rw [show ((k + 1 : Nat) : Int) = (k : Int) + 1 from rfl, sumI_succ _ (by omega), pow2_s (by omega)]
      have := pow2_pos k
      split <;> omega
  have := key n.toNat
  rw [Int.toNat_of_nonneg h] at this
  exact this
theorem bits_s (P : Int → Bool) {n : Int} (h : 0 ≤ n) : bits P (n + 1) = bits P n + if P n then pow2 n else 0 := sumI_succ _ h
theorem bits_congr {P P' : Int → Bool} {n : Int} (h : ∀ j : Int, 0 ≤ j → j < n → P j = P' j) : bits P n = bits P' n := sumI_congr (fun j a b => by rw [h j a b])
theorem ior_small : ∀ p : Nat, p < 6 → ∀ x : Nat, x < 2 ^ p → ior (x : Int) (ishl 1 (p : Int)) = (x : Int) + 2 ^ p := by decide +kernel
theorem ior_bit {x p : Int} (h0 : 0 ≤ p) (h1 : p < 6) (hx : 0 ≤ x) (hx1 : x < pow2 p) : ior x (ishl 1 p) = x + pow2 p := by
  obtain ⟨q, rfl⟩ := Int.eq_ofNat_of_zero_le h0
  obtain ⟨y, rfl⟩ := Int.eq_ofNat_of_zero_le hx
  have := ior_small q (by omega) y (by unfold pow2 at hx1; simp at hx1; exact_mod_cast hx1)
  rw [this]
  unfold pow2
  simp
/-! the board: rows of a World's DOWNS and state as one row of numbers -/
def brd (m : Mem) (d st : Nat) (i : Int) : Int :=
  if i < 5 then m d i
  else if i < 11 then (if i - 5 < m d 2 then m (d + 2) (i - 5) else 0)
  else if i < 17 then (if i - 11 < m d 2 then m (d + 3) (i - 11) else 0)
  else if i < 27 then 0
  else if i < 32 then (if i - 27 < m d 3 then m (d + 5) (i - 27) else 0)
  else if i < 37 then (if i - 32 < m d 4 then 9 * m (d + 8) (i - 32) + m (d + 7) (i - 32) else 0)
  else if i < 42 then (if i - 37 < m d 4 then m (d + 9) (i - 37) else 0)
  else if i < 123 then 0
  else if i < 124 then m st 0
  else if i < 125 then sumI (fun p => m (st + 7) p) (m d 3)
  else if i < 126 then m st 1
  else if i < 131 then (if i - 126 < m d 3 then 9 * m (st + 3) (i - 126) + m (st + 2) (i - 126) else 0)
  else if i < 136 then (if i - 131 < m d 3 then m (st + 4) (i - 131) else 0)
  else if i < 141 then (if i - 136 < m d 3 then m (st + 5) (i - 136) else 0)
  else if i < 146 then (if i - 141 < m d 3 then m (st + 6) (i - 141) else 0)
  else if i < 151 then (if i - 146 < m d 3 then m (st + 7) (i - 146) else 0)
  else if i < 232 then m (st + 1) (i - 151)
  else 0
