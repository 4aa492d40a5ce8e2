def w64 (x : Int) : Int := (Int64.ofInt x).toInt
theorem w64_R (x : Int) : InL (w64 x) := InL.r _
theorem go_wrapL {g d : Nat} {Y : MD} {Q : Int → Mem → Prop} {pc : Nat} {L S : List AV} {m : Mem} {x : Int} (k : Go g d Y Q pc L (vl (w64 x) :: S) m) : Go g d Y Q pc L (vl x :: S) m := by
  intro l D cA ad A p e R s mth args below meth c Z hC hE ls H locs cells slots hR hL hc hs
  have k := (k l D cA ad A p e R s mth args below meth c Z hC hE ls H locs cells slots hR hL hc hs)
  have e : toV ad (vl (w64 x)) = toV ad (vl x) := by show Value.long _ = Value.long _; rw [w64, Int64.ofInt_toInt]
  rw [List.map_cons, e] at k
  exact k
abbrev isL (c : Int) : Prop := 97 ≤ c ∧ c ≤ 122
abbrev isD (c : Int) : Prop := 48 ≤ c ∧ c ≤ 57
abbrev isB (c : Int) : Prop := c = 32 ∨ c = 10
abbrev isS (c : Int) : Prop := (59 ≤ c ∧ c ≤ 62) ∨ c = 40 ∨ c = 41
def skN (t : Int → Int) (n : Int) : Nat → Int → Int
  | 0, a => a
  | f + 1, a => if a < n ∧ isB (t a) then skN t n f (a + 1) else a
def sk1 (t : Int → Int) (n a : Int) : Int := skN t n (n - a).toNat a
theorem sk1_t {t : Int → Int} {n a : Int} (h : a < n) (hb : isB (t a)) : sk1 t n a = sk1 t n (a + 1) := by
  unfold sk1
  rw [show (n - a).toNat = (n - (a + 1)).toNat + 1 by omega]
  show (if a < n ∧ isB (t a) then _ else _) = _
  rw [if_pos ⟨h, hb⟩]
theorem sk1_f {t : Int → Int} {n a : Int} (h : ¬ (a < n ∧ isB (t a))) : sk1 t n a = a := by
  unfold sk1
  cases (n - a).toNat with
  | zero => rfl
  | succ f => show (if a < n ∧ isB (t a) then _ else _) = _; rw [if_neg h]
theorem sk1_b {t : Int → Int} {n : Int} : ∀ (f : Nat) (a : Int), a ≤ skN t n f a ∧ (skN t n f a ≤ n ∨ skN t n f a = a) := by
  intro f
  induction f with
  | zero => intro a; exact ⟨Int.le_refl _, Or.inr rfl⟩
  | succ f ih =>
    intro a
    rw [show skN t n (f + 1) a = if a < n ∧ isB (t a) then skN t n f (a + 1) else a from rfl]
    split
    · have := ih (a + 1)
      refine ⟨by omega, ?_⟩
      rcases this.2 with h | h
      · exact Or.inl h
      · left; rw [h]; omega
    · exact ⟨Int.le_refl _, Or.inr rfl⟩
def rnN (t : Int → Int) (n : Int) : Nat → Int → Int
  | 0, a => a
  | f + 1, a => if a < n ∧ (isL (t a) ∨ isD (t a)) then rnN t n f (a + 1) else a
def rn1 (t : Int → Int) (n a : Int) : Int := rnN t n (n - a).toNat a
theorem rn1_t {t : Int → Int} {n a : Int} (h : a < n) (hb : isL (t a) ∨ isD (t a)) : rn1 t n a = rn1 t n (a + 1) := by
  unfold rn1
  rw [show (n - a).toNat = (n - (a + 1)).toNat + 1 by omega]
  show (if a < n ∧ (isL (t a) ∨ isD (t a)) then _ else _) = _
  rw [if_pos ⟨h, hb⟩]
theorem rn1_f {t : Int → Int} {n a : Int} (h : ¬ (a < n ∧ (isL (t a) ∨ isD (t a)))) : rn1 t n a = a := by
  unfold rn1
  cases (n - a).toNat with
  | zero => rfl
  | succ f => show (if a < n ∧ (isL (t a) ∨ isD (t a)) then _ else _) = _; rw [if_neg h]
theorem rnN_b {t : Int → Int} {n : Int} : ∀ (f : Nat) (a : Int), a ≤ rnN t n f a ∧ (rnN t n f a ≤ n ∨ rnN t n f a = a) := by
  intro f
  induction f with
  | zero => intro a; exact ⟨Int.le_refl _, Or.inr rfl⟩
  | succ f ih =>
    intro a
    rw [show rnN t n (f + 1) a = if a < n ∧ (isL (t a) ∨ isD (t a)) then rnN t n f (a + 1) else a from rfl]
    split
    · have := ih (a + 1)
      refine ⟨by omega, ?_⟩
      rcases this.2 with h | h
      · exact Or.inl h
      · left; rw [h]; omega
    · exact ⟨Int.le_refl _, Or.inr rfl⟩
/-- letters, digits, the letters' and the digits' number, of so many signs from a on -/
def lcN (t : Int → Int) (a : Int) : Nat → Int
  | 0 => 0
  | i + 1 => lcN t a i + if isL (t (a + (i : Int))) then 1 else 0
def dcN (t : Int → Int) (a : Int) : Nat → Int
  | 0 => 0
  | i + 1 => dcN t a i + if isL (t (a + (i : Int))) then 0 else 1
def lvN (t : Int → Int) (a : Int) : Nat → Int
  | 0 => 0
  | i + 1 => if isL (t (a + (i : Int))) then w64 (32 * lvN t a i + (t (a + (i : Int)) - 97 + 1)) else lvN t a i
def dvN (t : Int → Int) (a : Int) : Nat → Int
  | 0 => 0
  | i + 1 => if isL (t (a + (i : Int))) then dvN t a i else w32 (10 * dvN t a i + t (a + (i : Int)) - 48)
theorem cnt_b (t : Int → Int) (a : Int) (i : Nat) : 0 ≤ lcN t a i ∧ 0 ≤ dcN t a i ∧ lcN t a i + dcN t a i = i := by
  induction i with
  | zero => simp [lcN, dcN]
  | succ i ih => simp only [lcN, dcN]; split <;> omega
theorem lvN_R (t : Int → Int) (a : Int) (i : Nat) : InL (lvN t a i) := by
  induction i with
  | zero => show InL 0; exact ⟨by omega, by omega⟩
  | succ i ih =>
    show InL (if isL _ then _ else _)
    split
    · exact w64_R _
    · exact ih
theorem dvN_R (t : Int → Int) (a : Int) (i : Nat) : InR (dvN t a i) := by
  induction i with
  | zero => exact InR.zero
  | succ i ih =>
    show InR (if isL _ then _ else _)
    split
    · exact ih
    · exact w32_R _
section
variable {t : Int → Int} {a x : Int}
theorem sN (h : a ≤ x) : (x + 1 - a).toNat = (x - a).toNat + 1 ∧ a + ((x - a).toNat : Int) = x := ⟨by omega, by omega⟩
theorem lcN_s (h : a ≤ x) : lcN t a (x + 1 - a).toNat = lcN t a (x - a).toNat + if isL (t x) then 1 else 0 := by
  rw [(sN h).1]; show _ + (if isL (t (a + ((x - a).toNat : Int))) then 1 else 0) = _; rw [(sN h).2]
theorem dcN_s (h : a ≤ x) : dcN t a (x + 1 - a).toNat = dcN t a (x - a).toNat + if isL (t x) then 0 else 1 := by
  rw [(sN h).1]; show _ + (if isL (t (a + ((x - a).toNat : Int))) then 0 else 1) = _; rw [(sN h).2]
theorem lvN_s (h : a ≤ x) : lvN t a (x + 1 - a).toNat = if isL (t x) then w64 (32 * lvN t a (x - a).toNat + (t x - 97 + 1)) else lvN t a (x - a).toNat := by
  rw [(sN h).1]; show (if isL (t (a + ((x - a).toNat : Int))) then w64 (32 * lvN t a (x - a).toNat + (t (a + ((x - a).toNat : Int)) - 97 + 1)) else _) = _; rw [(sN h).2]
theorem dvN_s (h : a ≤ x) : dvN t a (x + 1 - a).toNat = if isL (t x) then dvN t a (x - a).toNat else w32 (10 * dvN t a (x - a).toNat + t x - 48) := by
  rw [(sN h).1]; show (if isL (t (a + ((x - a).toNat : Int))) then _ else w32 (10 * dvN t a (x - a).toNat + t (a + ((x - a).toNat : Int)) - 48)) = _; rw [(sN h).2]
end
def tx (m : Mem) : Int → Int := fun i => iand (m 2 i) 255
theorem iand255 (x : Int) : 0 ≤ iand x 255 ∧ iand x 255 ≤ 255 := by
  unfold iand
  generalize Int32.ofInt x = y
  have h : (y &&& (255 : Int32)).toInt = (y.toBitVec &&& 255#32).toInt := rfl
  have h2 : (y.toBitVec &&& 255#32).toNat = y.toBitVec.toNat % 256 := by
    rw [BitVec.toNat_and]
    exact Nat.and_two_pow_sub_one_eq_mod _ 8
  have h3 : (y.toBitVec &&& 255#32).toInt = ((y.toBitVec &&& 255#32).toNat : Int) := BitVec.toInt_eq_toNat_of_lt (by rw [h2]; omega)
  rw [show Int32.ofInt 255 = (255 : Int32) from rfl, h, h3, h2]
  omega
def kwd (kw : Int → Int) (v : Int) : Int := if fnd (fun k => decide (kw k = v)) 25 = -1 then 3 else 200 + fnd (fun k => decide (kw k = v)) 25
def runK (t kw : Int → Int) (a e : Int) : Int := if lcN t a (e - a).toNat = 0 then (if dcN t a (e - a).toNat ≤ 3 then 2 else 1) else if dcN t a (e - a).toNat = 0 ∧ lcN t a (e - a).toNat ≤ 7 then kwd kw (lvN t a (e - a).toNat) else 1
def runV (t : Int → Int) (a e : Int) : Int := if lcN t a (e - a).toNat = 0 then dvN t a (e - a).toNat else lvN t a (e - a).toNat
def tokK (t kw : Int → Int) (n lim a : Int) : Int := if n ≤ a then (if lim < n then 1 else 0) else if lim ≤ a then 1 else if isL (t a) ∨ isD (t a) then runK t kw a (rn1 t n a) else if isS (t a) then t a else 1
def tokE (t : Int → Int) (n lim a : Int) : Int := if n ≤ a ∨ lim ≤ a then a else if isL (t a) ∨ isD (t a) then rn1 t n a else a + 1
theorem kwd_b (kw : Int → Int) (v : Int) : kwd kw v = 3 ∨ (200 ≤ kwd kw v ∧ kwd kw v < 225) := by
  unfold kwd
  rcases fnd_cases (fun k => decide (kw k = v)) 25 with ⟨h, _⟩ | ⟨h1, h2, _⟩
  · rw [if_pos h]; exact Or.inl rfl
  · rw [if_neg (by omega)]; right; omega
theorem runK_b (t kw : Int → Int) (a e : Int) : (1 ≤ runK t kw a e ∧ runK t kw a e ≤ 3) ∨ (200 ≤ runK t kw a e ∧ runK t kw a e < 225) := by
  unfold runK
  have := kwd_b kw (lvN t a (e - a).toNat)
  split
  · split <;> omega
  · split <;> omega

theorem dX7_isLetter_0 : decode mX7_isLetter.2.1 0 = .ok (.iload_n 0, 1) := by decide +kernel
theorem dX7_isLetter_1 : decode mX7_isLetter.2.1 1 = .ok (.bipush 97, 2) := by decide +kernel
theorem dX7_isLetter_3 : decode mX7_isLetter.2.1 3 = .ok (.if_icmp .lt 13, 3) := by decide +kernel
theorem dX7_isLetter_6 : decode mX7_isLetter.2.1 6 = .ok (.iload_n 0, 1) := by decide +kernel
theorem dX7_isLetter_7 : decode mX7_isLetter.2.1 7 = .ok (.bipush 122, 2) := by decide +kernel
theorem dX7_isLetter_9 : decode mX7_isLetter.2.1 9 = .ok (.if_icmp .gt 7, 3) := by decide +kernel
theorem dX7_isLetter_12 : decode mX7_isLetter.2.1 12 = .ok (.iconst 1, 1) := by decide +kernel
theorem dX7_isLetter_13 : decode mX7_isLetter.2.1 13 = .ok (.goto 4, 3) := by decide +kernel
theorem dX7_isLetter_16 : decode mX7_isLetter.2.1 16 = .ok (.iconst 0, 1) := by decide +kernel
theorem dX7_isLetter_17 : decode mX7_isLetter.2.1 17 = .ok (.ireturn, 1) := by decide +kernel
set_option maxRecDepth 4000 in
theorem ev_X7_isLetter {m : Mem} {c : Int} (hc : InR c) : Ev 0 1 mX7_isLetter [vi c] m (fun r m' => m' = m ∧ ((r = 1 ∧ isL c) ∨ (r = 0 ∧ ¬ isL c))) := by
  refine Ev.of (L := [vi c]) (by decide +kernel) rfl (Nat.le_of_ble_eq_true rfl) rfl (fun t ht => by cases ht; first | exact Or.inl rfl | exact Or.inr (Or.inl rfl) | exact Or.inr (Or.inr rfl)) (fun hcan => ?_)
  refine go_iload_n dX7_isLetter_0 rfl ?_
  refine go_bipush dX7_isLetter_1 (by decide) ?_
  refine go_icmp_lt (tgt := 16) dX7_isLetter_3 (by decide) ⟨by omega, by omega⟩ ⟨by omega, by omega⟩ (fun h_3 => ?_) (fun h_3 => ?_)
  · refine go_iconst dX7_isLetter_16 ?_
    exact go_ret (v := 0) rfl dX7_isLetter_17 (okZ (by first | exact Or.inl rfl | exact Or.inr rfl | assumption | omega)) ⟨rfl, (by first | assumption | rfl | omega)⟩
  · refine go_iload_n dX7_isLetter_6 rfl ?_
    refine go_bipush dX7_isLetter_7 (by decide) ?_
    refine go_icmp_gt (tgt := 16) dX7_isLetter_9 (by decide) ⟨by omega, by omega⟩ ⟨by omega, by omega⟩ (fun h_9 => ?_) (fun h_9 => ?_)
    · refine go_iconst dX7_isLetter_16 ?_
      exact go_ret (v := 0) rfl dX7_isLetter_17 (okZ (by first | exact Or.inl rfl | exact Or.inr rfl | assumption | omega)) ⟨rfl, (by first | assumption | rfl | omega)⟩
    · refine go_iconst dX7_isLetter_12 ?_
      refine go_goto (tgt := 17) dX7_isLetter_13 (by decide) ?_
      exact go_ret (v := 1) rfl dX7_isLetter_17 (okZ (by first | exact Or.inl rfl | exact Or.inr rfl | assumption | omega)) ⟨rfl, (by first | assumption | rfl | omega)⟩
theorem dX7_isDigit_0 : decode mX7_isDigit.2.1 0 = .ok (.iload_n 0, 1) := by decide +kernel
theorem dX7_isDigit_1 : decode mX7_isDigit.2.1 1 = .ok (.bipush 48, 2) := by decide +kernel
theorem dX7_isDigit_3 : decode mX7_isDigit.2.1 3 = .ok (.if_icmp .lt 13, 3) := by decide +kernel
theorem dX7_isDigit_6 : decode mX7_isDigit.2.1 6 = .ok (.iload_n 0, 1) := by decide +kernel
theorem dX7_isDigit_7 : decode mX7_isDigit.2.1 7 = .ok (.bipush 57, 2) := by decide +kernel
theorem dX7_isDigit_9 : decode mX7_isDigit.2.1 9 = .ok (.if_icmp .gt 7, 3) := by decide +kernel
theorem dX7_isDigit_12 : decode mX7_isDigit.2.1 12 = .ok (.iconst 1, 1) := by decide +kernel
theorem dX7_isDigit_13 : decode mX7_isDigit.2.1 13 = .ok (.goto 4, 3) := by decide +kernel
theorem dX7_isDigit_16 : decode mX7_isDigit.2.1 16 = .ok (.iconst 0, 1) := by decide +kernel
theorem dX7_isDigit_17 : decode mX7_isDigit.2.1 17 = .ok (.ireturn, 1) := by decide +kernel
set_option maxRecDepth 4000 in
theorem ev_X7_isDigit {m : Mem} {c : Int} (hc : InR c) : Ev 0 1 mX7_isDigit [vi c] m (fun r m' => m' = m ∧ ((r = 1 ∧ isD c) ∨ (r = 0 ∧ ¬ isD c))) := by
  refine Ev.of (L := [vi c]) (by decide +kernel) rfl (Nat.le_of_ble_eq_true rfl) rfl (fun t ht => by cases ht; first | exact Or.inl rfl | exact Or.inr (Or.inl rfl) | exact Or.inr (Or.inr rfl)) (fun hcan => ?_)
  refine go_iload_n dX7_isDigit_0 rfl ?_
  refine go_bipush dX7_isDigit_1 (by decide) ?_
  refine go_icmp_lt (tgt := 16) dX7_isDigit_3 (by decide) ⟨by omega, by omega⟩ ⟨by omega, by omega⟩ (fun h_3 => ?_) (fun h_3 => ?_)
  · refine go_iconst dX7_isDigit_16 ?_
    exact go_ret (v := 0) rfl dX7_isDigit_17 (okZ (by first | exact Or.inl rfl | exact Or.inr rfl | assumption | omega)) ⟨rfl, (by first | assumption | rfl | omega)⟩
  · refine go_iload_n dX7_isDigit_6 rfl ?_
    refine go_bipush dX7_isDigit_7 (by decide) ?_
    refine go_icmp_gt (tgt := 16) dX7_isDigit_9 (by decide) ⟨by omega, by omega⟩ ⟨by omega, by omega⟩ (fun h_9 => ?_) (fun h_9 => ?_)
    · refine go_iconst dX7_isDigit_16 ?_
      exact go_ret (v := 0) rfl dX7_isDigit_17 (okZ (by first | exact Or.inl rfl | exact Or.inr rfl | assumption | omega)) ⟨rfl, (by first | assumption | rfl | omega)⟩
    · refine go_iconst dX7_isDigit_12 ?_
      refine go_goto (tgt := 17) dX7_isDigit_13 (by decide) ?_
      exact go_ret (v := 1) rfl dX7_isDigit_17 (okZ (by first | exact Or.inl rfl | exact Or.inr rfl | assumption | omega)) ⟨rfl, (by first | assumption | rfl | omega)⟩
theorem dX7_isSign_0 : decode mX7_isSign.2.1 0 = .ok (.iload_n 0, 1) := by decide +kernel
theorem dX7_isSign_1 : decode mX7_isSign.2.1 1 = .ok (.bipush 59, 2) := by decide +kernel
theorem dX7_isSign_3 : decode mX7_isSign.2.1 3 = .ok (.bipush 62, 2) := by decide +kernel
theorem dX7_isSign_5 : decode mX7_isSign.2.1 5 = .ok (.invokestatic 85, 3) := by decide +kernel
theorem dX7_isSign_8 : decode mX7_isSign.2.1 8 = .ok (.ifCond .ne 15, 3) := by decide +kernel
theorem dX7_isSign_11 : decode mX7_isSign.2.1 11 = .ok (.iload_n 0, 1) := by decide +kernel
theorem dX7_isSign_12 : decode mX7_isSign.2.1 12 = .ok (.bipush 40, 2) := by decide +kernel
theorem dX7_isSign_14 : decode mX7_isSign.2.1 14 = .ok (.if_icmp .eq 9, 3) := by decide +kernel
theorem dX7_isSign_17 : decode mX7_isSign.2.1 17 = .ok (.iload_n 0, 1) := by decide +kernel
theorem dX7_isSign_18 : decode mX7_isSign.2.1 18 = .ok (.bipush 41, 2) := by decide +kernel
theorem dX7_isSign_20 : decode mX7_isSign.2.1 20 = .ok (.if_icmp .ne 7, 3) := by decide +kernel
theorem dX7_isSign_23 : decode mX7_isSign.2.1 23 = .ok (.iconst 1, 1) := by decide +kernel
theorem dX7_isSign_24 : decode mX7_isSign.2.1 24 = .ok (.goto 4, 3) := by decide +kernel
theorem dX7_isSign_27 : decode mX7_isSign.2.1 27 = .ok (.iconst 0, 1) := by decide +kernel
theorem dX7_isSign_28 : decode mX7_isSign.2.1 28 = .ok (.ireturn, 1) := by decide +kernel
set_option maxRecDepth 4000 in
theorem ev_X7_isSign {m : Mem} {c : Int} (hc : InR c) : Ev 0 2 mX7_isSign [vi c] m (fun r m' => m' = m ∧ ((r = 1 ∧ isS c) ∨ (r = 0 ∧ ¬ isS c))) := by
  refine Ev.of (L := [vi c]) (by decide +kernel) rfl (Nat.le_of_ble_eq_true rfl) rfl (fun t ht => by cases ht; first | exact Or.inl rfl | exact Or.inr (Or.inl rfl) | exact Or.inr (Or.inr rfl)) (fun hcan => ?_)
  refine go_iload_n dX7_isSign_0 rfl ?_
  refine go_bipush dX7_isSign_1 (by decide) ?_
  refine go_bipush dX7_isSign_3 (by decide) ?_
  refine go_callSp_z (as := [vi c, vi 59, vi 62]) (S := []) (ev_X11_isIn (m := m) (n := c) (lo := 59) (hi := 62) (by first | assumption | omega | exact ⟨by omega, by omega⟩ | (constructor <;> omega)) (by first | assumption | omega | exact ⟨by omega, by omega⟩ | (constructor <;> omega)) (by first | assumption | omega | exact ⟨by omega, by omega⟩ | (constructor <;> omega))) rfl dX7_isSign_5 cs_7_85 rfl rfl (by decide) (Nat.le_of_ble_eq_true rfl) (fun r_5 hr_5 ho_5 => ?_)
  refine go_if_ne (tgt := 23) dX7_isSign_8 (by decide) ⟨by omega, by omega⟩ (fun h_8 => ?_) (fun h_8 => ?_)
  · refine go_iconst dX7_isSign_23 ?_
    refine go_goto (tgt := 28) dX7_isSign_24 (by decide) ?_
    exact go_ret (v := 1) rfl dX7_isSign_28 (okZ (by first | exact Or.inl rfl | exact Or.inr rfl | assumption | omega)) ⟨rfl, (by first | assumption | rfl | omega)⟩
  · refine go_iload_n dX7_isSign_11 rfl ?_
    refine go_bipush dX7_isSign_12 (by decide) ?_
    refine go_icmp_eq (tgt := 23) dX7_isSign_14 (by decide) ⟨by omega, by omega⟩ ⟨by omega, by omega⟩ (fun h_14 => ?_) (fun h_14 => ?_)
    · refine go_iconst dX7_isSign_23 ?_
      refine go_goto (tgt := 28) dX7_isSign_24 (by decide) ?_
      exact go_ret (v := 1) rfl dX7_isSign_28 (okZ (by first | exact Or.inl rfl | exact Or.inr rfl | assumption | omega)) ⟨rfl, (by first | assumption | rfl | omega)⟩
    · refine go_iload_n dX7_isSign_17 rfl ?_
      refine go_bipush dX7_isSign_18 (by decide) ?_
      refine go_icmp_ne (tgt := 27) dX7_isSign_20 (by decide) ⟨by omega, by omega⟩ ⟨by omega, by omega⟩ (fun h_20 => ?_) (fun h_20 => ?_)
      · refine go_iconst dX7_isSign_27 ?_
        exact go_ret (v := 0) rfl dX7_isSign_28 (okZ (by first | exact Or.inl rfl | exact Or.inr rfl | assumption | omega)) ⟨rfl, (by first | assumption | rfl | omega)⟩
      · refine go_iconst dX7_isSign_23 ?_
        refine go_goto (tgt := 28) dX7_isSign_24 (by decide) ?_
        exact go_ret (v := 1) rfl dX7_isSign_28 (okZ (by first | exact Or.inl rfl | exact Or.inr rfl | assumption | omega)) ⟨rfl, (by first | assumption | rfl | omega)⟩
theorem dX11_packLetter_0 : decode mX11_packLetter.2.1 0 = .ok (.ldc2_w 415, 3) := by decide +kernel
theorem dX11_packLetter_3 : decode mX11_packLetter.2.1 3 = .ok (.lload_n 0, 1) := by decide +kernel
theorem dX11_packLetter_4 : decode mX11_packLetter.2.1 4 = .ok (.lmul, 1) := by decide +kernel
theorem dX11_packLetter_5 : decode mX11_packLetter.2.1 5 = .ok (.iload_n 2, 1) := by decide +kernel
theorem dX11_packLetter_6 : decode mX11_packLetter.2.1 6 = .ok (.bipush 97, 2) := by decide +kernel
theorem dX11_packLetter_8 : decode mX11_packLetter.2.1 8 = .ok (.isub, 1) := by decide +kernel
theorem dX11_packLetter_9 : decode mX11_packLetter.2.1 9 = .ok (.iconst 1, 1) := by decide +kernel
theorem dX11_packLetter_10 : decode mX11_packLetter.2.1 10 = .ok (.iadd, 1) := by decide +kernel
theorem dX11_packLetter_11 : decode mX11_packLetter.2.1 11 = .ok (.i2l, 1) := by decide +kernel
theorem dX11_packLetter_12 : decode mX11_packLetter.2.1 12 = .ok (.ladd, 1) := by decide +kernel
theorem dX11_packLetter_13 : decode mX11_packLetter.2.1 13 = .ok (.lreturn, 1) := by decide +kernel
set_option maxRecDepth 4000 in
theorem ev_X11_packLetter {m : Mem} {v : Int} {c : Int} (hv : InL v) (hc : 0 ≤ c ∧ c ≤ 255) : Ev 0 1 mX11_packLetter [vl v, vi c] m (fun r m' => m' = m ∧ (r = w64 (32 * v + (c - 97 + 1)))) := by
  refine Ev.of (L := [vl v, un, vi c]) (by decide +kernel) rfl (Nat.le_of_ble_eq_true rfl) rfl (fun t ht => by cases ht; first | exact Or.inl rfl | exact Or.inr (Or.inl rfl) | exact Or.inr (Or.inr rfl)) (fun hcan => ?_)
  refine go_ldc2 (x := 32) dX11_packLetter_0 k_11_415 ?_
  refine go_lload_n dX11_packLetter_3 rfl ?_
  refine go_lmul dX11_packLetter_4 ?_
  refine go_iload_n dX11_packLetter_5 rfl ?_
  refine go_bipush dX11_packLetter_6 (by decide) ?_
  refine go_isub dX11_packLetter_8 ?_
  refine go_iconst dX11_packLetter_9 ?_
  refine go_iadd dX11_packLetter_10 ?_
  refine go_i2l dX11_packLetter_11 ⟨by omega, by omega⟩ ?_
  refine go_ladd dX11_packLetter_12 ?_
  refine go_wrapL ?_
  exact go_ret (v := (w64 ((32 * v) + ((c - 97) + 1)))) rfl dX11_packLetter_13 (okL (w64_R _)) ⟨rfl, (by first | assumption | rfl | omega)⟩
theorem dX7_byteOf_0 : decode mX7_byteOf.2.1 0 = .ok (.iload_n 1, 1) := by decide +kernel
theorem dX7_byteOf_1 : decode mX7_byteOf.2.1 1 = .ok (.ifCond .lt 24, 3) := by decide +kernel
theorem dX7_byteOf_4 : decode mX7_byteOf.2.1 4 = .ok (.iload_n 1, 1) := by decide +kernel
theorem dX7_byteOf_5 : decode mX7_byteOf.2.1 5 = .ok (.aload_n 0, 1) := by decide +kernel
theorem dX7_byteOf_6 : decode mX7_byteOf.2.1 6 = .ok (.getfield 15, 3) := by decide +kernel
theorem dX7_byteOf_9 : decode mX7_byteOf.2.1 9 = .ok (.if_icmp .ge 16, 3) := by decide +kernel
theorem dX7_byteOf_12 : decode mX7_byteOf.2.1 12 = .ok (.aload_n 0, 1) := by decide +kernel
theorem dX7_byteOf_13 : decode mX7_byteOf.2.1 13 = .ok (.getfield 9, 3) := by decide +kernel
theorem dX7_byteOf_16 : decode mX7_byteOf.2.1 16 = .ok (.iload_n 1, 1) := by decide +kernel
theorem dX7_byteOf_17 : decode mX7_byteOf.2.1 17 = .ok (.baload, 1) := by decide +kernel
theorem dX7_byteOf_18 : decode mX7_byteOf.2.1 18 = .ok (.sipush 255, 3) := by decide +kernel
theorem dX7_byteOf_21 : decode mX7_byteOf.2.1 21 = .ok (.iand, 1) := by decide +kernel
theorem dX7_byteOf_22 : decode mX7_byteOf.2.1 22 = .ok (.goto 4, 3) := by decide +kernel
theorem dX7_byteOf_25 : decode mX7_byteOf.2.1 25 = .ok (.iconst 0, 1) := by decide +kernel
theorem dX7_byteOf_26 : decode mX7_byteOf.2.1 26 = .ok (.ireturn, 1) := by decide +kernel
set_option maxRecDepth 4000 in
theorem ev_X7_byteOf {m : Mem} {i : Int} (hsz : 0 ≤ m 1 1 ∧ m 1 1 ≤ 940) (hi : InR i) : Ev 0 1 mX7_byteOf [vr 1, vi i] m (fun r m' => m' = m ∧ (r = if 0 ≤ i ∧ i < m 1 1 then tx m i else 0)) := by
  refine Ev.of (L := [vr 1, vi i]) (by decide +kernel) rfl (Nat.le_of_ble_eq_true rfl) rfl (fun t ht => by cases ht; first | exact Or.inl rfl | exact Or.inr (Or.inl rfl) | exact Or.inr (Or.inr rfl)) (fun hcan => ?_)
  refine go_iload_n dX7_byteOf_0 rfl ?_
  refine go_if_lt (tgt := 25) dX7_byteOf_1 (by decide) ⟨by omega, by omega⟩ (fun h_1 => ?_) (fun h_1 => ?_)
  · refine go_iconst dX7_byteOf_25 ?_
    exact go_ret (v := 0) rfl dX7_byteOf_26 (okI (by have := iand255 (m 2 i); exact ⟨by omega, by omega⟩)) ⟨rfl, (by first | (rw [if_pos (by omega)]; rfl) | rw [if_neg (by omega)])⟩
  · refine go_iload_n dX7_byteOf_4 rfl ?_
    refine go_aload_n dX7_byteOf_5 rfl ?_
    refine go_getf_i (ki := 1) dX7_byteOf_6 fl_7_15 ob_1 rfl rfl (fun hf_6 => ?_)
    refine go_icmp_ge (tgt := 25) dX7_byteOf_9 (by decide) ⟨by omega, by omega⟩ ⟨by omega, by omega⟩ (fun h_9 => ?_) (fun h_9 => ?_)
    · refine go_iconst dX7_byteOf_25 ?_
      exact go_ret (v := 0) rfl dX7_byteOf_26 (okI (by have := iand255 (m 2 i); exact ⟨by omega, by omega⟩)) ⟨rfl, (by first | (rw [if_pos (by omega)]; rfl) | rw [if_neg (by omega)])⟩
    · refine go_aload_n dX7_byteOf_12 rfl ?_
      refine go_getf_p (b := 2) dX7_byteOf_13 fl_7_9 ob_1 rfl pt_1_0 ?_
      refine go_iload_n dX7_byteOf_16 rfl ?_
      refine go_baload dX7_byteOf_17 ar_2 (by omega) (by omega) (fun he_17 => ?_)
      refine go_sipush dX7_byteOf_18 (by decide) ?_
      refine go_iand dX7_byteOf_21 ?_
      refine go_goto (tgt := 26) dX7_byteOf_22 (by decide) ?_
      exact go_ret (v := (iand (m 2 i) 255)) rfl dX7_byteOf_26 (okI (by have := iand255 (m 2 i); exact ⟨by omega, by omega⟩)) ⟨rfl, (by first | (rw [if_pos (by omega)]; rfl) | rw [if_neg (by omega)])⟩
theorem dX7_kindOfWord_0 : decode mX7_kindOfWord.2.1 0 = .ok (.iconst 0, 1) := by decide +kernel
theorem dX7_kindOfWord_1 : decode mX7_kindOfWord.2.1 1 = .ok (.istore_n 3, 1) := by decide +kernel
theorem dX7_kindOfWord_2 : decode mX7_kindOfWord.2.1 2 = .ok (.iload_n 3, 1) := by decide +kernel
theorem dX7_kindOfWord_3 : decode mX7_kindOfWord.2.1 3 = .ok (.aload_n 0, 1) := by decide +kernel
theorem dX7_kindOfWord_4 : decode mX7_kindOfWord.2.1 4 = .ok (.getfield 39, 3) := by decide +kernel
theorem dX7_kindOfWord_7 : decode mX7_kindOfWord.2.1 7 = .ok (.arraylength, 1) := by decide +kernel
theorem dX7_kindOfWord_8 : decode mX7_kindOfWord.2.1 8 = .ok (.if_icmp .ge 26, 3) := by decide +kernel
theorem dX7_kindOfWord_11 : decode mX7_kindOfWord.2.1 11 = .ok (.aload_n 0, 1) := by decide +kernel
theorem dX7_kindOfWord_12 : decode mX7_kindOfWord.2.1 12 = .ok (.getfield 39, 3) := by decide +kernel
theorem dX7_kindOfWord_15 : decode mX7_kindOfWord.2.1 15 = .ok (.iload_n 3, 1) := by decide +kernel
theorem dX7_kindOfWord_16 : decode mX7_kindOfWord.2.1 16 = .ok (.laload, 1) := by decide +kernel
theorem dX7_kindOfWord_17 : decode mX7_kindOfWord.2.1 17 = .ok (.lload_n 1, 1) := by decide +kernel
theorem dX7_kindOfWord_18 : decode mX7_kindOfWord.2.1 18 = .ok (.lcmp, 1) := by decide +kernel
theorem dX7_kindOfWord_19 : decode mX7_kindOfWord.2.1 19 = .ok (.ifCond .ne 9, 3) := by decide +kernel
theorem dX7_kindOfWord_22 : decode mX7_kindOfWord.2.1 22 = .ok (.sipush 200, 3) := by decide +kernel
theorem dX7_kindOfWord_25 : decode mX7_kindOfWord.2.1 25 = .ok (.iload_n 3, 1) := by decide +kernel
theorem dX7_kindOfWord_26 : decode mX7_kindOfWord.2.1 26 = .ok (.iadd, 1) := by decide +kernel
theorem dX7_kindOfWord_27 : decode mX7_kindOfWord.2.1 27 = .ok (.ireturn, 1) := by decide +kernel
theorem dX7_kindOfWord_28 : decode mX7_kindOfWord.2.1 28 = .ok (.iinc 3 1, 3) := by decide +kernel
theorem dX7_kindOfWord_31 : decode mX7_kindOfWord.2.1 31 = .ok (.goto (-29), 3) := by decide +kernel
theorem dX7_kindOfWord_34 : decode mX7_kindOfWord.2.1 34 = .ok (.iconst 3, 1) := by decide +kernel
theorem dX7_kindOfWord_35 : decode mX7_kindOfWord.2.1 35 = .ok (.ireturn, 1) := by decide +kernel
set_option maxRecDepth 4000 in
theorem ev_X7_kindOfWord {m : Mem} {v : Int} (hv : InL v) : Ev 0 1 mX7_kindOfWord [vr 1, vl v] m (fun r m' => m' = m ∧ (r = kwd (m 3) v)) := by
  refine Ev.of (L := [vr 1, vl v, un, un]) (by decide +kernel) rfl (Nat.le_of_ble_eq_true rfl) rfl (fun t ht => by cases ht; first | exact Or.inl rfl | exact Or.inr (Or.inl rfl) | exact Or.inr (Or.inr rfl)) (fun hcan => ?_)
  refine go_iconst dX7_kindOfWord_0 ?_
  refine go_istore_n (L' := [vr 1, vl v, un, vi 0]) dX7_kindOfWord_1 (by decide) rfl rfl ?_
  have lp_2 : ∀ (n_2 : Nat) (k : Int) , (0 ≤ k) → (k ≤ 25) → (∀ j : Int, 0 ≤ j → j < k → decide (m 3 j = v) = false) → (25 - k).toNat < n_2 → Go 0 1 mX7_kindOfWord (fun r m' => m' = m ∧ (r = kwd (m 3) v)) 2 [vr 1, vl v, un, vi k] [] m := by
    intro n_2
    induction n_2 with
    | zero => intro k hk0 hk1 hno hmu; exact absurd hmu (Nat.not_lt_zero _)
    | succ n_2 ih_2 =>
      intro k hk0 hk1 hno hmu
      refine go_iload_n dX7_kindOfWord_2 rfl ?_
      refine go_aload_n dX7_kindOfWord_3 rfl ?_
      refine go_getf_p (b := 3) dX7_kindOfWord_4 fl_7_39 ob_1 rfl pt_1_7 ?_
      refine go_alen (x := 25) dX7_kindOfWord_7 ar_3 (by decide) rfl ?_
      refine go_icmp_ge (tgt := 34) dX7_kindOfWord_8 (by decide) ⟨by omega, by omega⟩ ⟨by omega, by omega⟩ (fun h_8 => ?_) (fun h_8 => ?_)
      · refine go_iconst dX7_kindOfWord_34 ?_
        exact go_ret (v := 3) rfl dX7_kindOfWord_35 (okI ⟨by omega, by omega⟩) ⟨rfl, (by unfold kwd; rw [if_pos (fnd_none (fun j a b => hno j a (by omega)))])⟩
      · refine go_aload_n dX7_kindOfWord_11 rfl ?_
        refine go_getf_p (b := 3) dX7_kindOfWord_12 fl_7_39 ob_1 rfl pt_1_7 ?_
        refine go_iload_n dX7_kindOfWord_15 rfl ?_
        refine go_laload dX7_kindOfWord_16 ar_3 (by omega) (by omega) (fun he_16 => ?_)
        refine go_lload_n dX7_kindOfWord_17 rfl ?_
        refine go_lcmp dX7_kindOfWord_18 he_16 hv ?_
        have hlc : lcmpI (m 3 k) v = 0 ↔ m 3 k = v := by unfold lcmpI; split <;> (try split) <;> omega
        refine go_if_ne (tgt := 28) dX7_kindOfWord_19 (by decide) (by unfold lcmpI; split <;> (try split) <;> exact ⟨by omega, by omega⟩) (fun h_19 => ?_) (fun h_19 => ?_)
        · refine go_iinc (L' := [vr 1, vl v, un, vi (k + 1)]) dX7_kindOfWord_28 rfl (by decide) rfl rfl ?_
          refine go_goto (tgt := 2) dX7_kindOfWord_31 (by decide) ?_
          exact ih_2 (k + 1) (by first | assumption | omega | rfl) (by first | assumption | omega | rfl) (stp hno (by rw [decide_eq_false_iff_not, ← hlc]; exact h_19)) (by omega)
        · refine go_sipush dX7_kindOfWord_22 (by decide) ?_
          refine go_iload_n dX7_kindOfWord_25 rfl ?_
          refine go_iadd dX7_kindOfWord_26 ?_
          exact go_ret (v := (200 + k)) rfl dX7_kindOfWord_27 (okI ⟨by omega, by omega⟩) ⟨rfl, (by have e := fnd_some (P := fun k => decide (m 3 k = v)) hk0 (show k < 25 by omega) (by rw [decide_eq_true_eq, ← hlc]; exact h_19) hno; unfold kwd; rw [e, if_neg (by omega)])⟩
  exact lp_2 _ 0 (by first | assumption | omega | rfl) (by first | assumption | omega | rfl) (fun j a b => by omega) (Nat.lt_succ_self _)
theorem dX7_skipBlanks_0 : decode mX7_skipBlanks.2.1 0 = .ok (.aload_n 0, 1) := by decide +kernel
theorem dX7_skipBlanks_1 : decode mX7_skipBlanks.2.1 1 = .ok (.getfield 59, 3) := by decide +kernel
theorem dX7_skipBlanks_4 : decode mX7_skipBlanks.2.1 4 = .ok (.aload_n 0, 1) := by decide +kernel
theorem dX7_skipBlanks_5 : decode mX7_skipBlanks.2.1 5 = .ok (.getfield 15, 3) := by decide +kernel
theorem dX7_skipBlanks_8 : decode mX7_skipBlanks.2.1 8 = .ok (.if_icmp .ge 42, 3) := by decide +kernel
theorem dX7_skipBlanks_11 : decode mX7_skipBlanks.2.1 11 = .ok (.aload_n 0, 1) := by decide +kernel
theorem dX7_skipBlanks_12 : decode mX7_skipBlanks.2.1 12 = .ok (.aload_n 0, 1) := by decide +kernel
theorem dX7_skipBlanks_13 : decode mX7_skipBlanks.2.1 13 = .ok (.getfield 59, 3) := by decide +kernel
theorem dX7_skipBlanks_16 : decode mX7_skipBlanks.2.1 16 = .ok (.invokevirtual 89, 3) := by decide +kernel
theorem dX7_skipBlanks_19 : decode mX7_skipBlanks.2.1 19 = .ok (.bipush 32, 2) := by decide +kernel
theorem dX7_skipBlanks_21 : decode mX7_skipBlanks.2.1 21 = .ok (.if_icmp .eq 16, 3) := by decide +kernel
theorem dX7_skipBlanks_24 : decode mX7_skipBlanks.2.1 24 = .ok (.aload_n 0, 1) := by decide +kernel
theorem dX7_skipBlanks_25 : decode mX7_skipBlanks.2.1 25 = .ok (.aload_n 0, 1) := by decide +kernel
theorem dX7_skipBlanks_26 : decode mX7_skipBlanks.2.1 26 = .ok (.getfield 59, 3) := by decide +kernel
theorem dX7_skipBlanks_29 : decode mX7_skipBlanks.2.1 29 = .ok (.invokevirtual 89, 3) := by decide +kernel
theorem dX7_skipBlanks_32 : decode mX7_skipBlanks.2.1 32 = .ok (.bipush 10, 2) := by decide +kernel
theorem dX7_skipBlanks_34 : decode mX7_skipBlanks.2.1 34 = .ok (.if_icmp .ne 16, 3) := by decide +kernel
theorem dX7_skipBlanks_37 : decode mX7_skipBlanks.2.1 37 = .ok (.aload_n 0, 1) := by decide +kernel
theorem dX7_skipBlanks_38 : decode mX7_skipBlanks.2.1 38 = .ok (.dup, 1) := by decide +kernel
theorem dX7_skipBlanks_39 : decode mX7_skipBlanks.2.1 39 = .ok (.getfield 59, 3) := by decide +kernel
theorem dX7_skipBlanks_42 : decode mX7_skipBlanks.2.1 42 = .ok (.iconst 1, 1) := by decide +kernel
theorem dX7_skipBlanks_43 : decode mX7_skipBlanks.2.1 43 = .ok (.iadd, 1) := by decide +kernel
theorem dX7_skipBlanks_44 : decode mX7_skipBlanks.2.1 44 = .ok (.putfield 59, 3) := by decide +kernel
theorem dX7_skipBlanks_47 : decode mX7_skipBlanks.2.1 47 = .ok (.goto (-47), 3) := by decide +kernel
theorem dX7_skipBlanks_50 : decode mX7_skipBlanks.2.1 50 = .ok (.return_, 1) := by decide +kernel
set_option maxRecDepth 4000 in
theorem ev_X7_skipBlanks {m : Mem}  (hsz : 0 ≤ m 1 1 ∧ m 1 1 ≤ 940) (ha : 0 ≤ m 1 13 ∧ m 1 13 ≤ m 1 1) : Ev 0 2 mX7_skipBlanks [vr 1] m (fun r m' => m' = wr m 1 13 (sk1 (tx m) (m 1 1) (m 1 13))) := by
  refine Ev.of (L := [vr 1]) (by decide +kernel) rfl (Nat.le_of_ble_eq_true rfl) rfl (fun t ht => by cases ht) (fun hcan => ?_)
  have lp_0 : ∀ (n_0 : Nat) (m1 : Mem)  (a : Int), (0 ≤ a) → (a ≤ m 1 1) → (m1 = (wr m 1 13 a)) → (sk1 (tx m) (m 1 1) a = sk1 (tx m) (m 1 1) (m 1 13)) → (m 1 1 - a).toNat < n_0 → Go 0 2 mX7_skipBlanks (fun r m' => m' = wr m 1 13 (sk1 (tx m) (m 1 1) (m 1 13))) 0 [vr 1] [] m1 := by
    intro n_0
    induction n_0 with
    | zero => intro m1 a ha0 ha1 hm hsk hmu; exact absurd hmu (Nat.not_lt_zero _)
    | succ n_0 ih_0 =>
      intro m1 a ha0 ha1 hm hsk hmu
      subst hm
      have etx : tx (wr m 1 13 a) = tx m := by funext j; unfold tx; rw [wr_na (by decide)]
      have esz : wr m 1 13 a 1 1 = m 1 1 := wr_ni (by decide)
      refine go_aload_n dX7_skipBlanks_0 rfl ?_
      refine go_getf_i (ki := 13) dX7_skipBlanks_1 fl_7_59 ob_1 rfl rfl (fun hf_1 => ?_)
      rw [show ((wr m 1 13 a) 1 13 : Int) = a from by rw [wr_self]] at hf_1 ⊢
      refine go_aload_n dX7_skipBlanks_4 rfl ?_
      refine go_getf_i (ki := 1) dX7_skipBlanks_5 fl_7_15 ob_1 rfl rfl (fun hf_5 => ?_)
      rw [show ((wr m 1 13 a) 1 1 : Int) = (m 1 1) from by rw [wr_ni (by decide)]] at hf_5 ⊢
      refine go_icmp_ge (tgt := 50) dX7_skipBlanks_8 (by decide) ⟨by omega, by omega⟩ ⟨by omega, by omega⟩ (fun h_8 => ?_) (fun h_8 => ?_)
      · exact go_ret (v := 0) rfl dX7_skipBlanks_50 rfl (by rw [← hsk, sk1_f]; omega)
      · refine go_aload_n dX7_skipBlanks_11 rfl ?_
        refine go_aload_n dX7_skipBlanks_12 rfl ?_
        refine go_getf_i (ki := 13) dX7_skipBlanks_13 fl_7_59 ob_1 rfl rfl (fun hf_13 => ?_)
        rw [show ((wr m 1 13 a) 1 13 : Int) = a from by rw [wr_self]] at hf_13 ⊢
        refine go_callVp_i (as := [vi a]) (S := []) (b := 1) (ev_X7_byteOf (m := (wr m 1 13 a)) (i := a) (by rw [esz]; exact hsz) (by first | assumption | omega | exact ⟨by omega, by omega⟩ | (constructor <;> omega))) rfl dX7_skipBlanks_16 cv_7_89 rfl rfl ob_1 rfl (by decide) (Nat.le_of_ble_eq_true rfl) (fun r_16 hr_16 ho_16 => ?_)
        rw [etx, esz, if_pos (by omega)] at hr_16
        have h255 : 0 ≤ tx m a ∧ tx m a ≤ 255 := iand255 _
        refine go_bipush dX7_skipBlanks_19 (by decide) ?_
        refine go_icmp_eq (tgt := 37) dX7_skipBlanks_21 (by decide) ⟨by omega, by omega⟩ ⟨by omega, by omega⟩ (fun h_21 => ?_) (fun h_21 => ?_)
        · refine go_aload_n dX7_skipBlanks_37 rfl ?_
          refine go_dup_r dX7_skipBlanks_38 ?_
          refine go_getf_i (ki := 13) dX7_skipBlanks_39 fl_7_59 ob_1 rfl rfl (fun hf_39 => ?_)
          rw [show ((wr m 1 13 a) 1 13 : Int) = a from by rw [wr_self]] at hf_39 ⊢
          refine go_iconst dX7_skipBlanks_42 ?_
          refine go_iadd dX7_skipBlanks_43 ?_
          refine go_putf_i (ki := 13) dX7_skipBlanks_44 fw_7_59 ob_1 rfl rfl ⟨by omega, by omega⟩ ?_
          refine go_goto (tgt := 0) dX7_skipBlanks_47 (by decide) ?_
          exact ih_0 (wr (wr m 1 13 a) 1 13 (a + 1)) (a + 1) (by first | assumption | omega | rfl) (by first | assumption | omega | rfl) wr_wr (by rw [← hsk]; exact (sk1_t (by omega) (by omega)).symm) (by omega)
        · refine go_aload_n dX7_skipBlanks_24 rfl ?_
          refine go_aload_n dX7_skipBlanks_25 rfl ?_
          refine go_getf_i (ki := 13) dX7_skipBlanks_26 fl_7_59 ob_1 rfl rfl (fun hf_26 => ?_)
          rw [show ((wr m 1 13 a) 1 13 : Int) = a from by rw [wr_self]] at hf_26 ⊢
          refine go_callVp_i (as := [vi a]) (S := []) (b := 1) (ev_X7_byteOf (m := (wr m 1 13 a)) (i := a) (by rw [esz]; exact hsz) (by first | assumption | omega | exact ⟨by omega, by omega⟩ | (constructor <;> omega))) rfl dX7_skipBlanks_29 cv_7_89 rfl rfl ob_1 rfl (by decide) (Nat.le_of_ble_eq_true rfl) (fun r_29 hr_29 ho_29 => ?_)
          rw [etx, esz, if_pos (by omega)] at hr_29
          refine go_bipush dX7_skipBlanks_32 (by decide) ?_
          refine go_icmp_ne (tgt := 50) dX7_skipBlanks_34 (by decide) ⟨by omega, by omega⟩ ⟨by omega, by omega⟩ (fun h_34 => ?_) (fun h_34 => ?_)
          · exact go_ret (v := 0) rfl dX7_skipBlanks_50 rfl (by rw [← hsk, sk1_f]; omega)
          · refine go_aload_n dX7_skipBlanks_37 rfl ?_
            refine go_dup_r dX7_skipBlanks_38 ?_
            refine go_getf_i (ki := 13) dX7_skipBlanks_39 fl_7_59 ob_1 rfl rfl (fun hf_39 => ?_)
            rw [show ((wr m 1 13 a) 1 13 : Int) = a from by rw [wr_self]] at hf_39 ⊢
            refine go_iconst dX7_skipBlanks_42 ?_
            refine go_iadd dX7_skipBlanks_43 ?_
            refine go_putf_i (ki := 13) dX7_skipBlanks_44 fw_7_59 ob_1 rfl rfl ⟨by omega, by omega⟩ ?_
            refine go_goto (tgt := 0) dX7_skipBlanks_47 (by decide) ?_
            exact ih_0 (wr (wr m 1 13 a) 1 13 (a + 1)) (a + 1) (by first | assumption | omega | rfl) (by first | assumption | omega | rfl) wr_wr (by rw [← hsk]; exact (sk1_t (by omega) (by omega)).symm) (by omega)
  exact lp_0 _ m (m 1 13) (by first | assumption | omega | rfl) (by first | assumption | omega | rfl) wr_id.symm rfl (Nat.lt_succ_self _)
theorem dX7_scanRun_0 : decode mX7_scanRun.2.1 0 = .ok (.iconst 0, 1) := by decide +kernel
theorem dX7_scanRun_1 : decode mX7_scanRun.2.1 1 = .ok (.istore_n 1, 1) := by decide +kernel
theorem dX7_scanRun_2 : decode mX7_scanRun.2.1 2 = .ok (.iconst 0, 1) := by decide +kernel
theorem dX7_scanRun_3 : decode mX7_scanRun.2.1 3 = .ok (.istore_n 2, 1) := by decide +kernel
theorem dX7_scanRun_4 : decode mX7_scanRun.2.1 4 = .ok (.lconst 0, 1) := by decide +kernel
theorem dX7_scanRun_5 : decode mX7_scanRun.2.1 5 = .ok (.lstore_n 3, 1) := by decide +kernel
theorem dX7_scanRun_6 : decode mX7_scanRun.2.1 6 = .ok (.iconst 0, 1) := by decide +kernel
theorem dX7_scanRun_7 : decode mX7_scanRun.2.1 7 = .ok (.istore 5, 2) := by decide +kernel
theorem dX7_scanRun_9 : decode mX7_scanRun.2.1 9 = .ok (.aload_n 0, 1) := by decide +kernel
theorem dX7_scanRun_10 : decode mX7_scanRun.2.1 10 = .ok (.getfield 59, 3) := by decide +kernel
theorem dX7_scanRun_13 : decode mX7_scanRun.2.1 13 = .ok (.aload_n 0, 1) := by decide +kernel
theorem dX7_scanRun_14 : decode mX7_scanRun.2.1 14 = .ok (.getfield 15, 3) := by decide +kernel
theorem dX7_scanRun_17 : decode mX7_scanRun.2.1 17 = .ok (.if_icmp .ge 91, 3) := by decide +kernel
theorem dX7_scanRun_20 : decode mX7_scanRun.2.1 20 = .ok (.aload_n 0, 1) := by decide +kernel
theorem dX7_scanRun_21 : decode mX7_scanRun.2.1 21 = .ok (.aload_n 0, 1) := by decide +kernel
theorem dX7_scanRun_22 : decode mX7_scanRun.2.1 22 = .ok (.getfield 59, 3) := by decide +kernel
theorem dX7_scanRun_25 : decode mX7_scanRun.2.1 25 = .ok (.invokevirtual 89, 3) := by decide +kernel
theorem dX7_scanRun_28 : decode mX7_scanRun.2.1 28 = .ok (.invokestatic 92, 3) := by decide +kernel
theorem dX7_scanRun_31 : decode mX7_scanRun.2.1 31 = .ok (.ifCond .ne 17, 3) := by decide +kernel
theorem dX7_scanRun_34 : decode mX7_scanRun.2.1 34 = .ok (.aload_n 0, 1) := by decide +kernel
theorem dX7_scanRun_35 : decode mX7_scanRun.2.1 35 = .ok (.aload_n 0, 1) := by decide +kernel
theorem dX7_scanRun_36 : decode mX7_scanRun.2.1 36 = .ok (.getfield 59, 3) := by decide +kernel
theorem dX7_scanRun_39 : decode mX7_scanRun.2.1 39 = .ok (.invokevirtual 89, 3) := by decide +kernel
theorem dX7_scanRun_42 : decode mX7_scanRun.2.1 42 = .ok (.invokestatic 95, 3) := by decide +kernel
theorem dX7_scanRun_45 : decode mX7_scanRun.2.1 45 = .ok (.ifCond .eq 63, 3) := by decide +kernel
theorem dX7_scanRun_48 : decode mX7_scanRun.2.1 48 = .ok (.aload_n 0, 1) := by decide +kernel
theorem dX7_scanRun_49 : decode mX7_scanRun.2.1 49 = .ok (.aload_n 0, 1) := by decide +kernel
theorem dX7_scanRun_50 : decode mX7_scanRun.2.1 50 = .ok (.getfield 59, 3) := by decide +kernel
theorem dX7_scanRun_53 : decode mX7_scanRun.2.1 53 = .ok (.invokevirtual 89, 3) := by decide +kernel
theorem dX7_scanRun_56 : decode mX7_scanRun.2.1 56 = .ok (.istore 6, 2) := by decide +kernel
theorem dX7_scanRun_58 : decode mX7_scanRun.2.1 58 = .ok (.iload 6, 2) := by decide +kernel
theorem dX7_scanRun_60 : decode mX7_scanRun.2.1 60 = .ok (.invokestatic 92, 3) := by decide +kernel
theorem dX7_scanRun_63 : decode mX7_scanRun.2.1 63 = .ok (.ifCond .eq 16, 3) := by decide +kernel
theorem dX7_scanRun_66 : decode mX7_scanRun.2.1 66 = .ok (.iinc 1 1, 3) := by decide +kernel
theorem dX7_scanRun_69 : decode mX7_scanRun.2.1 69 = .ok (.lload_n 3, 1) := by decide +kernel
theorem dX7_scanRun_70 : decode mX7_scanRun.2.1 70 = .ok (.iload 6, 2) := by decide +kernel
theorem dX7_scanRun_72 : decode mX7_scanRun.2.1 72 = .ok (.invokestatic 105, 3) := by decide +kernel
theorem dX7_scanRun_75 : decode mX7_scanRun.2.1 75 = .ok (.lstore_n 3, 1) := by decide +kernel
theorem dX7_scanRun_76 : decode mX7_scanRun.2.1 76 = .ok (.goto 19, 3) := by decide +kernel
theorem dX7_scanRun_79 : decode mX7_scanRun.2.1 79 = .ok (.iinc 2 1, 3) := by decide +kernel
theorem dX7_scanRun_82 : decode mX7_scanRun.2.1 82 = .ok (.bipush 10, 2) := by decide +kernel
theorem dX7_scanRun_84 : decode mX7_scanRun.2.1 84 = .ok (.iload 5, 2) := by decide +kernel
theorem dX7_scanRun_86 : decode mX7_scanRun.2.1 86 = .ok (.imul, 1) := by decide +kernel
theorem dX7_scanRun_87 : decode mX7_scanRun.2.1 87 = .ok (.iload 6, 2) := by decide +kernel
theorem dX7_scanRun_89 : decode mX7_scanRun.2.1 89 = .ok (.iadd, 1) := by decide +kernel
theorem dX7_scanRun_90 : decode mX7_scanRun.2.1 90 = .ok (.bipush 48, 2) := by decide +kernel
theorem dX7_scanRun_92 : decode mX7_scanRun.2.1 92 = .ok (.isub, 1) := by decide +kernel
theorem dX7_scanRun_93 : decode mX7_scanRun.2.1 93 = .ok (.istore 5, 2) := by decide +kernel
theorem dX7_scanRun_95 : decode mX7_scanRun.2.1 95 = .ok (.aload_n 0, 1) := by decide +kernel
theorem dX7_scanRun_96 : decode mX7_scanRun.2.1 96 = .ok (.dup, 1) := by decide +kernel
theorem dX7_scanRun_97 : decode mX7_scanRun.2.1 97 = .ok (.getfield 59, 3) := by decide +kernel
theorem dX7_scanRun_100 : decode mX7_scanRun.2.1 100 = .ok (.iconst 1, 1) := by decide +kernel
theorem dX7_scanRun_101 : decode mX7_scanRun.2.1 101 = .ok (.iadd, 1) := by decide +kernel
theorem dX7_scanRun_102 : decode mX7_scanRun.2.1 102 = .ok (.putfield 59, 3) := by decide +kernel
theorem dX7_scanRun_105 : decode mX7_scanRun.2.1 105 = .ok (.goto (-96), 3) := by decide +kernel
theorem dX7_scanRun_108 : decode mX7_scanRun.2.1 108 = .ok (.aload_n 0, 1) := by decide +kernel
theorem dX7_scanRun_109 : decode mX7_scanRun.2.1 109 = .ok (.getfield 50, 3) := by decide +kernel
theorem dX7_scanRun_112 : decode mX7_scanRun.2.1 112 = .ok (.aload_n 0, 1) := by decide +kernel
theorem dX7_scanRun_113 : decode mX7_scanRun.2.1 113 = .ok (.getfield 53, 3) := by decide +kernel
theorem dX7_scanRun_116 : decode mX7_scanRun.2.1 116 = .ok (.iload_n 1, 1) := by decide +kernel
theorem dX7_scanRun_117 : decode mX7_scanRun.2.1 117 = .ok (.ifCond .ne 9, 3) := by decide +kernel
theorem dX7_scanRun_120 : decode mX7_scanRun.2.1 120 = .ok (.iload 5, 2) := by decide +kernel
theorem dX7_scanRun_122 : decode mX7_scanRun.2.1 122 = .ok (.i2l, 1) := by decide +kernel
theorem dX7_scanRun_123 : decode mX7_scanRun.2.1 123 = .ok (.goto 4, 3) := by decide +kernel
theorem dX7_scanRun_126 : decode mX7_scanRun.2.1 126 = .ok (.lload_n 3, 1) := by decide +kernel
theorem dX7_scanRun_127 : decode mX7_scanRun.2.1 127 = .ok (.lastore, 1) := by decide +kernel
theorem dX7_scanRun_128 : decode mX7_scanRun.2.1 128 = .ok (.iload_n 1, 1) := by decide +kernel
theorem dX7_scanRun_129 : decode mX7_scanRun.2.1 129 = .ok (.ifCond .ne 14, 3) := by decide +kernel
theorem dX7_scanRun_132 : decode mX7_scanRun.2.1 132 = .ok (.iload_n 2, 1) := by decide +kernel
theorem dX7_scanRun_133 : decode mX7_scanRun.2.1 133 = .ok (.iconst 3, 1) := by decide +kernel
theorem dX7_scanRun_134 : decode mX7_scanRun.2.1 134 = .ok (.if_icmp .gt 7, 3) := by decide +kernel
theorem dX7_scanRun_137 : decode mX7_scanRun.2.1 137 = .ok (.iconst 2, 1) := by decide +kernel
theorem dX7_scanRun_138 : decode mX7_scanRun.2.1 138 = .ok (.goto 4, 3) := by decide +kernel
theorem dX7_scanRun_141 : decode mX7_scanRun.2.1 141 = .ok (.iconst 1, 1) := by decide +kernel
theorem dX7_scanRun_142 : decode mX7_scanRun.2.1 142 = .ok (.ireturn, 1) := by decide +kernel
theorem dX7_scanRun_143 : decode mX7_scanRun.2.1 143 = .ok (.iload_n 2, 1) := by decide +kernel
theorem dX7_scanRun_144 : decode mX7_scanRun.2.1 144 = .ok (.ifCond .ne 17, 3) := by decide +kernel
theorem dX7_scanRun_147 : decode mX7_scanRun.2.1 147 = .ok (.iload_n 1, 1) := by decide +kernel
theorem dX7_scanRun_148 : decode mX7_scanRun.2.1 148 = .ok (.bipush 7, 2) := by decide +kernel
theorem dX7_scanRun_150 : decode mX7_scanRun.2.1 150 = .ok (.if_icmp .gt 11, 3) := by decide +kernel
theorem dX7_scanRun_153 : decode mX7_scanRun.2.1 153 = .ok (.aload_n 0, 1) := by decide +kernel
theorem dX7_scanRun_154 : decode mX7_scanRun.2.1 154 = .ok (.lload_n 3, 1) := by decide +kernel
theorem dX7_scanRun_155 : decode mX7_scanRun.2.1 155 = .ok (.invokevirtual 109, 3) := by decide +kernel
theorem dX7_scanRun_158 : decode mX7_scanRun.2.1 158 = .ok (.goto 4, 3) := by decide +kernel
theorem dX7_scanRun_161 : decode mX7_scanRun.2.1 161 = .ok (.iconst 1, 1) := by decide +kernel
theorem dX7_scanRun_162 : decode mX7_scanRun.2.1 162 = .ok (.ireturn, 1) := by decide +kernel
set_option maxRecDepth 4000 in
theorem ev_X7_scanRun {m : Mem}  (hsz : 0 ≤ m 1 1 ∧ m 1 1 ≤ 940) (ha : 0 ≤ m 1 13 ∧ m 1 13 ≤ m 1 1) (htk : 0 ≤ m 1 11 ∧ m 1 11 < 901) : Ev 0 2 mX7_scanRun [vr 1] m (fun r m' => r = runK (tx m) (m 3) (m 1 13) (rn1 (tx m) (m 1 1) (m 1 13)) ∧ m' = wr (wr m 1 13 (rn1 (tx m) (m 1 1) (m 1 13))) 6 (m 1 11) (runV (tx m) (m 1 13) (rn1 (tx m) (m 1 1) (m 1 13)))) := by
  refine Ev.of (L := [vr 1, un, un, un, un, un, un]) (by decide +kernel) rfl (Nat.le_of_ble_eq_true rfl) rfl (fun t ht => by cases ht; first | exact Or.inl rfl | exact Or.inr (Or.inl rfl) | exact Or.inr (Or.inr rfl)) (fun hcan => ?_)
  refine go_iconst dX7_scanRun_0 ?_
  refine go_istore_n (L' := [vr 1, vi 0, un, un, un, un, un]) dX7_scanRun_1 (by decide) rfl rfl ?_
  refine go_iconst dX7_scanRun_2 ?_
  refine go_istore_n (L' := [vr 1, vi 0, vi 0, un, un, un, un]) dX7_scanRun_3 (by decide) rfl rfl ?_
  refine go_lconst (z := 0) dX7_scanRun_4 (by decide) ?_
  refine go_lstore_n (L' := [vr 1, vi 0, vi 0, vl 0, un, un, un]) dX7_scanRun_5 (by decide) rfl rfl ?_
  refine go_iconst dX7_scanRun_6 ?_
  refine go_istore (L' := [vr 1, vi 0, vi 0, vl 0, un, vi 0, un]) dX7_scanRun_7 (by decide) rfl rfl ?_
  have lp_9 : ∀ (n_9 : Nat) (m1 : Mem) (lc : Int) (dc : Int) (lv : Int) (dv : Int) (a : Int), (m 1 13 ≤ a) → (a ≤ m 1 1) → (m1 = (wr m 1 13 a)) → (rn1 (tx m) (m 1 1) a = rn1 (tx m) (m 1 1) (m 1 13)) → (lc = lcN (tx m) (m 1 13) (a - m 1 13).toNat) → (dc = dcN (tx m) (m 1 13) (a - m 1 13).toNat) → (lv = lvN (tx m) (m 1 13) (a - m 1 13).toNat) → (dv = dvN (tx m) (m 1 13) (a - m 1 13).toNat) → (m 1 1 - a).toNat < n_9 → Go 0 2 mX7_scanRun (fun r m' => r = runK (tx m) (m 3) (m 1 13) (rn1 (tx m) (m 1 1) (m 1 13)) ∧ m' = wr (wr m 1 13 (rn1 (tx m) (m 1 1) (m 1 13))) 6 (m 1 11) (runV (tx m) (m 1 13) (rn1 (tx m) (m 1 1) (m 1 13)))) 9 [vr 1, vi lc, vi dc, vl lv, un, vi dv, un] [] m1 := by
    intro n_9
    induction n_9 with
    | zero => intro m1 lc dc lv dv a ha0 ha1 hm hrn hlc hdc hlv hdv hmu; exact absurd hmu (Nat.not_lt_zero _)
    | succ n_9 ih_9 =>
      intro m1 lc dc lv dv a ha0 ha1 hm hrn hlc hdc hlv hdv hmu
      subst hm
      have etx : tx (wr m 1 13 a) = tx m := by funext j; unfold tx; rw [wr_na (by decide)]
      have esz : wr m 1 13 a 1 1 = m 1 1 := wr_ni (by decide)
      have e3 : wr m 1 13 a 3 = m 3 := wr_row (by decide)
      have hcb := cnt_b (tx m) (m 1 13) (a - m 1 13).toNat
      have hlR := lvN_R (tx m) (m 1 13) (a - m 1 13).toNat
      have hdR := dvN_R (tx m) (m 1 13) (a - m 1 13).toNat
      rw [← hlv] at hlR
      rw [← hdv] at hdR
      rw [← hlc, ← hdc] at hcb
      refine go_aload_n dX7_scanRun_9 rfl ?_
      refine go_getf_i (ki := 13) dX7_scanRun_10 fl_7_59 ob_1 rfl rfl (fun hf_10 => ?_)
      rw [show ((wr m 1 13 a) 1 13 : Int) = a from by rw [wr_self]] at hf_10 ⊢
      refine go_aload_n dX7_scanRun_13 rfl ?_
      refine go_getf_i (ki := 1) dX7_scanRun_14 fl_7_15 ob_1 rfl rfl (fun hf_14 => ?_)
      rw [show ((wr m 1 13 a) 1 1 : Int) = (m 1 1) from by rw [wr_ni (by decide)]] at hf_14 ⊢
      refine go_icmp_ge (tgt := 108) dX7_scanRun_17 (by decide) ⟨by omega, by omega⟩ ⟨by omega, by omega⟩ (fun h_17 => ?_) (fun h_17 => ?_)
      · refine go_aload_n dX7_scanRun_108 rfl ?_
        refine go_getf_p (b := 6) dX7_scanRun_109 fl_7_50 ob_1 rfl pt_1_10 ?_
        refine go_aload_n dX7_scanRun_112 rfl ?_
        refine go_getf_i (ki := 11) dX7_scanRun_113 fl_7_53 ob_1 rfl rfl (fun hf_113 => ?_)
        rw [show ((wr m 1 13 a) 1 11 : Int) = (m 1 11) from by rw [wr_ni (by decide)]] at hf_113 ⊢
        refine go_iload_n dX7_scanRun_116 rfl ?_
        refine go_if_ne (tgt := 126) dX7_scanRun_117 (by decide) ⟨by omega, by omega⟩ (fun h_117 => ?_) (fun h_117 => ?_)
        · refine go_lload_n dX7_scanRun_126 rfl ?_
          refine go_lastore dX7_scanRun_127 ar_6 (by omega) (by omega) (by first | exact hlR | exact ⟨by omega, by omega⟩) ?_
          refine go_iload_n dX7_scanRun_128 rfl ?_
          refine go_if_ne (tgt := 143) dX7_scanRun_129 (by decide) ⟨by omega, by omega⟩ (fun h_129 => ?_) (fun h_129 => ?_)
          · refine go_iload_n dX7_scanRun_143 rfl ?_
            refine go_if_ne (tgt := 161) dX7_scanRun_144 (by decide) ⟨by omega, by omega⟩ (fun h_144 => ?_) (fun h_144 => ?_)
            · refine go_iconst dX7_scanRun_161 ?_
              refine go_ret (v := 1) rfl dX7_scanRun_162 (okI ⟨by omega, by omega⟩) ?_
              first | (exfalso; omega) | exact ⟨by rw [← hrn, rn1_f (by omega)]; unfold runK; rw [← hlc, if_neg (by omega), ← hdc]; first | (rw [if_pos (by omega), ← hlv, hr_155]; rw [wr_row (by decide), e3]) | rw [if_neg (by omega)], by rw [← hrn, rn1_f (by omega)]; unfold runV; rw [← hlc, if_neg (by omega), ← hlv]⟩
            · refine go_iload_n dX7_scanRun_147 rfl ?_
              refine go_bipush dX7_scanRun_148 (by decide) ?_
              refine go_icmp_gt (tgt := 161) dX7_scanRun_150 (by decide) ⟨by omega, by omega⟩ ⟨by omega, by omega⟩ (fun h_150 => ?_) (fun h_150 => ?_)
              · refine go_iconst dX7_scanRun_161 ?_
                refine go_ret (v := 1) rfl dX7_scanRun_162 (okI ⟨by omega, by omega⟩) ?_
                first | (exfalso; omega) | exact ⟨by rw [← hrn, rn1_f (by omega)]; unfold runK; rw [← hlc, if_neg (by omega), ← hdc]; first | (rw [if_pos (by omega), ← hlv, hr_155]; rw [wr_row (by decide), e3]) | rw [if_neg (by omega)], by rw [← hrn, rn1_f (by omega)]; unfold runV; rw [← hlc, if_neg (by omega), ← hlv]⟩
              · refine go_aload_n dX7_scanRun_153 rfl ?_
                refine go_lload_n dX7_scanRun_154 rfl ?_
                refine go_callVp_i (as := [vl lv]) (S := []) (b := 1) (ev_X7_kindOfWord (m := (wr (wr m 1 13 a) 6 (m 1 11) lv)) (v := lv) (by first | assumption | omega | exact ⟨by omega, by omega⟩ | (constructor <;> omega))) rfl dX7_scanRun_155 cv_7_109 rfl rfl ob_1 rfl (by decide) (Nat.le_of_ble_eq_true rfl) (fun r_155 hr_155 ho_155 => ?_)
                refine go_goto (tgt := 162) dX7_scanRun_158 (by decide) ?_
                refine go_ret (v := r_155) rfl dX7_scanRun_162 (okI ⟨by omega, by omega⟩) ?_
                first | (exfalso; omega) | exact ⟨by rw [← hrn, rn1_f (by omega)]; unfold runK; rw [← hlc, if_neg (by omega), ← hdc]; first | (rw [if_pos (by omega), ← hlv, hr_155]; rw [wr_row (by decide), e3]) | rw [if_neg (by omega)], by rw [← hrn, rn1_f (by omega)]; unfold runV; rw [← hlc, if_neg (by omega), ← hlv]⟩
          · refine go_iload_n dX7_scanRun_132 rfl ?_
            refine go_iconst dX7_scanRun_133 ?_
            refine go_icmp_gt (tgt := 141) dX7_scanRun_134 (by decide) ⟨by omega, by omega⟩ ⟨by omega, by omega⟩ (fun h_134 => ?_) (fun h_134 => ?_)
            · refine go_iconst dX7_scanRun_141 ?_
              refine go_ret (v := 1) rfl dX7_scanRun_142 (okI ⟨by omega, by omega⟩) ?_
              first | (exfalso; omega) | exact ⟨by rw [← hrn, rn1_f (by omega)]; unfold runK; rw [← hlc, if_pos (by omega), ← hdc]; first | rw [if_pos (by omega)] | rw [if_neg (by omega)], by rw [← hrn, rn1_f (by omega)]; unfold runV; rw [← hlc, if_pos (by omega), ← hdv]⟩
            · refine go_iconst dX7_scanRun_137 ?_
              refine go_goto (tgt := 142) dX7_scanRun_138 (by decide) ?_
              refine go_ret (v := 2) rfl dX7_scanRun_142 (okI ⟨by omega, by omega⟩) ?_
              first | (exfalso; omega) | exact ⟨by rw [← hrn, rn1_f (by omega)]; unfold runK; rw [← hlc, if_pos (by omega), ← hdc]; first | rw [if_pos (by omega)] | rw [if_neg (by omega)], by rw [← hrn, rn1_f (by omega)]; unfold runV; rw [← hlc, if_pos (by omega), ← hdv]⟩
        · refine go_iload dX7_scanRun_120 rfl ?_
          refine go_i2l dX7_scanRun_122 ⟨by omega, by omega⟩ ?_
          refine go_goto (tgt := 127) dX7_scanRun_123 (by decide) ?_
          refine go_lastore dX7_scanRun_127 ar_6 (by omega) (by omega) (by first | exact hlR | exact ⟨by omega, by omega⟩) ?_
          refine go_iload_n dX7_scanRun_128 rfl ?_
          refine go_if_ne (tgt := 143) dX7_scanRun_129 (by decide) ⟨by omega, by omega⟩ (fun h_129 => ?_) (fun h_129 => ?_)
          · refine go_iload_n dX7_scanRun_143 rfl ?_
            refine go_if_ne (tgt := 161) dX7_scanRun_144 (by decide) ⟨by omega, by omega⟩ (fun h_144 => ?_) (fun h_144 => ?_)
            · refine go_iconst dX7_scanRun_161 ?_
              refine go_ret (v := 1) rfl dX7_scanRun_162 (okI ⟨by omega, by omega⟩) ?_
              first | (exfalso; omega) | exact ⟨by rw [← hrn, rn1_f (by omega)]; unfold runK; rw [← hlc, if_neg (by omega), ← hdc]; first | (rw [if_pos (by omega), ← hlv, hr_155]; rw [wr_row (by decide), e3]) | rw [if_neg (by omega)], by rw [← hrn, rn1_f (by omega)]; unfold runV; rw [← hlc, if_neg (by omega), ← hlv]⟩
            · refine go_iload_n dX7_scanRun_147 rfl ?_
              refine go_bipush dX7_scanRun_148 (by decide) ?_
              refine go_icmp_gt (tgt := 161) dX7_scanRun_150 (by decide) ⟨by omega, by omega⟩ ⟨by omega, by omega⟩ (fun h_150 => ?_) (fun h_150 => ?_)
              · refine go_iconst dX7_scanRun_161 ?_
                refine go_ret (v := 1) rfl dX7_scanRun_162 (okI ⟨by omega, by omega⟩) ?_
                first | (exfalso; omega) | exact ⟨by rw [← hrn, rn1_f (by omega)]; unfold runK; rw [← hlc, if_neg (by omega), ← hdc]; first | (rw [if_pos (by omega), ← hlv, hr_155]; rw [wr_row (by decide), e3]) | rw [if_neg (by omega)], by rw [← hrn, rn1_f (by omega)]; unfold runV; rw [← hlc, if_neg (by omega), ← hlv]⟩
              · refine go_aload_n dX7_scanRun_153 rfl ?_
                refine go_lload_n dX7_scanRun_154 rfl ?_
                refine go_callVp_i (as := [vl lv]) (S := []) (b := 1) (ev_X7_kindOfWord (m := (wr (wr m 1 13 a) 6 (m 1 11) dv)) (v := lv) (by first | assumption | omega | exact ⟨by omega, by omega⟩ | (constructor <;> omega))) rfl dX7_scanRun_155 cv_7_109 rfl rfl ob_1 rfl (by decide) (Nat.le_of_ble_eq_true rfl) (fun r_155 hr_155 ho_155 => ?_)
                refine go_goto (tgt := 162) dX7_scanRun_158 (by decide) ?_
                refine go_ret (v := r_155) rfl dX7_scanRun_162 (okI ⟨by omega, by omega⟩) ?_
                first | (exfalso; omega) | exact ⟨by rw [← hrn, rn1_f (by omega)]; unfold runK; rw [← hlc, if_neg (by omega), ← hdc]; first | (rw [if_pos (by omega), ← hlv, hr_155]; rw [wr_row (by decide), e3]) | rw [if_neg (by omega)], by rw [← hrn, rn1_f (by omega)]; unfold runV; rw [← hlc, if_neg (by omega), ← hlv]⟩
          · refine go_iload_n dX7_scanRun_132 rfl ?_
            refine go_iconst dX7_scanRun_133 ?_
            refine go_icmp_gt (tgt := 141) dX7_scanRun_134 (by decide) ⟨by omega, by omega⟩ ⟨by omega, by omega⟩ (fun h_134 => ?_) (fun h_134 => ?_)
            · refine go_iconst dX7_scanRun_141 ?_
              refine go_ret (v := 1) rfl dX7_scanRun_142 (okI ⟨by omega, by omega⟩) ?_
              first | (exfalso; omega) | exact ⟨by rw [← hrn, rn1_f (by omega)]; unfold runK; rw [← hlc, if_pos (by omega), ← hdc]; first | rw [if_pos (by omega)] | rw [if_neg (by omega)], by rw [← hrn, rn1_f (by omega)]; unfold runV; rw [← hlc, if_pos (by omega), ← hdv]⟩
            · refine go_iconst dX7_scanRun_137 ?_
              refine go_goto (tgt := 142) dX7_scanRun_138 (by decide) ?_
              refine go_ret (v := 2) rfl dX7_scanRun_142 (okI ⟨by omega, by omega⟩) ?_
              first | (exfalso; omega) | exact ⟨by rw [← hrn, rn1_f (by omega)]; unfold runK; rw [← hlc, if_pos (by omega), ← hdc]; first | rw [if_pos (by omega)] | rw [if_neg (by omega)], by rw [← hrn, rn1_f (by omega)]; unfold runV; rw [← hlc, if_pos (by omega), ← hdv]⟩
      · refine go_aload_n dX7_scanRun_20 rfl ?_
        refine go_aload_n dX7_scanRun_21 rfl ?_
        refine go_getf_i (ki := 13) dX7_scanRun_22 fl_7_59 ob_1 rfl rfl (fun hf_22 => ?_)
        rw [show ((wr m 1 13 a) 1 13 : Int) = a from by rw [wr_self]] at hf_22 ⊢
        refine go_callVp_i (as := [vi a]) (S := []) (b := 1) (ev_X7_byteOf (m := (wr m 1 13 a)) (i := a) (by rw [esz]; exact hsz) (by first | assumption | omega | exact ⟨by omega, by omega⟩ | (constructor <;> omega))) rfl dX7_scanRun_25 cv_7_89 rfl rfl ob_1 rfl (by decide) (Nat.le_of_ble_eq_true rfl) (fun r_25 hr_25 ho_25 => ?_)
        rw [etx, esz, if_pos (by omega)] at hr_25
        have h255 : 0 ≤ tx m a ∧ tx m a ≤ 255 := iand255 _
        refine go_callSp_z (as := [vi r_25]) (S := []) (ev_X7_isLetter (m := (wr m 1 13 a)) (c := r_25) (by first | assumption | omega | exact ⟨by omega, by omega⟩ | (constructor <;> omega))) rfl dX7_scanRun_28 cs_7_92 rfl rfl (by decide) (Nat.le_of_ble_eq_true rfl) (fun r_28 hr_28 ho_28 => ?_)
        refine go_if_ne (tgt := 48) dX7_scanRun_31 (by decide) ⟨by omega, by omega⟩ (fun h_31 => ?_) (fun h_31 => ?_)
        · refine go_aload_n dX7_scanRun_48 rfl ?_
          refine go_aload_n dX7_scanRun_49 rfl ?_
          refine go_getf_i (ki := 13) dX7_scanRun_50 fl_7_59 ob_1 rfl rfl (fun hf_50 => ?_)
          rw [show ((wr m 1 13 a) 1 13 : Int) = a from by rw [wr_self]] at hf_50 ⊢
          refine go_callVp_i (as := [vi a]) (S := []) (b := 1) (ev_X7_byteOf (m := (wr m 1 13 a)) (i := a) (by rw [esz]; exact hsz) (by first | assumption | omega | exact ⟨by omega, by omega⟩ | (constructor <;> omega))) rfl dX7_scanRun_53 cv_7_89 rfl rfl ob_1 rfl (by decide) (Nat.le_of_ble_eq_true rfl) (fun r_53 hr_53 ho_53 => ?_)
          rw [etx, esz, if_pos (by omega)] at hr_53
          refine go_istore (L' := [vr 1, vi lc, vi dc, vl lv, un, vi dv, vi r_53]) dX7_scanRun_56 (by decide) rfl rfl ?_
          refine go_iload dX7_scanRun_58 rfl ?_
          refine go_callSp_z (as := [vi r_53]) (S := []) (ev_X7_isLetter (m := (wr m 1 13 a)) (c := r_53) (by first | assumption | omega | exact ⟨by omega, by omega⟩ | (constructor <;> omega))) rfl dX7_scanRun_60 cs_7_92 rfl rfl (by decide) (Nat.le_of_ble_eq_true rfl) (fun r_60 hr_60 ho_60 => ?_)
          refine go_if_eq (tgt := 79) dX7_scanRun_63 (by decide) ⟨by omega, by omega⟩ (fun h_63 => ?_) (fun h_63 => ?_)
          · refine go_iinc (L' := [vr 1, vi lc, vi (dc + 1), vl lv, un, vi dv, vi r_53]) dX7_scanRun_79 rfl (by decide) rfl rfl ?_
            refine go_bipush dX7_scanRun_82 (by decide) ?_
            refine go_iload dX7_scanRun_84 rfl ?_
            refine go_imul dX7_scanRun_86 ?_
            refine go_iload dX7_scanRun_87 rfl ?_
            refine go_iadd dX7_scanRun_89 ?_
            refine go_bipush dX7_scanRun_90 (by decide) ?_
            refine go_isub dX7_scanRun_92 ?_
            refine go_wrap ?_
            refine go_istore (L' := [vr 1, vi lc, vi (dc + 1), vl lv, un, vi (w32 (((10 * dv) + r_53) - 48)), vi r_53]) dX7_scanRun_93 (by decide) rfl rfl ?_
            refine go_aload_n dX7_scanRun_95 rfl ?_
            refine go_dup_r dX7_scanRun_96 ?_
            refine go_getf_i (ki := 13) dX7_scanRun_97 fl_7_59 ob_1 rfl rfl (fun hf_97 => ?_)
            rw [show ((wr m 1 13 a) 1 13 : Int) = a from by rw [wr_self]] at hf_97 ⊢
            refine go_iconst dX7_scanRun_100 ?_
            refine go_iadd dX7_scanRun_101 ?_
            refine go_putf_i (ki := 13) dX7_scanRun_102 fw_7_59 ob_1 rfl rfl ⟨by omega, by omega⟩ ?_
            refine go_goto (tgt := 9) dX7_scanRun_105 (by decide) ?_
            refine go_drop (j := 6) (L' := [vr 1, vi lc, vi (dc + 1), vl lv, un, vi (w32 (((10 * dv) + r_53) - 48)), un]) rfl ?_
            first | (exfalso; omega) | exact ih_9 (wr (wr m 1 13 a) 1 13 (a + 1)) lc (dc + 1) lv (w32 (((10 * dv) + r_53) - 48)) (a + 1) (by first | assumption | omega | rfl) (by first | assumption | omega | rfl) wr_wr (by rw [← hrn]; exact (rn1_t (by omega) (by omega)).symm) (by rw [lcN_s ha0, ← hlc]; first | rw [if_pos (by omega)] | (rw [if_neg (by omega)]; omega)) (by rw [dcN_s ha0, ← hdc]; first | (rw [if_pos (by omega)]; omega) | rw [if_neg (by omega)]) (by rw [lvN_s ha0, ← hlv]; first | rw [if_neg (by omega)] | (rw [if_pos (by omega), hr_72, hr_53])) (by rw [dvN_s ha0, ← hdv]; first | rw [if_pos (by omega)] | (rw [if_neg (by omega), hr_53])) (by omega)
          · refine go_iinc (L' := [vr 1, vi (lc + 1), vi dc, vl lv, un, vi dv, vi r_53]) dX7_scanRun_66 rfl (by decide) rfl rfl ?_
            refine go_lload_n dX7_scanRun_69 rfl ?_
            refine go_iload dX7_scanRun_70 rfl ?_
            refine go_callSp_l (as := [vl lv, vi r_53]) (S := []) (ev_X11_packLetter (m := (wr m 1 13 a)) (v := lv) (c := r_53) (by first | assumption | omega | exact ⟨by omega, by omega⟩ | (constructor <;> omega)) (by first | assumption | omega | exact ⟨by omega, by omega⟩ | (constructor <;> omega))) rfl dX7_scanRun_72 cs_7_105 rfl rfl (by decide) (Nat.le_of_ble_eq_true rfl) (fun r_72 hr_72 ho_72 => ?_)
            refine go_lstore_n (L' := [vr 1, vi (lc + 1), vi dc, vl r_72, un, vi dv, vi r_53]) dX7_scanRun_75 (by decide) rfl rfl ?_
            refine go_goto (tgt := 95) dX7_scanRun_76 (by decide) ?_
            refine go_aload_n dX7_scanRun_95 rfl ?_
            refine go_dup_r dX7_scanRun_96 ?_
            refine go_getf_i (ki := 13) dX7_scanRun_97 fl_7_59 ob_1 rfl rfl (fun hf_97 => ?_)
            rw [show ((wr m 1 13 a) 1 13 : Int) = a from by rw [wr_self]] at hf_97 ⊢
            refine go_iconst dX7_scanRun_100 ?_
            refine go_iadd dX7_scanRun_101 ?_
            refine go_putf_i (ki := 13) dX7_scanRun_102 fw_7_59 ob_1 rfl rfl ⟨by omega, by omega⟩ ?_
            refine go_goto (tgt := 9) dX7_scanRun_105 (by decide) ?_
            refine go_drop (j := 6) (L' := [vr 1, vi (lc + 1), vi dc, vl r_72, un, vi dv, un]) rfl ?_
            first | (exfalso; omega) | exact ih_9 (wr (wr m 1 13 a) 1 13 (a + 1)) (lc + 1) dc r_72 dv (a + 1) (by first | assumption | omega | rfl) (by first | assumption | omega | rfl) wr_wr (by rw [← hrn]; exact (rn1_t (by omega) (by omega)).symm) (by rw [lcN_s ha0, ← hlc]; first | rw [if_pos (by omega)] | (rw [if_neg (by omega)]; omega)) (by rw [dcN_s ha0, ← hdc]; first | (rw [if_pos (by omega)]; omega) | rw [if_neg (by omega)]) (by rw [lvN_s ha0, ← hlv]; first | rw [if_neg (by omega)] | (rw [if_pos (by omega), hr_72, hr_53])) (by rw [dvN_s ha0, ← hdv]; first | rw [if_pos (by omega)] | (rw [if_neg (by omega), hr_53])) (by omega)
        · refine go_aload_n dX7_scanRun_34 rfl ?_
          refine go_aload_n dX7_scanRun_35 rfl ?_
          refine go_getf_i (ki := 13) dX7_scanRun_36 fl_7_59 ob_1 rfl rfl (fun hf_36 => ?_)
          rw [show ((wr m 1 13 a) 1 13 : Int) = a from by rw [wr_self]] at hf_36 ⊢
          refine go_callVp_i (as := [vi a]) (S := []) (b := 1) (ev_X7_byteOf (m := (wr m 1 13 a)) (i := a) (by rw [esz]; exact hsz) (by first | assumption | omega | exact ⟨by omega, by omega⟩ | (constructor <;> omega))) rfl dX7_scanRun_39 cv_7_89 rfl rfl ob_1 rfl (by decide) (Nat.le_of_ble_eq_true rfl) (fun r_39 hr_39 ho_39 => ?_)
          rw [etx, esz, if_pos (by omega)] at hr_39
          refine go_callSp_z (as := [vi r_39]) (S := []) (ev_X7_isDigit (m := (wr m 1 13 a)) (c := r_39) (by first | assumption | omega | exact ⟨by omega, by omega⟩ | (constructor <;> omega))) rfl dX7_scanRun_42 cs_7_95 rfl rfl (by decide) (Nat.le_of_ble_eq_true rfl) (fun r_42 hr_42 ho_42 => ?_)
          refine go_if_eq (tgt := 108) dX7_scanRun_45 (by decide) ⟨by omega, by omega⟩ (fun h_45 => ?_) (fun h_45 => ?_)
          · refine go_aload_n dX7_scanRun_108 rfl ?_
            refine go_getf_p (b := 6) dX7_scanRun_109 fl_7_50 ob_1 rfl pt_1_10 ?_
            refine go_aload_n dX7_scanRun_112 rfl ?_
            refine go_getf_i (ki := 11) dX7_scanRun_113 fl_7_53 ob_1 rfl rfl (fun hf_113 => ?_)
            rw [show ((wr m 1 13 a) 1 11 : Int) = (m 1 11) from by rw [wr_ni (by decide)]] at hf_113 ⊢
            refine go_iload_n dX7_scanRun_116 rfl ?_
            refine go_if_ne (tgt := 126) dX7_scanRun_117 (by decide) ⟨by omega, by omega⟩ (fun h_117 => ?_) (fun h_117 => ?_)
            · refine go_lload_n dX7_scanRun_126 rfl ?_
              refine go_lastore dX7_scanRun_127 ar_6 (by omega) (by omega) (by first | exact hlR | exact ⟨by omega, by omega⟩) ?_
              refine go_iload_n dX7_scanRun_128 rfl ?_
              refine go_if_ne (tgt := 143) dX7_scanRun_129 (by decide) ⟨by omega, by omega⟩ (fun h_129 => ?_) (fun h_129 => ?_)
              · refine go_iload_n dX7_scanRun_143 rfl ?_
                refine go_if_ne (tgt := 161) dX7_scanRun_144 (by decide) ⟨by omega, by omega⟩ (fun h_144 => ?_) (fun h_144 => ?_)
                · refine go_iconst dX7_scanRun_161 ?_
                  refine go_ret (v := 1) rfl dX7_scanRun_162 (okI ⟨by omega, by omega⟩) ?_
                  first | (exfalso; omega) | exact ⟨by rw [← hrn, rn1_f (by omega)]; unfold runK; rw [← hlc, if_neg (by omega), ← hdc]; first | (rw [if_pos (by omega), ← hlv, hr_155]; rw [wr_row (by decide), e3]) | rw [if_neg (by omega)], by rw [← hrn, rn1_f (by omega)]; unfold runV; rw [← hlc, if_neg (by omega), ← hlv]⟩
                · refine go_iload_n dX7_scanRun_147 rfl ?_
                  refine go_bipush dX7_scanRun_148 (by decide) ?_
                  refine go_icmp_gt (tgt := 161) dX7_scanRun_150 (by decide) ⟨by omega, by omega⟩ ⟨by omega, by omega⟩ (fun h_150 => ?_) (fun h_150 => ?_)
                  · refine go_iconst dX7_scanRun_161 ?_
                    refine go_ret (v := 1) rfl dX7_scanRun_162 (okI ⟨by omega, by omega⟩) ?_
                    first | (exfalso; omega) | exact ⟨by rw [← hrn, rn1_f (by omega)]; unfold runK; rw [← hlc, if_neg (by omega), ← hdc]; first | (rw [if_pos (by omega), ← hlv, hr_155]; rw [wr_row (by decide), e3]) | rw [if_neg (by omega)], by rw [← hrn, rn1_f (by omega)]; unfold runV; rw [← hlc, if_neg (by omega), ← hlv]⟩
                  · refine go_aload_n dX7_scanRun_153 rfl ?_
                    refine go_lload_n dX7_scanRun_154 rfl ?_
                    refine go_callVp_i (as := [vl lv]) (S := []) (b := 1) (ev_X7_kindOfWord (m := (wr (wr m 1 13 a) 6 (m 1 11) lv)) (v := lv) (by first | assumption | omega | exact ⟨by omega, by omega⟩ | (constructor <;> omega))) rfl dX7_scanRun_155 cv_7_109 rfl rfl ob_1 rfl (by decide) (Nat.le_of_ble_eq_true rfl) (fun r_155 hr_155 ho_155 => ?_)
                    refine go_goto (tgt := 162) dX7_scanRun_158 (by decide) ?_
                    refine go_ret (v := r_155) rfl dX7_scanRun_162 (okI ⟨by omega, by omega⟩) ?_
                    first | (exfalso; omega) | exact ⟨by rw [← hrn, rn1_f (by omega)]; unfold runK; rw [← hlc, if_neg (by omega), ← hdc]; first | (rw [if_pos (by omega), ← hlv, hr_155]; rw [wr_row (by decide), e3]) | rw [if_neg (by omega)], by rw [← hrn, rn1_f (by omega)]; unfold runV; rw [← hlc, if_neg (by omega), ← hlv]⟩
              · refine go_iload_n dX7_scanRun_132 rfl ?_
                refine go_iconst dX7_scanRun_133 ?_
                refine go_icmp_gt (tgt := 141) dX7_scanRun_134 (by decide) ⟨by omega, by omega⟩ ⟨by omega, by omega⟩ (fun h_134 => ?_) (fun h_134 => ?_)
                · refine go_iconst dX7_scanRun_141 ?_
                  refine go_ret (v := 1) rfl dX7_scanRun_142 (okI ⟨by omega, by omega⟩) ?_
                  first | (exfalso; omega) | exact ⟨by rw [← hrn, rn1_f (by omega)]; unfold runK; rw [← hlc, if_pos (by omega), ← hdc]; first | rw [if_pos (by omega)] | rw [if_neg (by omega)], by rw [← hrn, rn1_f (by omega)]; unfold runV; rw [← hlc, if_pos (by omega), ← hdv]⟩
                · refine go_iconst dX7_scanRun_137 ?_
                  refine go_goto (tgt := 142) dX7_scanRun_138 (by decide) ?_
                  refine go_ret (v := 2) rfl dX7_scanRun_142 (okI ⟨by omega, by omega⟩) ?_
                  first | (exfalso; omega) | exact ⟨by rw [← hrn, rn1_f (by omega)]; unfold runK; rw [← hlc, if_pos (by omega), ← hdc]; first | rw [if_pos (by omega)] | rw [if_neg (by omega)], by rw [← hrn, rn1_f (by omega)]; unfold runV; rw [← hlc, if_pos (by omega), ← hdv]⟩
            · refine go_iload dX7_scanRun_120 rfl ?_
              refine go_i2l dX7_scanRun_122 ⟨by omega, by omega⟩ ?_
              refine go_goto (tgt := 127) dX7_scanRun_123 (by decide) ?_
              refine go_lastore dX7_scanRun_127 ar_6 (by omega) (by omega) (by first | exact hlR | exact ⟨by omega, by omega⟩) ?_
              refine go_iload_n dX7_scanRun_128 rfl ?_
              refine go_if_ne (tgt := 143) dX7_scanRun_129 (by decide) ⟨by omega, by omega⟩ (fun h_129 => ?_) (fun h_129 => ?_)
              · refine go_iload_n dX7_scanRun_143 rfl ?_
                refine go_if_ne (tgt := 161) dX7_scanRun_144 (by decide) ⟨by omega, by omega⟩ (fun h_144 => ?_) (fun h_144 => ?_)
                · refine go_iconst dX7_scanRun_161 ?_
                  refine go_ret (v := 1) rfl dX7_scanRun_162 (okI ⟨by omega, by omega⟩) ?_
                  first | (exfalso; omega) | exact ⟨by rw [← hrn, rn1_f (by omega)]; unfold runK; rw [← hlc, if_neg (by omega), ← hdc]; first | (rw [if_pos (by omega), ← hlv, hr_155]; rw [wr_row (by decide), e3]) | rw [if_neg (by omega)], by rw [← hrn, rn1_f (by omega)]; unfold runV; rw [← hlc, if_neg (by omega), ← hlv]⟩
                · refine go_iload_n dX7_scanRun_147 rfl ?_
                  refine go_bipush dX7_scanRun_148 (by decide) ?_
                  refine go_icmp_gt (tgt := 161) dX7_scanRun_150 (by decide) ⟨by omega, by omega⟩ ⟨by omega, by omega⟩ (fun h_150 => ?_) (fun h_150 => ?_)
                  · refine go_iconst dX7_scanRun_161 ?_
                    refine go_ret (v := 1) rfl dX7_scanRun_162 (okI ⟨by omega, by omega⟩) ?_
                    first | (exfalso; omega) | exact ⟨by rw [← hrn, rn1_f (by omega)]; unfold runK; rw [← hlc, if_neg (by omega), ← hdc]; first | (rw [if_pos (by omega), ← hlv, hr_155]; rw [wr_row (by decide), e3]) | rw [if_neg (by omega)], by rw [← hrn, rn1_f (by omega)]; unfold runV; rw [← hlc, if_neg (by omega), ← hlv]⟩
                  · refine go_aload_n dX7_scanRun_153 rfl ?_
                    refine go_lload_n dX7_scanRun_154 rfl ?_
                    refine go_callVp_i (as := [vl lv]) (S := []) (b := 1) (ev_X7_kindOfWord (m := (wr (wr m 1 13 a) 6 (m 1 11) dv)) (v := lv) (by first | assumption | omega | exact ⟨by omega, by omega⟩ | (constructor <;> omega))) rfl dX7_scanRun_155 cv_7_109 rfl rfl ob_1 rfl (by decide) (Nat.le_of_ble_eq_true rfl) (fun r_155 hr_155 ho_155 => ?_)
                    refine go_goto (tgt := 162) dX7_scanRun_158 (by decide) ?_
                    refine go_ret (v := r_155) rfl dX7_scanRun_162 (okI ⟨by omega, by omega⟩) ?_
                    first | (exfalso; omega) | exact ⟨by rw [← hrn, rn1_f (by omega)]; unfold runK; rw [← hlc, if_neg (by omega), ← hdc]; first | (rw [if_pos (by omega), ← hlv, hr_155]; rw [wr_row (by decide), e3]) | rw [if_neg (by omega)], by rw [← hrn, rn1_f (by omega)]; unfold runV; rw [← hlc, if_neg (by omega), ← hlv]⟩
              · refine go_iload_n dX7_scanRun_132 rfl ?_
                refine go_iconst dX7_scanRun_133 ?_
                refine go_icmp_gt (tgt := 141) dX7_scanRun_134 (by decide) ⟨by omega, by omega⟩ ⟨by omega, by omega⟩ (fun h_134 => ?_) (fun h_134 => ?_)
                · refine go_iconst dX7_scanRun_141 ?_
                  refine go_ret (v := 1) rfl dX7_scanRun_142 (okI ⟨by omega, by omega⟩) ?_
                  first | (exfalso; omega) | exact ⟨by rw [← hrn, rn1_f (by omega)]; unfold runK; rw [← hlc, if_pos (by omega), ← hdc]; first | rw [if_pos (by omega)] | rw [if_neg (by omega)], by rw [← hrn, rn1_f (by omega)]; unfold runV; rw [← hlc, if_pos (by omega), ← hdv]⟩
                · refine go_iconst dX7_scanRun_137 ?_
                  refine go_goto (tgt := 142) dX7_scanRun_138 (by decide) ?_
                  refine go_ret (v := 2) rfl dX7_scanRun_142 (okI ⟨by omega, by omega⟩) ?_
                  first | (exfalso; omega) | exact ⟨by rw [← hrn, rn1_f (by omega)]; unfold runK; rw [← hlc, if_pos (by omega), ← hdc]; first | rw [if_pos (by omega)] | rw [if_neg (by omega)], by rw [← hrn, rn1_f (by omega)]; unfold runV; rw [← hlc, if_pos (by omega), ← hdv]⟩
          · refine go_aload_n dX7_scanRun_48 rfl ?_
            refine go_aload_n dX7_scanRun_49 rfl ?_
            refine go_getf_i (ki := 13) dX7_scanRun_50 fl_7_59 ob_1 rfl rfl (fun hf_50 => ?_)
            rw [show ((wr m 1 13 a) 1 13 : Int) = a from by rw [wr_self]] at hf_50 ⊢
            refine go_callVp_i (as := [vi a]) (S := []) (b := 1) (ev_X7_byteOf (m := (wr m 1 13 a)) (i := a) (by rw [esz]; exact hsz) (by first | assumption | omega | exact ⟨by omega, by omega⟩ | (constructor <;> omega))) rfl dX7_scanRun_53 cv_7_89 rfl rfl ob_1 rfl (by decide) (Nat.le_of_ble_eq_true rfl) (fun r_53 hr_53 ho_53 => ?_)
            rw [etx, esz, if_pos (by omega)] at hr_53
            refine go_istore (L' := [vr 1, vi lc, vi dc, vl lv, un, vi dv, vi r_53]) dX7_scanRun_56 (by decide) rfl rfl ?_
            refine go_iload dX7_scanRun_58 rfl ?_
            refine go_callSp_z (as := [vi r_53]) (S := []) (ev_X7_isLetter (m := (wr m 1 13 a)) (c := r_53) (by first | assumption | omega | exact ⟨by omega, by omega⟩ | (constructor <;> omega))) rfl dX7_scanRun_60 cs_7_92 rfl rfl (by decide) (Nat.le_of_ble_eq_true rfl) (fun r_60 hr_60 ho_60 => ?_)
            refine go_if_eq (tgt := 79) dX7_scanRun_63 (by decide) ⟨by omega, by omega⟩ (fun h_63 => ?_) (fun h_63 => ?_)
            · refine go_iinc (L' := [vr 1, vi lc, vi (dc + 1), vl lv, un, vi dv, vi r_53]) dX7_scanRun_79 rfl (by decide) rfl rfl ?_
              refine go_bipush dX7_scanRun_82 (by decide) ?_
              refine go_iload dX7_scanRun_84 rfl ?_
              refine go_imul dX7_scanRun_86 ?_
              refine go_iload dX7_scanRun_87 rfl ?_
              refine go_iadd dX7_scanRun_89 ?_
              refine go_bipush dX7_scanRun_90 (by decide) ?_
              refine go_isub dX7_scanRun_92 ?_
              refine go_wrap ?_
              refine go_istore (L' := [vr 1, vi lc, vi (dc + 1), vl lv, un, vi (w32 (((10 * dv) + r_53) - 48)), vi r_53]) dX7_scanRun_93 (by decide) rfl rfl ?_
              refine go_aload_n dX7_scanRun_95 rfl ?_
              refine go_dup_r dX7_scanRun_96 ?_
              refine go_getf_i (ki := 13) dX7_scanRun_97 fl_7_59 ob_1 rfl rfl (fun hf_97 => ?_)
              rw [show ((wr m 1 13 a) 1 13 : Int) = a from by rw [wr_self]] at hf_97 ⊢
              refine go_iconst dX7_scanRun_100 ?_
              refine go_iadd dX7_scanRun_101 ?_
              refine go_putf_i (ki := 13) dX7_scanRun_102 fw_7_59 ob_1 rfl rfl ⟨by omega, by omega⟩ ?_
              refine go_goto (tgt := 9) dX7_scanRun_105 (by decide) ?_
              refine go_drop (j := 6) (L' := [vr 1, vi lc, vi (dc + 1), vl lv, un, vi (w32 (((10 * dv) + r_53) - 48)), un]) rfl ?_
              first | (exfalso; omega) | exact ih_9 (wr (wr m 1 13 a) 1 13 (a + 1)) lc (dc + 1) lv (w32 (((10 * dv) + r_53) - 48)) (a + 1) (by first | assumption | omega | rfl) (by first | assumption | omega | rfl) wr_wr (by rw [← hrn]; exact (rn1_t (by omega) (by omega)).symm) (by rw [lcN_s ha0, ← hlc]; first | rw [if_pos (by omega)] | (rw [if_neg (by omega)]; omega)) (by rw [dcN_s ha0, ← hdc]; first | (rw [if_pos (by omega)]; omega) | rw [if_neg (by omega)]) (by rw [lvN_s ha0, ← hlv]; first | rw [if_neg (by omega)] | (rw [if_pos (by omega), hr_72, hr_53])) (by rw [dvN_s ha0, ← hdv]; first | rw [if_pos (by omega)] | (rw [if_neg (by omega), hr_53])) (by omega)
            · refine go_iinc (L' := [vr 1, vi (lc + 1), vi dc, vl lv, un, vi dv, vi r_53]) dX7_scanRun_66 rfl (by decide) rfl rfl ?_
              refine go_lload_n dX7_scanRun_69 rfl ?_
              refine go_iload dX7_scanRun_70 rfl ?_
              refine go_callSp_l (as := [vl lv, vi r_53]) (S := []) (ev_X11_packLetter (m := (wr m 1 13 a)) (v := lv) (c := r_53) (by first | assumption | omega | exact ⟨by omega, by omega⟩ | (constructor <;> omega)) (by first | assumption | omega | exact ⟨by omega, by omega⟩ | (constructor <;> omega))) rfl dX7_scanRun_72 cs_7_105 rfl rfl (by decide) (Nat.le_of_ble_eq_true rfl) (fun r_72 hr_72 ho_72 => ?_)
              refine go_lstore_n (L' := [vr 1, vi (lc + 1), vi dc, vl r_72, un, vi dv, vi r_53]) dX7_scanRun_75 (by decide) rfl rfl ?_
              refine go_goto (tgt := 95) dX7_scanRun_76 (by decide) ?_
              refine go_aload_n dX7_scanRun_95 rfl ?_
              refine go_dup_r dX7_scanRun_96 ?_
              refine go_getf_i (ki := 13) dX7_scanRun_97 fl_7_59 ob_1 rfl rfl (fun hf_97 => ?_)
              rw [show ((wr m 1 13 a) 1 13 : Int) = a from by rw [wr_self]] at hf_97 ⊢
              refine go_iconst dX7_scanRun_100 ?_
              refine go_iadd dX7_scanRun_101 ?_
              refine go_putf_i (ki := 13) dX7_scanRun_102 fw_7_59 ob_1 rfl rfl ⟨by omega, by omega⟩ ?_
              refine go_goto (tgt := 9) dX7_scanRun_105 (by decide) ?_
              refine go_drop (j := 6) (L' := [vr 1, vi (lc + 1), vi dc, vl r_72, un, vi dv, un]) rfl ?_
              first | (exfalso; omega) | exact ih_9 (wr (wr m 1 13 a) 1 13 (a + 1)) (lc + 1) dc r_72 dv (a + 1) (by first | assumption | omega | rfl) (by first | assumption | omega | rfl) wr_wr (by rw [← hrn]; exact (rn1_t (by omega) (by omega)).symm) (by rw [lcN_s ha0, ← hlc]; first | rw [if_pos (by omega)] | (rw [if_neg (by omega)]; omega)) (by rw [dcN_s ha0, ← hdc]; first | (rw [if_pos (by omega)]; omega) | rw [if_neg (by omega)]) (by rw [lvN_s ha0, ← hlv]; first | rw [if_neg (by omega)] | (rw [if_pos (by omega), hr_72, hr_53])) (by rw [dvN_s ha0, ← hdv]; first | rw [if_pos (by omega)] | (rw [if_neg (by omega), hr_53])) (by omega)
  exact lp_9 _ m 0 0 0 0 (m 1 13) (by first | assumption | omega | rfl) (by first | assumption | omega | rfl) wr_id.symm rfl (by rw [Int.sub_self]; rfl) (by rw [Int.sub_self]; rfl) (by rw [Int.sub_self]; rfl) (by rw [Int.sub_self]; rfl) (Nat.lt_succ_self _)
theorem dX7_scanToken_0 : decode mX7_scanToken.2.1 0 = .ok (.aload_n 0, 1) := by decide +kernel
theorem dX7_scanToken_1 : decode mX7_scanToken.2.1 1 = .ok (.getfield 59, 3) := by decide +kernel
theorem dX7_scanToken_4 : decode mX7_scanToken.2.1 4 = .ok (.aload_n 0, 1) := by decide +kernel
theorem dX7_scanToken_5 : decode mX7_scanToken.2.1 5 = .ok (.getfield 15, 3) := by decide +kernel
theorem dX7_scanToken_8 : decode mX7_scanToken.2.1 8 = .ok (.if_icmp .lt 17, 3) := by decide +kernel
theorem dX7_scanToken_11 : decode mX7_scanToken.2.1 11 = .ok (.aload_n 0, 1) := by decide +kernel
theorem dX7_scanToken_12 : decode mX7_scanToken.2.1 12 = .ok (.getfield 15, 3) := by decide +kernel
theorem dX7_scanToken_15 : decode mX7_scanToken.2.1 15 = .ok (.iload_n 1, 1) := by decide +kernel
theorem dX7_scanToken_16 : decode mX7_scanToken.2.1 16 = .ok (.if_icmp .le 7, 3) := by decide +kernel
theorem dX7_scanToken_19 : decode mX7_scanToken.2.1 19 = .ok (.iconst 1, 1) := by decide +kernel
theorem dX7_scanToken_20 : decode mX7_scanToken.2.1 20 = .ok (.goto 4, 3) := by decide +kernel
theorem dX7_scanToken_23 : decode mX7_scanToken.2.1 23 = .ok (.iconst 0, 1) := by decide +kernel
theorem dX7_scanToken_24 : decode mX7_scanToken.2.1 24 = .ok (.ireturn, 1) := by decide +kernel
theorem dX7_scanToken_25 : decode mX7_scanToken.2.1 25 = .ok (.aload_n 0, 1) := by decide +kernel
theorem dX7_scanToken_26 : decode mX7_scanToken.2.1 26 = .ok (.getfield 59, 3) := by decide +kernel
theorem dX7_scanToken_29 : decode mX7_scanToken.2.1 29 = .ok (.iload_n 1, 1) := by decide +kernel
theorem dX7_scanToken_30 : decode mX7_scanToken.2.1 30 = .ok (.if_icmp .lt 5, 3) := by decide +kernel
theorem dX7_scanToken_33 : decode mX7_scanToken.2.1 33 = .ok (.iconst 1, 1) := by decide +kernel
theorem dX7_scanToken_34 : decode mX7_scanToken.2.1 34 = .ok (.ireturn, 1) := by decide +kernel
theorem dX7_scanToken_35 : decode mX7_scanToken.2.1 35 = .ok (.aload_n 0, 1) := by decide +kernel
theorem dX7_scanToken_36 : decode mX7_scanToken.2.1 36 = .ok (.aload_n 0, 1) := by decide +kernel
theorem dX7_scanToken_37 : decode mX7_scanToken.2.1 37 = .ok (.getfield 59, 3) := by decide +kernel
theorem dX7_scanToken_40 : decode mX7_scanToken.2.1 40 = .ok (.invokevirtual 89, 3) := by decide +kernel
theorem dX7_scanToken_43 : decode mX7_scanToken.2.1 43 = .ok (.istore_n 2, 1) := by decide +kernel
theorem dX7_scanToken_44 : decode mX7_scanToken.2.1 44 = .ok (.iload_n 2, 1) := by decide +kernel
theorem dX7_scanToken_45 : decode mX7_scanToken.2.1 45 = .ok (.invokestatic 92, 3) := by decide +kernel
theorem dX7_scanToken_48 : decode mX7_scanToken.2.1 48 = .ok (.ifCond .ne 10, 3) := by decide +kernel
theorem dX7_scanToken_51 : decode mX7_scanToken.2.1 51 = .ok (.iload_n 2, 1) := by decide +kernel
theorem dX7_scanToken_52 : decode mX7_scanToken.2.1 52 = .ok (.invokestatic 95, 3) := by decide +kernel
theorem dX7_scanToken_55 : decode mX7_scanToken.2.1 55 = .ok (.ifCond .eq 8, 3) := by decide +kernel
theorem dX7_scanToken_58 : decode mX7_scanToken.2.1 58 = .ok (.aload_n 0, 1) := by decide +kernel
theorem dX7_scanToken_59 : decode mX7_scanToken.2.1 59 = .ok (.invokevirtual 98, 3) := by decide +kernel
theorem dX7_scanToken_62 : decode mX7_scanToken.2.1 62 = .ok (.ireturn, 1) := by decide +kernel
theorem dX7_scanToken_63 : decode mX7_scanToken.2.1 63 = .ok (.aload_n 0, 1) := by decide +kernel
theorem dX7_scanToken_64 : decode mX7_scanToken.2.1 64 = .ok (.dup, 1) := by decide +kernel
theorem dX7_scanToken_65 : decode mX7_scanToken.2.1 65 = .ok (.getfield 59, 3) := by decide +kernel
theorem dX7_scanToken_68 : decode mX7_scanToken.2.1 68 = .ok (.iconst 1, 1) := by decide +kernel
theorem dX7_scanToken_69 : decode mX7_scanToken.2.1 69 = .ok (.iadd, 1) := by decide +kernel
theorem dX7_scanToken_70 : decode mX7_scanToken.2.1 70 = .ok (.putfield 59, 3) := by decide +kernel
theorem dX7_scanToken_73 : decode mX7_scanToken.2.1 73 = .ok (.iload_n 2, 1) := by decide +kernel
theorem dX7_scanToken_74 : decode mX7_scanToken.2.1 74 = .ok (.invokestatic 102, 3) := by decide +kernel
theorem dX7_scanToken_77 : decode mX7_scanToken.2.1 77 = .ok (.ifCond .eq 7, 3) := by decide +kernel
theorem dX7_scanToken_80 : decode mX7_scanToken.2.1 80 = .ok (.iload_n 2, 1) := by decide +kernel
theorem dX7_scanToken_81 : decode mX7_scanToken.2.1 81 = .ok (.goto 4, 3) := by decide +kernel
theorem dX7_scanToken_84 : decode mX7_scanToken.2.1 84 = .ok (.iconst 1, 1) := by decide +kernel
theorem dX7_scanToken_85 : decode mX7_scanToken.2.1 85 = .ok (.ireturn, 1) := by decide +kernel
set_option maxRecDepth 4000 in
theorem ev_X7_scanToken {m : Mem} {lim : Int} (hsz : 0 ≤ m 1 1 ∧ m 1 1 ≤ 940) (ha : 0 ≤ m 1 13 ∧ m 1 13 ≤ m 1 1) (htk : 0 ≤ m 1 11 ∧ m 1 11 < 901) (hlim : 0 ≤ lim ∧ lim ≤ 900) : Ev 0 3 mX7_scanToken [vr 1, vi lim] m (fun r m' => r = tokK (tx m) (m 3) (m 1 1) lim (m 1 13) ∧ m' = (if m 1 13 < m 1 1 ∧ m 1 13 < lim ∧ (isL (tx m (m 1 13)) ∨ isD (tx m (m 1 13))) then wr (wr m 1 13 (rn1 (tx m) (m 1 1) (m 1 13))) 6 (m 1 11) (runV (tx m) (m 1 13) (rn1 (tx m) (m 1 1) (m 1 13))) else wr m 1 13 (tokE (tx m) (m 1 1) lim (m 1 13)))) := by
  refine Ev.of (L := [vr 1, vi lim, un]) (by decide +kernel) rfl (Nat.le_of_ble_eq_true rfl) rfl (fun t ht => by cases ht; first | exact Or.inl rfl | exact Or.inr (Or.inl rfl) | exact Or.inr (Or.inr rfl)) (fun hcan => ?_)
  refine go_aload_n dX7_scanToken_0 rfl ?_
  refine go_getf_i (ki := 13) dX7_scanToken_1 fl_7_59 ob_1 rfl rfl (fun hf_1 => ?_)
  refine go_aload_n dX7_scanToken_4 rfl ?_
  refine go_getf_i (ki := 1) dX7_scanToken_5 fl_7_15 ob_1 rfl rfl (fun hf_5 => ?_)
  refine go_icmp_lt (tgt := 25) dX7_scanToken_8 (by decide) ⟨by omega, by omega⟩ ⟨by omega, by omega⟩ (fun h_8 => ?_) (fun h_8 => ?_)
  · refine go_aload_n dX7_scanToken_25 rfl ?_
    refine go_getf_i (ki := 13) dX7_scanToken_26 fl_7_59 ob_1 rfl rfl (fun hf_26 => ?_)
    refine go_iload_n dX7_scanToken_29 rfl ?_
    refine go_icmp_lt (tgt := 35) dX7_scanToken_30 (by decide) ⟨by omega, by omega⟩ ⟨by omega, by omega⟩ (fun h_30 => ?_) (fun h_30 => ?_)
    · refine go_aload_n dX7_scanToken_35 rfl ?_
      refine go_aload_n dX7_scanToken_36 rfl ?_
      refine go_getf_i (ki := 13) dX7_scanToken_37 fl_7_59 ob_1 rfl rfl (fun hf_37 => ?_)
      refine go_callVp_i (as := [vi (m 1 13)]) (S := []) (b := 1) (ev_X7_byteOf (m := m) (i := (m 1 13)) (by first | assumption | omega | exact ⟨by omega, by omega⟩ | (constructor <;> omega)) (by first | assumption | omega | exact ⟨by omega, by omega⟩ | (constructor <;> omega))) rfl dX7_scanToken_40 cv_7_89 rfl rfl ob_1 rfl (by decide) (Nat.le_of_ble_eq_true rfl) (fun r_40 hr_40 ho_40 => ?_)
      rw [if_pos (by omega)] at hr_40
      have h255 : 0 ≤ tx m (m 1 13) ∧ tx m (m 1 13) ≤ 255 := iand255 _
      refine go_istore_n (L' := [vr 1, vi lim, vi r_40]) dX7_scanToken_43 (by decide) rfl rfl ?_
      refine go_iload_n dX7_scanToken_44 rfl ?_
      refine go_callSp_z (as := [vi r_40]) (S := []) (ev_X7_isLetter (m := m) (c := r_40) (by first | assumption | omega | exact ⟨by omega, by omega⟩ | (constructor <;> omega))) rfl dX7_scanToken_45 cs_7_92 rfl rfl (by decide) (Nat.le_of_ble_eq_true rfl) (fun r_45 hr_45 ho_45 => ?_)
      refine go_if_ne (tgt := 58) dX7_scanToken_48 (by decide) ⟨by omega, by omega⟩ (fun h_48 => ?_) (fun h_48 => ?_)
      · refine go_aload_n dX7_scanToken_58 rfl ?_
        refine go_callV_i (as := []) (S := []) (b := 1) (ev_X7_scanRun (m := m)  (by first | assumption | omega | exact ⟨by omega, by omega⟩ | (constructor <;> omega)) (by first | assumption | omega | exact ⟨by omega, by omega⟩ | (constructor <;> omega)) (by first | assumption | omega | exact ⟨by omega, by omega⟩ | (constructor <;> omega))) rfl dX7_scanToken_59 cv_7_98 rfl rfl ob_1 rfl (by decide) (Nat.le_of_ble_eq_true rfl) (fun r_59 m_59 hr_59 ho_59 => ?_)
        exact go_ret (v := r_59) rfl dX7_scanToken_62 (okI ⟨by omega, by omega⟩) ⟨by unfold tokK; rw [if_neg (by omega), if_neg (by omega), if_pos (by omega)]; exact hr_59.1, by rw [if_pos (by omega)]; exact hr_59.2⟩
      · refine go_iload_n dX7_scanToken_51 rfl ?_
        refine go_callSp_z (as := [vi r_40]) (S := []) (ev_X7_isDigit (m := m) (c := r_40) (by first | assumption | omega | exact ⟨by omega, by omega⟩ | (constructor <;> omega))) rfl dX7_scanToken_52 cs_7_95 rfl rfl (by decide) (Nat.le_of_ble_eq_true rfl) (fun r_52 hr_52 ho_52 => ?_)
        refine go_if_eq (tgt := 63) dX7_scanToken_55 (by decide) ⟨by omega, by omega⟩ (fun h_55 => ?_) (fun h_55 => ?_)
        · refine go_aload_n dX7_scanToken_63 rfl ?_
          refine go_dup_r dX7_scanToken_64 ?_
          refine go_getf_i (ki := 13) dX7_scanToken_65 fl_7_59 ob_1 rfl rfl (fun hf_65 => ?_)
          refine go_iconst dX7_scanToken_68 ?_
          refine go_iadd dX7_scanToken_69 ?_
          refine go_putf_i (ki := 13) dX7_scanToken_70 fw_7_59 ob_1 rfl rfl ⟨by omega, by omega⟩ ?_
          refine go_iload_n dX7_scanToken_73 rfl ?_
          refine go_callSp_z (as := [vi r_40]) (S := []) (ev_X7_isSign (m := (wr m 1 13 ((m 1 13) + 1))) (c := r_40) (by first | assumption | omega | exact ⟨by omega, by omega⟩ | (constructor <;> omega))) rfl dX7_scanToken_74 cs_7_102 rfl rfl (by decide) (Nat.le_of_ble_eq_true rfl) (fun r_74 hr_74 ho_74 => ?_)
          refine go_if_eq (tgt := 84) dX7_scanToken_77 (by decide) ⟨by omega, by omega⟩ (fun h_77 => ?_) (fun h_77 => ?_)
          · refine go_iconst dX7_scanToken_84 ?_
            exact go_ret (v := 1) rfl dX7_scanToken_85 (okI ⟨by omega, by omega⟩) ⟨by unfold tokK; rw [if_neg (by omega), if_neg (by omega), if_neg (by omega)]; first | (rw [if_pos (by omega)]; exact hr_40) | rw [if_neg (by omega)], by rw [if_neg (by omega)]; unfold tokE; rw [if_neg (by omega), if_neg (by omega)]⟩
          · refine go_iload_n dX7_scanToken_80 rfl ?_
            refine go_goto (tgt := 85) dX7_scanToken_81 (by decide) ?_
            exact go_ret (v := r_40) rfl dX7_scanToken_85 (okI ⟨by omega, by omega⟩) ⟨by unfold tokK; rw [if_neg (by omega), if_neg (by omega), if_neg (by omega)]; first | (rw [if_pos (by omega)]; exact hr_40) | rw [if_neg (by omega)], by rw [if_neg (by omega)]; unfold tokE; rw [if_neg (by omega), if_neg (by omega)]⟩
        · refine go_aload_n dX7_scanToken_58 rfl ?_
          refine go_callV_i (as := []) (S := []) (b := 1) (ev_X7_scanRun (m := m)  (by first | assumption | omega | exact ⟨by omega, by omega⟩ | (constructor <;> omega)) (by first | assumption | omega | exact ⟨by omega, by omega⟩ | (constructor <;> omega)) (by first | assumption | omega | exact ⟨by omega, by omega⟩ | (constructor <;> omega))) rfl dX7_scanToken_59 cv_7_98 rfl rfl ob_1 rfl (by decide) (Nat.le_of_ble_eq_true rfl) (fun r_59 m_59 hr_59 ho_59 => ?_)
          exact go_ret (v := r_59) rfl dX7_scanToken_62 (okI ⟨by omega, by omega⟩) ⟨by unfold tokK; rw [if_neg (by omega), if_neg (by omega), if_pos (by omega)]; exact hr_59.1, by rw [if_pos (by omega)]; exact hr_59.2⟩
    · refine go_iconst dX7_scanToken_33 ?_
      exact go_ret (v := 1) rfl dX7_scanToken_34 (okI ⟨by omega, by omega⟩) ⟨by unfold tokK; rw [if_neg (by omega), if_pos (by omega)], by rw [if_neg (by omega)]; unfold tokE; rw [if_pos (by omega), wr_id]⟩
  · refine go_aload_n dX7_scanToken_11 rfl ?_
    refine go_getf_i (ki := 1) dX7_scanToken_12 fl_7_15 ob_1 rfl rfl (fun hf_12 => ?_)
    refine go_iload_n dX7_scanToken_15 rfl ?_
    refine go_icmp_le (tgt := 23) dX7_scanToken_16 (by decide) ⟨by omega, by omega⟩ ⟨by omega, by omega⟩ (fun h_16 => ?_) (fun h_16 => ?_)
    · refine go_iconst dX7_scanToken_23 ?_
      exact go_ret (v := 0) rfl dX7_scanToken_24 (okI ⟨by omega, by omega⟩) ⟨by unfold tokK; rw [if_pos (by omega)]; first | rw [if_pos (by omega)] | rw [if_neg (by omega)], by rw [if_neg (by omega)]; unfold tokE; rw [if_pos (by omega), wr_id]⟩
    · refine go_iconst dX7_scanToken_19 ?_
      refine go_goto (tgt := 24) dX7_scanToken_20 (by decide) ?_
      exact go_ret (v := 1) rfl dX7_scanToken_24 (okI ⟨by omega, by omega⟩) ⟨by unfold tokK; rw [if_pos (by omega)]; first | rw [if_pos (by omega)] | rw [if_neg (by omega)], by rw [if_neg (by omega)]; unfold tokE; rw [if_pos (by omega), wr_id]⟩
