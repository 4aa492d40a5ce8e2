/-! ===== breadth first: stands by number, moves by number, a way as a number of base 24 behind a leading 1 ===== -/
def Rch (nx : Int → Int → Int) (C s0 : Int) : Nat → Int → Nat → Prop
  | 0, t, K => t = s0 ∧ K = 1
  | n + 1, t, K => ∃ (s c : Int) (K' : Nat), Rch nx C s0 n s K' ∧ 0 ≤ c ∧ c < C ∧ nx s c = t ∧ t ≠ -1 ∧ K = 24 * K' + c.toNat
def Bst (nx : Int → Int → Int) (C s0 : Int) (n : Nat) (t : Int) (K : Nat) : Prop := Rch nx C s0 n t K ∧ ∀ (n' K' : Nat), Rch nx C s0 n' t K' → K ≤ K'
def BI (nx : Int → Int → Int) (C s0 : Int) (Q far fr mv : Int → Int) (q h hc : Int) : Prop := (1 ≤ q ∧ q ≤ 324) ∧ (0 ≤ h ∧ h ≤ q) ∧ ∃ G : Int → Nat,
  (∀ i : Int, 0 ≤ i → i < q → (0 ≤ Q i ∧ Q i < 324) ∧ (0 ≤ far (Q i) ∧ far (Q i) ≤ i) ∧ Rch nx C s0 (far (Q i)).toNat (Q i) (G (Q i))) ∧
  (∀ s : Int, 0 ≤ s → s < 324 → far s ≠ -1 → ∃ i : Int, 0 ≤ i ∧ i < q ∧ Q i = s) ∧
  (∀ i j : Int, 0 ≤ i → i < j → j < q → G (Q i) < G (Q j)) ∧
  (Q 0 = s0 ∧ G s0 = 1 ∧ far s0 = 0) ∧
  (∀ j : Int, 0 < j → j < q → ∃ i c : Int, 0 ≤ i ∧ i < j ∧ (i < h ∨ (i = h ∧ c < hc)) ∧ 0 ≤ c ∧ c < C ∧ fr (Q j) = Q i ∧ mv (Q j) = c ∧ nx (Q i) c = Q j ∧ G (Q j) = 24 * G (Q i) + c.toNat ∧ far (Q j) = far (Q i) + 1) ∧
  (∀ i c : Int, 0 ≤ i → i < q → (i < h ∨ (i = h ∧ c < hc)) → 0 ≤ c → c < C → nx (Q i) c ≠ -1 → far (nx (Q i) c) ≠ -1 ∧ G (nx (Q i) c) ≤ 24 * G (Q i) + c.toNat) ∧
  cntI (fun s => decide (far s ≠ -1)) 324 = q
def BF (nx : Int → Int → Int) (C s0 : Int) (far fr mv : Int → Int) : Prop := ∀ t : Int, 0 ≤ t → t < 324 → (far t = -1 ∧ ∀ n K : Nat, ¬ Rch nx C s0 n t K) ∨
  (0 ≤ far t ∧ far t < 324 ∧ ∃ K : Nat, Bst nx C s0 (far t).toNat t K ∧ (0 < far t → ∃ K' : Nat, (0 ≤ mv t ∧ mv t < C) ∧ (0 ≤ fr t ∧ fr t < 324) ∧ far (fr t) = far t - 1 ∧ nx (fr t) (mv t) = t ∧ Bst nx C s0 (far t - 1).toNat (fr t) K' ∧ K = 24 * K' + (mv t).toNat))
section
variable {nx : Int → Int → Int} {C s0 : Int}
theorem Rch_b (hC : C ≤ 24) : ∀ (n : Nat) (t : Int) (K : Nat), Rch nx C s0 n t K → 24 ^ n ≤ K ∧ K < 2 * 24 ^ n := by
  intro n
  induction n with
  | zero => intro t K h; rw [h.2]; decide
  | succ n ih =>
    rintro t K ⟨s, c, K', h, h0, h1, -, -, rfl⟩
    have := ih s K' h
    rw [Nat.pow_succ]
    omega
theorem Bst_u (hC : C ≤ 24) {n n' K K' : Nat} {t : Int} (h : Bst nx C s0 n t K) (h' : Bst nx C s0 n' t K') : n = n' ∧ K = K' := by
  have e : K = K' := Nat.le_antisymm (h.2 _ _ h'.1) (h'.2 _ _ h.1)
  subst e
  have b1 := Rch_b hC _ _ _ h.1
  have b2 := Rch_b hC _ _ _ h'.1
  refine ⟨?_, rfl⟩
  by_cases a : n < n'
  · have := Nat.pow_le_pow_right (show 0 < 24 by decide) a
    rw [Nat.pow_succ] at this
    omega
  · by_cases b : n' < n
    · have := Nat.pow_le_pow_right (show 0 < 24 by decide) b
      rw [Nat.pow_succ] at this
      omega
    · omega
variable {Q far fr mv : Int → Int} {q h hc : Int}
theorem BI_up (hb : BI nx C s0 Q far fr mv q h C) (hq : h < q) : BI nx C s0 Q far fr mv q (h + 1) 0 := by
  obtain ⟨a1, a2, G, g1, g2, g3, g4, g5, g6, g7⟩ := hb
  refine ⟨a1, by omega, G, g1, g2, g3, g4, fun j j0 j1 => ?_, fun i c i0 i1 i2 c0 c1 c2 => ?_, g7⟩
  · obtain ⟨i, c, b1, b2, b3, b4⟩ := g5 j j0 j1
    exact ⟨i, c, b1, b2, by omega, b4⟩
  · exact g6 i c i0 i1 (by omega) c0 c1 c2
/-- a move that is barred -/
theorem BI_no (hb : BI nx C s0 Q far fr mv q h hc) (hn : nx (Q h) hc = -1) : BI nx C s0 Q far fr mv q h (hc + 1) := by
  obtain ⟨a1, a2, G, g1, g2, g3, g4, g5, g6, g7⟩ := hb
  refine ⟨a1, a2, G, g1, g2, g3, g4, fun j j0 j1 => ?_, fun i c i0 i1 i2 c0 c1 c2 => ?_, g7⟩
  · obtain ⟨i, c, b1, b2, b3, b4⟩ := g5 j j0 j1
    exact ⟨i, c, b1, b2, by omega, b4⟩
  · by_cases e : i = h ∧ c = hc
    · rw [e.1, e.2] at c2; exact absurd hn c2
    · exact g6 i c i0 i1 (by omega) c0 c1 c2
/-- a stand that was reached ahead -/
theorem BI_old (hb : BI nx C s0 Q far fr mv q h hc) (hC : C ≤ 24) (hq : h < q) (h0 : 0 ≤ hc) (hh : hc < C) (hr : 0 ≤ nx (Q h) hc ∧ nx (Q h) hc < 324) (hf : far (nx (Q h) hc) ≠ -1) : BI nx C s0 Q far fr mv q h (hc + 1) := by
  obtain ⟨a1, a2, G, g1, g2, g3, g4, g5, g6, g7⟩ := hb
  refine ⟨a1, a2, G, g1, g2, g3, g4, fun j j0 j1 => ?_, fun i c i0 i1 i2 c0 c1 c2 => ?_, g7⟩
  · obtain ⟨i, c, b1, b2, b3, b4⟩ := g5 j j0 j1
    exact ⟨i, c, b1, b2, by omega, b4⟩
  · by_cases e : i = h ∧ c = hc
    · rw [e.1, e.2]
      refine ⟨hf, ?_⟩
      obtain ⟨j, j0, j1, j2⟩ := g2 _ hr.1 hr.2 hf
      by_cases jz : j = 0
      · rw [← j2, jz, g4.1, g4.2.1]
        by_cases hz : h = 0
        · rw [hz, g4.1, g4.2.1]; omega
        · have := g3 0 h (by omega) (by omega) hq
          omega
      · obtain ⟨i', c', b1, b2, b3, b4, b5, b6, b7, b8, b9, b10⟩ := g5 j (by omega) j1
        rw [← j2, b9]
        rcases b3 with b3 | ⟨b3, b3'⟩
        · have := g3 i' h b1 b3 hq
          omega
        · rw [b3]; omega
    · exact g6 i c i0 i1 (by omega) c0 c1 c2
theorem cnt_upd {f : Int → Int} {t x : Int} (h0 : 0 ≤ t) (h1 : t < 324) (hf : f t = -1) (hx : x ≠ -1) : cntI (fun s => decide ((if s = t then x else f s) ≠ -1)) 324 = cntI (fun s => decide (f s ≠ -1)) 324 + 1 := by
  have e := sumI_upd (f := fun j => if decide (f j ≠ -1) = true then 1 else 0) (p := t) (x := 1) (n := 324) h0 h1
  unfold cntI
  have e2 : sumI (fun j => if decide ((if j = t then x else f j) ≠ -1) = true then 1 else 0) 324 = sumI (fun j => if j = t then 1 else if decide (f j ≠ -1) = true then 1 else 0) 324 := sumI_congr (fun j _ _ => by
    by_cases hj : j = t
    · simp [hj, hx]
    · simp [hj])
  have z : (if decide (f t ≠ -1) = true then (1 : Int) else 0) = 0 := by simp [hf]
  rw [e2, e, z]
  show sumI _ 324 - 0 + 1 = sumI _ 324 + 1
  rw [Int.sub_zero]
theorem cnt_lt {P : Int → Bool} {t n : Int} (h0 : 0 ≤ t) (h1 : t < n) (hp : P t = false) : cntI P n < n := by
  have e := sumI_upd (f := fun j => if P j = true then 1 else 0) (p := t) (x := 1) (n := n) h0 h1
  have b := sumI_bnd (f := fun j => if j = t then 1 else if P j = true then 1 else 0) (lo := 0) (hi := 1) (n := n) (by omega) (fun j _ _ => by split <;> (try split) <;> omega)
  have z : (if P t = true then (1 : Int) else 0) = 0 := by simp [hp]
  rw [e, z] at b
  unfold cntI
  omega
/-- there is room for a new one -/
theorem BI_room (hb : BI nx C s0 Q far fr mv q h hc) {t : Int} (h0 : 0 ≤ t) (h1 : t < 324) (hf : far t = -1) : q < 324 := by
  obtain ⟨a1, a2, G, g1, g2, g3, g4, g5, g6, g7⟩ := hb
  have := cnt_lt (P := fun s => decide (far s ≠ -1)) h0 h1 (by simp [hf])
  omega
/-- a new stand -/
theorem BI_new (hb : BI nx C s0 Q far fr mv q h hc) (hC : C ≤ 24) (hq : h < q) (h0 : 0 ≤ hc) (hh : hc < C) {t : Int} (ht : nx (Q h) hc = t) (hr : 0 ≤ t ∧ t < 324) (hf : far t = -1) :
    BI nx C s0 (fun j => if j = q then t else Q j) (fun j => if j = t then far (Q h) + 1 else far j) (fun j => if j = t then Q h else fr j) (fun j => if j = t then hc else mv j) (q + 1) h (hc + 1) := by
  have hroom := BI_room hb hr.1 hr.2 hf
  obtain ⟨a1, a2, G, g1, g2, g3, g4, g5, g6, g7⟩ := hb
  have hne : ∀ i : Int, 0 ≤ i → i < q → Q i ≠ t := fun i i0 i1 e => by have := (g1 i i0 i1).2.1.1; rw [e, hf] at this; omega
  have hGQ : ∀ i : Int, 0 ≤ i → i < q → (fun s => if s = t then 24 * G (Q h) + hc.toNat else G s) (Q i) = G (Q i) := fun i i0 i1 => if_neg (hne i i0 i1)
  have hbig : ∀ i : Int, 0 ≤ i → i < q → G (Q i) < 24 * G (Q h) + hc.toNat := by
    intro j j0 j1
    by_cases jz : j = 0
    · rw [jz, g4.1, g4.2.1]
      by_cases hz : h = 0
      · rw [hz, g4.1, g4.2.1]; omega
      · have := g3 0 h (by omega) (by omega) hq
        omega
    · obtain ⟨i', c', b1, b2, b3, b4, b5, b6, b7, b8, b9, b10⟩ := g5 j (by omega) j1
      rw [b9]
      rcases b3 with b3 | ⟨b3, b3'⟩
      · have := g3 i' h b1 b3 hq
        omega
      · rw [b3]; omega
  have hs0 : s0 ≠ t := fun e => by have := g4.2.2; rw [e, hf] at this; omega
  have hrh := g1 h a2.1 hq
  refine ⟨by omega, by omega, fun s => if s = t then 24 * G (Q h) + hc.toNat else G s, fun i i0 i1 => ?_, fun s s0' s1 hs => ?_, fun i j i0 i1 i2 => ?_, ?_, fun j j0 j1 => ?_, fun i c i0 i1 i2 c0 c1 c2 => ?_, ?_⟩
  · dsimp only
    by_cases e : i = q
    · rw [if_pos e, if_pos rfl, if_pos rfl]
      refine ⟨hr, by omega, ?_⟩
      rw [show (far (Q h) + 1).toNat = (far (Q h)).toNat + 1 by omega]
      exact ⟨Q h, hc, G (Q h), hrh.2.2, h0, hh, ht, by omega, rfl⟩
    · have hi := hne i i0 (by omega)
      rw [if_neg e, if_neg hi, if_neg hi]
      exact g1 i i0 (by omega)
  · dsimp only at hs ⊢
    by_cases e : s = t
    · exact ⟨q, by omega, by omega, by rw [if_pos rfl, e]⟩
    · rw [if_neg e] at hs
      obtain ⟨i, i0, i1, i2⟩ := g2 s s0' s1 hs
      exact ⟨i, i0, by omega, by rw [if_neg (by omega)]; exact i2⟩
  · dsimp only
    rw [if_neg (show ¬ i = q by omega), if_neg (hne i i0 (by omega))]
    by_cases e : j = q
    · rw [if_pos e, if_pos rfl]; exact hbig i i0 (by omega)
    · rw [if_neg e, if_neg (hne j (by omega) (by omega))]; exact g3 i j i0 i1 (by omega)
  · dsimp only
    rw [if_neg (show ¬ (0 : Int) = q by omega), if_neg hs0, if_neg hs0]
    exact g4
  · dsimp only
    by_cases e : j = q
    · refine ⟨h, hc, a2.1, by omega, Or.inr ⟨rfl, by omega⟩, h0, hh, ?_⟩
      rw [if_pos e, if_neg (show ¬ h = q by omega), if_pos rfl, if_pos rfl, if_pos rfl, if_pos rfl, if_neg (hne h a2.1 hq), if_neg (hne h a2.1 hq)]
      exact ⟨rfl, rfl, ht, rfl, rfl⟩
    · obtain ⟨i, c, b1, b2, b3, b4, b5, b6, b7, b8, b9, b10⟩ := g5 j j0 (by omega)
      have hj := hne j (by omega) (by omega)
      have hi := hne i b1 (by omega)
      refine ⟨i, c, b1, b2, by omega, b4, b5, ?_⟩
      rw [if_neg e, if_neg (show ¬ i = q by omega), if_neg hj, if_neg hj, if_neg hj, if_neg hj, if_neg hi, if_neg hi]
      exact ⟨b6, b7, b8, b9, b10⟩
  · dsimp only at c2 ⊢
    have hiq : i ≠ q := by omega
    rw [if_neg hiq] at c2 ⊢
    rw [if_neg (hne i i0 (by omega))]
    by_cases e : nx (Q i) c = t
    · rw [if_pos e, if_pos e]
      refine ⟨by omega, ?_⟩
      by_cases e2 : i = h ∧ c = hc
      · rw [e2.1, e2.2]; omega
      · have := (g6 i c i0 (by omega) (by omega) c0 c1 c2).1
        rw [e] at this; exact absurd hf this
    · rw [if_neg e, if_neg e]
      by_cases e2 : i = h ∧ c = hc
      · rw [e2.1, e2.2] at e; exact absurd ht e
      · exact g6 i c i0 (by omega) (by omega) c0 c1 c2
  · rw [cnt_upd hr.1 hr.2 hf (by omega), g7]
/-- the beginning -/
theorem BI_start {X : Int → Int} (hs : 0 ≤ s0 ∧ s0 < 324) (hQ : Q 0 = s0) (hfar : ∀ s : Int, 0 ≤ s → s < 324 → far s = if s = s0 then 0 else -1) : BI nx C s0 Q far fr mv 1 0 0 := by
  have f0 : far s0 = 0 := by rw [hfar s0 hs.1 hs.2, if_pos rfl]
  refine ⟨by omega, by omega, fun _ => 1, fun i i0 i1 => ?_, fun s a b hn => ?_, fun i j i0 i1 i2 => by omega, ⟨hQ, rfl, f0⟩, fun j j0 j1 => by omega, fun i c i0 i1 i2 c0 c1 => by omega, ?_⟩
  · have : i = 0 := by omega
    subst this
    rw [hQ, f0]
    exact ⟨hs, by omega, rfl, rfl⟩
  · rw [hfar s a b] at hn
    by_cases e : s = s0
    · exact ⟨0, by omega, by omega, by rw [hQ, e]⟩
    · rw [if_neg e] at hn; exact absurd rfl hn
  · have e := cnt_upd (f := fun _ => -1) (t := s0) (x := 0) hs.1 hs.2 rfl (by decide)
    have z : cntI (fun s => decide ((fun _ : Int => (-1 : Int)) s ≠ -1)) 324 = 0 := (cntI_0 (by decide)).mpr (fun j _ _ => by simp)
    rw [z] at e
    have c : cntI (fun s => decide (far s ≠ -1)) 324 = cntI (fun s => decide ((if s = s0 then 0 else (fun _ : Int => (-1 : Int)) s) ≠ -1)) 324 := sumI_congr (fun j a b => by show (if decide (far j ≠ -1) = true then _ else _) = _; rw [hfar j a b])
    rw [c, e]; rfl
theorem BI_fin (hb : BI nx C s0 Q far fr mv q q 0) (hC : C ≤ 24) (hnx : ∀ s c : Int, 0 ≤ s → s < 324 → (∃ n K, Rch nx C s0 n s K) → 0 ≤ c → c < C → nx s c ≠ -1 → 0 ≤ nx s c ∧ nx s c < 324) : BF nx C s0 far fr mv := by
  obtain ⟨a1, a2, G, g1, g2, g3, g4, g5, g6, g7⟩ := hb
  have key : ∀ (n : Nat) (t : Int) (K : Nat), Rch nx C s0 n t K → (0 ≤ t ∧ t < 324) ∧ far t ≠ -1 ∧ G t ≤ K := by
    intro n
    induction n with
    | zero =>
      rintro t K ⟨rfl, rfl⟩
      have := g1 0 (by omega) (by omega)
      rw [g4.1] at this
      exact ⟨this.1, by omega, by rw [g4.2.1]; exact Nat.le_refl 1⟩
    | succ n ih =>
      rintro t K ⟨s, c, K', hR, c0, c1, e, et, rfl⟩
      obtain ⟨i1, i2, i3⟩ := ih s K' hR
      obtain ⟨i, b0, b1, b2⟩ := g2 s i1.1 i1.2 i2
      rw [← b2] at e hR i1 i3
      have h6 := g6 i c b0 b1 (Or.inl b1) c0 c1 (by rw [e]; exact et)
      have hv := hnx (Q i) c i1.1 i1.2 ⟨n, K', hR⟩ c0 c1 (by rw [e]; exact et)
      rw [e] at h6 hv
      exact ⟨hv, h6.1, by omega⟩
  have best : ∀ i : Int, 0 ≤ i → i < q → Bst nx C s0 (far (Q i)).toNat (Q i) (G (Q i)) := fun i i0 i1 => ⟨(g1 i i0 i1).2.2, fun n' K' hR => (key n' _ K' hR).2.2⟩
  intro t t0 t1
  by_cases e : far t = -1
  · exact Or.inl ⟨e, fun n K hR => (key n t K hR).2.1 e⟩
  · obtain ⟨j, j0, j1, rfl⟩ := g2 t t0 t1 e
    have hj := g1 j j0 j1
    refine Or.inr ⟨hj.2.1.1, by omega, G (Q j), best j j0 j1, fun hp => ?_⟩
    have jz : j ≠ 0 := fun z => by rw [z, g4.1, g4.2.2] at hp; omega
    obtain ⟨i, c, b1, b2, b3, b4, b5, b6, b7, b8, b9, b10⟩ := g5 j (by omega) j1
    have hi := g1 i b1 (by omega)
    refine ⟨G (Q i), by rw [b7]; exact ⟨b4, b5⟩, by rw [b6]; exact hi.1, by rw [b6]; omega, by rw [b6, b7]; exact b8, ?_, by rw [b7]; exact b9⟩
    rw [b6, show far (Q j) - 1 = far (Q i) by omega]
    exact best i b1 (by omega)
end
/-- a row of moves behind a way -/
def ext (K : Nat) (row : Int → Int) (a : Int) : Nat → Nat
  | 0 => K
  | n + 1 => 24 * ext K row a n + (row (a + (n : Int))).toNat
theorem ext_cons (row : Int → Int) : ∀ (n : Nat) (K : Nat) (a : Int), ext K row a (n + 1) = ext (24 * K + (row a).toNat) row (a + 1) n := by
  intro n
  induction n with
  | zero => intro K a; show 24 * K + (row (a + ((0 : Nat) : Int))).toNat = _; rw [show a + ((0 : Nat) : Int) = a by omega]; rfl
  | succ n ih =>
    intro K a
    show 24 * ext K row a (n + 1) + (row (a + ((n + 1 : Nat) : Int))).toNat = 24 * ext (24 * K + (row a).toNat) row (a + 1) n + (row (a + 1 + (n : Int))).toNat
    rw [ih, show a + ((n + 1 : Nat) : Int) = a + 1 + (n : Int) by omega]
theorem ext_congr {r r' : Int → Int} {a : Int} : ∀ {n K : Nat}, (∀ j : Int, a ≤ j → j < a + n → r j = r' j) → ext K r a n = ext K r' a n := by
  intro n
  induction n with
  | zero => intro K _; rfl
  | succ n ih => intro K h; show 24 * _ + _ = 24 * _ + _; rw [ih (fun j x y => h j x (by omega)), h (a + (n : Int)) (by omega) (by omega)]
theorem ext_inj {r r' : Int → Int} {a : Int} : ∀ {n K K' : Nat}, (∀ j : Int, a ≤ j → j < a + n → 0 ≤ r j ∧ r j < 24) → (∀ j : Int, a ≤ j → j < a + n → 0 ≤ r' j ∧ r' j < 24) → ext K r a n = ext K' r' a n → K = K' ∧ ∀ j : Int, a ≤ j → j < a + n → r j = r' j := by
  intro n
  induction n with
  | zero => intro K K' _ _ h; exact ⟨h, fun j x y => by omega⟩
  | succ n ih =>
    intro K K' h1 h2 h
    have e : 24 * ext K r a n + (r (a + (n : Int))).toNat = 24 * ext K' r' a n + (r' (a + (n : Int))).toNat := h
    have b1 := h1 (a + (n : Int)) (by omega) (by omega)
    have b2 := h2 (a + (n : Int)) (by omega) (by omega)
    have := ih (fun j x y => h1 j x (by omega)) (fun j x y => h2 j x (by omega)) (show ext K r a n = ext K' r' a n by omega)
    refine ⟨this.1, fun j x y => ?_⟩
    by_cases ej : j = a + (n : Int)
    · rw [ej]; omega
    · exact this.2 j x (by omega)
/-- the cells that are free of what is in the way -/
def clr (F : Int → Int → Bool) (x y u w : Int) : Nat → Bool
  | 0 => true
  | n + 1 => clr F x y u w n && F (x + (n + 1 : Int) * u) (y + (n + 1 : Int) * w)
def nxF (m : Mem) (d : Nat) (F : Int → Int → Bool) (s v : Int) : Int := if clr F (s / 4 % 9) (s / 4 / 9) (dx (v % 4)) (dy (v % 4)) (m (d + 3) (v / 4)).toNat then 4 * (s / 4 + m (d + 3) (v / 4) * (9 * dy (v % 4) + dx (v % 4))) + (s + m (d + 2) (v / 4)) % 4 else -1
def freeB (m : Mem) (d st : Nat) (p a x y : Int) : Bool := decide (insC m d x y ∧ ¬ 0 < m (st + 1) (9 * y + x) ∧ fnd (fun o => decide (o ≠ p ∧ o ≠ a ∧ m (st + 2) o = x ∧ m (st + 3) o = y)) (m d 3) = -1)
/-- a stand on the DOWNS -/
def VS (m : Mem) (d : Nat) (s : Int) : Prop := 0 ≤ s ∧ s / 4 % 9 < m d 0 ∧ s / 4 / 9 < m d 1
theorem VS.lt {m : Mem} {d : Nat} {s : Int} (hdn : DnOk m d) (h : VS m d s) : s < 324 := by
  have h1 := hdn.1
  have h2 := hdn.2.1
  have h3 := h.2.2
  have := h.1
  omega
theorem clr_last {F : Int → Int → Bool} {x y u w : Int} {n : Nat} (h : clr F x y u w n = true) (hn : 0 < n) : F (x + (n : Int) * u) (y + (n : Int) * w) = true := by
  cases n with
  | zero => omega
  | succ n =>
    have h : (clr F x y u w n && F (x + (n + 1 : Int) * u) (y + (n + 1 : Int) * w)) = true := h
    rw [Bool.and_eq_true] at h
    exact h.2
theorem nxF_c {m : Mem} {d : Nat} {F : Int → Int → Bool} (hF : ∀ x y : Int, F x y = true → insC m d x y) (hdn : DnOk m d) {s v : Int} (hs : VS m d s) (hv0 : 0 ≤ v) (hv : v < 4 * m d 2) (c : clr F (s / 4 % 9) (s / 4 / 9) (dx (v % 4)) (dy (v % 4)) (m (d + 3) (v / 4)).toNat = true) : VS m d (4 * (s / 4 + m (d + 3) (v / 4) * (9 * dy (v % 4) + dx (v % 4))) + (s + m (d + 2) (v / 4)) % 4) := by
  have hw := hdn.1
  have hh := hdn.2.1
  have hf := hdn.2.2.2.2.2.1 (v / 4) (by omega) (by omega)
  by_cases z : m (d + 3) (v / 4) = 0
  · rw [z, Int.zero_mul]
    obtain ⟨q, hq⟩ : ∃ q, q = m (d + 2) (v / 4) := ⟨_, rfl⟩
    rw [← hq]
    obtain ⟨h1, h2, h3⟩ := hs
    refine ⟨by omega, ?_, ?_⟩
    · rw [show (4 * (s / 4 + 0) + (s + q) % 4) / 4 = s / 4 by omega]; exact h2
    · rw [show (4 * (s / 4 + 0) + (s + q) % 4) / 4 = s / 4 by omega]; exact h3
  · have hl := hF _ _ (clr_last c (by omega))
    rw [show (((m (d + 3) (v / 4)).toNat : Nat) : Int) = m (d + 3) (v / 4) by omega] at hl
    rw [show m (d + 3) (v / 4) * (9 * dy (v % 4) + dx (v % 4)) = 9 * (m (d + 3) (v / 4) * dy (v % 4)) + m (d + 3) (v / 4) * dx (v % 4) by rw [Int.mul_add, Int.mul_left_comm]]
    obtain ⟨a, ha⟩ : ∃ a, a = m (d + 3) (v / 4) * dx (v % 4) := ⟨_, rfl⟩
    obtain ⟨b, hb⟩ : ∃ b, b = m (d + 3) (v / 4) * dy (v % 4) := ⟨_, rfl⟩
    obtain ⟨q, hq⟩ : ∃ q, q = m (d + 2) (v / 4) := ⟨_, rfl⟩
    rw [← ha, ← hb] at hl ⊢
    rw [← hq]
    obtain ⟨l1, l2, l3, l4⟩ := hl
    have e4 : (4 * (s / 4 + (9 * b + a)) + (s + q) % 4) / 4 = 9 * (s / 4 / 9 + b) + (s / 4 % 9 + a) := by omega
    refine ⟨by omega, ?_, ?_⟩
    · rw [e4]; omega
    · rw [e4]; omega
theorem nxF_v {m : Mem} {d : Nat} {F : Int → Int → Bool} (hF : ∀ x y : Int, F x y = true → insC m d x y) (hdn : DnOk m d) {s v : Int} (hs : VS m d s) (hv0 : 0 ≤ v) (hv : v < 4 * m d 2) (hn : nxF m d F s v ≠ -1) : VS m d (nxF m d F s v) := by
  unfold nxF at hn ⊢
  by_cases c : clr F (s / 4 % 9) (s / 4 / 9) (dx (v % 4)) (dy (v % 4)) (m (d + 3) (v / 4)).toNat = true
  · rw [if_pos c]; exact nxF_c hF hdn hs hv0 hv c
  · rw [if_neg c] at hn; exact absurd rfl hn
theorem Rch_v {m : Mem} {d : Nat} {F : Int → Int → Bool} (hF : ∀ x y : Int, F x y = true → insC m d x y) (hdn : DnOk m d) {s0 : Int} (hs : VS m d s0) : ∀ (n : Nat) (t : Int) (K : Nat), Rch (nxF m d F) (4 * m d 2) s0 n t K → VS m d t := by
  intro n
  induction n with
  | zero => rintro t K ⟨rfl, -⟩; exact hs
  | succ n ih =>
    rintro t K ⟨s, c, K', h, c0, c1, rfl, h2, -⟩
    exact nxF_v hF hdn (ih _ _ h) c0 c1 h2
theorem freeB_in {m : Mem} {d st : Nat} {p a x y : Int} (h : freeB m d st p a x y = true) : insC m d x y := (of_decide_eq_true h).1
/-- how far it is free, up to five cells -/
def runN (F : Int → Int → Bool) (x y u w : Int) : Int := if clr F x y u w 5 then 5 else if clr F x y u w 4 then 4 else if clr F x y u w 3 then 3 else if clr F x y u w 2 then 2 else if clr F x y u w 1 then 1 else 0
theorem clr_dn {F : Int → Int → Bool} {x y u w : Int} {n : Nat} (h : clr F x y u w (n + 1) = true) : clr F x y u w n = true := by
  have h : (clr F x y u w n && F (x + (n + 1 : Int) * u) (y + (n + 1 : Int) * w)) = true := h
  rw [Bool.and_eq_true] at h
  exact h.1
theorem clr_le {F : Int → Int → Bool} {x y u w : Int} {k : Nat} : ∀ {n : Nat}, k ≤ n → clr F x y u w n = true → clr F x y u w k = true := by
  intro n
  induction n with
  | zero => intro h1 h2; rw [show k = 0 by omega]; exact h2
  | succ n ih =>
    intro h1 h2
    by_cases e : k = n + 1
    · rw [e]; exact h2
    · exact ih (by omega) (clr_dn h2)
theorem runN_le {F : Int → Int → Bool} {x y u w k : Int} (h0 : 0 ≤ k) (h5 : k ≤ 5) : k ≤ runN F x y u w ↔ clr F x y u w k.toNat = true := by
  have c0 : clr F x y u w 0 = true := rfl
  have d5 := clr_dn (F := F) (x := x) (y := y) (u := u) (w := w) (n := 4)
  have d4 := clr_dn (F := F) (x := x) (y := y) (u := u) (w := w) (n := 3)
  have d3 := clr_dn (F := F) (x := x) (y := y) (u := u) (w := w) (n := 2)
  have d2 := clr_dn (F := F) (x := x) (y := y) (u := u) (w := w) (n := 1)
  have : k = 0 ∨ k = 1 ∨ k = 2 ∨ k = 3 ∨ k = 4 ∨ k = 5 := by omega
  unfold runN
  rcases this with rfl | rfl | rfl | rfl | rfl | rfl
  all_goals
    simp only [show (0 : Int).toNat = 0 from rfl, show (1 : Int).toNat = 1 from rfl, show (2 : Int).toNat = 2 from rfl, show (3 : Int).toNat = 3 from rfl, show (4 : Int).toNat = 4 from rfl, show (5 : Int).toNat = 5 from rfl]
    repeat' split
    all_goals simp_all
theorem runN_b (F : Int → Int → Bool) (x y u w : Int) : 0 ≤ runN F x y u w ∧ runN F x y u w ≤ 5 := by
  unfold runN
  repeat' split
  all_goals omega
