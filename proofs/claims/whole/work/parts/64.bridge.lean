/-! ===== the bridge: what both keep of a SENTENCE ===== -/
theorem evR_put {M : Mem} {e : Nat} {A : Cd → Bool} : ∀ (l : List Cd) (s : Int), 0 ≤ s → putT M e s l → evR A (M (e + 1)) (M (e + 2)) (M (e + 3)) (s + (l.length : Int)).toNat = evL A l (evR A (M (e + 1)) (M (e + 2)) (M (e + 3)) s.toNat) := by
  intro l
  induction l with
  | nil => intro s _ _; show evR A _ _ _ (s + 0).toNat = _; rw [Int.add_zero]; rfl
  | cons c l ih =>
    intro s hs hp
    obtain ⟨⟨h1, h2, h3⟩, hp⟩ := hp
    have h := ih (s + 1) (by omega) hp
    rw [evR_s hs, h1, h2, h3] at h
    rw [show s + ((c :: l).length : Int) = s + 1 + (l.length : Int) by rw [List.length_cons]; omega, h]
    rfl
theorem putT_at {M : Mem} {e : Nat} : ∀ {l : List Cd} {s : Int}, putT M e s l → ∀ j : Nat, (h : j < l.length) → M (e + 1) (s + (j : Int)) = (l[j]).1 ∧ M (e + 2) (s + (j : Int)) = (l[j]).2.1 ∧ M (e + 3) (s + (j : Int)) = (l[j]).2.2 := by
  intro l
  induction l with
  | nil => intro s _ j h; exact absurd h (Nat.not_lt_zero _)
  | cons c l ih =>
    intro s hp j h
    cases j with
    | zero => rw [show s + ((0 : Nat) : Int) = s by omega]; exact hp.1
    | succ j =>
      have := ih hp.2 j (by rw [List.length_cons] at h; omega)
      rw [show s + 1 + (j : Int) = s + ((j + 1 : Nat) : Int) by omega] at this
      exact this
/-- a SENTENCE in the class's rows e .. e + 3 and in the reference's nodes N, root k -/
def SeR (m : Mem) (e : Nat) (P : Int) (N : Int → Int) (k : Int) : Prop := ∃ l : List Cd, (putT m e 0 l ∧ m e 1 = (l.length : Int) ∧ l.length ≤ 40) ∧ Rep N k l ∧ Wf N P (l.length : Int) ∧ (0 ≤ k ∧ k < (l.length : Int)) ∧ CdA P l
theorem hdB_rep {m : Mem} {P k p : Int} {N : Int → Int} (h : SeR m 26 P N k) : hdB m p = evT (plA m p) N (k + 1).toNat k := by
  obtain ⟨l, ⟨hp, hn, -⟩, hr, -⟩ := h
  have h1 := evR_put (A := plA m p) l 0 (by omega) hp
  rw [Int.zero_add, hr (plA m p)] at h1
  unfold hdB
  rw [hn]
  have h2 : evR (plA m p) (m 27) (m 28) (m 29) (l.length : Int).toNat = [evT (plA m p) N (k + 1).toNat k] := h1
  rw [h2]
  cases evT (plA m p) N (k + 1).toNat k <;> decide
theorem SeR.ok {m : Mem} {k : Int} {N : Int → Int} (h : SeR m 26 (m 8 3) N k) : SeOk m := by
  obtain ⟨l, ⟨hp, hn, hl⟩, hr, -, hk, hc⟩ := h
  refine ⟨by omega, fun A => ⟨evT A N (k + 1).toNat k, ?_⟩, fun j h0 h1 hj => ?_⟩
  · have h1 := evR_put (A := A) l 0 (by omega) hp
    rw [Int.zero_add, hr A] at h1
    rw [hn]
    exact h1
  · have h2 := putT_at hp j.toNat (by omega)
    rw [show (0 : Int) + ((j.toNat : Nat) : Int) = j by omega] at h2
    have e1 : m 27 j = (l[j.toNat]'(by omega)).1 := h2.1
    have e2 : m 29 j = (l[j.toNat]'(by omega)).2.2 := h2.2.2
    rw [e2]
    exact hc _ (List.getElem_mem _) (by rw [← e1]; exact hj)
theorem saidF_congr {P P' : Int → Bool} (n k : Int) (h : ∀ p, P p = P' p) : saidF P n k = saidF P' n k := by rw [funext h]
theorem said_bridge {m : Mem} {k v : Int} {N : Int → Int} (h : SeR m 26 (m 8 3) N k) : saidF (hdB m) (m 8 3) v = saidF (fun p => evT (plA m p) N (k + 1).toNat k) (m 8 3) v := saidF_congr _ _ (fun _ => hdB_rep h)
