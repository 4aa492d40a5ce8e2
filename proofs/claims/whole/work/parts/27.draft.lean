/-! ===== a draft of DOWNS, line by line ===== -/
def lnF (m : Mem) (i : Int) : Int × Int := if m 4 (i - 1) = 200 then szF m i else if m 4 (i - 1) = 201 then wlF m i else if m 4 (i - 1) = 202 then fgF m i else if m 4 (i - 1) = 203 then psF m i else if m 4 (i - 1) = 204 then ptF m i else (1, i - 1)
def lnX (m : Mem) (i : Int) : Mem := if m 4 (i - 1) = 200 then szX m i else if m 4 (i - 1) = 201 then wlX m i else if m 4 (i - 1) = 202 then fgX m i else if m 4 (i - 1) = 203 then psX m i else ptX m i
/-- rows but the tape's own -/
def Eq1 (M m : Mem) : Prop := ∀ b : Nat, b ≠ 1 → M b = m b
section
variable {m M : Mem} {i : Int}
theorem frF_e (h : Eq1 M m) {x : Int} : frF M x i = frF m x i := frF_congr (h 4 (by decide)) (h 6 (by decide)) (h 47 (by decide)) (h 58 (by decide)) (fun k _ _ => ⟨by rw [h 59 (by decide)], by rw [h 60 (by decide)]⟩)
theorem nmF_e (h : Eq1 M m) : nmF M i = nmF m i := nmF_congr (h 4 (by decide)) (h 6 (by decide)) (h 47 (by decide)) (h 48 (by decide)) (h 51 (by decide)) (h 53 (by decide))
theorem lnF_e (h : Eq1 M m) : lnF M i = lnF m i := by
  have e4 := h 4 (by decide)
  have e6 := vN_congr (h 6 (by decide))
  have e47 := h 47 (by decide)
  have e45 := h 45 (by decide)
  have ef : ∀ x j, frF M x j = frF m x j := fun x j => frF_e h
  have en : ∀ j, nmF M j = nmF m j := fun j => nmF_e h
  unfold lnF szF wlF fgF psF ptF
  simp only [e4, e6, e47, e45, ef, en]
theorem wr_e {b : Nat} {j x : Int} (h : Eq1 M m) : Eq1 (wr M b j x) (wr m b j x) := fun c hc => by
  funext k; unfold wr; rw [h c hc]
theorem lnX_e (h : Eq1 M m) : Eq1 (lnX M i) (lnX m i) := by
  have e4 := h 4 (by decide)
  have e6 := vN_congr (h 6 (by decide))
  have e6' := h 6 (by decide)
  have e47 := h 47 (by decide)
  unfold lnX szX wlX fgX psX ptX
  simp only [e4, e6, e6', e47]
  split
  · exact wr_e (wr_e (wr_e h))
  · split
    · exact wr_e (wr_e h)
    · split
      · exact wr_e (wr_e (wr_e (wr_e h)))
      · split
        · exact wr_e (wr_e (wr_e (wr_e (wr_e (wr_e (wr_e (wr_e h)))))))
        · exact wr_e (wr_e (wr_e (wr_e (wr_e (wr_e h)))))
end
def DrOk (m : Mem) : Prop := DnOk m 47 ∧ StOk m 47 57 0 ∧ (m 45 3 = 0 → m 47 3 = 0 ∧ m 47 4 = 0) ∧ (∀ j : Int, m 63 j = 0) ∧ (∀ j : Int, m 64 j = 0) ∧ m 57 0 = 0 ∧ m 57 1 = 0
theorem DrOk.e {m M : Mem} (h : DrOk m) (he : Eq1 M m) : DrOk M := by
  obtain ⟨h1, h2, h3, h4, h5, h6, h7⟩ := h
  refine ⟨h1.congr (fun k hk => he _ (by omega)), h2.congr (he _ (by decide)) (he _ (by decide)) (fun k hk => he _ (by omega)), ?_, ?_, ?_, ?_, ?_⟩
  · rw [he 45 (by decide), he 47 (by decide)]; exact h3
  · rw [he 63 (by decide)]; exact h4
  · rw [he 64 (by decide)]; exact h5
  · rw [he 57 (by decide)]; exact h6
  · rw [he 57 (by decide)]; exact h7
theorem StOk.c4 {m m' : Mem} {d st : Nat} {B : Int} (h : StOk m d st B) (h0 : m' d 0 = m d 0) (h1 : m' d 1 = m d 1) (h3 : m' d 3 = m d 3) (h4 : m' d 4 = m d 4) (h5 : m' (d + 5) = m (d + 5)) (hr : ∀ k, k < 8 → m' (st + k) = m (st + k)) : StOk m' d st B := by
  unfold StOk at *
  have r0 : m' st = m st := hr 0 (by omega)
  rw [h0, h1, h3, h4, h5, r0, hr 1 (by omega), hr 2 (by omega), hr 3 (by omega), hr 4 (by omega), hr 5 (by omega), hr 6 (by omega), hr 7 (by omega)]
  exact h
section
variable {m : Mem} {i : Int}
theorem pr_ne {a b : Int} {k : Int × Int} (h : (if a ≠ 0 then (a, b) else k).1 = 0) : a = 0 ∧ k.1 = 0 := by
  by_cases q : a = 0
  · rw [if_neg (fun z => z q)] at h; exact ⟨q, h⟩
  · rw [if_pos q] at h; exact absurd h q
theorem szF_0 (h : (szF m i).1 = 0) : (m 45 2 = 0 ∧ m 45 3 = 0) ∧ numF (m 4) (vN m) i 2 9 = 0 ∧ numF (m 4) (vN m) (i + 1) 2 9 = 0 ∧ (szF m i).2 = i + 2 := by
  unfold szF at h ⊢
  by_cases q : m 45 2 ≠ 0 ∨ m 45 3 ≠ 0
  · rw [if_pos q] at h; exact absurd h (by show (3 : Int) ≠ 0; decide)
  · rw [if_neg q] at h ⊢
    obtain ⟨a, h⟩ := pr_ne h
    obtain ⟨b, h⟩ := pr_ne h
    rw [if_neg (fun z => z a), if_neg (fun z => z b)]
    exact ⟨by omega, a, b, rfl⟩
theorem wlF_0 (h : (wlF m i).1 = 0) : numF (m 4) (vN m) i 0 (m 47 0 - 1) = 0 ∧ frF m (vN m i) (i + 1) = 0 ∧ numF (m 4) (vN m) (i + 2) 1 9 = 0 ∧ (wlF m i).2 = i + 3 := by
  unfold wlF at h ⊢
  obtain ⟨a, h⟩ := pr_ne h
  obtain ⟨b, h⟩ := pr_ne h
  obtain ⟨c, h⟩ := pr_ne h
  rw [if_neg (fun z => z a), if_neg (fun z => z b), if_neg (fun z => z c)]
  exact ⟨a, b, c, rfl⟩
theorem fgF_0 (h : (fgF m i).1 = 0) : m 47 2 < 6 ∧ nmF m i = 0 ∧ numF (m 4) (vN m) (i + 1) 0 7 = 0 ∧ numF (m 4) (vN m) (i + 2) 0 5 = 0 ∧ (fgF m i).2 = i + 3 := by
  unfold fgF at h ⊢
  by_cases q : 6 ≤ m 47 2
  · rw [if_pos q] at h; exact absurd h (by show (4 : Int) ≠ 0; decide)
  · rw [if_neg q] at h ⊢
    obtain ⟨a, h⟩ := pr_ne h
    obtain ⟨b, h⟩ := pr_ne h
    obtain ⟨c, h⟩ := pr_ne h
    rw [if_neg (fun z => z a), if_neg (fun z => z b), if_neg (fun z => z c)]
    exact ⟨by omega, a, b, c, rfl⟩
theorem psF_0 (h : (psF m i).1 = 0) : m 47 3 < 5 ∧ nmF m i = 0 ∧ numF (m 4) (vN m) (i + 1) 0 (m 47 0 - 1) = 0 ∧ frF m (vN m (i + 1)) (i + 2) = 0 ∧ numF (m 4) (vN m) (i + 3) 0 3 = 0 ∧ numF (m 4) (vN m) (i + 4) 1 60 = 0 ∧ (psF m i).2 = i + 5 := by
  unfold psF at h ⊢
  by_cases q : 5 ≤ m 47 3
  · rw [if_pos q] at h; exact absurd h (by show (4 : Int) ≠ 0; decide)
  · rw [if_neg q] at h ⊢
    obtain ⟨a, h⟩ := pr_ne h
    obtain ⟨b, h⟩ := pr_ne h
    obtain ⟨c, h⟩ := pr_ne h
    obtain ⟨d, h⟩ := pr_ne h
    obtain ⟨e, h⟩ := pr_ne h
    rw [if_neg (fun z => z a), if_neg (fun z => z b), if_neg (fun z => z c), if_neg (fun z => z d), if_neg (fun z => z e)]
    exact ⟨by omega, a, b, c, d, e, rfl⟩
theorem ptF_0 (h : (ptF m i).1 = 0) : m 47 4 < 5 ∧ nmF m i = 0 ∧ numF (m 4) (vN m) (i + 1) 0 (m 47 0 - 1) = 0 ∧ numF (m 4) (vN m) (i + 2) 0 (m 47 1 - 1) = 0 ∧ numF (m 4) (vN m) (i + 3) 0 3 = 0 ∧ (ptF m i).2 = i + 4 := by
  unfold ptF at h ⊢
  by_cases q : 5 ≤ m 47 4
  · rw [if_pos q] at h; exact absurd h (by show (4 : Int) ≠ 0; decide)
  · rw [if_neg q] at h ⊢
    obtain ⟨a, h⟩ := pr_ne h
    obtain ⟨b, h⟩ := pr_ne h
    obtain ⟨c, h⟩ := pr_ne h
    obtain ⟨d, h⟩ := pr_ne h
    rw [if_neg (fun z => z a), if_neg (fun z => z b), if_neg (fun z => z c), if_neg (fun z => z d)]
    exact ⟨by omega, a, b, c, d, rfl⟩
theorem szX_ok (h : DrOk m) (hf : (szF m i).1 = 0) : DrOk (szX m i) := by
  obtain ⟨⟨f1, f2⟩, f3, f4, -⟩ := szF_0 hf
  have v1 := numF_0 f3
  have v2 := numF_0 f4
  obtain ⟨h1, h2, h3, h4, h5, h6, h7⟩ := h
  obtain ⟨g1, g2⟩ := h3 f2
  have e0 : szX m i 47 0 = vN m i := by unfold szX; rw [wr_ni (by decide), wr_self]
  have e1 : szX m i 47 1 = vN m (i + 1) := by unfold szX; rw [wr_self]
  have ej : ∀ j : Int, j ≠ 0 → j ≠ 1 → szX m i 47 j = m 47 j := fun j a b => by unfold szX; rw [wr_ni b, wr_ni a, wr_na (by decide)]
  have er : ∀ b : Nat, b ≠ 45 → b ≠ 47 → szX m i b = m b := fun b a c => by unfold szX; rw [wr_row c, wr_row c, wr_row a]
  obtain ⟨-, -, k3, k4, k5, k6, k7, k8⟩ := id h1
  obtain ⟨s1, s2, s3, s4, s5, s6⟩ := id h2
  refine ⟨?_, ?_, fun _ => ⟨by rw [ej 3 (by decide) (by decide)]; exact g1, by rw [ej 4 (by decide) (by decide)]; exact g2⟩, by rw [er 63 (by decide) (by decide)]; exact h4, by rw [er 64 (by decide) (by decide)]; exact h5, by rw [er 57 (by decide) (by decide)]; exact h6, by rw [er 57 (by decide) (by decide)]; exact h7⟩
  · unfold DnOk
    rw [e0, e1, ej 2 (by decide) (by decide), ej 3 (by decide) (by decide), ej 4 (by decide) (by decide), er (47 + 2) (by decide) (by decide), er (47 + 3) (by decide) (by decide), er (47 + 5) (by decide) (by decide)]
    exact ⟨by omega, by omega, k3, k4, k5, k6, k7, fun q a b => by omega⟩
  · unfold StOk
    rw [ej 3 (by decide) (by decide), er 57 (by decide) (by decide), er (57 + 1) (by decide) (by decide), er (57 + 2) (by decide) (by decide), er (57 + 3) (by decide) (by decide)]
    exact ⟨s1, s2, s3, fun p a b => by omega, fun p q a b => by omega, fun p a b => by omega⟩
theorem wlX_ok (h : DrOk m) (hf : (wlF m i).1 = 0) : DrOk (wlX m i) := by
  obtain ⟨f1, f2, f3, -⟩ := wlF_0 hf
  have v1 := numF_0 f1
  have v2 := frF_0 f2
  have v3 := numF_0 f3
  obtain ⟨h1, h2, h3, h4, h5, h6, h7⟩ := h
  have er : ∀ b : Nat, b ≠ 45 → b ≠ 58 → wlX m i b = m b := fun b a c => by unfold wlX; rw [wr_row c, wr_row a]
  have e45 : wlX m i 45 3 = 1 := by unfold wlX; rw [wr_na (by decide), wr_self]
  have e58 : wlX m i 58 = fun j => if j = 9 * vN m (i + 1) + vN m i then vN m (i + 2) else m 58 j := by unfold wlX; rw [wr_rowat]; funext j; rw [wr_na (by decide)]
  obtain ⟨k1, k2, -⟩ := id h1
  obtain ⟨s1, s2, s3, s4, s5, s6⟩ := id h2
  refine ⟨h1.congr (fun k hk => er _ (by omega) (by omega)), ?_, fun q => by omega, by rw [er 63 (by decide) (by decide)]; exact h4, by rw [er 64 (by decide) (by decide)]; exact h5, by rw [er 57 (by decide) (by decide)]; exact h6, by rw [er 57 (by decide) (by decide)]; exact h7⟩
  unfold StOk
  rw [er 47 (by decide) (by decide), er (47 + 5) (by decide) (by decide), er 57 (by decide) (by decide), show wlX m i (57 + 1) = _ from e58, er (57 + 2) (by decide) (by decide), er (57 + 3) (by decide) (by decide), er (57 + 4) (by decide) (by decide), er (57 + 5) (by decide) (by decide), er (57 + 6) (by decide) (by decide), er (57 + 7) (by decide) (by decide)]
  refine ⟨s1, s2, fun c => ?_, s4, s5, fun p a b => ?_⟩
  · dsimp only
    split
    · omega
    · exact s3 c
  · dsimp only
    have hp := s4 p a b
    have hw := v2.2
    have hn : whoC m 47 57 (vN m i) (vN m (i + 1)) = -1 := by unfold filC at hw; omega
    have hn2 := whoC_n hn a b
    rw [if_neg (by omega)]
    exact s6 p a b
theorem fgX_ok (h : DrOk m) (hf : (fgF m i).1 = 0) : DrOk (fgX m i) := by
  obtain ⟨f0, f1, f2, f3, -⟩ := fgF_0 hf
  have v2 := numF_0 f2
  have v3 := numF_0 f3
  obtain ⟨h1, h2, h3, h4, h5, h6, h7⟩ := h
  have er : ∀ b : Nat, b ≠ 47 → b ≠ 48 → b ≠ 49 → b ≠ 50 → fgX m i b = m b := fun b a c d e => by unfold fgX; rw [wr_row a, wr_row e, wr_row d, wr_row c]
  have ej : ∀ j : Int, j ≠ 2 → fgX m i 47 j = m 47 j := fun j a => by unfold fgX; rw [wr_ni a, wr_na (by decide), wr_na (by decide), wr_na (by decide)]
  have e2 : fgX m i 47 2 = m 47 2 + 1 := by unfold fgX; rw [wr_self]
  have e49 : fgX m i 49 = fun j => if j = m 47 2 then vN m (i + 1) else m 49 j := by unfold fgX; rw [wr_row (by decide), wr_row (by decide), wr_rowat]; funext j; rw [wr_na (by decide)]
  have e50 : fgX m i 50 = fun j => if j = m 47 2 then vN m (i + 2) else m 50 j := by unfold fgX; rw [wr_row (by decide), wr_rowat]; funext j; rw [wr_na (by decide), wr_na (by decide)]
  obtain ⟨k1, k2, k3, k4, k5, k6, k7, k8⟩ := id h1
  obtain ⟨s1, s2, s3, s4, s5, s6⟩ := id h2
  refine ⟨?_, ?_, ?_, by rw [er 63 (by decide) (by decide) (by decide) (by decide)]; exact h4, by rw [er 64 (by decide) (by decide) (by decide) (by decide)]; exact h5, by rw [er 57 (by decide) (by decide) (by decide) (by decide)]; exact h6, by rw [er 57 (by decide) (by decide) (by decide) (by decide)]; exact h7⟩
  · unfold DnOk
    rw [ej 0 (by decide), ej 1 (by decide), e2, ej 3 (by decide), ej 4 (by decide), show fgX m i (47 + 2) = _ from e49, show fgX m i (47 + 3) = _ from e50, er (47 + 5) (by decide) (by decide) (by decide) (by decide), er (47 + 7) (by decide) (by decide) (by decide) (by decide), er (47 + 8) (by decide) (by decide) (by decide) (by decide), er (47 + 9) (by decide) (by decide) (by decide) (by decide)]
    refine ⟨k1, k2, by omega, k4, k5, fun f a b => ?_, k7, k8⟩
    dsimp only
    by_cases hff : f = m 47 2
    · rw [if_pos hff, if_pos hff]; omega
    · rw [if_neg hff, if_neg hff]; exact k6 f a (by omega)
  · exact h2.c4 (ej 0 (by decide)) (ej 1 (by decide)) (ej 3 (by decide)) (ej 4 (by decide)) (er _ (by decide) (by decide) (by decide) (by decide)) (fun k hk => er _ (by omega) (by omega) (by omega) (by omega))
  · rw [er 45 (by decide) (by decide) (by decide) (by decide), ej 3 (by decide), ej 4 (by decide)]; exact h3
theorem psX_ok (h : DrOk m) (hf : (psF m i).1 = 0) : DrOk (psX m i) := by
  obtain ⟨f0, f1, f2, f3, f4, f5, -⟩ := psF_0 hf
  have v2 := numF_0 f2
  have v3 := frF_0 f3
  have v4 := numF_0 f4
  have v5 := numF_0 f5
  obtain ⟨h1, h2, h3, h4, h5, h6, h7⟩ := h
  have er : ∀ b : Nat, b ≠ 45 → b ≠ 47 → b ≠ 51 → b ≠ 52 → b ≠ 59 → b ≠ 60 → b ≠ 61 → b ≠ 62 → psX m i b = m b := fun b a c d e f g k l => by unfold psX; rw [wr_row c, wr_row e, wr_row l, wr_row k, wr_row g, wr_row f, wr_row d, wr_row a]
  have er' : ∀ b : Nat, (b = 47 + 2 ∨ b = 47 + 3 ∨ b = 47 + 7 ∨ b = 47 + 8 ∨ b = 47 + 9 ∨ b = 57 ∨ b = 57 + 1 ∨ b = 57 + 6 ∨ b = 57 + 7) → psX m i b = m b := fun b q => er b (by omega) (by omega) (by omega) (by omega) (by omega) (by omega) (by omega) (by omega)
  have ej : ∀ j : Int, j ≠ 3 → psX m i 47 j = m 47 j := fun j a => by unfold psX; rw [wr_ni a]; simp (disch := decide) only [wr_na]
  have e3 : psX m i 47 3 = m 47 3 + 1 := by unfold psX; rw [wr_self]
  have e45 : psX m i 45 3 = 1 := by unfold psX; simp (disch := decide) only [wr_na, wr_self]
  have e52 : psX m i (47 + 5) = fun j => if j = m 47 3 then vN m (i + 4) else m 52 j := by unfold psX; rw [show 47 + 5 = 52 from rfl]; simp (disch := decide) only [wr_row, wr_rowat]
  have e59 : psX m i (57 + 2) = fun j => if j = m 47 3 then vN m (i + 1) else m 59 j := by unfold psX; rw [show 57 + 2 = 59 from rfl]; simp (disch := decide) only [wr_row, wr_rowat]
  have e60 : psX m i (57 + 3) = fun j => if j = m 47 3 then vN m (i + 2) else m 60 j := by unfold psX; rw [show 57 + 3 = 60 from rfl]; simp (disch := decide) only [wr_row, wr_rowat]
  have e61 : psX m i (57 + 4) = fun j => if j = m 47 3 then vN m (i + 3) else m 61 j := by unfold psX; rw [show 57 + 4 = 61 from rfl]; simp (disch := decide) only [wr_row, wr_rowat]
  have e62 : psX m i (57 + 5) = fun j => if j = m 47 3 then vN m (i + 4) else m 62 j := by unfold psX; rw [show 57 + 5 = 62 from rfl]; simp (disch := decide) only [wr_row, wr_rowat]
  obtain ⟨k1, k2, k3, k4, k5, k6, k7, k8⟩ := id h1
  obtain ⟨s1, s2, s3, s4, s5, s6⟩ := id h2
  have hin : insC m 47 (vN m (i + 1)) (vN m (i + 2)) := ⟨by omega, by omega, by omega, by omega⟩
  have hw0 : wallC m 47 57 (vN m (i + 1)) (vN m (i + 2)) = 0 := by have := v3.2; unfold filC at this; omega
  have hn : whoC m 47 57 (vN m (i + 1)) (vN m (i + 2)) = -1 := by have := v3.2; unfold filC at this; omega
  have hw1 : m (57 + 1) (9 * vN m (i + 2) + vN m (i + 1)) = 0 := by unfold wallC at hw0; rw [if_pos hin] at hw0; exact hw0
  refine ⟨?_, ?_, fun q => by omega, by rw [er' 63 (by omega)]; exact h4, by rw [er' 64 (by omega)]; exact h5, by rw [er' 57 (by omega)]; exact h6, by rw [er' 57 (by omega)]; exact h7⟩
  · unfold DnOk
    rw [ej 0 (by decide), ej 1 (by decide), ej 2 (by decide), e3, ej 4 (by decide), er' (47 + 2) (by omega), er' (47 + 3) (by omega), e52, er' (47 + 7) (by omega), er' (47 + 8) (by omega), er' (47 + 9) (by omega)]
    refine ⟨k1, k2, k3, by omega, k5, k6, fun p a b => ?_, k8⟩
    dsimp only
    by_cases hp : p = m 47 3
    · rw [if_pos hp]; omega
    · rw [if_neg hp]; exact k7 p a (by omega)
  · unfold StOk
    rw [ej 0 (by decide), ej 1 (by decide), ej 4 (by decide), e3, er' 57 (by omega), er' (57 + 1) (by omega), e52, e59, e60, e61, e62, er' (57 + 6) (by omega), er' (57 + 7) (by omega)]
    refine ⟨s1, s2, s3, fun p a b => ?_, fun p q a b a' b' g1 g2 => ?_, fun p a b => ?_⟩
    · dsimp only
      have z6 : m (57 + 6) p = 0 := h4 p
      have z7 : m (57 + 7) p = 0 := h5 p
      have hpw := pow2_pos (m 47 4)
      by_cases hp : p = m 47 3
      · simp only [hp, if_true]
        rw [← hp]
        refine ⟨by omega, by omega, by omega, by omega, by omega, by omega, by omega, by omega, by omega, by omega, by omega, by omega⟩
      · simp only [hp, if_false]
        exact s4 p a (by omega)
    · dsimp only at g1 g2
      by_cases hp : p = m 47 3
      · by_cases hq : q = m 47 3
        · omega
        · simp only [hp, hq, if_true, if_false] at g1 g2
          exact absurd ⟨g1.symm, g2.symm⟩ (whoC_n hn a' (by omega))
      · by_cases hq : q = m 47 3
        · simp only [hp, hq, if_true, if_false] at g1 g2
          exact absurd ⟨g1, g2⟩ (whoC_n hn a (by omega))
        · simp only [hp, hq, if_false] at g1 g2
          exact s5 p q a (by omega) a' (by omega) g1 g2
    · dsimp only
      by_cases hp : p = m 47 3
      · simp only [hp, if_true]; exact hw1
      · simp only [hp, if_false]; exact s6 p a (by omega)
theorem ptX_ok (h : DrOk m) (hf : (ptF m i).1 = 0) : DrOk (ptX m i) := by
  obtain ⟨f0, f1, f2, f3, f4, -⟩ := ptF_0 hf
  have v2 := numF_0 f2
  have v3 := numF_0 f3
  have v4 := numF_0 f4
  obtain ⟨h1, h2, h3, h4, h5, h6, h7⟩ := h
  have er : ∀ b : Nat, b ≠ 45 → b ≠ 47 → b ≠ 53 → b ≠ 54 → b ≠ 55 → b ≠ 56 → ptX m i b = m b := fun b a c d e f g => by unfold ptX; rw [wr_row c, wr_row g, wr_row f, wr_row e, wr_row d, wr_row a]
  have ej : ∀ j : Int, j ≠ 4 → ptX m i 47 j = m 47 j := fun j a => by unfold ptX; rw [wr_ni a]; simp (disch := decide) only [wr_na]
  have e4 : ptX m i 47 4 = m 47 4 + 1 := by unfold ptX; rw [wr_self]
  have e45 : ptX m i 45 3 = 1 := by unfold ptX; simp (disch := decide) only [wr_na, wr_self]
  have e54 : ptX m i (47 + 7) = fun j => if j = m 47 4 then vN m (i + 1) else m 54 j := by unfold ptX; rw [show 47 + 7 = 54 from rfl]; simp (disch := decide) only [wr_row, wr_rowat]
  have e55 : ptX m i (47 + 8) = fun j => if j = m 47 4 then vN m (i + 2) else m 55 j := by unfold ptX; rw [show 47 + 8 = 55 from rfl]; simp (disch := decide) only [wr_row, wr_rowat]
  have e56 : ptX m i (47 + 9) = fun j => if j = m 47 4 then vN m (i + 3) else m 56 j := by unfold ptX; rw [show 47 + 9 = 56 from rfl]; simp (disch := decide) only [wr_row, wr_rowat]
  obtain ⟨k1, k2, k3, k4, k5, k6, k7, k8⟩ := id h1
  obtain ⟨s1, s2, s3, s4, s5, s6⟩ := id h2
  refine ⟨?_, ?_, fun q => by omega, by rw [er 63 (by decide) (by decide) (by decide) (by decide) (by decide) (by decide)]; exact h4, by rw [er 64 (by decide) (by decide) (by decide) (by decide) (by decide) (by decide)]; exact h5, by rw [er 57 (by decide) (by decide) (by decide) (by decide) (by decide) (by decide)]; exact h6, by rw [er 57 (by decide) (by decide) (by decide) (by decide) (by decide) (by decide)]; exact h7⟩
  · unfold DnOk
    rw [ej 0 (by decide), ej 1 (by decide), ej 2 (by decide), ej 3 (by decide), e4, er (47 + 2) (by decide) (by decide) (by decide) (by decide) (by decide) (by decide), er (47 + 3) (by decide) (by decide) (by decide) (by decide) (by decide) (by decide), er (47 + 5) (by decide) (by decide) (by decide) (by decide) (by decide) (by decide), e54, e55, e56]
    refine ⟨k1, k2, k3, k4, by omega, k6, k7, fun q a b => ?_⟩
    dsimp only
    by_cases hq : q = m 47 4
    · simp only [hq, if_true]; omega
    · simp only [hq, if_false]; exact k8 q a (by omega)
  · have hr : ∀ k, k < 8 → ptX m i (57 + k) = m (57 + k) := fun k hk => er _ (by omega) (by omega) (by omega) (by omega) (by omega) (by omega)
    unfold StOk
    rw [ej 0 (by decide), ej 1 (by decide), ej 3 (by decide), e4, er (47 + 5) (by decide) (by decide) (by decide) (by decide) (by decide) (by decide), show ptX m i 57 = m 57 from hr 0 (by omega), hr 1 (by omega), hr 2 (by omega), hr 3 (by omega), hr 4 (by omega), hr 5 (by omega), hr 6 (by omega), hr 7 (by omega)]
    refine ⟨s1, s2, s3, fun p a b => ?_, s5, s6⟩
    have hp := s4 p a b
    have hpw := pow2_s (n := m 47 4) (by omega)
    have hpp := pow2_pos (m 47 4)
    exact ⟨hp.1, hp.2.1, hp.2.2.1, hp.2.2.2.1, hp.2.2.2.2.1, hp.2.2.2.2.2.1, hp.2.2.2.2.2.2.1, hp.2.2.2.2.2.2.2.1, hp.2.2.2.2.2.2.2.2.1, by omega, hp.2.2.2.2.2.2.2.2.2.2.1, hp.2.2.2.2.2.2.2.2.2.2.2⟩
theorem lnX_ok (h : DrOk m) (hf : (lnF m i).1 = 0) : DrOk (lnX m i) ∧ i + 2 ≤ (lnF m i).2 ∧ 200 ≤ m 4 (i - 1) := by
  unfold lnF at hf ⊢
  unfold lnX
  by_cases a0 : m 4 (i - 1) = 200
  · rw [if_pos a0] at hf ⊢; rw [if_pos a0]; exact ⟨szX_ok h hf, by have := (szF_0 hf).2.2.2; omega, by omega⟩
  · rw [if_neg a0] at hf ⊢; rw [if_neg a0]
    by_cases a1 : m 4 (i - 1) = 201
    · rw [if_pos a1] at hf ⊢; rw [if_pos a1]; exact ⟨wlX_ok h hf, by have := (wlF_0 hf).2.2.2; omega, by omega⟩
    · rw [if_neg a1] at hf ⊢; rw [if_neg a1]
      by_cases a2 : m 4 (i - 1) = 202
      · rw [if_pos a2] at hf ⊢; rw [if_pos a2]; exact ⟨fgX_ok h hf, by have := (fgF_0 hf).2.2.2.2; omega, by omega⟩
      · rw [if_neg a2] at hf ⊢; rw [if_neg a2]
        by_cases a3 : m 4 (i - 1) = 203
        · rw [if_pos a3] at hf ⊢; rw [if_pos a3]; exact ⟨psX_ok h hf, by have := (psF_0 hf).2.2.2.2.2.2; omega, by omega⟩
        · rw [if_neg a3] at hf ⊢; rw [if_neg a3]
          by_cases a4 : m 4 (i - 1) = 204
          · rw [if_pos a4] at hf ⊢; exact ⟨ptX_ok h hf, by have := (ptF_0 hf).2.2.2.2.2; omega, by omega⟩
          · rw [if_neg a4] at hf; exact absurd hf (by show (1 : Int) ≠ 0; decide)
end
