/-! ===== what acts leave as it must be ===== -/
section Keep
variable {m : Mem} {d st : Nat} {p f s n B : Int}
theorem sayC_0 : sayC m d st p f s st = m st := by unfold sayC bring sayW; simp (disch := omega) only [wr_row]
theorem sayC_1 : sayC m d st p f s (st + 1) = m (st + 1) := by unfold sayC bring sayW; simp (disch := omega) only [wr_row]
theorem sayC_2 : sayC m d st p f s (st + 2) = fun j => if j = p then m (st + 2) p + m (d + 3) f * dx s else m (st + 2) j := by unfold sayC bring sayW; simp (disch := omega) only [wr_row, wr_rowat]
theorem sayC_3 : sayC m d st p f s (st + 3) = fun j => if j = p then m (st + 3) p + m (d + 3) f * dy s else m (st + 3) j := by unfold sayC bring sayW; simp (disch := omega) only [wr_row, wr_rowat]
theorem sayC_4 : sayC m d st p f s (st + 4) = fun j => if j = p then iand (m (st + 4) p + m (d + 2) f) 3 else m (st + 4) j := by unfold sayC bring sayW; simp (disch := omega) only [wr_row, wr_rowat]
theorem sayC_5 : sayC m d st p f s (st + 5) = fun j => if j = p then m (st + 5) p - costC m d f else m (st + 5) j := by unfold sayC bring sayW; simp (disch := omega) only [wr_row, wr_rowat]
theorem sayC_7 : sayC m d st p f s (st + 7) = fun j => if j = p then m (st + 7) p + 1 else m (st + 7) j := by unfold sayC bring sayW; simp (disch := omega) only [wr_row, wr_rowat]
theorem sayW_6 : sayW m d st p f s (st + 6) = m (st + 6) := by unfold sayW; simp (disch := omega) only [wr_row]
theorem sayW_d (hsep : d + 10 ≤ st) : sayW m d st p f s d = m d := by unfold sayW; simp (disch := omega) only [wr_row]
theorem sayC_6 (hsep : d + 10 ≤ st) : sayC m d st p f s (st + 6) = fun j => if j = p then comeN (m (st + 6) p) (upP (sayW m d st p f s) d st p) (m d 4).toNat else m (st + 6) j := by
  unfold sayC bring; rw [wr_rowat, sayW_6, sayW_d hsep]
theorem lwC_0 {x y u v : Int} : ∀ {k : Nat}, lwC m d st x y u v k = 0 → ∀ j : Int, 1 ≤ j → j ≤ k → barC m d st (x + j * u) (y + j * v) = 0 := by
  intro k
  induction k with
  | zero => intro _ j h1 h2; omega
  | succ k ih =>
    intro h j h1 h2
    have hb := barC_b m d st (x + ((k : Int) + 1) * u) (y + ((k : Int) + 1) * v)
    have hl := lwC_b m d st x y u v k
    simp only [lwC] at h
    split at h
    · rename_i hc; exact absurd h hc.1
    · rename_i hc
      by_cases hj : j ≤ k
      · exact ih h j h1 hj
      · have : j = (k : Int) + 1 := by omega
        subst this
        by_cases h0 : barC m d st (x + ((k : Int) + 1) * u) (y + ((k : Int) + 1) * v) = 0
        · exact h0
        · exact absurd ⟨h0, Or.inl h⟩ hc
theorem barC_0 {x y : Int} (h : barC m d st x y = 0) : insC m d x y ∧ m (st + 1) (9 * y + x) ≤ 0 ∧ whoC m d st x y = -1 := by
  unfold barC at h
  split at h
  · split at h
    · omega
    · split at h
      · exact ⟨by assumption, by omega, by assumption⟩
      · omega
  · omega
theorem whoC_n {x y : Int} (h : whoC m d st x y = -1) {j : Int} (h0 : 0 ≤ j) (h1 : j < m d 3) : ¬ (m (st + 2) j = x ∧ m (st + 3) j = y) := by
  rcases fnd_cases (fun p => decide (m (st + 2) p = x ∧ m (st + 3) p = y)) (m d 3) with ⟨_, h2⟩ | ⟨h2, _⟩
  · have := h2 j h0 h1; simpa using this
  · unfold whoC at h; omega
/-- where one is behind a FIGURE that he can say -/
theorem say_end (hdn : DnOk m d) (hst : StOk m d st B) (hp : 0 ≤ p ∧ p < m d 3) (hf : 0 ≤ f ∧ f < m d 2) (hw : whySayC m d st p f s = 0) :
    costC m d f ≤ m (st + 5) p ∧ insC m d (m (st + 2) p + m (d + 3) f * dx s) (m (st + 3) p + m (d + 3) f * dy s) ∧ m (st + 1) (9 * (m (st + 3) p + m (d + 3) f * dy s) + (m (st + 2) p + m (d + 3) f * dx s)) = 0 ∧
    ∀ j : Int, 0 ≤ j → j < m d 3 → j ≠ p → ¬ (m (st + 2) j = m (st + 2) p + m (d + 3) f * dx s ∧ m (st + 3) j = m (st + 3) p + m (d + 3) f * dy s) := by
  obtain ⟨⟨hd0, hd1⟩, ⟨hd2, hd3⟩, ⟨hd4, hd5⟩, ⟨hd6, hd7⟩, ⟨hd8, hd9⟩, hdf, hdp, hdq⟩ := id hdn
  obtain ⟨⟨hs0, hs1⟩, ⟨hs2, hs3⟩, hsw, hsp, hsd, hsz⟩ := id hst
  have hff := hdf f hf.1 hf.2
  have hpp := hsp p hp.1 hp.2
  unfold whySayC at hw
  split at hw
  · omega
  · refine ⟨by omega, ?_⟩
    by_cases h0 : m (d + 3) f = 0
    · rw [h0]
      simp only [Int.zero_mul, Int.add_zero]
      refine ⟨⟨by omega, by omega, by omega, by omega⟩, hsz p hp.1 hp.2, fun j a b c e => c (hsd j p a b hp.1 hp.2 e.1 e.2)⟩
    · have hb := lwC_0 hw (m (d + 3) f) (by omega) (by omega)
      obtain ⟨b1, b2, b3⟩ := barC_0 hb
      exact ⟨b1, by have := (hsw (9 * (m (st + 3) p + m (d + 3) f * dy s) + (m (st + 2) p + m (d + 3) f * dx s))).1; omega, fun j a b _ => whoC_n b3 a b⟩
theorem sayC_ok (hsep : d + 10 ≤ st) (hdn : DnOk m d) (hst : StOk m d st B) (hp : 0 ≤ p ∧ p < m d 3) (hf : 0 ≤ f ∧ f < m d 2) (hw : whySayC m d st p f s = 0) : StOk (sayC m d st p f s) d st (B + 1) := by
  obtain ⟨e1, e2, e3, e4⟩ := say_end hdn hst hp hf hw
  obtain ⟨⟨hd0, hd1⟩, ⟨hd2, hd3⟩, ⟨hd4, hd5⟩, ⟨hd6, hd7⟩, ⟨hd8, hd9⟩, hdf, hdp, hdq⟩ := id hdn
  obtain ⟨⟨hs0, hs1⟩, ⟨hs2, hs3⟩, hsw, hsp, hsd, hsz⟩ := id hst
  have hff := hdf f hf.1 hf.2
  have hpp := hsp p hp.1 hp.2
  have hcc : 1 ≤ costC m d f := by unfold costC; omega
  have hfr := sayC_fr (m := m) (d := d) (st := st) (p := p) (f := f) (s := s)
  have r0 := hfr d (by omega)
  have r5 := hfr (d + 5) (by omega)
  have hcb := comeN_b (c := m (st + 6) p) (n := m d 4) (P := upP (sayW m d st p f s) d st p) hd9 hpp.2.2.2.2.2.2.2.2.1 hpp.2.2.2.2.2.2.2.2.2.1 (m d 4).toNat (by omega)
  have hia : iand (m (st + 4) p + m (d + 2) f) 3 = (m (st + 4) p + m (d + 2) f) % 4 := iand3 (by omega) (by omega)
  unfold StOk
  rw [sayC_0, sayC_1, sayC_2, sayC_3, sayC_4, sayC_5, sayC_6 hsep, sayC_7, r0, r5, hia]
  refine ⟨⟨hs0, hs1⟩, ⟨hs2, by omega⟩, hsw, fun j a b => ?_, fun j k a b a' b' h1 h2 => ?_, fun j a b => ?_⟩
  · have hj := hsp j a b
    by_cases hjp : j = p
    · subst hjp
      simp only [if_true]
      obtain ⟨i1, i2, i3, i4⟩ := e2
      refine ⟨i1, i2, i3, i4, by omega, by omega, by omega, by omega, hcb.1, hcb.2, by omega, by omega⟩
    · simp only [hjp, if_false]
      refine ⟨hj.1, hj.2.1, hj.2.2.1, hj.2.2.2.1, hj.2.2.2.2.1, hj.2.2.2.2.2.1, hj.2.2.2.2.2.2.1, hj.2.2.2.2.2.2.2.1, hj.2.2.2.2.2.2.2.2.1, hj.2.2.2.2.2.2.2.2.2.1, hj.2.2.2.2.2.2.2.2.2.2.1, by omega⟩
  · by_cases hjp : j = p
    · by_cases hkp : k = p
      · omega
      · simp only [hjp, hkp, if_true, if_false] at h1 h2
        exact absurd ⟨h1.symm, h2.symm⟩ (e4 k a' b' hkp)
    · by_cases hkp : k = p
      · simp only [hjp, hkp, if_true, if_false] at h1 h2
        exact absurd ⟨h1, h2⟩ (e4 j a b hjp)
      · simp only [hjp, hkp, if_false] at h1 h2
        exact hsd j k a b a' b' h1 h2
  · by_cases hjp : j = p
    · simp only [hjp, if_true]; exact e3
    · simp only [hjp, if_false]; exact hsz j a b
theorem kickC_0 : kickC m st p s st = fun j => if j = 1 then m st 1 + 1 else m st j := by unfold kickC; simp (disch := omega) only [wr_row, wr_rowat]
theorem kickC_1 : kickC m st p s (st + 1) = fun j => if j = 9 * (m (st + 3) p + dy s) + (m (st + 2) p + dx s) then m (st + 1) (9 * (m (st + 3) p + dy s) + (m (st + 2) p + dx s)) - 1 else m (st + 1) j := by unfold kickC; simp (disch := omega) only [wr_row, wr_rowat]
theorem kickC_5 : kickC m st p s (st + 5) = fun j => if j = p then m (st + 5) p - 1 else m (st + 5) j := by unfold kickC; simp (disch := omega) only [wr_row, wr_rowat]
theorem kickC_r {k : Nat} (h : k ≠ st) (h1 : k ≠ st + 1) (h5 : k ≠ st + 5) : kickC m st p s k = m k := by unfold kickC; simp (disch := omega) only [wr_row]
theorem kick_end (hw : whyKickC m d st p s = 0) : m (st + 5) p ≠ 0 ∧ insC m d (m (st + 2) p + dx s) (m (st + 3) p + dy s) ∧ 0 < m (st + 1) (9 * (m (st + 3) p + dy s) + (m (st + 2) p + dx s)) := by
  unfold whyKickC wallC at hw
  by_cases h1 : m (st + 5) p = 0
  · rw [if_pos h1] at hw; omega
  · rw [if_neg h1] at hw
    by_cases h2 : insC m d (m (st + 2) p + dx s) (m (st + 3) p + dy s)
    · rw [if_pos h2] at hw
      refine ⟨h1, h2, ?_⟩
      split at hw
      · assumption
      · omega
    · rw [if_neg h2] at hw
      split at hw <;> omega
theorem kickC_ok (hsep : d + 10 ≤ st) (hst : StOk m d st B) (hp : 0 ≤ p ∧ p < m d 3) (hw : whyKickC m d st p s = 0) : StOk (kickC m st p s) d st (B + 1) := by
  obtain ⟨e1, e2, e3⟩ := kick_end hw
  obtain ⟨⟨hs0, hs1⟩, ⟨hs2, hs3⟩, hsw, hsp, hsd, hsz⟩ := id hst
  have hpp := hsp p hp.1 hp.2
  have hfr := kickC_fr (m := m) (st := st) (p := p) (s := s)
  have r0 := hfr d (by omega)
  have r5 := hfr (d + 5) (by omega)
  unfold StOk
  rw [kickC_0, kickC_1, kickC_5, kickC_r (k := st + 2) (by omega) (by omega) (by omega), kickC_r (k := st + 3) (by omega) (by omega) (by omega), kickC_r (k := st + 4) (by omega) (by omega) (by omega), kickC_r (k := st + 6) (by omega) (by omega) (by omega), kickC_r (k := st + 7) (by omega) (by omega) (by omega), r0, r5]
  dsimp only
  refine ⟨⟨by simpa using hs0, by simpa using hs1⟩, ⟨by simp only [if_true]; omega, by simp only [if_true]; omega⟩, fun c => ?_, fun j a b => ?_, hsd, fun j a b => ?_⟩
  · have := hsw c
    split
    · rename_i h; rw [← h]; rw [← h] at e3; omega
    · exact this
  · have hj := hsp j a b
    refine ⟨hj.1, hj.2.1, hj.2.2.1, hj.2.2.2.1, hj.2.2.2.2.1, hj.2.2.2.2.2.1, ?_, ?_, hj.2.2.2.2.2.2.2.2.1, hj.2.2.2.2.2.2.2.2.2.1, hj.2.2.2.2.2.2.2.2.2.2.1, by omega⟩
    · split
      · omega
      · exact hj.2.2.2.2.2.2.1
    · split
      · rename_i h; subst h; omega
      · exact hj.2.2.2.2.2.2.2.1
  · have hz := hsz j a b
    have hj := hsp j a b
    split
    · rename_i h; rw [h] at hz; omega
    · exact hz
theorem restC_5 : restC m d st p (st + 5) = fun j => if j = p then m (d + 5) p else m (st + 5) j := by unfold restC; rw [wr_rowat]
theorem restC_r {k : Nat} (h5 : k ≠ st + 5) : restC m d st p k = m k := by unfold restC; rw [wr_row h5]
theorem restC_ok (hsep : d + 10 ≤ st) (hdn : DnOk m d) (hst : StOk m d st B) (hp : 0 ≤ p ∧ p < m d 3) : StOk (restC m d st p) d st B := by
  obtain ⟨⟨hs0, hs1⟩, ⟨hs2, hs3⟩, hsw, hsp, hsd, hsz⟩ := id hst
  obtain ⟨-, -, -, -, -, -, hdp, -⟩ := id hdn
  unfold StOk
  rw [restC_5, restC_r (k := d) (by omega), restC_r (k := d + 5) (by omega), restC_r (k := st) (by omega), restC_r (k := st + 1) (by omega), restC_r (k := st + 2) (by omega), restC_r (k := st + 3) (by omega), restC_r (k := st + 4) (by omega), restC_r (k := st + 6) (by omega), restC_r (k := st + 7) (by omega)]
  dsimp only
  refine ⟨⟨hs0, hs1⟩, ⟨hs2, hs3⟩, hsw, fun j a b => ?_, hsd, hsz⟩
  have hj := hsp j a b
  have h5 := hdp j a b
  refine ⟨hj.1, hj.2.1, hj.2.2.1, hj.2.2.2.1, hj.2.2.2.2.1, hj.2.2.2.2.2.1, ?_, ?_, hj.2.2.2.2.2.2.2.2.1, hj.2.2.2.2.2.2.2.2.2.1, hj.2.2.2.2.2.2.2.2.2.2.1, hj.2.2.2.2.2.2.2.2.2.2.2⟩
  · split
    · rename_i h; subst h; omega
    · omega
  · split
    · rename_i h; subst h; omega
    · omega
theorem passC_0 : passC m d st n st = fun j => if j = 0 then m st 0 + n else m st j := by unfold passC; rw [wr_rowat, hrsC_row (by omega)]
theorem passC_5 : passC m d st n (st + 5) = fun j => if 0 ≤ j ∧ j < m d 3 then min (m (d + 5) j) (m (st + 5) j + n) else m (st + 5) j := by
  unfold passC; rw [wr_row (by omega)]
  funext j; unfold hrsC; simp
theorem passC_r {k : Nat} (h : k ≠ st) (h5 : k ≠ st + 5) : passC m d st n k = m k := by unfold passC; rw [wr_row h, hrsC_row h5]
theorem passC_ok (hsep : d + 10 ≤ st) (hdn : DnOk m d) (hst : StOk m d st B) (hn : 0 ≤ n) (hh : m st 0 + n ≤ 400) : StOk (passC m d st n) d st B := by
  obtain ⟨⟨hs0, hs1⟩, ⟨hs2, hs3⟩, hsw, hsp, hsd, hsz⟩ := id hst
  obtain ⟨-, -, -, -, -, -, hdp, -⟩ := id hdn
  unfold StOk
  rw [passC_5, passC_0, passC_r (k := d) (by omega) (by omega), passC_r (k := d + 5) (by omega) (by omega), passC_r (k := st + 1) (by omega) (by omega), passC_r (k := st + 2) (by omega) (by omega), passC_r (k := st + 3) (by omega) (by omega), passC_r (k := st + 4) (by omega) (by omega), passC_r (k := st + 6) (by omega) (by omega), passC_r (k := st + 7) (by omega) (by omega)]
  dsimp only
  refine ⟨⟨by simp only [if_true]; omega, by simp only [if_true]; omega⟩, ⟨by simpa using hs2, by simpa using hs3⟩, hsw, fun j a b => ?_, hsd, hsz⟩
  have hj := hsp j a b
  have h5 := hdp j a b
  rw [if_pos ⟨a, b⟩]
  refine ⟨hj.1, hj.2.1, hj.2.2.1, hj.2.2.2.1, hj.2.2.2.2.1, hj.2.2.2.2.2.1, by omega, by omega, hj.2.2.2.2.2.2.2.2.1, hj.2.2.2.2.2.2.2.2.2.1, hj.2.2.2.2.2.2.2.2.2.2.1, hj.2.2.2.2.2.2.2.2.2.2.2⟩
theorem StOk.up {B' : Int} (h : StOk m d st B) (hB : B ≤ B') : StOk m d st B' := by
  obtain ⟨h1, ⟨h2, h3⟩, h4, h5, h6, h7⟩ := h
  refine ⟨h1, ⟨h2, by omega⟩, h4, fun p a b => ?_, h6, h7⟩
  have hj := h5 p a b
  exact ⟨hj.1, hj.2.1, hj.2.2.1, hj.2.2.2.1, hj.2.2.2.2.1, hj.2.2.2.2.2.1, hj.2.2.2.2.2.2.1, hj.2.2.2.2.2.2.2.1, hj.2.2.2.2.2.2.2.2.1, hj.2.2.2.2.2.2.2.2.2.1, hj.2.2.2.2.2.2.2.2.2.2.1, by omega⟩
end Keep
