/-! ===== the calls, one by one: those that change little ===== -/
theorem putC_o {m : Mem} {x j : Int} {b : Nat} (h1 : ¬ (b = 1 ∧ j = 1)) (h2 : b ≠ 2) : putC m x b j = m b j := by unfold putC; rw [if_neg h1, if_neg (fun q => h2 q.1)]
theorem comC_o {m : Mem} {x j : Int} {b : Nat} (h1 : ¬ (b = 214 ∧ j = 2)) (h2 : b ≠ 215) : comC m x b j = m b j := by unfold comC; rw [if_neg h1, if_neg (fun q => h2 q.1)]
theorem putC_1 {m : Mem} {x : Int} : putC m x 1 1 = m 1 1 + 4 := by unfold putC; rw [if_pos ⟨rfl, rfl⟩]
section
variable {m : Mem} {B : Int}
theorem c_feed {a b c e f : Int} (h : Inv m B) (ha : InR a) (hb : InR b) (hc : InR c) (he : InR e) (hf : InR f) : Duo mX11_feed mX12_feed [vi a, vi b, vi c, vi e, vi f] m (fun m2 => Inv m2 B) := by
  refine ⟨_, _, (by omega : 2 ≤ 70), ev_X11_feed ha hb hc he hf h.tp.2.1, fun r m1 hq => ?_⟩
  have t0 := h.tp.1
  rcases hq with ⟨hn, hr, hm⟩ | ⟨hn, hr, hm⟩
  · have k1 : ∀ (q : Nat) (j : Int), ¬ (q = 1 ∧ j = 1) → q ≠ 2 → m1 q j = m q j := fun q j h1 h2 => by
      rw [hm, putC_o h1 h2, putC_o h1 h2, putC_o h1 h2, putC_o h1 h2, putC_o h1 h2]
    have e2 : m1 214 2 = m 214 2 := k1 _ _ (by omega) (by omega)
    have g := h.tp.2.1
    refine ⟨_, _, (by omega : 2 ≤ 70), ev_X12_feed ha hb hc he hf (by rw [e2, t0]; exact g), fun r2 m2 hq2 => ?_⟩
    rcases hq2 with ⟨hn2, hr2, hm2⟩ | ⟨hn2, -, -⟩
    · refine ⟨by rw [hr, hr2, e2, t0], ?_⟩
      have k2 : ∀ (q : Nat) (j : Int), ¬ (q = 214 ∧ j = 2) → q ≠ 215 → ¬ (q = 214 ∧ j = 0) → m2 q j = m1 q j := fun q j h1 h2 h3 => by
        rw [hm2, comC_o h1 h2, comC_o h1 h2, comC_o h1 h2, comC_o h1 h2, comC_o h1 h2]
        unfold wr; rw [if_neg h3]
      have s0 : TpX m (wr m1 214 0 0) := h.tp.congr rfl rfl (by rw [wr_ni (by omega)]; exact e2) (by rw [wr_row (by omega)]; exact funext (fun j => k1 _ _ (by omega) (by omega)))
      have s1 := s0.put a (by omega)
      have s2 := s1.put b (by rw [putC_1]; omega)
      have s3 := s2.put c (by rw [putC_1, putC_1]; omega)
      have s4 := s3.put e (by rw [putC_1, putC_1, putC_1]; omega)
      have s5 := s4.put f (by rw [putC_1, putC_1, putC_1, putC_1]; omega)
      rw [← hm, ← hm2] at s5
      have s6 : TpX m2 m2 := s5.congr (k2 _ _ (by omega) (by omega) (by omega)) (funext (fun j => k2 _ _ (by omega) (by omega) (by omega))) rfl rfl
      have k : ∀ (q : Nat) (j : Int), ¬ (q = 1 ∧ j = 1) → q ≠ 2 → ¬ (q = 214 ∧ j = 2) → q ≠ 215 → ¬ (q = 214 ∧ j = 0) → m2 q j = m q j := fun q j h1 h2 h3 h4 h5 => (k2 q j h3 h4 h5).trans (k1 q j h1 h2)
      exact ⟨h.w.c (Int.le_refl _) (fun q j z => k q j (by omega) (by omega) (by omega) (by omega) (by omega)), h.hi.c h.dn (Int.le_refl _) (fun q j z => k q j (by omega) (by omega) (by omega) (by omega) (by omega)), fun n a0 b0 => (h.im n a0 b0).c a0 b0 (Int.le_refl _) (fun q j z => k q j (by omega) (by omega) (by omega) (by omega) (by omega)), s6, h.kw.c (fun j => k 3 j (by omega) (by omega) (by omega) (by omega) (by omega)), h.fa.c (fun q j z => k q j (by omega) (by omega) (by omega) (by omega) (by omega)), h.wy.c (fun q j z => k q j (by omega) (by omega) (by omega) (by omega) (by omega)), h.ud.c (fun q j z => k q j (by omega) (by omega) (by omega) (by omega) (by omega)), h.tr.c (fun q j z => k q j (by omega) (by omega) (by omega) (by omega) (by omega)), h.to.c (fun q j z => k q j (by omega) (by omega) (by omega) (by omega) (by omega)), h.sl.c (fun q j z => k q j (by omega) (by omega) (by omega) (by omega) (by omega))⟩
    · rw [e2, t0] at hn2; exact absurd hn hn2
  · subst hm
    refine ⟨_, _, (by omega : 2 ≤ 70), ev_X12_feed ha hb hc he hf (by rw [t0]; exact h.tp.2.1), fun r2 m2 hq2 => ?_⟩
    rcases hq2 with ⟨hn2, -, -⟩ | ⟨-, hr2, hm2⟩
    · rw [t0] at hn2; exact absurd hn2 hn
    · subst hm2; exact ⟨by rw [hr, hr2], h.t0⟩
theorem c_end {n : Int} (h : Inv m B) (hn : InR n) : Duo mX11_end mX12_end [vi n] m (fun m2 => Inv m2 B) := by
  refine ⟨_, _, (by omega : 1 ≤ 70), ev_X11_end hn, fun r m1 hq => ?_⟩
  have t0 := h.tp.1
  rcases hq with ⟨h0, h1, hr, hm⟩ | ⟨h0, hr, hm⟩
  · have k1 : ∀ (q : Nat) (j : Int), ¬ (q = 1 ∧ j = 1) → m1 q j = m q j := fun q j h1 => by rw [hm]; unfold wr; rw [if_neg h1]
    have e2 : m1 214 2 = m 214 2 := k1 _ _ (by omega)
    refine ⟨_, _, (by omega : 1 ≤ 70), ev_X12_end hn, fun r2 m2 hq2 => ?_⟩
    rcases hq2 with ⟨-, -, hr2, hm2⟩ | ⟨g0, -, -⟩
    · refine ⟨by rw [hr, hr2], ?_⟩
      have k2 : ∀ (q : Nat) (j : Int), ¬ (q = 214 ∧ j = 2) → ¬ (q = 214 ∧ j = 0) → m2 q j = m1 q j := fun q j h1 h3 => by
        rw [hm2]; unfold wr; rw [if_neg h1, if_neg h3]
      have s6 : TpX m2 m2 := h.tp.cut h0 h1 (by rw [k2 _ _ (by omega) (by omega), hm, wr_self]) (funext (fun j => (k2 _ _ (by omega) (by omega)).trans (k1 _ _ (by omega)))) (by rw [hm2, wr_self]) (funext (fun j => (k2 _ _ (by omega) (by omega)).trans (k1 _ _ (by omega))))
      have k : ∀ (q : Nat) (j : Int), ¬ (q = 1 ∧ j = 1) → ¬ (q = 214 ∧ j = 2) → ¬ (q = 214 ∧ j = 0) → m2 q j = m q j := fun q j h1 h3 h5 => (k2 q j h3 h5).trans (k1 q j h1)
      exact ⟨h.w.c (Int.le_refl _) (fun q j z => k q j (by omega) (by omega) (by omega)), h.hi.c h.dn (Int.le_refl _) (fun q j z => k q j (by omega) (by omega) (by omega)), fun n a0 b0 => (h.im n a0 b0).c a0 b0 (Int.le_refl _) (fun q j z => k q j (by omega) (by omega) (by omega)), s6, h.kw.c (fun j => k 3 j (by omega) (by omega) (by omega)), h.fa.c (fun q j z => k q j (by omega) (by omega) (by omega)), h.wy.c (fun q j z => k q j (by omega) (by omega) (by omega)), h.ud.c (fun q j z => k q j (by omega) (by omega) (by omega)), h.tr.c (fun q j z => k q j (by omega) (by omega) (by omega)), h.to.c (fun q j z => k q j (by omega) (by omega) (by omega)), h.sl.c (fun q j z => k q j (by omega) (by omega) (by omega))⟩
    · rw [e2, t0] at g0; exact absurd ⟨h0, h1⟩ g0
  · subst hm
    refine ⟨_, _, (by omega : 1 ≤ 70), ev_X12_end hn, fun r2 m2 hq2 => ?_⟩
    rcases hq2 with ⟨g0, g1, -, -⟩ | ⟨-, hr2, hm2⟩
    · rw [t0] at g1; exact absurd ⟨g0, g1⟩ h0
    · subst hm2; exact ⟨by rw [hr, hr2], h.t0⟩
theorem c_fault (h : Inv m B) : Duo mX11_fault mX12_fault [] m (fun m2 => Inv m2 B) := by
  refine ⟨_, _, (by omega : 1 ≤ 70), ev_X11_fault, fun r m1 hq => ?_⟩
  obtain ⟨rfl, hr⟩ := hq
  refine ⟨_, _, (by omega : 1 ≤ 70), ev_X12_fault, fun r2 m2 hq2 => ?_⟩
  obtain ⟨rfl, hr2⟩ := hq2
  exact ⟨by rw [hr2, hr]; exact h.fa.symm, h.t0⟩
theorem c_figure {f v : Int} (h : Inv m B) (hf : InR f) (hv : InR v) : Duo mX11_figure mX12_figure [vi f, vi v] m (fun m2 => Inv m2 B) := by
  refine ⟨_, _, (by omega : 5 ≤ 70), ev_X11_figure h.dn hf hv, fun r m1 hq => ?_⟩
  obtain ⟨rfl, hr⟩ := hq
  refine ⟨_, _, (by omega : 3 ≤ 70), ev_X12_figure h.bg h.dn hf hv, fun r2 m2 hq2 => ?_⟩
  obtain ⟨rfl, hr2⟩ := hq2
  exact ⟨by rw [hr2, hr], h.t0⟩
theorem c_point {f v : Int} (h : Inv m B) (hf : InR f) (hv : InR v) : Duo mX11_point mX12_point [vi f, vi v] m (fun m2 => Inv m2 B) := by
  refine ⟨_, _, (by omega : 2 ≤ 70), ev_X11_point h.dn hf hv, fun r m1 hq => ?_⟩
  obtain ⟨rfl, hr⟩ := hq
  refine ⟨_, _, (by omega : 3 ≤ 70), ev_X12_point h.bg h.dn h.st hf hv, fun r2 m2 hq2 => ?_⟩
  obtain ⟨rfl, hr2⟩ := hq2
  exact ⟨by rw [hr2, hr], h.t0⟩
theorem c_cell {x y v : Int} (h : Inv m B) (hx : InR x) (hy : InR y) (hv : InR v) : Duo mX11_cell mX12_cell [vi x, vi y, vi v] m (fun m2 => Inv m2 B) := by
  refine ⟨_, _, (by omega : 2 ≤ 70), ev_X11_cell h.dn hx hy hv, fun r m1 hq => ?_⟩
  obtain ⟨rfl, hr⟩ := hq
  refine ⟨_, _, (by omega : 3 ≤ 70), ev_X12_cell h.bg h.dn h.st hx hy hv, fun r2 m2 hq2 => ?_⟩
  obtain ⟨rfl, hr2⟩ := hq2
  exact ⟨by rw [hr2, hr], h.t0⟩
theorem c_now {v : Int} (h : Inv m B) (hB : 0 ≤ B ∧ B ≤ 100000000) (hv : InR v) : Duo mX11_now mX12_now [vi v] m (fun m2 => Inv m2 B) := by
  refine ⟨_, _, (by omega : 3 ≤ 70), ev_X11_now h.dn h.st hB hv, fun r m1 hq => ?_⟩
  obtain ⟨rfl, hr⟩ := hq
  refine ⟨_, _, (by omega : 3 ≤ 70), ev_X12_now h.bg h.dn h.st ⟨hB.1, by omega⟩ hv, fun r2 m2 hq2 => ?_⟩
  obtain ⟨rfl, hr2⟩ := hq2
  exact ⟨by rw [hr2, hr], h.t0⟩
theorem c_could {p f : Int} (h : Inv m B) (hp : InR p) (hf : InR f) : Duo mX11_could mX12_could [vi p, vi f] m (fun m2 => Inv m2 B) := by
  refine ⟨_, _, (by omega : 6 ≤ 70), ev_X11_could h.dn h.st hp hf, fun r m1 hq => ?_⟩
  obtain ⟨rfl, hr⟩ := hq
  refine ⟨_, _, (by omega : 6 ≤ 70), ev_X12_could h.bg h.dn h.st hp hf, fun r2 m2 hq2 => ?_⟩
  obtain ⟨rfl, hr2⟩ := hq2
  exact ⟨by rw [hr2, hr], h.t0⟩
theorem c_least (h : Inv m B) : Duo mX11_least mX12_least [] m (fun m2 => Inv m2 B) := by
  refine ⟨_, _, (by omega : 2 ≤ 70), ev_X11_least h.dn h.st, fun r m1 hq => ?_⟩
  obtain ⟨rfl, hr⟩ := hq
  refine ⟨_, _, (by omega : 1 ≤ 70), ev_X12_least h.bg h.dn h.st, fun r2 m2 hq2 => ?_⟩
  obtain ⟨rfl, hr2⟩ := hq2
  exact ⟨by rw [hr2, hr], h.t0⟩
theorem c_wayAt {k : Int} (h : Inv m B) (hk : InR k) : Duo mX11_wayAt mX12_wayAt [vi k] m (fun m2 => Inv m2 B) := by
  obtain ⟨w1, w2, w3⟩ := h.wy
  refine ⟨_, _, (by omega : 1 ≤ 70), ev_X11_wayAt hk (by omega), fun r m1 hq => ?_⟩
  obtain ⟨rfl, hr⟩ := hq
  refine ⟨_, _, (by omega : 2 ≤ 70), ev_X12_wayAt hk (by omega), fun r2 m2 hq2 => ?_⟩
  obtain ⟨rfl, hr2⟩ := hq2
  refine ⟨?_, h.t0⟩
  rw [hr2, hr, ← w1]
  by_cases q : 0 ≤ k ∧ k < m1 81 2
  · rw [if_pos q, if_pos q]; exact (w3 k q.1 q.2).symm
  · rw [if_neg q, if_neg q]
theorem c_undoesAt {k : Int} (h : Inv m B) (hk : InR k) : Duo mX11_undoesAt mX12_undoesAt [vi k] m (fun m2 => Inv m2 B) := by
  obtain ⟨w1, w2, w3⟩ := h.ud
  refine ⟨_, _, (by omega : 1 ≤ 70), ev_X11_undoesAt hk (by omega), fun r m1 hq => ?_⟩
  obtain ⟨rfl, hr⟩ := hq
  refine ⟨_, _, (by omega : 2 ≤ 70), ev_X12_undoesAt hk (by omega), fun r2 m2 hq2 => ?_⟩
  obtain ⟨rfl, hr2⟩ := hq2
  refine ⟨?_, h.t0⟩
  rw [hr2, hr, ← w1]
  by_cases q : 0 ≤ k ∧ k < m1 89 1
  · rw [if_pos q, if_pos q]; exact (w3 k q.1 q.2).symm
  · rw [if_neg q, if_neg q]
theorem c_tracksAt {k : Int} (h : Inv m B) (hk : InR k) : Duo mX11_tracksAt mX12_tracksAt [vi k] m (fun m2 => Inv m2 B) := by
  obtain ⟨w1, w2, w3, -⟩ := h.tr
  refine ⟨_, _, (by omega : 1 ≤ 70), ev_X11_tracksAt hk (by omega), fun r m1 hq => ?_⟩
  obtain ⟨rfl, hr⟩ := hq
  refine ⟨_, _, (by omega : 2 ≤ 70), ev_X12_tracksAt hk (by omega), fun r2 m2 hq2 => ?_⟩
  obtain ⟨rfl, hr2⟩ := hq2
  refine ⟨?_, h.t0⟩
  rw [hr2, hr, ← w1]
  by_cases q : 0 ≤ k ∧ k < m1 92 1
  · rw [if_pos q, if_pos q]; exact (w3 k q.1 q.2).symm
  · rw [if_neg q, if_neg q]
theorem c_byteAt {k : Int} (h : Inv m B) (hk : InR k) : Duo mX11_byteAt mX12_byteAt [vi k] m (fun m2 => Inv m2 B) := by
  obtain ⟨w1, w2, w3⟩ := h.sl
  refine ⟨_, _, (by omega : 1 ≤ 70), ev_X11_byteAt hk (by omega), fun r m1 hq => ?_⟩
  obtain ⟨rfl, hr⟩ := hq
  refine ⟨_, _, (by omega : 2 ≤ 70), ev_X12_byteAt hk (by omega), fun r2 m2 hq2 => ?_⟩
  obtain ⟨rfl, hr2⟩ := hq2
  refine ⟨?_, h.t0⟩
  rw [hr2, hr, ← w1]
  by_cases q : 0 ≤ k ∧ k < m1 0 13
  · rw [if_pos q, if_pos q]; exact (w3 k q.1 q.2).symm
  · rw [if_neg q, if_neg q]
theorem c_tells (h : Inv m B) : Duo mX11_tells mX12_tells [] m (fun m2 => Inv m2 B) := by
  obtain ⟨w1, w2, w3, w4⟩ := h.tr
  refine ⟨_, _, (by omega : 2 ≤ 70), ev_X11_tells w2, fun r m1 hq => ?_⟩
  obtain ⟨rfl, hr⟩ := hq
  refine ⟨_, _, (by omega : 1 ≤ 70), ev_X12_tells, fun r2 m2 hq2 => ?_⟩
  obtain ⟨rfl, hr2⟩ := hq2
  exact ⟨by rw [hr2, hr, w4], h.t0⟩
theorem c_told {v : Int} (h : Inv m B) (hv : InR v) : Duo mX11_told mX12_told [vi v] m (fun m2 => Inv m2 B) := by
  obtain ⟨w1, w2⟩ := h.to
  refine ⟨_, _, (by omega : 1 ≤ 70), ev_X11_told hv, fun r m1 hq => ?_⟩
  obtain ⟨rfl, hr⟩ := hq
  refine ⟨_, _, (by omega : 2 ≤ 70), ev_X12_told hv, fun r2 m2 hq2 => ?_⟩
  obtain ⟨rfl, hr2⟩ := hq2
  refine ⟨?_, h.t0⟩
  rw [hr2, hr, ← w1]
  by_cases q : m1 70 0 = 0
  · rw [if_pos q, if_neg (fun z => z.1 q)]
  · obtain ⟨a0, a1, a2, a3⟩ := w2 q
    rw [if_neg q]
    by_cases z : 0 ≤ v ∧ v ≤ 3
    · rw [if_pos ⟨q, z⟩]
      have : v = 0 ∨ v = 1 ∨ v = 2 ∨ v = 3 := by omega
      rcases this with rfl | rfl | rfl | rfl
      · exact a0.symm
      · exact a1.symm
      · exact a2.symm
      · exact a3.symm
    · rw [if_neg (fun y => z y.2), if_neg (by omega), if_neg (by omega), if_neg (by omega), if_neg (by omega)]
theorem c_count {v : Int} (h : Inv m B) (hv : InR v) : Duo mX11_count mX12_count [vi v] m (fun m2 => Inv m2 B) := by
  have t0 := h.tp.1
  refine ⟨_, _, (by omega : 1 ≤ 70), ev_X11_count hv, fun r m1 hq => ?_⟩
  obtain ⟨rfl, hr⟩ := hq
  refine ⟨_, _, (by omega : 1 ≤ 70), ev_X12_count h.bg h.dn hv, fun r2 m2 hq2 => ?_⟩
  obtain ⟨rfl, hr2⟩ := hq2
  exact ⟨by rw [hr2, hr, t0], h.t0⟩
theorem c_odds {p q n seed : Int} (h : Inv m B) (hB : 0 ≤ B ∧ B ≤ 100000000) (hp : InR p) (hq : InR q) (hn : InR n) (hs : InR seed) : Duo mX11_odds mX12_odds [vi p, vi q, vi n, vi seed] m (fun m2 => Inv m2 B) := by
  refine ⟨_, _, (by omega : 9 ≤ 70), ev_X11_odds h.dn h.st hB hp hq hn hs, fun r m1 hq1 => ?_⟩
  obtain ⟨⟨f1, f2⟩, hr⟩ := hq1
  have e6 : m1 216 = m 216 := f1 216 (by omega) (by omega)
  refine ⟨_, _, (by omega : 9 ≤ 70), ev_X12_odds (G := m) (B := B) (by rw [e6]; exact h.bg) h.dn h.st hp hq hn hs ⟨hB.1, by omega⟩, fun r2 m2 hq2 => ?_⟩
  obtain ⟨⟨g1, g2⟩, hr2⟩ := hq2
  refine ⟨by rw [hr2, hr], h.all (Int.le_refl _) (fun b j z => ?_)⟩
  have k1 : m1 b j = m b j := by rw [f1 b (by omega) (by omega)]
  by_cases q : b = 214
  · subst q; rw [g2 j (by omega), wr_ni (by omega)]; exact k1
  · rw [g1 b q (by omega), wr_row q]; exact k1
theorem c_said {k : Int} (h : Inv m B) (hB : 0 ≤ B ∧ B ≤ 100000000) (hk : InR k) : Duo mX11_said mX12_said [vi k] m (fun m2 => Inv m2 B) := by
  obtain ⟨s1, s2⟩ := h.se
  refine ⟨_, _, (by omega : 7 ≤ 70), ev_X11_said h.dn h.st hk (fun z => (s2 (fun y => z (s1.mpr y))).ok), fun r m1 hq => ?_⟩
  obtain ⟨hr, hf⟩ := hq
  have e6 : m1 216 = m 216 := hf 216 (by omega)
  refine ⟨_, _, (by omega : 67 ≤ 70), ev_X12_said (G := m) (B := B) (by rw [e6]; exact h.bg) h.dn h.st (by omega) hk (fun z => ?_), fun r2 m2 hq2 => ?_⟩
  · rw [e6] at z ⊢
    obtain ⟨l, ⟨-, -, hl⟩, -, hw, hk, -⟩ := s2 z
    exact ⟨(l.length : Int), by omega, hw, hk⟩
  · obtain ⟨rfl, hr2⟩ := hq2
    refine ⟨?_, h.all (Int.le_refl _) (fun b j z => ?_)⟩
    · rw [hr2, hr, e6]
      by_cases z : m 216 232 = 0
      · rw [if_pos z, if_pos (s1.mpr z)]
      · rw [if_neg z, if_neg (fun y => z (s1.mp y)), said_bridge (s2 z)]
    · unfold wr; rw [if_neg (by omega), hf b (by omega)]
end
