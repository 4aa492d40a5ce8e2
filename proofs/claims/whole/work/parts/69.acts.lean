/-! ===== the calls, one by one: acts, and acts undone ===== -/
theorem keepC_1 {m : Mem} {st : Nat} : keepC m st 97 1 = (m 97 1 + 1) % 8 := by unfold keepC; rw [wr_ni (by omega), wr_self]
theorem keepC_2 {m : Mem} {st : Nat} : keepC m st 97 2 = min 8 (m 97 2 + 1) := by unfold keepC; rw [wr_self]
theorem keepC_in {m : Mem} {st q : Nat} (h : HiOk m) (hq : q < 8) : keepC m st (hs8 (m 97 1) + q) = m (st + q) := by
  have := hs8_b h.1.1 h.1.2
  unfold keepC; rw [wr_row (by omega), wr_row (by omega), rows_in hq]
theorem keepC_out {m : Mem} {st b : Nat} (h : b ≠ 97) (h2 : b < hs8 (m 97 1) ∨ hs8 (m 97 1) + 8 ≤ b) : keepC m st b = m b := by
  unfold keepC; rw [wr_row h, wr_row h, rows_out h2]
theorem HiR.keep {m m2 : Mem} {B B' : Int} (h : HiR m B) (hdn : DnOk m 8) (hst : StOk m 8 18 B) (hbg : BgS m 8 18 (m 216)) (hB : B ≤ B') (hd : ∀ q, q < 10 → m2 (8 + q) = m (8 + q)) (hk : ∀ b : Nat, 97 ≤ b → b < 163 → m2 b = keepC m 18 b) (hs : SnQ m m2) : HiR m2 B' := by
  obtain ⟨h1, h2, h3⟩ := h
  obtain ⟨s1, s2, s3⟩ := hs
  have hdn2 : DnOk m2 8 := hdn.congr hd
  have e1 : m2 97 1 = (m 97 1 + 1) % 8 := by rw [hk 97 (by omega) (by omega), keepC_1]
  have e2 : m2 97 2 = min 8 (m 97 2 + 1) := by rw [hk 97 (by omega) (by omega), keepC_2]
  obtain ⟨⟨i0, i1⟩, c0, c1⟩ := id h1
  have hq := hs8_b i0 i1
  refine ⟨⟨by rw [e1]; omega, by rw [e2]; omega⟩, by rw [s1, e2, h2], fun k a b => ?_⟩
  rw [e2] at b
  rw [h2] at s1
  rw [e1, e2]
  by_cases z : k + 1 = min 8 (m 97 2 + 1)
  · have ei : ((m 97 1 + 1) % 8 - min 8 (m 97 2 + 1) + k) % 8 = m 97 1 := by omega
    rw [ei]
    have w : SmW m 8 18 m2 8 (hs8 (m 97 1)) := ⟨hd, fun q hq8 => by rw [hk _ (by omega) (by omega), keepC_in h1 hq8]⟩
    refine ⟨(w.sto hst).up hB, (hbg.sm w).nn hdn2 (fun j a b => ?_)⟩
    have := s3 (j - 123) (by omega) (by omega)
    rw [show m2 214 25 - 1 = k by omega, show 123 + (j - 123) = j by omega] at this
    exact this
  · have hk2 : ∃ k' : Int, 0 ≤ k' ∧ k' < m 97 2 ∧ k' = (if m 97 2 = 8 then k + 1 else k) ∧ ((m 97 1 + 1) % 8 - min 8 (m 97 2 + 1) + k) % 8 = (m 97 1 - m 97 2 + k') % 8 ∧ (m 97 1 - m 97 2 + k') % 8 ≠ m 97 1 := by
      by_cases c8 : m 97 2 = 8
      · exact ⟨k + 1, by omega, by omega, by rw [if_pos c8], by omega, by omega⟩
      · exact ⟨k, by omega, by omega, by rw [if_neg c8], by omega, by omega⟩
    obtain ⟨k', k0, k1, ke, ki, kn⟩ := hk2
    rw [ki]
    have hr := h3 k' k0 k1
    generalize hx : (m 97 1 - m 97 2 + k') % 8 = x at *
    have x0 : 0 ≤ x ∧ x < 8 := by omega
    have hb := hs8_b x0.1 x0.2
    have hne : hs8 x + 8 ≤ hs8 (m 97 1) ∨ hs8 (m 97 1) + 8 ≤ hs8 x := by unfold hs8; omega
    have w : SmW m 8 (hs8 x) m2 8 (hs8 x) := ⟨hd, fun q hq8 => by rw [hk _ (by omega) (by omega), keepC_out (by omega) (by omega)]⟩
    refine ⟨(w.sto hr.1).up hB, (hr.2.sm w).nn hdn2 (fun j j0 j1 => ?_)⟩
    have := s2 k (j - 123) a (by omega) (by omega) (by omega)
    rw [h2, ← ke] at this
    exact this
theorem SnQ.of {m mc mA m2 : Mem} (hS : SnP (wr mc 214 0 0) mA) (h4 : m2 214 25 = mA 214 25) (h9 : m2 219 = mA 219) (e4 : mc 214 25 = m 214 25) (e9 : mc 219 = m 219) (e6 : mc 216 = m 216) : SnQ m m2 := by
  obtain ⟨-, -, s1, s2, s3⟩ := hS
  rw [wr_ni (by omega), e4] at s1 s2
  rw [wr_row (by omega), e9] at s2
  rw [wr_row (by omega), e6] at s3
  refine ⟨by rw [h4]; exact s1, fun k j a b c d => ?_, fun j a b => ?_⟩
  · rw [h9]; exact s2 k j a (by rw [h4] at b; exact b) c d
  · rw [h9, h4]; exact s3 j a b
/-- behind an act that both have done -/
theorem act_inv {m mc mA m2 : Mem} {B B' : Int} (h : Inv m B) (hB : B ≤ B') (hf : ∀ b : Nat, b ≠ 7 → (b < 18 ∨ 26 ≤ b) → mc b = keepC m 18 b) (hst : StOk mc 8 18 B') (hS : SnP (wr mc 214 0 0) mA) (hd : Sd mA m2) (hbg : Bg mc 8 18 (m2 216)) : Inv m2 B' := by
  have hh := h.hi.1
  have f1 : ∀ b : Nat, b ≠ 7 → (b < 18 ∨ 26 ≤ b) → (b < 97 ∨ 163 ≤ b) → mc b = m b := fun b h1 h2 h3 => by rw [hf b h1 h2, keepC_row hh h3]
  obtain ⟨d1, d2, d3⟩ := hd
  obtain ⟨p1, p2, p3⟩ := id hS
  have g1 : ∀ b : Nat, b ≠ 214 → b ≠ 216 → b ≠ 219 → m2 b = mc b := fun b h1 h2 h3 => by rw [d1 b h1 h2, p1 b h1 h3, wr_row h1]
  have g4 : ∀ j : Int, j ≠ 38 → j ≠ 25 → j ≠ 0 → m2 214 j = m 214 j := fun j h1 h2 h3 => by rw [d2 j h1, p2 j h2, wr_ni h3, f1 214 (by omega) (by omega) (by omega)]
  have g6 : ∀ j : Int, (j < 123 ∨ 232 ≤ j) → m2 216 j = m 216 j := fun j hj => by rw [d3 j hj, p1 216 (by omega) (by omega), wr_row (by omega), f1 216 (by omega) (by omega) (by omega)]
  have k : ∀ (b : Nat) (j : Int), b ≠ 7 → (b < 18 ∨ 26 ≤ b) → (b < 97 ∨ 163 ≤ b) → b ≠ 216 → b ≠ 219 → ¬ (b = 214 ∧ (j = 38 ∨ j = 25 ∨ j = 0)) → m2 b j = m b j := fun b j h1 h2 h3 h4 h5 h6 => by
    by_cases q : b = 214
    · subst q; exact g4 j (by omega) (by omega) (by omega)
    · rw [g1 b q h4 h5, f1 b h1 h2 h3]
  have hd : ∀ q, q < 10 → m2 (8 + q) = m (8 + q) := fun q hq => funext (fun j => k _ j (by omega) (by omega) (by omega) (by omega) (by omega) (by omega))
  have e8 : m2 8 = m 8 := hd 0 (by omega)
  have hs2 : ∀ q, q < 8 → m2 (18 + q) = mc (18 + q) := fun q hq => g1 _ (by omega) (by omega) (by omega)
  have hd2 : ∀ q, q < 10 → m2 (8 + q) = mc (8 + q) := fun q hq => g1 _ (by omega) (by omega) (by omega)
  have e4 : m2 214 25 = mA 214 25 := d2 25 (by omega)
  refine ⟨⟨h.dn.congr hd, hst.congr (hd2 0 (by omega)) (hd2 5 (by omega)) hs2, hbg.g hd2 hs2, h.nm.mv h.dn hd (fun j _ _ => k 221 j (by omega) (by omega) (by omega) (by omega) (by omega) (by omega)), ?_⟩, h.hi.keep h.dn h.st h.bg.2 hB hd (fun b h1 h2 => by rw [g1 b (by omega) (by omega) (by omega), hf b (by omega) (by omega)]) (SnQ.of hS e4 (d1 219 (by omega) (by omega)) (by rw [f1 214 (by omega) (by omega) (by omega)]) (f1 219 (by omega) (by omega) (by omega)) (f1 216 (by omega) (by omega) (by omega))), fun n a0 b0 => (h.im n a0 b0).c a0 b0 hB (fun q j z => k q j (by omega) (by omega) (by omega) (by omega) (by omega) (by omega)), h.tp.c2 (fun q j z => k q j (by omega) (by omega) (by omega) (by omega) (by omega) (by omega)), h.kw.c (fun j => k 3 j (by omega) (by omega) (by omega) (by omega) (by omega) (by omega)), h.fa.c (fun q j z => k q j (by omega) (by omega) (by omega) (by omega) (by omega) (by omega)), h.wy.c (fun q j z => k q j (by omega) (by omega) (by omega) (by omega) (by omega) (by omega)), h.ud.c (fun q j z => k q j (by omega) (by omega) (by omega) (by omega) (by omega) (by omega)), h.tr.c (fun q j z => k q j (by omega) (by omega) (by omega) (by omega) (by omega) (by omega)), h.to.c (fun q j z => k q j (by omega) (by omega) (by omega) (by omega) (by omega) (by omega)), h.sl.c (fun q j z => k q j (by omega) (by omega) (by omega) (by omega) (by omega) (by omega))⟩
  show SenR m2 26 (m2 8 3) (m2 216)
  rw [e8]
  exact h.se.mv (fun q hq => funext (fun j => k _ j (by omega) (by omega) (by omega) (by omega) (by omega) (by omega))) (fun j a b => g6 j (by omega))
theorem keep_sm {m : Mem} (h : HiOk m) : SmW m 8 18 (keepC m 18) 8 18 := ⟨fun q hq => keepC_row h (by omega), fun q hq => keepC_row h (by omega)⟩
section
variable {m : Mem} {B : Int}
theorem c_say {p f s : Int} (h : Inv m B) (hB : 0 ≤ B ∧ B ≤ 100000000) (hp : InR p) (hf : InR f) (hs : InR s) : Duo mX11_say mX12_say [vi p, vi f, vi s] m (fun m2 => Inv m2 (B + 300)) := by
  have hh := h.hi.1
  refine ⟨_, _, (by omega : 6 ≤ 70), ev_X11_say h.dn h.st hB hh hp hf hs, fun r m1 hq => ?_⟩
  rcases hq with ⟨⟨o1, o2, o3, o4, o5, o6⟩, hr, hm⟩ | ⟨ho, hr, hm⟩
  · by_cases w : whySayC m 8 18 p f s = 0
    · rw [if_pos w] at hm
      have sm := keep_sm hh
      have w' : whySayC (keepC m 18) 8 18 p f s = 0 := by rw [sm.whySay]; exact w
      have ok : StOk m1 8 18 (B + 1) := by
        rw [hm]
        exact sayC_ok (by omega) (keepC_dn hh (by omega) h.dn) (keepC_st hh (by omega) (by omega) h.st) (by rw [sm.d0]; exact ⟨o1, o2⟩) (by rw [sm.d0]; exact ⟨o3, o4⟩) w'
      have fr : ∀ b : Nat, b ≠ 7 → (b < 18 ∨ 26 ≤ b) → m1 b = keepC m 18 b := fun b _ hb => by rw [hm]; exact sayC_fr b hb
      have e6 : m1 216 = m 216 := by rw [fr 216 (by omega) (by omega), keepC_row hh (by omega)]
      have e4 : m1 214 = m 214 := by rw [fr 214 (by omega) (by omega), keepC_row hh (by omega)]
      refine ⟨_, _, (by omega : 7 ≤ 70), ev_X12_say (G := m) (d := 8) (st := 18) (B := B) (by rw [e6]; exact h.bg) h.dn h.st (by rw [e4]; exact h.n25) hp hf hs ⟨hB.1, by omega⟩ (by omega), fun r2 m2 hq2 => ?_⟩
      rcases hq2 with ⟨ho, -⟩ | ⟨-, ha⟩
      · exact absurd ⟨⟨o1, o2⟩, ⟨o3, o4⟩, o5, o6⟩ ho
      · obtain ⟨hr2, hc⟩ := ha
        have wg : whyG m 8 18 0 p f s = whySayC m 8 18 p f s := rfl
        rw [wg] at hr2 hc
        rcases hc with ⟨hc, -⟩ | ⟨-, mA, hS, hso, hb⟩
        · exact absurd w hc
        · refine ⟨by rw [hr2, hr], act_inv (B' := B + 300) h (by omega) fr (ok.up (by omega)) hS (Sd.so hso) ?_⟩
          rw [hm]
          exact hb.sm (sm.say (by omega) (by omega) p f s)
    · rw [if_neg w] at hm
      subst hm
      refine ⟨_, _, (by omega : 7 ≤ 70), ev_X12_say h.bg h.dn h.st h.n25 hp hf hs ⟨hB.1, by omega⟩ (by omega), fun r2 m2 hq2 => ?_⟩
      rcases hq2 with ⟨ho, -⟩ | ⟨-, ha⟩
      · exact absurd ⟨⟨o1, o2⟩, ⟨o3, o4⟩, o5, o6⟩ ho
      · obtain ⟨hr2, hc⟩ := ha
        have wg : whyG m1 8 18 0 p f s = whySayC m1 8 18 p f s := rfl
        rw [wg] at hr2 hc
        rcases hc with ⟨-, hc⟩ | ⟨hc, -⟩
        · subst hc
          exact ⟨by rw [hr2, hr], h.t0.all (by omega) (fun _ _ _ => rfl)⟩
        · exact absurd hc w
  · subst hm
    refine ⟨_, _, (by omega : 7 ≤ 70), ev_X12_say h.bg h.dn h.st h.n25 hp hf hs ⟨hB.1, by omega⟩ (by omega), fun r2 m2 hq2 => ?_⟩
    rcases hq2 with ⟨-, hr2, hm2⟩ | ⟨⟨⟨o1, o2⟩, ⟨o3, o4⟩, o5, o6⟩, -⟩
    · subst hm2
      exact ⟨by rw [hr2, hr], h.t0.all (by omega) (fun _ _ _ => rfl)⟩
    · exact absurd ⟨o1, o2, o3, o4, o5, o6⟩ ho
theorem c_kick {p s : Int} (h : Inv m B) (hB : 0 ≤ B ∧ B ≤ 100000000) (hp : InR p) (hs : InR s) : Duo mX11_kick mX12_kick [vi p, vi s] m (fun m2 => Inv m2 (B + 300)) := by
  have hh := h.hi.1
  refine ⟨_, _, (by omega : 6 ≤ 70), ev_X11_kick h.dn h.st hB hh hp hs, fun r m1 hq => ?_⟩
  rcases hq with ⟨⟨o1, o2, o5, o6⟩, hr, hm⟩ | ⟨ho, hr, hm⟩
  · by_cases w : whyKickC m 8 18 p s = 0
    · rw [if_pos w] at hm
      have sm := keep_sm hh
      have w' : whyKickC (keepC m 18) 8 18 p s = 0 := by rw [sm.whyKick]; exact w
      have ok : StOk m1 8 18 (B + 1) := by
        rw [hm]
        exact kickC_ok (by omega) (keepC_st hh (by omega) (by omega) h.st) (by rw [sm.d0]; exact ⟨o1, o2⟩) w'
      have fr : ∀ b : Nat, b ≠ 7 → (b < 18 ∨ 26 ≤ b) → m1 b = keepC m 18 b := fun b _ hb => by rw [hm]; exact kickC_fr b hb
      have e6 : m1 216 = m 216 := by rw [fr 216 (by omega) (by omega), keepC_row hh (by omega)]
      have e4 : m1 214 = m 214 := by rw [fr 214 (by omega) (by omega), keepC_row hh (by omega)]
      refine ⟨_, _, (by omega : 7 ≤ 70), ev_X12_kick (G := m) (d := 8) (st := 18) (B := B) (by rw [e6]; exact h.bg) h.dn h.st (by rw [e4]; exact h.n25) hp hs ⟨hB.1, by omega⟩ (by omega), fun r2 m2 hq2 => ?_⟩
      rcases hq2 with ⟨ho, -⟩ | ⟨-, ha⟩
      · exact absurd ⟨⟨o1, o2⟩, o5, o6⟩ ho
      · obtain ⟨hr2, hc⟩ := ha
        have wg : whyG m 8 18 1 p 0 s = whyKickC m 8 18 p s := rfl
        rw [wg] at hr2 hc
        rcases hc with ⟨hc, -⟩ | ⟨-, mA, hS, hso, hb⟩
        · exact absurd w hc
        · refine ⟨by rw [hr2, hr], act_inv (B' := B + 300) h (by omega) fr (ok.up (by omega)) hS (Sd.so hso) ?_⟩
          rw [hm]
          exact hb.sm (sm.kick (by omega) (by omega) p s)
    · rw [if_neg w] at hm
      subst hm
      refine ⟨_, _, (by omega : 7 ≤ 70), ev_X12_kick h.bg h.dn h.st h.n25 hp hs ⟨hB.1, by omega⟩ (by omega), fun r2 m2 hq2 => ?_⟩
      rcases hq2 with ⟨ho, -⟩ | ⟨-, ha⟩
      · exact absurd ⟨⟨o1, o2⟩, o5, o6⟩ ho
      · obtain ⟨hr2, hc⟩ := ha
        have wg : whyG m1 8 18 1 p 0 s = whyKickC m1 8 18 p s := rfl
        rw [wg] at hr2 hc
        rcases hc with ⟨-, hc⟩ | ⟨hc, -⟩
        · subst hc
          exact ⟨by rw [hr2, hr], h.t0.all (by omega) (fun _ _ _ => rfl)⟩
        · exact absurd hc w
  · subst hm
    refine ⟨_, _, (by omega : 7 ≤ 70), ev_X12_kick h.bg h.dn h.st h.n25 hp hs ⟨hB.1, by omega⟩ (by omega), fun r2 m2 hq2 => ?_⟩
    rcases hq2 with ⟨-, hr2, hm2⟩ | ⟨⟨⟨o1, o2⟩, o5, o6⟩, -⟩
    · subst hm2
      exact ⟨by rw [hr2, hr], h.t0.all (by omega) (fun _ _ _ => rfl)⟩
    · exact absurd ⟨o1, o2, o5, o6⟩ ho
theorem c_rest {p : Int} (h : Inv m B) (hB : 0 ≤ B ∧ B ≤ 100000000) (hp : InR p) : Duo mX11_rest mX12_rest [vi p] m (fun m2 => Inv m2 (B + 300)) := by
  have hh := h.hi.1
  refine ⟨_, _, (by omega : 6 ≤ 70), ev_X11_rest h.dn h.st hB hh hp, fun r m1 hq => ?_⟩
  rcases hq with ⟨⟨o1, o2⟩, hr, hm⟩ | ⟨ho, hr, hm⟩
  · by_cases w : m 23 p = m 13 p
    · rw [if_pos w] at hm hr
      subst hm
      refine ⟨_, _, (by omega : 7 ≤ 70), ev_X12_rest h.bg h.dn h.st h.n25 hp ⟨hB.1, by omega⟩ (by omega), fun r2 m2 hq2 => ?_⟩
      rcases hq2 with ⟨ho, -⟩ | ⟨-, ha⟩
      · exact absurd ⟨o1, o2⟩ ho
      · obtain ⟨hr2, hc⟩ := ha
        have wg : whyG m1 8 18 2 p 0 0 = 1 := if_pos w
        rw [wg] at hr2 hc
        rcases hc with ⟨-, hc⟩ | ⟨hc, -⟩
        · subst hc
          exact ⟨by rw [hr2, hr], h.t0.all (by omega) (fun _ _ _ => rfl)⟩
        · omega
    · rw [if_neg w] at hm hr
      have sm := keep_sm hh
      have ok : StOk m1 8 18 B := by
        rw [hm]
        exact restC_ok (by omega) (keepC_dn hh (by omega) h.dn) (keepC_st hh (by omega) (by omega) h.st) (by rw [sm.d0]; exact ⟨o1, o2⟩)
      have fr : ∀ b : Nat, b ≠ 7 → (b < 18 ∨ 26 ≤ b) → m1 b = keepC m 18 b := fun b _ hb => by rw [hm]; exact restC_fr b hb
      have e6 : m1 216 = m 216 := by rw [fr 216 (by omega) (by omega), keepC_row hh (by omega)]
      have e4 : m1 214 = m 214 := by rw [fr 214 (by omega) (by omega), keepC_row hh (by omega)]
      refine ⟨_, _, (by omega : 7 ≤ 70), ev_X12_rest (G := m) (d := 8) (st := 18) (B := B) (by rw [e6]; exact h.bg) h.dn h.st (by rw [e4]; exact h.n25) hp ⟨hB.1, by omega⟩ (by omega), fun r2 m2 hq2 => ?_⟩
      rcases hq2 with ⟨ho, -⟩ | ⟨-, ha⟩
      · exact absurd ⟨o1, o2⟩ ho
      · obtain ⟨hr2, hc⟩ := ha
        have wg : whyG m 8 18 2 p 0 0 = 0 := if_neg w
        rw [wg] at hr2 hc
        rcases hc with ⟨hc, -⟩ | ⟨-, mA, hS, hso, hb⟩
        · exact absurd rfl hc
        · refine ⟨by rw [hr2, hr], act_inv (B' := B + 300) h (by omega) fr (ok.up (by omega)) hS (Sd.so hso) ?_⟩
          rw [hm]
          exact hb.sm (sm.rest (by omega) (by omega) p)
  · subst hm
    refine ⟨_, _, (by omega : 7 ≤ 70), ev_X12_rest h.bg h.dn h.st h.n25 hp ⟨hB.1, by omega⟩ (by omega), fun r2 m2 hq2 => ?_⟩
    rcases hq2 with ⟨-, hr2, hm2⟩ | ⟨o, -⟩
    · subst hm2
      exact ⟨by rw [hr2, hr], h.t0.all (by omega) (fun _ _ _ => rfl)⟩
    · exact absurd o ho
theorem c_hours {n : Int} (h : Inv m B) (hB : 0 ≤ B ∧ B ≤ 100000000) (hn : InR n) : Duo mX11_hours mX12_hours [vi n] m (fun m2 => Inv m2 (B + 300)) := by
  have hh := h.hi.1
  have h4 := h.st.1
  refine ⟨_, _, (by omega : 6 ≤ 70), ev_X11_hours h.dn h.st hB hh hn, fun r m1 hq => ?_⟩
  rcases hq with ⟨o, hr, hm⟩ | ⟨ho, hr, hm⟩
  · by_cases w : 0 < min n (400 - m 18 0)
    · rw [if_pos w] at hm
      have sm := keep_sm hh
      have ok : StOk m1 8 18 B := by
        rw [hm]
        exact passC_ok (by omega) (keepC_dn hh (by omega) h.dn) (keepC_st hh (by omega) (by omega) h.st) (by omega) (by rw [sm.s0]; omega)
      have fr : ∀ b : Nat, b ≠ 7 → (b < 18 ∨ 26 ≤ b) → m1 b = keepC m 18 b := fun b _ hb => by rw [hm]; exact passC_r (by omega) (by omega)
      have e6 : m1 216 = m 216 := by rw [fr 216 (by omega) (by omega), keepC_row hh (by omega)]
      have e4 : m1 214 = m 214 := by rw [fr 214 (by omega) (by omega), keepC_row hh (by omega)]
      refine ⟨_, _, (by omega : 3 ≤ 70), ev_X12_hours (G := m) (d := 8) (st := 18) (B := B) (by rw [e6]; exact h.bg) h.dn h.st (by rw [e4]; exact h.n25) (by omega) hn, fun r2 m2 hq2 => ?_⟩
      rcases hq2 with ⟨ho, -⟩ | ⟨-, hr2, hc⟩
      · exact absurd o ho
      · rcases hc with ⟨hc, -⟩ | ⟨-, mA, hS, hso, hb⟩
        · omega
        · refine ⟨by rw [hr2, hr], act_inv (B' := B + 300) h (by omega) fr (ok.up (by omega)) hS (Sd.so hso) ?_⟩
          rw [hm]
          exact hb.sm (sm.pass (by omega) (by omega) _)
    · rw [if_neg w] at hm
      subst hm
      refine ⟨_, _, (by omega : 3 ≤ 70), ev_X12_hours h.bg h.dn h.st h.n25 (by omega) hn, fun r2 m2 hq2 => ?_⟩
      rcases hq2 with ⟨ho, -⟩ | ⟨-, hr2, hc⟩
      · exact absurd o ho
      · rcases hc with ⟨-, hc⟩ | ⟨hc, -⟩
        · subst hc
          exact ⟨by rw [hr2, hr], h.t0.all (by omega) (fun _ _ _ => rfl)⟩
        · omega
  · subst hm
    refine ⟨_, _, (by omega : 3 ≤ 70), ev_X12_hours h.bg h.dn h.st h.n25 (by omega) hn, fun r2 m2 hq2 => ?_⟩
    rcases hq2 with ⟨-, hr2, hm2⟩ | ⟨o, -⟩
    · subst hm2
      exact ⟨by rw [hr2, hr], h.t0.all (by omega) (fun _ _ _ => rfl)⟩
    · exact absurd o ho
end
