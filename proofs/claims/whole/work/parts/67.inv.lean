/-! ===== the bridge: what holds between two calls of the law ===== -/
section
variable {A : Cd → Bool} {N N' : Int → Int} {P n : Int}
theorem evT_c0 (h : ∀ j : Int, 0 ≤ j → j < 4 * n → N' j = N j) (hw : Wf N P n) : ∀ (f : Nat) (k : Int), 0 ≤ k → k < n → evT A N' f k = evT A N f k := by
  intro f
  induction f with
  | zero => intro k _ _; rfl
  | succ f ih =>
    intro k h0 h1
    have w := hw k h0 h1
    unfold Wk at w
    have e0 := h (4 * k) (by omega) (by omega)
    have e1 := h (4 * k + 1) (by omega) (by omega)
    have e2 := h (4 * k + 2) (by omega) (by omega)
    have e3 := h (4 * k + 3) (by omega) (by omega)
    have en : ndC N' k = ndC N k := by unfold ndC; rw [e0, e1, e2, e3]
    rw [evT_3, evT_3, en, e0, e1, e2]
    by_cases q1 : N (4 * k) = 1
    · rw [if_pos q1, if_pos q1, ih _ (by omega) (by omega)]
    · rw [if_neg q1, if_neg q1]
      by_cases q2 : N (4 * k) = 2
      · rw [if_pos q2, if_pos q2, ih _ (by omega) (by omega), ih _ (by omega) (by omega)]
      · rw [if_neg q2, if_neg q2]
        by_cases q3 : N (4 * k) = 3
        · rw [if_pos q3, if_pos q3, ih _ (by omega) (by omega), ih _ (by omega) (by omega)]
        · rw [if_neg q3, if_neg q3]
theorem Rep.c0 {k : Int} {l : List Cd} (hr : Rep N k l) (h : ∀ j : Int, 0 ≤ j → j < 4 * n → N' j = N j) (hw : Wf N P n) (h0 : 0 ≤ k) (h1 : k < n) : Rep N' k l := fun A S => by
  rw [hr A S, evT_c0 h hw _ k h0 h1]
theorem Wf.c0 (hw : Wf N P n) (h : ∀ j : Int, 0 ≤ j → j < 4 * n → N' j = N j) : Wf N' P n := fun k h0 h1 => by
  have w := hw k h0 h1
  unfold Wk at *
  rw [h (4 * k) (by omega) (by omega), h (4 * k + 1) (by omega) (by omega), h (4 * k + 2) (by omega) (by omega), h (4 * k + 3) (by omega) (by omega)]
  exact w
end
theorem putT_c {m m' : Mem} {e e' : Nat} (h : ∀ k, k < 4 → m' (e' + k) = m (e + k)) : ∀ (l : List Cd) (s : Int), putT m e s l → putT m' e' s l := by
  intro l
  induction l with
  | nil => intro s _; trivial
  | cons c l ih =>
    intro s hp
    obtain ⟨⟨h1, h2, h3⟩, hp⟩ := hp
    exact ⟨⟨by rw [h 1 (by omega)]; exact h1, by rw [h 2 (by omega)]; exact h2, by rw [h 3 (by omega)]; exact h3⟩, ih _ hp⟩
/-- a SENTENCE kept: the class's rows e .., the reference's row N from 232 on -/
def SenR (m : Mem) (e : Nat) (P : Int) (N : Int → Int) : Prop := (m e 0 = 0 ↔ N 232 = 0) ∧ (N 232 ≠ 0 → SeR m e P (fun j => N (234 + j)) (N 233))
theorem SenR.mv {m m' : Mem} {e e' : Nat} {P : Int} {N N' : Int → Int} (h : SenR m e P N) (he : ∀ k, k < 4 → m' (e' + k) = m (e + k)) (hN : ∀ j : Int, 232 ≤ j → j < 474 → N' j = N j) : SenR m' e' P N' := by
  have e0 : m' e' = m e := he 0 (by omega)
  refine ⟨by rw [e0, hN 232 (by omega) (by omega)]; exact h.1, fun hz => ?_⟩
  rw [hN 232 (by omega) (by omega)] at hz
  obtain ⟨l, ⟨hp, hn, hl⟩, hr, hw, hk, hc⟩ := h.2 hz
  have hj : ∀ j : Int, 0 ≤ j → j < 4 * (l.length : Int) → N' (234 + j) = N (234 + j) := fun j a b => hN _ (by omega) (by omega)
  rw [hN 233 (by omega) (by omega)]
  exact ⟨l, ⟨putT_c he l 0 hp, by rw [e0]; exact hn, hl⟩, Rep.c0 (N := fun j => N (234 + j)) hr hj hw hk.1 hk.2, Wf.c0 (N := fun j => N (234 + j)) hw hj, hk, hc⟩
theorem BgD.nn {G : Mem} {d : Nat} {N N' : Int → Int} (h : BgD G d N) (hdn : DnOk G d) (hN : ∀ j : Int, 0 ≤ j → j < 123 → N' j = N j) : BgD G d N' := by
  obtain ⟨-, -, h2, h3, h4, -⟩ := hdn
  obtain ⟨⟨a0, a1, a2, a3, a4⟩, b, c, e⟩ := h
  refine ⟨⟨by rw [hN 0 (by omega) (by omega)]; exact a0, by rw [hN 1 (by omega) (by omega)]; exact a1, by rw [hN 2 (by omega) (by omega)]; exact a2, by rw [hN 3 (by omega) (by omega)]; exact a3, by rw [hN 4 (by omega) (by omega)]; exact a4⟩, fun f q0 q1 => ?_, fun p q0 q1 => ?_, fun q q0 q1 => ?_⟩
  · rw [hN _ (by omega) (by omega), hN _ (by omega) (by omega)]; exact b f q0 q1
  · rw [hN _ (by omega) (by omega)]; exact c p q0 q1
  · rw [hN _ (by omega) (by omega), hN _ (by omega) (by omega)]; exact e q q0 q1
theorem BgS.nn {G : Mem} {d st : Nat} {N N' : Int → Int} (h : BgS G d st N) (hdn : DnOk G d) (hN : ∀ j : Int, 123 ≤ j → j < 232 → N' j = N j) : BgS G d st N' := by
  obtain ⟨-, -, h2, h3, h4, -⟩ := hdn
  obtain ⟨⟨a0, a1, a2⟩, b, c, e⟩ := h
  refine ⟨⟨by rw [hN 123 (by omega) (by omega)]; exact a0, by rw [hN 124 (by omega) (by omega)]; exact a1, by rw [hN 125 (by omega) (by omega)]; exact a2⟩, fun p q0 q1 => ?_, fun p q0 q1 => ?_, fun q q0 q1 => ?_⟩
  · rw [hN _ (by omega) (by omega), hN _ (by omega) (by omega), hN _ (by omega) (by omega), hN _ (by omega) (by omega), hN _ (by omega) (by omega)]; exact b p q0 q1
  · rw [hN _ (by omega) (by omega)]; exact c p q0 q1
  · rw [hN _ (by omega) (by omega)]; exact e q q0 q1
theorem BgS.sm {G G' : Mem} {d st d' st' : Nat} {N : Int → Int} (h : BgS G d st N) (hs : SmW G d st G' d' st') : BgS G' d' st' N := by
  have g0 : G' d' = G d := hs.1 0 (by omega)
  have s0 : G' st' = G st := hs.2 0 (by omega)
  unfold BgS at *
  rw [g0, s0, hs.2 1 (by omega), hs.2 2 (by omega), hs.2 3 (by omega), hs.2 4 (by omega), hs.2 5 (by omega), hs.2 6 (by omega), hs.2 7 (by omega)]
  exact h
theorem NmR.mv {m m' : Mem} {d D : Nat} {M M' : Int → Int} (h : NmR m d M) (hdn : DnOk m d) (hs : ∀ k, k < 10 → m' (D + k) = m (d + k)) (hM : ∀ j : Int, 0 ≤ j → j < 16 → M' j = M j) : NmR m' D M' := by
  obtain ⟨-, -, h2, h3, h4, -⟩ := hdn
  have e0 : m' D = m d := hs 0 (by omega)
  unfold NmR at *
  rw [e0, hs 1 (by omega), hs 4 (by omega), hs 6 (by omega)]
  refine ⟨fun f q0 q1 => ?_, fun p q0 q1 => ?_, fun q q0 q1 => ?_⟩
  · rw [hM _ (by omega) (by omega)]; exact h.1 f q0 q1
  · rw [hM _ (by omega) (by omega)]; exact h.2.1 p q0 q1
  · rw [hM _ (by omega) (by omega)]; exact h.2.2 q q0 q1
/-- a world as both keep it -/
def Wo (m : Mem) (d st : Nat) (N M : Int → Int) (B : Int) : Prop := DnOk m d ∧ StOk m d st B ∧ Bg m d st N ∧ NmR m d M ∧ SenR m (st + 8) (m d 3) N
theorem Wo.mv {m m' : Mem} {d st D S : Nat} {N M N' M' : Int → Int} {B B' : Int} (h : Wo m d st N M B) (hs : SmW m d st m' D S) (he : ∀ k, k < 4 → m' (S + 8 + k) = m (st + 8 + k)) (hN : ∀ j : Int, 0 ≤ j → j < 474 → N' j = N j) (hM : ∀ j : Int, 0 ≤ j → j < 16 → M' j = M j) (hB : B ≤ B') : Wo m' D S N' M' B' := by
  obtain ⟨h1, h2, h3, h4, h5⟩ := h
  have hdn : DnOk m' D := hs.dn h1
  have hb : Bg m' D S N := h3.sm hs
  refine ⟨hdn, (hs.sto h2).up hB, ⟨hb.1.nn hdn (fun j a b => hN j a (by omega)), hb.2.nn hdn (fun j a b => hN j (by omega) (by omega))⟩, h4.mv h1 hs.1 hM, ?_⟩
  have e0 : m' D = m d := hs.1 0 (by omega)
  rw [e0]
  exact h5.mv he (fun j a b => hN j (by omega) (by omega))
/-- one of the states that can be come back to -/
def SnR (m : Mem) (st : Nat) (k B : Int) : Prop := StOk m 8 st B ∧ BgS m 8 st (fun j => m 219 (109 * k + (j - 123)))
def HiR (m : Mem) (B : Int) : Prop := HiOk m ∧ m 214 25 = m 97 2 ∧ ∀ k : Int, 0 ≤ k → k < m 97 2 → SnR m (hs8 ((m 97 1 - m 97 2 + k) % 8)) k B
def ImR (m : Mem) (B k : Int) : Prop := m 212 k = m 224 k ∧ (m 212 k = 1 → Wo m (imW k + 1) (imW k + 11) (fun j => m 218 (474 * k + j)) (fun j => m 223 (16 * k + j)) B)
def KwR (m : Mem) : Prop := ∀ k : Int, 0 ≤ k → k < 25 → m 3 k = kwC k
def FaR (m : Mem) : Prop := m 1 6 = m 214 10
def WyR (m : Mem) : Prop := m 81 2 = m 214 29 ∧ (0 ≤ m 81 2 ∧ m 81 2 ≤ 323) ∧ ∀ k : Int, 0 ≤ k → k < m 81 2 → m 83 k = m 227 k
def UdR (m : Mem) : Prop := m 89 1 = m 214 31 ∧ (0 ≤ m 89 1 ∧ m 89 1 ≤ 3) ∧ ∀ k : Int, 0 ≤ k → k < m 89 1 → m 90 k = m 229 k
def TrR (m : Mem) : Prop := m 92 1 = m 214 34 ∧ (0 ≤ m 92 1 ∧ m 92 1 ≤ 6) ∧ (∀ k : Int, 0 ≤ k → k < m 92 1 → m 93 k = m 230 k) ∧ m 214 35 = if m 92 1 = 0 then -1 else mstN (m 94) (m 92 1 - 1).toNat
def ToR (m : Mem) : Prop := m 70 0 = m 214 42 ∧ (m 70 0 ≠ 0 → m 70 1 = m 233 0 ∧ m 70 2 = m 233 1 ∧ m 70 3 = m 233 2 ∧ m 70 4 = m 233 3)
def SlR (m : Mem) : Prop := m 0 13 = m 214 37 ∧ (0 ≤ m 0 13 ∧ m 0 13 ≤ 25) ∧ ∀ k : Int, 0 ≤ k → k < m 0 13 → m 213 k = m 231 k
/-- between two calls: what the class keeps and what the reference keeps -/
def Inv (m : Mem) (B : Int) : Prop := Wo m 8 18 (m 216) (m 221) B ∧ HiR m B ∧ (∀ k : Int, 0 ≤ k → k < 2 → ImR m B k) ∧ TpX m m ∧ KwR m ∧ FaR m ∧ WyR m ∧ UdR m ∧ TrR m ∧ ToR m ∧ SlR m
/-- what each of them rests on -/
abbrev dW (b : Nat) : Prop := (8 ≤ b ∧ b < 30) ∨ b = 216 ∨ b = 221
abbrev dHi (b : Nat) (j : Int) : Prop := (8 ≤ b ∧ b < 18) ∨ (97 ≤ b ∧ b < 163) ∨ b = 219 ∨ (b = 214 ∧ j = 25)
abbrev dIm (b : Nat) : Prop := (164 ≤ b ∧ b < 213) ∨ b = 218 ∨ b = 223 ∨ b = 224
abbrev dTp (b : Nat) (j : Int) : Prop := (b = 1 ∧ j = 1) ∨ b = 2 ∨ (b = 214 ∧ j = 2) ∨ b = 215
abbrev dFa (b : Nat) (j : Int) : Prop := (b = 1 ∧ j = 6) ∨ (b = 214 ∧ j = 10)
abbrev dWy (b : Nat) (j : Int) : Prop := (b = 81 ∧ j = 2) ∨ b = 83 ∨ (b = 214 ∧ j = 29) ∨ b = 227
abbrev dUd (b : Nat) (j : Int) : Prop := (b = 89 ∧ j = 1) ∨ b = 90 ∨ (b = 214 ∧ j = 31) ∨ b = 229
abbrev dTr (b : Nat) (j : Int) : Prop := (b = 92 ∧ j = 1) ∨ b = 93 ∨ b = 94 ∨ (b = 214 ∧ (j = 34 ∨ j = 35)) ∨ b = 230
abbrev dTo (b : Nat) (j : Int) : Prop := (b = 70 ∧ 0 ≤ j ∧ j ≤ 4) ∨ (b = 214 ∧ j = 42) ∨ b = 233
abbrev dSl (b : Nat) (j : Int) : Prop := (b = 0 ∧ j = 13) ∨ b = 213 ∨ (b = 214 ∧ j = 37) ∨ b = 231
section
variable {m m' : Mem} {B B' : Int}
theorem Wo.c (h : Wo m 8 18 (m 216) (m 221) B) (hB : B ≤ B') (he : ∀ (b : Nat) (j : Int), dW b → m' b j = m b j) : Wo m' 8 18 (m' 216) (m' 221) B' :=
  h.mv ⟨fun k hk => funext (fun j => he _ j (by omega)), fun k hk => funext (fun j => he _ j (by omega))⟩ (fun k hk => funext (fun j => he _ j (by omega))) (fun j _ _ => he _ j (by omega)) (fun j _ _ => he _ j (by omega)) hB
theorem SnR.c {st : Nat} {k : Int} (h : SnR m st k B) (hdn : DnOk m 8) (hB : B ≤ B') (hd : ∀ q, q < 10 → m' (8 + q) = m (8 + q)) (hs : ∀ q, q < 8 → m' (st + q) = m (st + q)) (h9 : m' 219 = m 219) : SnR m' st k B' := by
  have w : SmW m 8 st m' 8 st := ⟨hd, hs⟩
  exact ⟨(w.sto h.1).up hB, by rw [h9]; exact h.2.sm w⟩
theorem HiR.c (h : HiR m B) (hdn : DnOk m 8) (hB : B ≤ B') (he : ∀ (b : Nat) (j : Int), dHi b j → m' b j = m b j) : HiR m' B' := by
  obtain ⟨h1, h2, h3⟩ := h
  have e1 : m' 97 1 = m 97 1 := he _ _ (by omega)
  have e2 : m' 97 2 = m 97 2 := he _ _ (by omega)
  have e3 : m' 214 25 = m 214 25 := he _ _ (by omega)
  refine ⟨by unfold HiOk at *; rw [e1, e2]; exact h1, by rw [e3, e2]; exact h2, fun k a b => ?_⟩
  rw [e2] at b
  rw [e1, e2]
  have hq := hs8_b (i := (m 97 1 - m 97 2 + k) % 8) (by omega) (by omega)
  exact (h3 k a b).c hdn hB (fun q hq => funext (fun j => he _ j (by omega))) (fun q hq => funext (fun j => he _ j (by omega))) (funext (fun j => he _ j (by omega)))
theorem ImR.c {k : Int} (h : ImR m B k) (h0 : 0 ≤ k) (h1 : k < 2) (hB : B ≤ B') (he : ∀ (b : Nat) (j : Int), dIm b → m' b j = m b j) : ImR m' B' k := by
  have e1 : m' 212 k = m 212 k := he _ _ (by omega)
  have e2 : m' 224 k = m 224 k := he _ _ (by omega)
  have hi : imW k = 164 + 24 * k.toNat := rfl
  refine ⟨by rw [e1, e2]; exact h.1, fun hz => ?_⟩
  rw [e1] at hz
  exact (h.2 hz).mv ⟨fun q hq => funext (fun j => he _ j (by omega)), fun q hq => funext (fun j => he _ j (by omega))⟩ (fun q hq => funext (fun j => he _ j (by omega))) (fun j _ _ => he _ _ (by omega)) (fun j _ _ => he _ _ (by omega)) hB
theorem TpX.c2 (h : TpX m m) (he : ∀ (b : Nat) (j : Int), dTp b j → m' b j = m b j) : TpX m' m' := h.congr (he _ _ (by omega)) (funext (fun j => he _ j (by omega))) (he _ _ (by omega)) (funext (fun j => he _ j (by omega)))
theorem KwR.c (h : KwR m) (he : ∀ j : Int, m' 3 j = m 3 j) : KwR m' := fun k a b => by rw [he]; exact h k a b
theorem FaR.c (h : FaR m) (he : ∀ (b : Nat) (j : Int), dFa b j → m' b j = m b j) : FaR m' := by
  unfold FaR at *; rw [he 1 6 (by omega), he 214 10 (by omega)]; exact h
theorem WyR.c (h : WyR m) (he : ∀ (b : Nat) (j : Int), dWy b j → m' b j = m b j) : WyR m' := by
  unfold WyR at *; rw [he 81 2 (by omega), he 214 29 (by omega)]; exact ⟨h.1, h.2.1, fun k a b => by rw [he 83 k (by omega), he 227 k (by omega)]; exact h.2.2 k a b⟩
theorem UdR.c (h : UdR m) (he : ∀ (b : Nat) (j : Int), dUd b j → m' b j = m b j) : UdR m' := by
  unfold UdR at *; rw [he 89 1 (by omega), he 214 31 (by omega)]; exact ⟨h.1, h.2.1, fun k a b => by rw [he 90 k (by omega), he 229 k (by omega)]; exact h.2.2 k a b⟩
theorem TrR.c (h : TrR m) (he : ∀ (b : Nat) (j : Int), dTr b j → m' b j = m b j) : TrR m' := by
  have e4 : m' 94 = m 94 := funext (fun j => he _ j (by omega))
  unfold TrR at *; rw [he 92 1 (by omega), he 214 34 (by omega), he 214 35 (by omega), e4]; exact ⟨h.1, h.2.1, fun k a b => by rw [he 93 k (by omega), he 230 k (by omega)]; exact h.2.2.1 k a b, h.2.2.2⟩
theorem ToR.c (h : ToR m) (he : ∀ (b : Nat) (j : Int), dTo b j → m' b j = m b j) : ToR m' := by
  unfold ToR at *; rw [he 70 0 (by omega), he 214 42 (by omega), he 70 1 (by omega), he 70 2 (by omega), he 70 3 (by omega), he 70 4 (by omega), he 233 0 (by omega), he 233 1 (by omega), he 233 2 (by omega), he 233 3 (by omega)]; exact h
theorem SlR.c (h : SlR m) (he : ∀ (b : Nat) (j : Int), dSl b j → m' b j = m b j) : SlR m' := by
  unfold SlR at *; rw [he 0 13 (by omega), he 214 37 (by omega)]; exact ⟨h.1, h.2.1, fun k a b => by rw [he 213 k (by omega), he 231 k (by omega)]; exact h.2.2 k a b⟩
theorem Inv.w (h : Inv m B) : Wo m 8 18 (m 216) (m 221) B := h.1
theorem Inv.dn (h : Inv m B) : DnOk m 8 := h.1.1
theorem Inv.st (h : Inv m B) : StOk m 8 18 B := h.1.2.1
theorem Inv.bg (h : Inv m B) : Bg m 8 18 (m 216) := h.1.2.2.1
theorem Inv.nm (h : Inv m B) : NmR m 8 (m 221) := h.1.2.2.2.1
theorem Inv.se (h : Inv m B) : SenR m 26 (m 8 3) (m 216) := h.1.2.2.2.2
theorem Inv.hi (h : Inv m B) : HiR m B := h.2.1
theorem Inv.im (h : Inv m B) : ∀ k : Int, 0 ≤ k → k < 2 → ImR m B k := h.2.2.1
theorem Inv.tp (h : Inv m B) : TpX m m := h.2.2.2.1
theorem Inv.kw (h : Inv m B) : KwR m := h.2.2.2.2.1
theorem Inv.fa (h : Inv m B) : FaR m := h.2.2.2.2.2.1
theorem Inv.wy (h : Inv m B) : WyR m := h.2.2.2.2.2.2.1
theorem Inv.ud (h : Inv m B) : UdR m := h.2.2.2.2.2.2.2.1
theorem Inv.tr (h : Inv m B) : TrR m := h.2.2.2.2.2.2.2.2.1
theorem Inv.to (h : Inv m B) : ToR m := h.2.2.2.2.2.2.2.2.2.1
theorem Inv.sl (h : Inv m B) : SlR m := h.2.2.2.2.2.2.2.2.2.2
theorem Inv.n25 (h : Inv m B) : 0 ≤ m 214 25 ∧ m 214 25 ≤ 8 := by have := h.hi.1.2; have := h.hi.2.1; omega
/-- all but one thing is as it was -/
theorem Inv.all (h : Inv m B) (hB : B ≤ B') (he : ∀ (b : Nat) (j : Int), (dW b ∨ dHi b j ∨ dIm b ∨ dTp b j ∨ b = 3 ∨ dFa b j ∨ dWy b j ∨ dUd b j ∨ dTr b j ∨ dTo b j ∨ dSl b j) → m' b j = m b j) : Inv m' B' :=
  ⟨h.w.c hB (fun b j q => he b j (Or.inl q)), h.hi.c h.dn hB (fun b j q => he b j (Or.inr (Or.inl q))), fun k a b => (h.im k a b).c a b hB (fun b j q => he b j (Or.inr (Or.inr (Or.inl q)))), h.tp.c2 (fun b j q => he b j (Or.inr (Or.inr (Or.inr (Or.inl q))))), h.kw.c (fun j => he 3 j (Or.inr (Or.inr (Or.inr (Or.inr (Or.inl rfl)))))), h.fa.c (fun b j q => he b j (Or.inr (Or.inr (Or.inr (Or.inr (Or.inr (Or.inl q))))))), h.wy.c (fun b j q => he b j (Or.inr (Or.inr (Or.inr (Or.inr (Or.inr (Or.inr (Or.inl q)))))))), h.ud.c (fun b j q => he b j (Or.inr (Or.inr (Or.inr (Or.inr (Or.inr (Or.inr (Or.inr (Or.inl q))))))))), h.tr.c (fun b j q => he b j (Or.inr (Or.inr (Or.inr (Or.inr (Or.inr (Or.inr (Or.inr (Or.inr (Or.inl q)))))))))), h.to.c (fun b j q => he b j (Or.inr (Or.inr (Or.inr (Or.inr (Or.inr (Or.inr (Or.inr (Or.inr (Or.inr (Or.inl q))))))))))), h.sl.c (fun b j q => he b j (Or.inr (Or.inr (Or.inr (Or.inr (Or.inr (Or.inr (Or.inr (Or.inr (Or.inr (Or.inr (q))))))))))))⟩
theorem Inv.t0 {x : Int} (h : Inv m B) : Inv (wr m 214 0 x) B := h.all (Int.le_refl _) (fun b j q => by unfold wr; rw [if_neg (by omega)])
end
/-- both are asked the same: they answer the same, and all is kept -/
def Duo (Y1 Y2 : MD) (as : List AV) (m : Mem) (R : Mem → Prop) : Prop := ∃ (d1 : Nat) (Q1 : Int → Mem → Prop), d1 ≤ 70 ∧ Ev 0 d1 Y1 (vr 0 :: as) m Q1 ∧ ∀ r m1, Q1 r m1 → ∃ (d2 : Nat) (Q2 : Int → Mem → Prop), d2 ≤ 70 ∧ Ev 0 d2 Y2 (vr 214 :: as) m1 Q2 ∧ ∀ r2 m2, Q2 r2 m2 → r2 = r ∧ R m2
