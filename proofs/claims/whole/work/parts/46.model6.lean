/-! ===== the reference's searches ===== -/
theorem bit1s : ∀ p : Nat, p < 5 → ∀ o : Nat, o < 5 → (iand (ishr (ishl 1 (p : Int)) (o : Int)) 1 = 1 ↔ o = p) := by decide +kernel
theorem bit2s : ∀ p : Nat, p < 5 → ∀ q : Nat, q < 5 → ∀ o : Nat, o < 5 → (iand (ishr (ior (ishl 1 (p : Int)) (ishl 1 (q : Int))) (o : Int)) 1 = 1 ↔ (o = p ∨ o = q)) := by decide +kernel
theorem bit1 {p o : Int} (h0 : 0 ≤ p) (h1 : p < 5) (k0 : 0 ≤ o) (k1 : o < 5) : hasP (ishl 1 p) o ↔ (o = p ∨ o = -1) := by
  obtain ⟨p, rfl⟩ := Int.eq_ofNat_of_zero_le h0
  obtain ⟨o, rfl⟩ := Int.eq_ofNat_of_zero_le k0
  have := bit1s p (by omega) o (by omega)
  unfold hasP
  rw [this]; omega
theorem bit2 {p q o : Int} (h0 : 0 ≤ p) (h1 : p < 5) (q0 : 0 ≤ q) (q1 : q < 5) (k0 : 0 ≤ o) (k1 : o < 5) : hasP (ior (ishl 1 p) (ishl 1 q)) o ↔ (o = p ∨ o = q) := by
  obtain ⟨p, rfl⟩ := Int.eq_ofNat_of_zero_le h0
  obtain ⟨q, rfl⟩ := Int.eq_ofNat_of_zero_le q0
  obtain ⟨o, rfl⟩ := Int.eq_ofNat_of_zero_le k0
  have := bit2s p (by omega) q (by omega) o (by omega)
  unfold hasP
  rw [this]; omega
theorem barP_fr {G : Mem} {p a but B x y : Int} (hst : StOk G 8 18 B) (hbt : ∀ o : Int, 0 ≤ o → o < G 8 3 → (hasP but o ↔ (o = p ∨ o = a))) : barP G 8 18 but x y = 0 ↔ freeB G 8 18 p a x y = true := by
  obtain ⟨-, -, -, -, hsd, -⟩ := id hst
  have key : (whoC G 8 18 x y = -1 ∨ hasP but (whoC G 8 18 x y)) ↔ fnd (fun o => decide (o ≠ p ∧ o ≠ a ∧ G (18 + 2) o = x ∧ G (18 + 3) o = y)) (G 8 3) = -1 := by
    constructor
    · intro h
      rcases fnd_cases (fun o => decide (o ≠ p ∧ o ≠ a ∧ G (18 + 2) o = x ∧ G (18 + 3) o = y)) (G 8 3) with ⟨e, -⟩ | ⟨h0, h1, h2, -⟩
      · exact e
      · exfalso
        have h2 := of_decide_eq_true h2
        rcases whoC_b G 8 18 x y with e | ⟨w0, w1, w2, w3⟩
        · exact whoC_n e h0 h1 ⟨h2.2.2.1, h2.2.2.2⟩
        · have hu := hsd _ _ h0 h1 w0 w1 (h2.2.2.1.trans w2.symm) (h2.2.2.2.trans w3.symm)
          rcases h with e | e
          · omega
          · have h3 := (hbt _ w0 w1).mp e
            rw [← hu] at h3
            rcases h3 with z | z
            · exact h2.1 z
            · exact h2.2.1 z
    · intro h
      rcases whoC_b G 8 18 x y with e | ⟨w0, w1, w2, w3⟩
      · left; exact e
      · right
        refine (hbt _ w0 w1).mpr ?_
        by_cases q1 : whoC G 8 18 x y = p
        · left; exact q1
        · by_cases q2 : whoC G 8 18 x y = a
          · right; exact q2
          · exfalso
            rcases fnd_cases (fun o => decide (o ≠ p ∧ o ≠ a ∧ G (18 + 2) o = x ∧ G (18 + 3) o = y)) (G 8 3) with ⟨-, n⟩ | ⟨h0, -⟩
            · have := of_decide_eq_false (n _ w0 w1)
              exact this ⟨q1, q2, w2, w3⟩
            · omega
  unfold barP freeB
  rw [decide_eq_true_iff]
  by_cases hi : insC G 8 x y
  · rw [if_pos hi]
    by_cases hw : 0 < G (18 + 1) (9 * y + x)
    · rw [if_pos hw]
      exact ⟨fun h => by omega, fun h => absurd hw h.2.1⟩
    · rw [if_neg hw]
      constructor
      · intro h
        refine ⟨hi, hw, key.mp ?_⟩
        by_cases q : whoC G 8 18 x y = -1 ∨ hasP but (whoC G 8 18 x y)
        · exact q
        · rw [if_neg q] at h; omega
      · intro h
        rw [if_pos (key.mpr h.2.2)]
  · rw [if_neg hi]
    exact ⟨fun h => by omega, fun h => absurd h.1 hi⟩
theorem lwP_clr {G : Mem} {p a but : Int} (hbar : ∀ x y : Int, barP G 8 18 but x y = 0 ↔ freeB G 8 18 p a x y = true) (x y u w : Int) : ∀ n : Nat, lwP G 8 18 but x y u w n = 0 ↔ clr (freeB G 8 18 p a) x y u w n = true := by
  intro n
  induction n with
  | zero => exact ⟨fun _ => rfl, fun _ => rfl⟩
  | succ n ih =>
    have h1 := barP_b G 8 18 but (x + (n + 1 : Int) * u) (y + (n + 1 : Int) * w)
    have h2 := lwP_b G 8 18 but x y u w n
    show (if barP G 8 18 but (x + (n + 1 : Int) * u) (y + (n + 1 : Int) * w) ≠ 0 ∧ (lwP G 8 18 but x y u w n = 0 ∨ barP G 8 18 but (x + (n + 1 : Int) * u) (y + (n + 1 : Int) * w) < lwP G 8 18 but x y u w n) then barP G 8 18 but (x + (n + 1 : Int) * u) (y + (n + 1 : Int) * w) else lwP G 8 18 but x y u w n) = 0 ↔ (clr (freeB G 8 18 p a) x y u w n && freeB G 8 18 p a (x + (n + 1 : Int) * u) (y + (n + 1 : Int) * w)) = true
    rw [Bool.and_eq_true, ← ih, ← hbar]
    generalize barP G 8 18 but (x + (n + 1 : Int) * u) (y + (n + 1 : Int) * w) = A at *
    generalize lwP G 8 18 but x y u w n = L at *
    split <;> omega
theorem beh_ins {G : Mem} {p a s f sd : Int} (hdn : DnOk G 8) (hs : VS G 8 s) (hf : 0 ≤ f ∧ f < G 8 2) (c : clr (freeB G 8 18 p a) (s / 4 % 9) (s / 4 / 9) (dx sd) (dy sd) (G (8 + 3) f).toNat = true) : insC G 8 (s / 4 % 9 + G (8 + 3) f * dx sd) (s / 4 / 9 + G (8 + 3) f * dy sd) := by
  have hff := hdn.2.2.2.2.2.1 f hf.1 hf.2
  by_cases z : G (8 + 3) f = 0
  · rw [z, Int.zero_mul, Int.zero_mul]
    obtain ⟨h1, h2, h3⟩ := hs
    unfold insC; omega
  · have hl := freeB_in (clr_last c (by omega))
    rw [show (((G (8 + 3) f).toNat : Nat) : Int) = G (8 + 3) f by omega] at hl
    exact hl
def To (nx : Int → Int → Int) (C g : Int) : Nat → Int → Prop
  | 0, s => s = g
  | n + 1, s => ∃ c : Int, 0 ≤ c ∧ c < C ∧ nx s c ≠ -1 ∧ To nx C g n (nx s c)
theorem To_snoc {nx : Int → Int → Int} {C u t c : Int} (h0 : 0 ≤ c) (h1 : c < C) (h2 : nx u c = t) (h3 : t ≠ -1) : ∀ {n : Nat} {s : Int}, To nx C u n s → To nx C t (n + 1) s := by
  intro n
  induction n with
  | zero => intro s h; have h : s = u := h; subst h; exact ⟨c, h0, h1, by rw [h2]; exact h3, h2⟩
  | succ n ih => rintro s ⟨e, e0, e1, e2, e3⟩; exact ⟨e, e0, e1, e2, ih e3⟩
theorem R2T {nx : Int → Int → Int} {C s0 : Int} : ∀ {n : Nat} {t : Int} {K : Nat}, Rch nx C s0 n t K → To nx C t n s0 := by
  intro n
  induction n with
  | zero => intro t K h; exact h.1.symm
  | succ n ih =>
    rintro t K ⟨s, c, K', h1, h2, h3, h4, h5, -⟩
    exact To_snoc h2 h3 h4 h5 (ih h1)
theorem T2R {nx : Int → Int → Int} {C s0 g : Int} : ∀ {n k : Nat} {s : Int} {K : Nat}, Rch nx C s0 k s K → To nx C g n s → ∃ K', Rch nx C s0 (k + n) g K' := by
  intro n
  induction n with
  | zero => intro k s K h ht; have ht : s = g := ht; subst ht; exact ⟨K, h⟩
  | succ n ih =>
    rintro k s K h ⟨c, c0, c1, c2, c3⟩
    have : Rch nx C s0 (k + 1) (nx s c) (24 * K + c.toNat) := ⟨s, c, K, h, c0, c1, rfl, c2, rfl⟩
    obtain ⟨K', hk⟩ := ih this c3
    exact ⟨K', by rw [show k + (n + 1) = k + 1 + n by omega]; exact hk⟩
theorem Rch_det {nx : Int → Int → Int} {C s0 : Int} (hC : C ≤ 24) : ∀ {n : Nat} {s t : Int} {K : Nat}, Rch nx C s0 n s K → Rch nx C s0 n t K → s = t := by
  intro n
  induction n with
  | zero => intro s t K h h'; exact h.1.trans h'.1.symm
  | succ n ih =>
    rintro s t K ⟨a, c, K1, h1, h2, h3, h4, -, h6⟩ ⟨b, e, K2, k1, k2, k3, k4, -, k6⟩
    have e1 : K1 = K2 := by omega
    have e2 : c = e := by omega
    subst e1; subst e2
    rw [← h4, ← k4, ih h1 k1]
/-- how far from the goal, as far as n rounds tell -/
def PL (nx : Int → Int → Int) (C g : Int) (far : Int → Int) (n t : Int) : Prop := (far t = 100000 ∧ ∀ j : Nat, (j : Int) ≤ n → ¬ To nx C g j t) ∨ (0 ≤ far t ∧ far t ≤ n ∧ To nx C g (far t).toNat t ∧ ∀ j : Nat, (j : Int) < far t → ¬ To nx C g j t)
section
variable {nx : Int → Int → Int} {C g : Int} {far : Int → Int} {n t : Int}
theorem PL.up (h : PL nx C g far n t) (hf : far t ≠ 100000) : PL nx C g far (n + 1) t := by
  rcases h with ⟨a, -⟩ | ⟨a, b, c, e⟩
  · exact absurd a hf
  · exact Or.inr ⟨a, by omega, c, e⟩
theorem PL.ne {x k : Int} (h : PL nx C g far n t) (hk : t ≠ k) : PL nx C g (fun j => if j = k then x else far j) n t := by
  unfold PL at *
  dsimp only
  rw [if_neg hk]; exact h
theorem PL.at (h : PL nx C g far n t) (hn : n < 100000) {j : Nat} (hj : (j : Int) ≤ n) (ht : To nx C g j t) : far t ≠ 100000 ∧ 0 ≤ far t ∧ far t ≤ j ∧ To nx C g (far t).toNat t := by
  rcases h with ⟨-, b⟩ | ⟨a, b, c, e⟩
  · exact absurd ht (b j hj)
  · refine ⟨by omega, a, ?_, c⟩
    by_cases q : (j : Int) < far t
    · exact absurd ht (e j q)
    · omega
theorem PL.new {k v : Int} (h : PL nx C g far n k) (hf : far k = 100000) (hn0 : 0 ≤ n) (hn : n < 100000) (v0 : 0 ≤ v) (v1 : v < C) (hne : nx k v ≠ -1) (hT : To nx C g n.toNat (nx k v)) : PL nx C g (fun j => if j = k then n + 1 else far j) (n + 1) k := by
  unfold PL
  dsimp only
  rw [if_pos rfl]
  right
  refine ⟨by omega, by omega, ?_, fun j hj => ?_⟩
  · rw [show (n + 1).toNat = n.toNat + 1 by omega]
    exact ⟨v, v0, v1, hne, hT⟩
  · rcases h with ⟨-, b⟩ | ⟨-, b, -⟩
    · exact b j (by omega)
    · omega
theorem PL.old {k : Int} (h : PL nx C g far n k) (hf : far k = 100000) (hn0 : 0 ≤ n) (hn : n < 100000) (hall : ∀ v : Int, 0 ≤ v → v < C → nx k v ≠ -1 → PL nx C g far n (nx k v) ∨ PL nx C g far (n + 1) (nx k v)) (hno : ∀ v : Int, 0 ≤ v → v < C → nx k v ≠ -1 → far (nx k v) ≠ n) : PL nx C g far (n + 1) k := by
  have hk : ∀ j : Nat, (j : Int) ≤ n → ¬ To nx C g j k := by
    rcases h with ⟨-, b⟩ | ⟨-, b, -⟩
    · exact b
    · omega
  refine Or.inl ⟨hf, fun j hj ht => ?_⟩
  by_cases q : (j : Int) ≤ n
  · exact hk j q ht
  · have e : j = n.toNat + 1 := by omega
    subst e
    obtain ⟨c, c0, c1, c2, c3⟩ := ht
    have hd : far (nx k c) ≠ 100000 ∧ 0 ≤ far (nx k c) ∧ far (nx k c) ≤ n.toNat ∧ To nx C g (far (nx k c)).toNat (nx k c) := by
      rcases hall c c0 c1 c2 with z | z
      · exact z.at hn (by omega) c3
      · by_cases q2 : n + 1 < 100000
        · exact z.at q2 (by omega) c3
        · rcases z with ⟨-, b⟩ | ⟨a, b, w, e⟩
          · exact absurd c3 (b _ (by omega))
          · have : far (nx k c) ≤ n.toNat := by
              by_cases q : ((n.toNat : Nat) : Int) < far (nx k c)
              · exact absurd c3 (e _ q)
              · omega
            exact ⟨by omega, a, this, w⟩
    have hx := hno c c0 c1 c2
    refine hk ((far (nx k c)).toNat + 1) (by omega) ⟨c, c0, c1, c2, hd.2.2.2⟩
theorem PL.fin {V : Int → Prop} (h : ∀ t : Int, V t → PL nx C g far n t) (hV : ∀ t c : Int, V t → 0 ≤ c → c < C → nx t c ≠ -1 → V (nx t c)) (hn0 : 0 ≤ n) (hn : n < 100000) (hno : ∀ t : Int, V t → far t ≠ n) : ∀ (j : Nat) (t : Int), V t → To nx C g j t → far t ≠ 100000 := by
  intro j
  induction j with
  | zero => intro t ht h0; exact ((h t ht).at hn (j := 0) (by omega) h0).1
  | succ j ih =>
    rintro t ht ⟨c, c0, c1, c2, c3⟩
    have hv := hV t c ht c0 c1 c2
    have h1 := ih _ hv c3
    have h2 : 0 ≤ far (nx t c) ∧ far (nx t c) ≤ n ∧ To nx C g (far (nx t c)).toNat (nx t c) := by
      rcases h _ hv with ⟨a, -⟩ | ⟨a, b, e, -⟩
      · exact absurd a h1
      · exact ⟨a, b, e⟩
    have h3 := hno _ hv
    exact ((h t ht).at hn (j := (far (nx t c)).toNat + 1) (by omega) ⟨c, c0, c1, c2, h2.2.2⟩).1
end
def LTo (G : Mem) (p a g : Int) (far : Int → Int) : Prop := ∀ t : Int, VS G 8 t → (far t = 100000 ∧ ∀ j : Nat, ¬ To (nx8 G p a) (4 * G 8 2) g j t) ∨ (0 ≤ far t ∧ far t ≤ 323 ∧ To (nx8 G p a) (4 * G 8 2) g (far t).toNat t ∧ ∀ j : Nat, (j : Int) < far t → ¬ To (nx8 G p a) (4 * G 8 2) g j t)
theorem nx8_v {G : Mem} {p a s v : Int} (hdn : DnOk G 8) (hs : VS G 8 s) (hv0 : 0 ≤ v) (hv : v < 4 * G 8 2) (hn : nx8 G p a s v ≠ -1) : VS G 8 (nx8 G p a s v) := nxF_v (fun x y h => freeB_in h) hdn hs hv0 hv hn
theorem cnt_pos {P : Int → Bool} {t n : Int} (h0 : 0 ≤ t) (h1 : t < n) (hp : P t = true) : 1 ≤ cntI P n := by
  have hb := cntI_b P (n := n) (by omega)
  by_cases q : cntI P n = 0
  · have := (cntI_0 (P := P) (n := n) (by omega)).mp q t h0 h1
    rw [hp] at this; cases this
  · omega
theorem cnt_inc {f : Int → Int} {t x : Int} (h0 : 0 ≤ t) (h1 : t < 324) (hf : f t = 100000) (hx : x ≠ 100000) : cntI (fun s => decide ((if s = t then x else f s) ≠ 100000)) 324 = cntI (fun s => decide (f s ≠ 100000)) 324 + 1 := by
  have e := sumI_upd (f := fun j => if decide (f j ≠ 100000) = true then 1 else 0) (p := t) (x := 1) (n := 324) h0 h1
  unfold cntI
  have e2 : sumI (fun j => if decide ((if j = t then x else f j) ≠ 100000) = true then 1 else 0) 324 = sumI (fun j => if j = t then 1 else if decide (f j ≠ 100000) = true then 1 else 0) 324 := sumI_congr (fun j _ _ => by
    by_cases hj : j = t
    · simp [hj, hx]
    · simp [hj])
  rw [e2, e]
  simp [hf]
theorem ext_w {r : Int → Int} {k v : Int} (h : 0 ≤ k) : ext 1 (fun j => if j = k then v else r j) 0 (k + 1).toNat = 24 * ext 1 r 0 k.toNat + v.toNat := by
  rw [show (k + 1).toNat = k.toNat + 1 by omega]
  show 24 * ext 1 (fun j => if j = k then v else r j) 0 k.toNat + (if 0 + (k.toNat : Int) = k then v else r (0 + (k.toNat : Int))).toNat = _
  rw [if_pos (by omega), ext_congr (r' := r) (fun j a b => if_neg (by omega))]
theorem way_step {nx : Int → Int → Int} {C s0 g ps v : Int} {k j K : Nat} (hC : C ≤ 24) (hR : Rch nx C s0 k ps K) (hmin : ∀ (s : Int) (K' : Nat), Rch nx C s0 k s K' → To nx C g (j + 1) s → K ≤ K') (v0 : 0 ≤ v) (v1 : v < C) (hne : nx ps v ≠ -1) (hl : ∀ c : Int, 0 ≤ c → c < v → nx ps c ≠ -1 → ¬ To nx C g j (nx ps c)) :
    Rch nx C s0 (k + 1) (nx ps v) (24 * K + v.toNat) ∧ ∀ (s : Int) (K' : Nat), Rch nx C s0 (k + 1) s K' → To nx C g j s → 24 * K + v.toNat ≤ K' := by
  refine ⟨⟨ps, v, K, hR, v0, v1, rfl, hne, rfl⟩, ?_⟩
  rintro s K' ⟨u, c, K2, h1, h2, h3, h4, h5, h6⟩ ht
  have hu : To nx C g (j + 1) u := ⟨c, h2, h3, by rw [h4]; exact h5, by rw [h4]; exact ht⟩
  have h7 := hmin u K2 h1 hu
  by_cases q : K = K2
  · subst q
    have e := Rch_det hC h1 hR
    subst e
    by_cases z : c < v
    · exact absurd (by rw [h4]; exact ht) (hl c h2 z (by rw [h4]; exact h5))
    · omega
  · omega
theorem way_fin {nx : Int → Int → Int} {C s0 g ps : Int} {n K : Nat} (hC : C ≤ 24) (hR : Rch nx C s0 n ps K) (hps : ps = g) (hmin : ∀ (s : Int) (K' : Nat), Rch nx C s0 n s K' → To nx C g 0 s → K ≤ K') (hd : ∀ j : Nat, j < n → ¬ To nx C g j s0) : Bst nx C s0 n g K := by
  subst hps
  refine ⟨hR, fun n' K' h => ?_⟩
  have ht := R2T h
  by_cases q : n' = n
  · subst q; exact hmin ps K' h rfl
  · have hlt : n < n' := by
      by_cases z : n' < n
      · exact absurd ht (hd n' z)
      · omega
    have b1 := Rch_b hC n ps K hR
    have b2 := Rch_b hC n' ps K' h
    have b3 : 24 ^ (n + 1) ≤ 24 ^ n' := Nat.pow_le_pow_right (by decide) hlt
    rw [Nat.pow_succ] at b3
    omega
def WyM (m G : Mem) (p q r : Int) (m' : Mem) : Prop := (¬ ((0 ≤ p ∧ p < G 8 3) ∧ 0 ≤ q ∧ q < G 8 4) ∧ r = -1 ∧ m' = wr m 214 0 0) ∨ (((0 ≤ p ∧ p < G 8 3) ∧ 0 ≤ q ∧ q < G 8 4) ∧ (∀ b : Nat, b ≠ 214 → b ≠ 225 → b ≠ 227 → m' b = m b) ∧ (∀ j : Int, j ≠ 29 → m' 214 j = wr m 214 0 0 214 j) ∧
  ((r = -1 ∧ (∀ n K : Nat, ¬ Rch8 G p (-1) n (golC G q) K) ∧ m' 214 29 = m 214 29 ∧ m' 227 = m 227) ∨
   (∃ n : Nat, n ≤ 323 ∧ r = (n : Int) ∧ m' 214 29 = (n : Int) ∧ Bst8 G p (-1) n (golC G q) (ext 1 (m' 227) 0 n) ∧ ∀ k : Int, 0 ≤ k → k < (n : Int) → 0 ≤ m' 227 k ∧ m' 227 k < 4 * G 8 2)))
def BoM (m G : Mem) (p o q r : Int) (m' : Mem) : Prop := (∀ b : Nat, b ≠ 214 → b ≠ 225 → m' b = m b) ∧ m' 214 = wr m 214 0 0 214 ∧ ((¬ ((0 ≤ p ∧ p < G 8 3) ∧ (0 ≤ o ∧ o < G 8 3) ∧ p ≠ o ∧ 0 ≤ q ∧ q < G 8 4) ∧ r = -1) ∨ (((0 ≤ p ∧ p < G 8 3) ∧ (0 ≤ o ∧ o < G 8 3) ∧ p ≠ o ∧ 0 ≤ q ∧ q < G 8 4) ∧
  ((∃ n1 n2 : Nat, (To (nx8 G p o) (4 * G 8 2) (golC G q) n1 (stdC G p) ∧ ∀ j : Nat, j < n1 → ¬ To (nx8 G p o) (4 * G 8 2) (golC G q) j (stdC G p)) ∧ (To (nx8 G p o) (4 * G 8 2) (golC G q) n2 (stdC G o) ∧ ∀ j : Nat, j < n2 → ¬ To (nx8 G p o) (4 * G 8 2) (golC G q) j (stdC G o)) ∧ r = max (n1 : Int) n2) ∨
   (r = -1 ∧ ((∀ j : Nat, ¬ To (nx8 G p o) (4 * G 8 2) (golC G q) j (stdC G p)) ∨ ∀ j : Nat, ¬ To (nx8 G p o) (4 * G 8 2) (golC G q) j (stdC G o))))))
def SsM (m G : Mem) (p r : Int) (m' : Mem) : Prop := (∀ b : Nat, b ≠ 214 → b ≠ 225 → b ≠ 226 → m' b = m b) ∧ m' 214 = wr m 214 0 0 214 ∧ ((¬ (0 ≤ p ∧ p < G 8 3) ∧ r = -1) ∨ ((0 ≤ p ∧ p < G 8 3) ∧ ∃ P : Int → Bool, (∀ c : Int, 0 ≤ c → c < 81 → (P c = true ↔ ∃ (u : Int) (n K : Nat), 0 ≤ u ∧ u < 4 ∧ Rch8 G p (-1) n (4 * c + u) K)) ∧ r = cntI P 81))
def LdT (G m : Mem) (p a s n : Int) : Prop := ∃ v : Int, 0 ≤ v ∧ v < 4 * G 8 2 ∧ nx8 G p a s v ≠ -1 ∧ m 225 (nx8 G p a s v) = n
def fa (m : Mem) : Int → Int := fun t => if m 225 t = 100000 then -1 else m 225 t
theorem lto_ex {G : Mem} {p a g : Int} {far : Int → Int} (hdn : DnOk G 8) (h : LTo G p a g far) {ps : Int} {k : Int} (hv : VS G 8 ps) (hk : 1 ≤ k) (hf : far ps = k) (hk4 : k ≤ 400) : ∃ c : Int, 0 ≤ c ∧ c < 4 * G 8 2 ∧ nx8 G p a ps c ≠ -1 ∧ far (nx8 G p a ps c) = k - 1 := by
  rcases h ps hv with ⟨a, -⟩ | ⟨-, -, b, e⟩
  · omega
  · rw [hf, show k.toNat = (k - 1).toNat + 1 by omega] at b
    obtain ⟨c, c0, c1, c2, c3⟩ := b
    refine ⟨c, c0, c1, c2, ?_⟩
    have hv2 := nx8_v hdn hv c0 c1 c2
    rcases h _ hv2 with ⟨-, z⟩ | ⟨z0, -, z1, z2⟩
    · exact absurd c3 (z _)
    · by_cases q : (((k - 1).toNat : Nat) : Int) < far (nx8 G p a ps c)
      · exact absurd c3 (z2 _ q)
      · by_cases q2 : far (nx8 G p a ps c) < k - 1
        · exact absurd ⟨c, c0, c1, c2, z1⟩ (e ((far (nx8 G p a ps c)).toNat + 1) (by omega))
        · omega
theorem lto_no {G : Mem} {p a g : Int} {far : Int → Int} (hdn : DnOk G 8) (h : LTo G p a g far) {ps c : Int} {k : Int} (hv : VS G 8 ps) (hk : 1 ≤ k) (hf : far ps = k) (hk4 : k ≤ 400) (c0 : 0 ≤ c) (c1 : c < 4 * G 8 2) (c2 : nx8 G p a ps c ≠ -1) (c3 : far (nx8 G p a ps c) ≠ k - 1) : ¬ To (nx8 G p a) (4 * G 8 2) g (k - 1).toNat (nx8 G p a ps c) := by
  intro ht
  have hv2 := nx8_v hdn hv c0 c1 c2
  rcases h ps hv with ⟨a, -⟩ | ⟨-, -, -, e⟩
  · omega
  · rcases h _ hv2 with ⟨-, z⟩ | ⟨z0, -, z1, z2⟩
    · exact z _ ht
    · by_cases q : (((k - 1).toNat : Nat) : Int) < far (nx8 G p a ps c)
      · exact z2 _ q ht
      · exact e ((far (nx8 G p a ps c)).toNat + 1) (by omega) ⟨c, c0, c1, c2, z1⟩
theorem VS_cell {G : Mem} {k : Int} (h0 : 0 ≤ k) : VS G 8 k ↔ insC G 8 (k / 4 % 9) (k / 4 / 9) := by
  unfold VS insC; omega

theorem dX12_placeOf_0 : decode mX12_placeOf.2.1 0 = .ok (.iconst 4, 1) := by decide +kernel
theorem dX12_placeOf_1 : decode mX12_placeOf.2.1 1 = .ok (.aload_n 0, 1) := by decide +kernel
theorem dX12_placeOf_2 : decode mX12_placeOf.2.1 2 = .ok (.getfield 98, 3) := by decide +kernel
theorem dX12_placeOf_5 : decode mX12_placeOf.2.1 5 = .ok (.bipush 126, 2) := by decide +kernel
theorem dX12_placeOf_7 : decode mX12_placeOf.2.1 7 = .ok (.iload_n 1, 1) := by decide +kernel
theorem dX12_placeOf_8 : decode mX12_placeOf.2.1 8 = .ok (.iadd, 1) := by decide +kernel
theorem dX12_placeOf_9 : decode mX12_placeOf.2.1 9 = .ok (.iaload, 1) := by decide +kernel
theorem dX12_placeOf_10 : decode mX12_placeOf.2.1 10 = .ok (.imul, 1) := by decide +kernel
theorem dX12_placeOf_11 : decode mX12_placeOf.2.1 11 = .ok (.aload_n 0, 1) := by decide +kernel
theorem dX12_placeOf_12 : decode mX12_placeOf.2.1 12 = .ok (.getfield 98, 3) := by decide +kernel
theorem dX12_placeOf_15 : decode mX12_placeOf.2.1 15 = .ok (.sipush 131, 3) := by decide +kernel
theorem dX12_placeOf_18 : decode mX12_placeOf.2.1 18 = .ok (.iload_n 1, 1) := by decide +kernel
theorem dX12_placeOf_19 : decode mX12_placeOf.2.1 19 = .ok (.iadd, 1) := by decide +kernel
theorem dX12_placeOf_20 : decode mX12_placeOf.2.1 20 = .ok (.iaload, 1) := by decide +kernel
theorem dX12_placeOf_21 : decode mX12_placeOf.2.1 21 = .ok (.iadd, 1) := by decide +kernel
theorem dX12_placeOf_22 : decode mX12_placeOf.2.1 22 = .ok (.ireturn, 1) := by decide +kernel
set_option maxRecDepth 4000 in
theorem ev_X12_placeOf {m : Mem} {G : Mem} {B : Int} {p : Int} (hb : Bg G 8 18 (m 216)) (hdn : DnOk G 8) (hst : StOk G 8 18 B) (hp : 0 ≤ p ∧ p < G 8 3) : Ev 0 1 mX12_placeOf [vr 214, vi p] m (fun r m' => m' = m ∧ (r = stdC G p)) := by
  refine Ev.of (L := [vr 214, vi p]) (by decide +kernel) rfl (Nat.le_of_ble_eq_true rfl) rfl (fun t ht => by cases ht; first | exact Or.inl rfl | exact Or.inr (Or.inl rfl) | exact Or.inr (Or.inr rfl)) (fun hcan => ?_)
  obtain ⟨⟨hd0, hd1⟩, ⟨hd2, hd3⟩, ⟨hd4, hd5⟩, ⟨hd6, hd7⟩, ⟨hd8, hd9⟩, hdf, hdp, hdq⟩ := id hdn
  obtain ⟨⟨hs0, hs1⟩, ⟨hs2, hs3⟩, hsw, hsp, hsd, hsz⟩ := id hst
  have hpp := hsp p hp.1 hp.2
  refine go_iconst dX12_placeOf_0 ?_
  refine go_aload_n dX12_placeOf_1 rfl ?_
  refine go_getf_p (b := 216) dX12_placeOf_2 fl_12_98 ob_214 rfl pt_214_14 ?_
  refine go_bipush dX12_placeOf_5 (by decide) ?_
  refine go_iload_n dX12_placeOf_7 rfl ?_
  refine go_iadd dX12_placeOf_8 ?_
  refine go_iaload dX12_placeOf_9 ar_216 (by omega) (by omega) (fun he_9 => ?_)
  rw [show (m 216 (126 + p) : Int) = (9 * G (18 + 3) p + G (18 + 2) p) from (hb.at (p := p) (by omega) (by omega))] at he_9 ⊢
  refine go_imul dX12_placeOf_10 ?_
  refine go_aload_n dX12_placeOf_11 rfl ?_
  refine go_getf_p (b := 216) dX12_placeOf_12 fl_12_98 ob_214 rfl pt_214_14 ?_
  refine go_sipush dX12_placeOf_15 (by decide) ?_
  refine go_iload_n dX12_placeOf_18 rfl ?_
  refine go_iadd dX12_placeOf_19 ?_
  refine go_iaload dX12_placeOf_20 ar_216 (by omega) (by omega) (fun he_20 => ?_)
  rw [show (m 216 (131 + p) : Int) = (G (18 + 4) p) from (hb.up (p := p) (by omega) (by omega))] at he_20 ⊢
  refine go_iadd dX12_placeOf_21 ?_
  exact go_ret (v := ((4 * (9 * G (18 + 3) p + G (18 + 2) p)) + (G (18 + 4) p))) rfl dX12_placeOf_22 (okI ⟨by omega, by omega⟩) ⟨rfl, rfl⟩
theorem dX12_goalOf_0 : decode mX12_goalOf.2.1 0 = .ok (.iconst 4, 1) := by decide +kernel
theorem dX12_goalOf_1 : decode mX12_goalOf.2.1 1 = .ok (.aload_n 0, 1) := by decide +kernel
theorem dX12_goalOf_2 : decode mX12_goalOf.2.1 2 = .ok (.getfield 98, 3) := by decide +kernel
theorem dX12_goalOf_5 : decode mX12_goalOf.2.1 5 = .ok (.bipush 32, 2) := by decide +kernel
theorem dX12_goalOf_7 : decode mX12_goalOf.2.1 7 = .ok (.iload_n 1, 1) := by decide +kernel
theorem dX12_goalOf_8 : decode mX12_goalOf.2.1 8 = .ok (.iadd, 1) := by decide +kernel
theorem dX12_goalOf_9 : decode mX12_goalOf.2.1 9 = .ok (.iaload, 1) := by decide +kernel
theorem dX12_goalOf_10 : decode mX12_goalOf.2.1 10 = .ok (.imul, 1) := by decide +kernel
theorem dX12_goalOf_11 : decode mX12_goalOf.2.1 11 = .ok (.aload_n 0, 1) := by decide +kernel
theorem dX12_goalOf_12 : decode mX12_goalOf.2.1 12 = .ok (.getfield 98, 3) := by decide +kernel
theorem dX12_goalOf_15 : decode mX12_goalOf.2.1 15 = .ok (.bipush 37, 2) := by decide +kernel
theorem dX12_goalOf_17 : decode mX12_goalOf.2.1 17 = .ok (.iload_n 1, 1) := by decide +kernel
theorem dX12_goalOf_18 : decode mX12_goalOf.2.1 18 = .ok (.iadd, 1) := by decide +kernel
theorem dX12_goalOf_19 : decode mX12_goalOf.2.1 19 = .ok (.iaload, 1) := by decide +kernel
theorem dX12_goalOf_20 : decode mX12_goalOf.2.1 20 = .ok (.iadd, 1) := by decide +kernel
theorem dX12_goalOf_21 : decode mX12_goalOf.2.1 21 = .ok (.ireturn, 1) := by decide +kernel
set_option maxRecDepth 4000 in
theorem ev_X12_goalOf {m : Mem} {G : Mem} {q : Int} (hb : Bg G 8 18 (m 216)) (hdn : DnOk G 8) (hq : 0 ≤ q ∧ q < G 8 4) : Ev 0 1 mX12_goalOf [vr 214, vi q] m (fun r m' => m' = m ∧ (r = golC G q)) := by
  refine Ev.of (L := [vr 214, vi q]) (by decide +kernel) rfl (Nat.le_of_ble_eq_true rfl) rfl (fun t ht => by cases ht; first | exact Or.inl rfl | exact Or.inr (Or.inl rfl) | exact Or.inr (Or.inr rfl)) (fun hcan => ?_)
  obtain ⟨⟨hd0, hd1⟩, ⟨hd2, hd3⟩, ⟨hd4, hd5⟩, ⟨hd6, hd7⟩, ⟨hd8, hd9⟩, hdf, hdp, hdq⟩ := id hdn
  have hqq := hdq q hq.1 hq.2
  refine go_iconst dX12_goalOf_0 ?_
  refine go_aload_n dX12_goalOf_1 rfl ?_
  refine go_getf_p (b := 216) dX12_goalOf_2 fl_12_98 ob_214 rfl pt_214_14 ?_
  refine go_bipush dX12_goalOf_5 (by decide) ?_
  refine go_iload_n dX12_goalOf_7 rfl ?_
  refine go_iadd dX12_goalOf_8 ?_
  refine go_iaload dX12_goalOf_9 ar_216 (by omega) (by omega) (fun he_9 => ?_)
  rw [show (m 216 (32 + q) : Int) = (9 * G (8 + 8) q + G (8 + 7) q) from (hb.sp (q := q) (by omega) (by omega))] at he_9 ⊢
  refine go_imul dX12_goalOf_10 ?_
  refine go_aload_n dX12_goalOf_11 rfl ?_
  refine go_getf_p (b := 216) dX12_goalOf_12 fl_12_98 ob_214 rfl pt_214_14 ?_
  refine go_bipush dX12_goalOf_15 (by decide) ?_
  refine go_iload_n dX12_goalOf_17 rfl ?_
  refine go_iadd dX12_goalOf_18 ?_
  refine go_iaload dX12_goalOf_19 ar_216 (by omega) (by omega) (fun he_19 => ?_)
  rw [show (m 216 (37 + q) : Int) = (G (8 + 9) q) from (hb.su (q := q) (by omega) (by omega))] at he_19 ⊢
  refine go_iadd dX12_goalOf_20 ?_
  exact go_ret (v := ((4 * (9 * G (8 + 8) q + G (8 + 7) q)) + (G (8 + 9) q))) rfl dX12_goalOf_21 (okI ⟨by omega, by omega⟩) ⟨rfl, rfl⟩
theorem dX12_behind_0 : decode mX12_behind.2.1 0 = .ok (.iload_n 1, 1) := by decide +kernel
theorem dX12_behind_1 : decode mX12_behind.2.1 1 = .ok (.iconst 4, 1) := by decide +kernel
theorem dX12_behind_2 : decode mX12_behind.2.1 2 = .ok (.idiv, 1) := by decide +kernel
theorem dX12_behind_3 : decode mX12_behind.2.1 3 = .ok (.istore 5, 2) := by decide +kernel
theorem dX12_behind_5 : decode mX12_behind.2.1 5 = .ok (.aload_n 0, 1) := by decide +kernel
theorem dX12_behind_6 : decode mX12_behind.2.1 6 = .ok (.iload 5, 2) := by decide +kernel
theorem dX12_behind_8 : decode mX12_behind.2.1 8 = .ok (.iload_n 2, 1) := by decide +kernel
theorem dX12_behind_9 : decode mX12_behind.2.1 9 = .ok (.iload_n 3, 1) := by decide +kernel
theorem dX12_behind_10 : decode mX12_behind.2.1 10 = .ok (.iload 4, 2) := by decide +kernel
theorem dX12_behind_12 : decode mX12_behind.2.1 12 = .ok (.invokevirtual 270, 3) := by decide +kernel
theorem dX12_behind_15 : decode mX12_behind.2.1 15 = .ok (.ifCond .eq 5, 3) := by decide +kernel
theorem dX12_behind_18 : decode mX12_behind.2.1 18 = .ok (.iconst (-1), 1) := by decide +kernel
theorem dX12_behind_19 : decode mX12_behind.2.1 19 = .ok (.ireturn, 1) := by decide +kernel
theorem dX12_behind_20 : decode mX12_behind.2.1 20 = .ok (.iconst 4, 1) := by decide +kernel
theorem dX12_behind_21 : decode mX12_behind.2.1 21 = .ok (.aload_n 0, 1) := by decide +kernel
theorem dX12_behind_22 : decode mX12_behind.2.1 22 = .ok (.iload 5, 2) := by decide +kernel
theorem dX12_behind_24 : decode mX12_behind.2.1 24 = .ok (.iload_n 3, 1) := by decide +kernel
theorem dX12_behind_25 : decode mX12_behind.2.1 25 = .ok (.aload_n 0, 1) := by decide +kernel
theorem dX12_behind_26 : decode mX12_behind.2.1 26 = .ok (.getfield 98, 3) := by decide +kernel
theorem dX12_behind_29 : decode mX12_behind.2.1 29 = .ok (.bipush 11, 2) := by decide +kernel
theorem dX12_behind_31 : decode mX12_behind.2.1 31 = .ok (.iload_n 2, 1) := by decide +kernel
theorem dX12_behind_32 : decode mX12_behind.2.1 32 = .ok (.iadd, 1) := by decide +kernel
theorem dX12_behind_33 : decode mX12_behind.2.1 33 = .ok (.iaload, 1) := by decide +kernel
theorem dX12_behind_34 : decode mX12_behind.2.1 34 = .ok (.invokevirtual 235, 3) := by decide +kernel
theorem dX12_behind_37 : decode mX12_behind.2.1 37 = .ok (.imul, 1) := by decide +kernel
theorem dX12_behind_38 : decode mX12_behind.2.1 38 = .ok (.iload_n 1, 1) := by decide +kernel
theorem dX12_behind_39 : decode mX12_behind.2.1 39 = .ok (.aload_n 0, 1) := by decide +kernel
theorem dX12_behind_40 : decode mX12_behind.2.1 40 = .ok (.getfield 98, 3) := by decide +kernel
theorem dX12_behind_43 : decode mX12_behind.2.1 43 = .ok (.iconst 5, 1) := by decide +kernel
theorem dX12_behind_44 : decode mX12_behind.2.1 44 = .ok (.iload_n 2, 1) := by decide +kernel
theorem dX12_behind_45 : decode mX12_behind.2.1 45 = .ok (.iadd, 1) := by decide +kernel
theorem dX12_behind_46 : decode mX12_behind.2.1 46 = .ok (.iaload, 1) := by decide +kernel
theorem dX12_behind_47 : decode mX12_behind.2.1 47 = .ok (.iadd, 1) := by decide +kernel
theorem dX12_behind_48 : decode mX12_behind.2.1 48 = .ok (.iconst 4, 1) := by decide +kernel
theorem dX12_behind_49 : decode mX12_behind.2.1 49 = .ok (.irem, 1) := by decide +kernel
theorem dX12_behind_50 : decode mX12_behind.2.1 50 = .ok (.iadd, 1) := by decide +kernel
theorem dX12_behind_51 : decode mX12_behind.2.1 51 = .ok (.ireturn, 1) := by decide +kernel
set_option maxRecDepth 4000 in
theorem ev_X12_behind {m : Mem} {G : Mem} {B : Int} {p : Int} {a : Int} {but : Int} {s : Int} {f : Int} {sd : Int} {v : Int} (hb : Bg G 8 18 (m 216)) (hdn : DnOk G 8) (hst : StOk G 8 18 B) (hbt : ∀ o : Int, 0 ≤ o → o < G 8 3 → (hasP but o ↔ (o = p ∨ o = a))) (hvs : VS G 8 s) (hv : 0 ≤ v ∧ v < 4 * G 8 2) (hfv : f = v / 4) (hsv : sd = v % 4) : Ev 0 5 mX12_behind [vr 214, vi s, vi f, vi sd, vi but] m (fun r m' => m' = m ∧ (r = nx8 G p a s v)) := by
  refine Ev.of (L := [vr 214, vi s, vi f, vi sd, vi but, un]) (by decide +kernel) rfl (Nat.le_of_ble_eq_true rfl) rfl (fun t ht => by cases ht; first | exact Or.inl rfl | exact Or.inr (Or.inl rfl) | exact Or.inr (Or.inr rfl)) (fun hcan => ?_)
  obtain ⟨⟨hd0, hd1⟩, ⟨hd2, hd3⟩, ⟨hd4, hd5⟩, ⟨hd6, hd7⟩, ⟨hd8, hd9⟩, hdf, hdp, hdq⟩ := id hdn
  obtain ⟨⟨hs0, hs1⟩, ⟨hs2, hs3⟩, hsw, hsp, hsd, hsz⟩ := id hst
  have hbar : ∀ x y : Int, barP G 8 18 but x y = 0 ↔ freeB G 8 18 p a x y = true := fun x y => barP_fr hst hbt
  obtain ⟨hv1, hv2, hv3⟩ := id hvs
  have h324 := hvs.lt hdn
  have hff := hdf f (by omega) (by omega)
  have hdx := sdx (n := G (8 + 3) f) (s := sd) (by omega) (by omega)
  refine go_iload_n dX12_behind_0 rfl ?_
  refine go_iconst dX12_behind_1 ?_
  refine go_idiv dX12_behind_2 ⟨by omega, by omega⟩ ⟨by omega, by omega⟩ (by omega) (by omega) ?_
  refine go_istore (L' := [vr 214, vi s, vi f, vi sd, vi but, vi (s / 4)]) dX12_behind_3 (by decide) rfl rfl ?_
  refine go_aload_n dX12_behind_5 rfl ?_
  refine go_iload dX12_behind_6 rfl ?_
  refine go_iload_n dX12_behind_8 rfl ?_
  refine go_iload_n dX12_behind_9 rfl ?_
  refine go_iload dX12_behind_10 rfl ?_
  refine go_callVp_i (as := [vi (s / 4), vi f, vi sd, vi but]) (S := []) (b := 214) (ev_X12_onWay (m := m) (c := (s / 4)) (f := f) (s := sd) (but := but) (G := G) (d := 8) (st := 18) (B := B) (x := (s / 4 % 9)) (y := (s / 4 / 9)) (by first | exact hb | exact hb.w (by decide) | exact (hb.w (by decide)).w (by decide)) (by first | assumption | omega | exact ⟨by omega, by omega⟩ | (constructor <;> omega)) (by first | assumption | omega | exact ⟨by omega, by omega⟩ | (constructor <;> omega)) (by first | assumption | omega | exact ⟨by omega, by omega⟩ | (constructor <;> omega)) (by first | assumption | omega | exact ⟨by omega, by omega⟩ | (constructor <;> omega)) (by first | assumption | omega | exact ⟨by omega, by omega⟩ | (constructor <;> omega)) (by first | assumption | omega | exact ⟨by omega, by omega⟩ | (constructor <;> omega))) rfl dX12_behind_12 cv_12_270 rfl rfl ob_214 rfl (by decide) (Nat.le_of_ble_eq_true rfl) (fun r_12 hr_12 ho_12 => ?_)
  refine go_if_eq (tgt := 20) dX12_behind_15 (by decide) ⟨by omega, by omega⟩ (fun h_15 => ?_) (fun h_15 => ?_)
  · have hcl := (lwP_clr hbar (s / 4 % 9) (s / 4 / 9) (dx sd) (dy sd) (G (8 + 3) f).toNat).mp (by omega)
    have hin := beh_ins hdn hvs (by omega) hcl
    refine go_iconst dX12_behind_20 ?_
    refine go_aload_n dX12_behind_21 rfl ?_
    refine go_iload dX12_behind_22 rfl ?_
    refine go_iload_n dX12_behind_24 rfl ?_
    refine go_aload_n dX12_behind_25 rfl ?_
    refine go_getf_p (b := 216) dX12_behind_26 fl_12_98 ob_214 rfl pt_214_14 ?_
    refine go_bipush dX12_behind_29 (by decide) ?_
    refine go_iload_n dX12_behind_31 rfl ?_
    refine go_iadd dX12_behind_32 ?_
    refine go_iaload dX12_behind_33 ar_216 (by omega) (by omega) (fun he_33 => ?_)
    rw [show (m 216 (11 + f) : Int) = (G (8 + 3) f) from (hb.go (f := f) (by omega) (by omega))] at he_33 ⊢
    refine go_callVp_i (as := [vi (s / 4), vi sd, vi (G (8 + 3) f)]) (S := [vi 4]) (b := 214) (ev_X12_cellOn (m := m) (c := (s / 4)) (s := sd) (n := (G (8 + 3) f)) (G := G) (d := 8) (st := 18) (x := (s / 4 % 9)) (y := (s / 4 / 9)) (by first | exact hb | exact hb.w (by decide) | exact (hb.w (by decide)).w (by decide)) (by first | assumption | omega | exact ⟨by omega, by omega⟩ | (constructor <;> omega)) (by first | assumption | omega | exact ⟨by omega, by omega⟩ | (constructor <;> omega)) (by first | assumption | omega | exact ⟨by omega, by omega⟩ | (constructor <;> omega)) (by first | assumption | omega | exact ⟨by omega, by omega⟩ | (constructor <;> omega)) (by first | assumption | omega | exact ⟨by omega, by omega⟩ | (constructor <;> omega))) rfl dX12_behind_34 cv_12_235 rfl rfl ob_214 rfl (by decide) (Nat.le_of_ble_eq_true rfl) (fun r_34 hr_34 ho_34 => ?_)
    rw [if_pos hin] at hr_34
    have hin2 := hin
    unfold insC at hin2
    refine go_imul dX12_behind_37 ?_
    refine go_iload_n dX12_behind_38 rfl ?_
    refine go_aload_n dX12_behind_39 rfl ?_
    refine go_getf_p (b := 216) dX12_behind_40 fl_12_98 ob_214 rfl pt_214_14 ?_
    refine go_iconst dX12_behind_43 ?_
    refine go_iload_n dX12_behind_44 rfl ?_
    refine go_iadd dX12_behind_45 ?_
    refine go_iaload dX12_behind_46 ar_216 (by omega) (by omega) (fun he_46 => ?_)
    rw [show (m 216 (5 + f) : Int) = (G (8 + 2) f) from (hb.qu (f := f) (by omega) (by omega))] at he_46 ⊢
    refine go_iadd dX12_behind_47 ?_
    refine go_iconst dX12_behind_48 ?_
    refine go_irem dX12_behind_49 ⟨by omega, by omega⟩ ⟨by omega, by omega⟩ (by omega) (by omega) ?_
    refine go_iadd dX12_behind_50 ?_
    exact go_ret (v := ((4 * r_34) + ((s + (G (8 + 2) f)) % 4))) rfl dX12_behind_51 (okI ⟨by omega, by omega⟩) ⟨rfl, (by show _ = nxF G 8 (freeB G 8 18 p a) s v; unfold nxF; rw [← hfv, ← hsv, if_pos hcl, hr_34, show G (8 + 3) f * (9 * dy sd + dx sd) = 9 * (G (8 + 3) f * dy sd) + G (8 + 3) f * dx sd by rw [Int.mul_add, Int.mul_left_comm]]; omega)⟩
  · refine go_iconst dX12_behind_18 ?_
    exact go_ret (v := (-1)) rfl dX12_behind_19 (okI ⟨by omega, by omega⟩) ⟨rfl, (by show _ = nxF G 8 (freeB G 8 18 p a) s v; unfold nxF; rw [← hfv, ← hsv, if_neg (fun h => by have := (lwP_clr hbar _ _ _ _ _).mpr h; omega)])⟩
theorem dX12_queueUp_0 : decode mX12_queueUp.2.1 0 = .ok (.aload_n 0, 1) := by decide +kernel
theorem dX12_queueUp_1 : decode mX12_queueUp.2.1 1 = .ok (.getfield 127, 3) := by decide +kernel
theorem dX12_queueUp_4 : decode mX12_queueUp.2.1 4 = .ok (.iload_n 1, 1) := by decide +kernel
theorem dX12_queueUp_5 : decode mX12_queueUp.2.1 5 = .ok (.iload_n 2, 1) := by decide +kernel
theorem dX12_queueUp_6 : decode mX12_queueUp.2.1 6 = .ok (.iastore, 1) := by decide +kernel
theorem dX12_queueUp_7 : decode mX12_queueUp.2.1 7 = .ok (.aload_n 0, 1) := by decide +kernel
theorem dX12_queueUp_8 : decode mX12_queueUp.2.1 8 = .ok (.getfield 130, 3) := by decide +kernel
theorem dX12_queueUp_11 : decode mX12_queueUp.2.1 11 = .ok (.iload_n 3, 1) := by decide +kernel
theorem dX12_queueUp_12 : decode mX12_queueUp.2.1 12 = .ok (.iload_n 1, 1) := by decide +kernel
theorem dX12_queueUp_13 : decode mX12_queueUp.2.1 13 = .ok (.iastore, 1) := by decide +kernel
theorem dX12_queueUp_14 : decode mX12_queueUp.2.1 14 = .ok (.return_, 1) := by decide +kernel
set_option maxRecDepth 4000 in
theorem ev_X12_queueUp {m : Mem} {t : Int} {n : Int} {i : Int} (ht : 0 ≤ t ∧ t < 324) (hn : InR n) (hi : 0 ≤ i ∧ i < 324) : Ev 0 1 mX12_queueUp [vr 214, vi t, vi n, vi i] m (fun r m' => m' = wr (wr m 225 t n) 226 i t) := by
  refine Ev.of (L := [vr 214, vi t, vi n, vi i]) (by decide +kernel) rfl (Nat.le_of_ble_eq_true rfl) rfl (fun t ht => by cases ht) (fun hcan => ?_)
  refine go_aload_n dX12_queueUp_0 rfl ?_
  refine go_getf_p (b := 225) dX12_queueUp_1 fl_12_127 ob_214 rfl pt_214_26 ?_
  refine go_iload_n dX12_queueUp_4 rfl ?_
  refine go_iload_n dX12_queueUp_5 rfl ?_
  refine go_iastore dX12_queueUp_6 ar_225 (by omega) (by omega) ⟨by omega, by omega⟩ ?_
  refine go_aload_n dX12_queueUp_7 rfl ?_
  refine go_getf_p (b := 226) dX12_queueUp_8 fl_12_130 ob_214 rfl pt_214_27 ?_
  refine go_iload_n dX12_queueUp_11 rfl ?_
  refine go_iload_n dX12_queueUp_12 rfl ?_
  refine go_iastore dX12_queueUp_13 ar_226 (by omega) (by omega) ⟨by omega, by omega⟩ ?_
  exact go_ret (v := 0) rfl dX12_queueUp_14 rfl (by first | assumption | rfl | omega)
theorem dX12_leadsTo_0 : decode mX12_leadsTo.2.1 0 = .ok (.iconst 0, 1) := by decide +kernel
theorem dX12_leadsTo_1 : decode mX12_leadsTo.2.1 1 = .ok (.istore 4, 2) := by decide +kernel
theorem dX12_leadsTo_3 : decode mX12_leadsTo.2.1 3 = .ok (.iload 4, 2) := by decide +kernel
theorem dX12_leadsTo_5 : decode mX12_leadsTo.2.1 5 = .ok (.iconst 4, 1) := by decide +kernel
theorem dX12_leadsTo_6 : decode mX12_leadsTo.2.1 6 = .ok (.aload_n 0, 1) := by decide +kernel
theorem dX12_leadsTo_7 : decode mX12_leadsTo.2.1 7 = .ok (.getfield 98, 3) := by decide +kernel
theorem dX12_leadsTo_10 : decode mX12_leadsTo.2.1 10 = .ok (.iconst 2, 1) := by decide +kernel
theorem dX12_leadsTo_11 : decode mX12_leadsTo.2.1 11 = .ok (.iaload, 1) := by decide +kernel
theorem dX12_leadsTo_12 : decode mX12_leadsTo.2.1 12 = .ok (.imul, 1) := by decide +kernel
theorem dX12_leadsTo_13 : decode mX12_leadsTo.2.1 13 = .ok (.if_icmp .ge 44, 3) := by decide +kernel
theorem dX12_leadsTo_16 : decode mX12_leadsTo.2.1 16 = .ok (.aload_n 0, 1) := by decide +kernel
theorem dX12_leadsTo_17 : decode mX12_leadsTo.2.1 17 = .ok (.iload_n 1, 1) := by decide +kernel
theorem dX12_leadsTo_18 : decode mX12_leadsTo.2.1 18 = .ok (.iload 4, 2) := by decide +kernel
theorem dX12_leadsTo_20 : decode mX12_leadsTo.2.1 20 = .ok (.iconst 4, 1) := by decide +kernel
theorem dX12_leadsTo_21 : decode mX12_leadsTo.2.1 21 = .ok (.idiv, 1) := by decide +kernel
theorem dX12_leadsTo_22 : decode mX12_leadsTo.2.1 22 = .ok (.iload 4, 2) := by decide +kernel
theorem dX12_leadsTo_24 : decode mX12_leadsTo.2.1 24 = .ok (.iconst 4, 1) := by decide +kernel
theorem dX12_leadsTo_25 : decode mX12_leadsTo.2.1 25 = .ok (.irem, 1) := by decide +kernel
theorem dX12_leadsTo_26 : decode mX12_leadsTo.2.1 26 = .ok (.iload_n 3, 1) := by decide +kernel
theorem dX12_leadsTo_27 : decode mX12_leadsTo.2.1 27 = .ok (.invokevirtual 308, 3) := by decide +kernel
theorem dX12_leadsTo_30 : decode mX12_leadsTo.2.1 30 = .ok (.istore 5, 2) := by decide +kernel
theorem dX12_leadsTo_32 : decode mX12_leadsTo.2.1 32 = .ok (.iload 5, 2) := by decide +kernel
theorem dX12_leadsTo_34 : decode mX12_leadsTo.2.1 34 = .ok (.iconst (-1), 1) := by decide +kernel
theorem dX12_leadsTo_35 : decode mX12_leadsTo.2.1 35 = .ok (.if_icmp .eq 16, 3) := by decide +kernel
theorem dX12_leadsTo_38 : decode mX12_leadsTo.2.1 38 = .ok (.aload_n 0, 1) := by decide +kernel
theorem dX12_leadsTo_39 : decode mX12_leadsTo.2.1 39 = .ok (.getfield 127, 3) := by decide +kernel
theorem dX12_leadsTo_42 : decode mX12_leadsTo.2.1 42 = .ok (.iload 5, 2) := by decide +kernel
theorem dX12_leadsTo_44 : decode mX12_leadsTo.2.1 44 = .ok (.iaload, 1) := by decide +kernel
theorem dX12_leadsTo_45 : decode mX12_leadsTo.2.1 45 = .ok (.iload_n 2, 1) := by decide +kernel
theorem dX12_leadsTo_46 : decode mX12_leadsTo.2.1 46 = .ok (.if_icmp .ne 5, 3) := by decide +kernel
theorem dX12_leadsTo_49 : decode mX12_leadsTo.2.1 49 = .ok (.iconst 1, 1) := by decide +kernel
theorem dX12_leadsTo_50 : decode mX12_leadsTo.2.1 50 = .ok (.ireturn, 1) := by decide +kernel
theorem dX12_leadsTo_51 : decode mX12_leadsTo.2.1 51 = .ok (.iinc 4 1, 3) := by decide +kernel
theorem dX12_leadsTo_54 : decode mX12_leadsTo.2.1 54 = .ok (.goto (-51), 3) := by decide +kernel
theorem dX12_leadsTo_57 : decode mX12_leadsTo.2.1 57 = .ok (.iconst 0, 1) := by decide +kernel
theorem dX12_leadsTo_58 : decode mX12_leadsTo.2.1 58 = .ok (.ireturn, 1) := by decide +kernel
set_option maxRecDepth 4000 in
theorem ev_X12_leadsTo {m : Mem} {G : Mem} {B : Int} {p : Int} {a : Int} {but : Int} {s : Int} {n : Int} (hb : Bg G 8 18 (m 216)) (hdn : DnOk G 8) (hst : StOk G 8 18 B) (hbt : ∀ o : Int, 0 ≤ o → o < G 8 3 → (hasP but o ↔ (o = p ∨ o = a))) (hvs : VS G 8 s) (hn : InR n) : Ev 0 6 mX12_leadsTo [vr 214, vi s, vi n, vi but] m (fun r m' => m' = m ∧ ((r = 1 ∧ LdT G m p a s n) ∨ (r = 0 ∧ ∀ v : Int, 0 ≤ v → v < (4 * G 8 2) → nx8 G p a s v ≠ -1 → m 225 (nx8 G p a s v) ≠ n))) := by
  refine Ev.of (L := [vr 214, vi s, vi n, vi but, un, un]) (by decide +kernel) rfl (Nat.le_of_ble_eq_true rfl) rfl (fun t ht => by cases ht; first | exact Or.inl rfl | exact Or.inr (Or.inl rfl) | exact Or.inr (Or.inr rfl)) (fun hcan => ?_)
  obtain ⟨⟨hd0, hd1⟩, ⟨hd2, hd3⟩, ⟨hd4, hd5⟩, ⟨hd6, hd7⟩, ⟨hd8, hd9⟩, hdf, hdp, hdq⟩ := id hdn
  refine go_iconst dX12_leadsTo_0 ?_
  refine go_istore (L' := [vr 214, vi s, vi n, vi but, vi 0, un]) dX12_leadsTo_1 (by decide) rfl rfl ?_
  have lp_3 : ∀ (n_3 : Nat) (v : Int) , (0 ≤ v) → (v ≤ (4 * G 8 2)) → (∀ j : Int, 0 ≤ j → j < v → nx8 G p a s j ≠ -1 → m 225 (nx8 G p a s j) ≠ n) → ((4 * G 8 2) - v).toNat < n_3 → Go 0 6 mX12_leadsTo (fun r m' => m' = m ∧ ((r = 1 ∧ LdT G m p a s n) ∨ (r = 0 ∧ ∀ v : Int, 0 ≤ v → v < (4 * G 8 2) → nx8 G p a s v ≠ -1 → m 225 (nx8 G p a s v) ≠ n))) 3 [vr 214, vi s, vi n, vi but, vi v, un] [] m := by
    intro n_3
    induction n_3 with
    | zero => intro v hv0 hv1 hno hmu; exact absurd hmu (Nat.not_lt_zero _)
    | succ n_3 ih_3 =>
      intro v hv0 hv1 hno hmu
      refine go_iload dX12_leadsTo_3 rfl ?_
      refine go_iconst dX12_leadsTo_5 ?_
      refine go_aload_n dX12_leadsTo_6 rfl ?_
      refine go_getf_p (b := 216) dX12_leadsTo_7 fl_12_98 ob_214 rfl pt_214_14 ?_
      refine go_iconst dX12_leadsTo_10 ?_
      refine go_iaload dX12_leadsTo_11 ar_216 (by omega) (by omega) (fun he_11 => ?_)
      rw [show (m 216 2 : Int) = (G 8 2) from hb.n2] at he_11 ⊢
      refine go_imul dX12_leadsTo_12 ?_
      refine go_icmp_ge (tgt := 57) dX12_leadsTo_13 (by decide) ⟨by omega, by omega⟩ ⟨by omega, by omega⟩ (fun h_13 => ?_) (fun h_13 => ?_)
      · refine go_iconst dX12_leadsTo_57 ?_
        exact go_ret (v := 0) rfl dX12_leadsTo_58 (okZ (by first | exact Or.inl rfl | exact Or.inr rfl | assumption | omega)) ⟨rfl, (Or.inr ⟨rfl, fun j a b => hno j a (by omega)⟩)⟩
      · refine go_aload_n dX12_leadsTo_16 rfl ?_
        refine go_iload_n dX12_leadsTo_17 rfl ?_
        refine go_iload dX12_leadsTo_18 rfl ?_
        refine go_iconst dX12_leadsTo_20 ?_
        refine go_idiv dX12_leadsTo_21 ⟨by omega, by omega⟩ ⟨by omega, by omega⟩ (by omega) (by omega) ?_
        refine go_iload dX12_leadsTo_22 rfl ?_
        refine go_iconst dX12_leadsTo_24 ?_
        refine go_irem dX12_leadsTo_25 ⟨by omega, by omega⟩ ⟨by omega, by omega⟩ (by omega) (by omega) ?_
        refine go_iload_n dX12_leadsTo_26 rfl ?_
        refine go_callVp_i (as := [vi s, vi (v / 4), vi (v % 4), vi but]) (S := []) (b := 214) (ev_X12_behind (m := m) (s := s) (f := (v / 4)) (sd := (v % 4)) (but := but) (G := G) (B := B) (p := p) (a := a) (v := v) (by first | exact hb | exact hb.w (by decide) | exact (hb.w (by decide)).w (by decide)) (by first | assumption | omega | exact ⟨by omega, by omega⟩ | (constructor <;> omega)) (by first | assumption | omega | exact ⟨by omega, by omega⟩ | (constructor <;> omega)) hbt (by first | assumption | omega | exact ⟨by omega, by omega⟩ | (constructor <;> omega)) (by first | assumption | omega | exact ⟨by omega, by omega⟩ | (constructor <;> omega)) rfl rfl) rfl dX12_leadsTo_27 cv_12_308 rfl rfl ob_214 rfl (by decide) (Nat.le_of_ble_eq_true rfl) (fun r_27 hr_27 ho_27 => ?_)
        refine go_istore (L' := [vr 214, vi s, vi n, vi but, vi v, vi r_27]) dX12_leadsTo_30 (by decide) rfl rfl ?_
        refine go_iload dX12_leadsTo_32 rfl ?_
        refine go_iconst dX12_leadsTo_34 ?_
        refine go_icmp_eq (tgt := 51) dX12_leadsTo_35 (by decide) ⟨by omega, by omega⟩ ⟨by omega, by omega⟩ (fun h_35 => ?_) (fun h_35 => ?_)
        · refine go_iinc (L' := [vr 214, vi s, vi n, vi but, vi (v + 1), vi r_27]) dX12_leadsTo_51 rfl (by decide) rfl rfl ?_
          refine go_goto (tgt := 3) dX12_leadsTo_54 (by decide) ?_
          refine go_drop (j := 5) (L' := [vr 214, vi s, vi n, vi but, vi (v + 1), un]) rfl ?_
          exact ih_3 (v + 1) (by first | assumption | omega | rfl) (by first | assumption | omega | rfl) (stp hno (fun h => by rw [← hr_27] at h ⊢; omega)) (by omega)
        · have hvn : VS G 8 r_27 := by rw [hr_27]; exact nx8_v hdn hvs (by omega) (by omega) (by rw [← hr_27]; omega)
          have hn324 := hvn.lt hdn
          have hn0 := hvn.1
          refine go_aload_n dX12_leadsTo_38 rfl ?_
          refine go_getf_p (b := 225) dX12_leadsTo_39 fl_12_127 ob_214 rfl pt_214_26 ?_
          refine go_iload dX12_leadsTo_42 rfl ?_
          refine go_iaload dX12_leadsTo_44 ar_225 (by omega) (by omega) (fun he_44 => ?_)
          refine go_iload_n dX12_leadsTo_45 rfl ?_
          refine go_icmp_ne (tgt := 51) dX12_leadsTo_46 (by decide) ⟨by omega, by omega⟩ ⟨by omega, by omega⟩ (fun h_46 => ?_) (fun h_46 => ?_)
          · refine go_iinc (L' := [vr 214, vi s, vi n, vi but, vi (v + 1), vi r_27]) dX12_leadsTo_51 rfl (by decide) rfl rfl ?_
            refine go_goto (tgt := 3) dX12_leadsTo_54 (by decide) ?_
            refine go_drop (j := 5) (L' := [vr 214, vi s, vi n, vi but, vi (v + 1), un]) rfl ?_
            exact ih_3 (v + 1) (by first | assumption | omega | rfl) (by first | assumption | omega | rfl) (stp hno (fun h => by rw [← hr_27] at h ⊢; omega)) (by omega)
          · refine go_iconst dX12_leadsTo_49 ?_
            exact go_ret (v := 1) rfl dX12_leadsTo_50 (okZ (by first | exact Or.inl rfl | exact Or.inr rfl | assumption | omega)) ⟨rfl, (Or.inl ⟨rfl, v, hv0, by omega, by rw [← hr_27]; omega, by rw [← hr_27]; omega⟩)⟩
  exact lp_3 _ 0 (by first | assumption | omega | rfl) (by first | assumption | omega | rfl) (fun j a b => by omega) (Nat.lt_succ_self _)
theorem dX12_layTo_0 : decode mX12_layTo.2.1 0 = .ok (.iconst 0, 1) := by decide +kernel
theorem dX12_layTo_1 : decode mX12_layTo.2.1 1 = .ok (.istore_n 3, 1) := by decide +kernel
theorem dX12_layTo_2 : decode mX12_layTo.2.1 2 = .ok (.iload_n 3, 1) := by decide +kernel
theorem dX12_layTo_3 : decode mX12_layTo.2.1 3 = .ok (.sipush 324, 3) := by decide +kernel
theorem dX12_layTo_6 : decode mX12_layTo.2.1 6 = .ok (.if_icmp .ge 18, 3) := by decide +kernel
theorem dX12_layTo_9 : decode mX12_layTo.2.1 9 = .ok (.aload_n 0, 1) := by decide +kernel
theorem dX12_layTo_10 : decode mX12_layTo.2.1 10 = .ok (.getfield 127, 3) := by decide +kernel
theorem dX12_layTo_13 : decode mX12_layTo.2.1 13 = .ok (.iload_n 3, 1) := by decide +kernel
theorem dX12_layTo_14 : decode mX12_layTo.2.1 14 = .ok (.ldc_w 303, 3) := by decide +kernel
theorem dX12_layTo_17 : decode mX12_layTo.2.1 17 = .ok (.iastore, 1) := by decide +kernel
theorem dX12_layTo_18 : decode mX12_layTo.2.1 18 = .ok (.iinc 3 1, 3) := by decide +kernel
theorem dX12_layTo_21 : decode mX12_layTo.2.1 21 = .ok (.goto (-19), 3) := by decide +kernel
theorem dX12_layTo_24 : decode mX12_layTo.2.1 24 = .ok (.aload_n 0, 1) := by decide +kernel
theorem dX12_layTo_25 : decode mX12_layTo.2.1 25 = .ok (.getfield 127, 3) := by decide +kernel
theorem dX12_layTo_28 : decode mX12_layTo.2.1 28 = .ok (.iload_n 1, 1) := by decide +kernel
theorem dX12_layTo_29 : decode mX12_layTo.2.1 29 = .ok (.iconst 0, 1) := by decide +kernel
theorem dX12_layTo_30 : decode mX12_layTo.2.1 30 = .ok (.iastore, 1) := by decide +kernel
theorem dX12_layTo_31 : decode mX12_layTo.2.1 31 = .ok (.iconst 1, 1) := by decide +kernel
theorem dX12_layTo_32 : decode mX12_layTo.2.1 32 = .ok (.istore_n 3, 1) := by decide +kernel
theorem dX12_layTo_33 : decode mX12_layTo.2.1 33 = .ok (.iconst 0, 1) := by decide +kernel
theorem dX12_layTo_34 : decode mX12_layTo.2.1 34 = .ok (.istore 4, 2) := by decide +kernel
theorem dX12_layTo_36 : decode mX12_layTo.2.1 36 = .ok (.iload_n 3, 1) := by decide +kernel
theorem dX12_layTo_37 : decode mX12_layTo.2.1 37 = .ok (.ifCond .eq 90, 3) := by decide +kernel
theorem dX12_layTo_40 : decode mX12_layTo.2.1 40 = .ok (.iconst 0, 1) := by decide +kernel
theorem dX12_layTo_41 : decode mX12_layTo.2.1 41 = .ok (.istore_n 3, 1) := by decide +kernel
theorem dX12_layTo_42 : decode mX12_layTo.2.1 42 = .ok (.iconst 0, 1) := by decide +kernel
theorem dX12_layTo_43 : decode mX12_layTo.2.1 43 = .ok (.istore 5, 2) := by decide +kernel
theorem dX12_layTo_45 : decode mX12_layTo.2.1 45 = .ok (.iload 5, 2) := by decide +kernel
theorem dX12_layTo_47 : decode mX12_layTo.2.1 47 = .ok (.sipush 324, 3) := by decide +kernel
theorem dX12_layTo_50 : decode mX12_layTo.2.1 50 = .ok (.if_icmp .ge 71, 3) := by decide +kernel
theorem dX12_layTo_53 : decode mX12_layTo.2.1 53 = .ok (.aload_n 0, 1) := by decide +kernel
theorem dX12_layTo_54 : decode mX12_layTo.2.1 54 = .ok (.getfield 127, 3) := by decide +kernel
theorem dX12_layTo_57 : decode mX12_layTo.2.1 57 = .ok (.iload 5, 2) := by decide +kernel
theorem dX12_layTo_59 : decode mX12_layTo.2.1 59 = .ok (.iaload, 1) := by decide +kernel
theorem dX12_layTo_60 : decode mX12_layTo.2.1 60 = .ok (.ldc_w 303, 3) := by decide +kernel
theorem dX12_layTo_63 : decode mX12_layTo.2.1 63 = .ok (.if_icmp .lt 52, 3) := by decide +kernel
theorem dX12_layTo_66 : decode mX12_layTo.2.1 66 = .ok (.aload_n 0, 1) := by decide +kernel
theorem dX12_layTo_67 : decode mX12_layTo.2.1 67 = .ok (.iload 5, 2) := by decide +kernel
theorem dX12_layTo_69 : decode mX12_layTo.2.1 69 = .ok (.iconst 4, 1) := by decide +kernel
theorem dX12_layTo_70 : decode mX12_layTo.2.1 70 = .ok (.idiv, 1) := by decide +kernel
theorem dX12_layTo_71 : decode mX12_layTo.2.1 71 = .ok (.bipush 9, 2) := by decide +kernel
theorem dX12_layTo_73 : decode mX12_layTo.2.1 73 = .ok (.irem, 1) := by decide +kernel
theorem dX12_layTo_74 : decode mX12_layTo.2.1 74 = .ok (.iload 5, 2) := by decide +kernel
theorem dX12_layTo_76 : decode mX12_layTo.2.1 76 = .ok (.iconst 4, 1) := by decide +kernel
theorem dX12_layTo_77 : decode mX12_layTo.2.1 77 = .ok (.idiv, 1) := by decide +kernel
theorem dX12_layTo_78 : decode mX12_layTo.2.1 78 = .ok (.bipush 9, 2) := by decide +kernel
theorem dX12_layTo_80 : decode mX12_layTo.2.1 80 = .ok (.idiv, 1) := by decide +kernel
theorem dX12_layTo_81 : decode mX12_layTo.2.1 81 = .ok (.invokevirtual 232, 3) := by decide +kernel
theorem dX12_layTo_84 : decode mX12_layTo.2.1 84 = .ok (.ifCond .eq 31, 3) := by decide +kernel
theorem dX12_layTo_87 : decode mX12_layTo.2.1 87 = .ok (.aload_n 0, 1) := by decide +kernel
theorem dX12_layTo_88 : decode mX12_layTo.2.1 88 = .ok (.iload 5, 2) := by decide +kernel
theorem dX12_layTo_90 : decode mX12_layTo.2.1 90 = .ok (.iload 4, 2) := by decide +kernel
theorem dX12_layTo_92 : decode mX12_layTo.2.1 92 = .ok (.iload_n 2, 1) := by decide +kernel
theorem dX12_layTo_93 : decode mX12_layTo.2.1 93 = .ok (.invokevirtual 311, 3) := by decide +kernel
theorem dX12_layTo_96 : decode mX12_layTo.2.1 96 = .ok (.ifCond .ne 6, 3) := by decide +kernel
theorem dX12_layTo_99 : decode mX12_layTo.2.1 99 = .ok (.goto 16, 3) := by decide +kernel
theorem dX12_layTo_102 : decode mX12_layTo.2.1 102 = .ok (.aload_n 0, 1) := by decide +kernel
theorem dX12_layTo_103 : decode mX12_layTo.2.1 103 = .ok (.getfield 127, 3) := by decide +kernel
theorem dX12_layTo_106 : decode mX12_layTo.2.1 106 = .ok (.iload 5, 2) := by decide +kernel
theorem dX12_layTo_108 : decode mX12_layTo.2.1 108 = .ok (.iload 4, 2) := by decide +kernel
theorem dX12_layTo_110 : decode mX12_layTo.2.1 110 = .ok (.iconst 1, 1) := by decide +kernel
theorem dX12_layTo_111 : decode mX12_layTo.2.1 111 = .ok (.iadd, 1) := by decide +kernel
theorem dX12_layTo_112 : decode mX12_layTo.2.1 112 = .ok (.iastore, 1) := by decide +kernel
theorem dX12_layTo_113 : decode mX12_layTo.2.1 113 = .ok (.iconst 1, 1) := by decide +kernel
theorem dX12_layTo_114 : decode mX12_layTo.2.1 114 = .ok (.istore_n 3, 1) := by decide +kernel
theorem dX12_layTo_115 : decode mX12_layTo.2.1 115 = .ok (.iinc 5 1, 3) := by decide +kernel
theorem dX12_layTo_118 : decode mX12_layTo.2.1 118 = .ok (.goto (-73), 3) := by decide +kernel
theorem dX12_layTo_121 : decode mX12_layTo.2.1 121 = .ok (.iinc 4 1, 3) := by decide +kernel
theorem dX12_layTo_124 : decode mX12_layTo.2.1 124 = .ok (.goto (-88), 3) := by decide +kernel
theorem dX12_layTo_127 : decode mX12_layTo.2.1 127 = .ok (.return_, 1) := by decide +kernel
set_option maxRecDepth 4000 in
theorem ev_X12_layTo {m : Mem} {G : Mem} {B : Int} {p : Int} {a : Int} {but : Int} {g : Int} (hb : Bg G 8 18 (m 216)) (hdn : DnOk G 8) (hst : StOk G 8 18 B) (hbt : ∀ o : Int, 0 ≤ o → o < G 8 3 → (hasP but o ↔ (o = p ∨ o = a))) (hg : VS G 8 g) : Ev 0 7 mX12_layTo [vr 214, vi g, vi but] m (fun r m' => (∀ b : Nat, b ≠ 225 → m' b = m b) ∧ LTo G p a g (m' 225)) := by
  refine Ev.of (L := [vr 214, vi g, vi but, un, un, un]) (by decide +kernel) rfl (Nat.le_of_ble_eq_true rfl) rfl (fun t ht => by cases ht) (fun hcan => ?_)
  obtain ⟨⟨hd0, hd1⟩, ⟨hd2, hd3⟩, ⟨hd4, hd5⟩, ⟨hd6, hd7⟩, ⟨hd8, hd9⟩, hdf, hdp, hdq⟩ := id hdn
  have hg324 := hg.lt hdn
  have hg0 := hg.1
  refine go_iconst dX12_layTo_0 ?_
  refine go_istore_n (L' := [vr 214, vi g, vi but, vi 0, un, un]) dX12_layTo_1 (by decide) rfl rfl ?_
  have lp_2 : ∀ (n_2 : Nat) (m0 : Mem) (i : Int) , (0 ≤ i) → (i ≤ 324) → (m0 = fill m 225 i 100000) → (324 - i).toNat < n_2 → Go 0 7 mX12_layTo (fun r m' => (∀ b : Nat, b ≠ 225 → m' b = m b) ∧ LTo G p a g (m' 225)) 2 [vr 214, vi g, vi but, vi i, un, un] [] m0 := by
    intro n_2
    induction n_2 with
    | zero => intro m0 i hi0 hi1 hm hmu; exact absurd hmu (Nat.not_lt_zero _)
    | succ n_2 ih_2 =>
      intro m0 i hi0 hi1 hm hmu
      refine go_iload_n dX12_layTo_2 rfl ?_
      refine go_sipush dX12_layTo_3 (by decide) ?_
      refine go_icmp_ge (tgt := 24) dX12_layTo_6 (by decide) ⟨by omega, by omega⟩ ⟨by omega, by omega⟩ (fun h_6 => ?_) (fun h_6 => ?_)
      · have e324 : ∀ t : Int, VS G 8 t → m0 225 t = 100000 := fun t ht => by have h1 := ht.lt hdn; have h2 := ht.1; rw [hm]; unfold fill; rw [if_pos ⟨rfl, by omega, by omega⟩]
        refine go_aload_n dX12_layTo_24 rfl ?_
        refine go_getf_p (b := 225) dX12_layTo_25 fl_12_127 ob_214 rfl pt_214_26 ?_
        refine go_iload_n dX12_layTo_28 rfl ?_
        refine go_iconst dX12_layTo_29 ?_
        refine go_iastore dX12_layTo_30 ar_225 (by omega) (by omega) ⟨by omega, by omega⟩ ?_
        refine go_iconst dX12_layTo_31 ?_
        refine go_istore_n (L' := [vr 214, vi g, vi but, vi 1, un, un]) dX12_layTo_32 (by decide) rfl rfl ?_
        refine go_iconst dX12_layTo_33 ?_
        refine go_istore (L' := [vr 214, vi g, vi but, vi 1, vi 0, un]) dX12_layTo_34 (by decide) rfl rfl ?_
        refine go_drop (j := 1) (L' := [vr 214, un, vi but, vi 1, vi 0, un]) rfl ?_
        have lp_36 : ∀ (n_36 : Nat) (m1 : Mem) (y : Int) (n : Int) , (0 ≤ n) → (y = 0 ∨ y = 1) → (∀ b : Nat, b ≠ 225 → m1 b = m b) → (∀ t : Int, VS G 8 t → PL (nx8 G p a) (4 * G 8 2) g (m1 225) n t) → (y = 0 → ∀ t : Int, VS G 8 t → m1 225 t ≠ n) → (n + y ≤ cntI (fun t => decide (m1 225 t ≠ 100000)) 324) → (400 - n).toNat < n_36 → Go 0 7 mX12_layTo (fun r m' => (∀ b : Nat, b ≠ 225 → m' b = m b) ∧ LTo G p a g (m' 225)) 36 [vr 214, un, vi but, vi y, vi n, un] [] m1 := by
          intro n_36
          induction n_36 with
          | zero => intro m1 y n hn0 hy hfr hPL hny hct hmu; exact absurd hmu (Nat.not_lt_zero _)
          | succ n_36 ih_36 =>
            intro m1 y n hn0 hy hfr hPL hny hct hmu
            have hcb := cntI_b (fun t => decide (m1 225 t ≠ 100000)) (n := 324) (by omega)
            refine go_iload_n dX12_layTo_36 rfl ?_
            refine go_if_eq (tgt := 127) dX12_layTo_37 (by decide) ⟨by omega, by omega⟩ (fun h_37 => ?_) (fun h_37 => ?_)
            · refine go_ret (v := 0) rfl dX12_layTo_127 rfl ?_
              refine ⟨hfr, fun t ht => ?_⟩
              rcases hPL t ht with ⟨h1, h2⟩ | ⟨h1, h2, h3, h4⟩
              · exact Or.inl ⟨h1, fun j hj => PL.fin (V := VS G 8) hPL (fun t c hv c0 c1 c2 => nx8_v hdn hv c0 c1 c2) hn0 (by omega) (hny (by omega)) j t ht hj h1⟩
              · have h5 := hny (by omega) t ht
                exact Or.inr ⟨h1, by omega, h3, h4⟩
            · refine go_iconst dX12_layTo_40 ?_
              refine go_istore_n (L' := [vr 214, un, vi but, vi 0, vi n, un]) dX12_layTo_41 (by decide) rfl rfl ?_
              refine go_iconst dX12_layTo_42 ?_
              refine go_istore (L' := [vr 214, un, vi but, vi 0, vi n, vi 0]) dX12_layTo_43 (by decide) rfl rfl ?_
              have lp_45 : ∀ (n_45 : Nat) (m2 : Mem) (y : Int) (k : Int) , (0 ≤ k) → (k ≤ 324) → (y = 0 ∨ y = 1) → (∀ b : Nat, b ≠ 225 → m2 b = m b) → (∀ t : Int, VS G 8 t → (t < k → PL (nx8 G p a) (4 * G 8 2) g (m2 225) (n + 1) t) ∧ (k ≤ t → PL (nx8 G p a) (4 * G 8 2) g (m2 225) n t)) → (y = 0 → ∀ t : Int, VS G 8 t → t < k → m2 225 t ≠ n + 1) → (n + 1 + y ≤ cntI (fun t => decide (m2 225 t ≠ 100000)) 324) → (324 - k).toNat < n_45 → Go 0 7 mX12_layTo (fun r m' => (∀ b : Nat, b ≠ 225 → m' b = m b) ∧ LTo G p a g (m' 225)) 45 [vr 214, un, vi but, vi y, vi n, vi k] [] m2 := by
                intro n_45
                induction n_45 with
                | zero => intro m2 y k hk0 hk1 hy2 hf2 hP2 hn2 hc2 hmu; exact absurd hmu (Nat.not_lt_zero _)
                | succ n_45 ih_45 =>
                  intro m2 y k hk0 hk1 hy2 hf2 hP2 hn2 hc2 hmu
                  have hb2 : Bg G 8 18 (m2 216) := by rw [hf2 216 (by decide)]; exact hb
                  have hc3 := cntI_b (fun t => decide (m2 225 t ≠ 100000)) (n := 324) (by omega)
                  refine go_iload dX12_layTo_45 rfl ?_
                  refine go_sipush dX12_layTo_47 (by decide) ?_
                  refine go_icmp_ge (tgt := 121) dX12_layTo_50 (by decide) ⟨by omega, by omega⟩ ⟨by omega, by omega⟩ (fun h_50 => ?_) (fun h_50 => ?_)
                  · refine go_iinc (L' := [vr 214, un, vi but, vi y, vi (n + 1), vi k]) dX12_layTo_121 rfl (by decide) rfl rfl ?_
                    refine go_goto (tgt := 36) dX12_layTo_124 (by decide) ?_
                    refine go_drop (j := 5) (L' := [vr 214, un, vi but, vi y, vi (n + 1), un]) rfl ?_
                    exact ih_36 m2 y (n + 1) (by first | assumption | omega | rfl) (by first | assumption | omega | rfl) hf2 (fun t ht => (hP2 t ht).1 (by have := ht.lt hdn; omega)) (fun h t ht => hn2 h t ht (by have := ht.lt hdn; omega)) hc2 (by omega)
                  · refine go_aload_n dX12_layTo_53 rfl ?_
                    refine go_getf_p (b := 225) dX12_layTo_54 fl_12_127 ob_214 rfl pt_214_26 ?_
                    refine go_iload dX12_layTo_57 rfl ?_
                    refine go_iaload dX12_layTo_59 ar_225 (by omega) (by omega) (fun he_59 => ?_)
                    refine go_ldcw (x := 100000) dX12_layTo_60 k_12_303 ?_
                    refine go_icmp_lt (tgt := 115) dX12_layTo_63 (by decide) ⟨by omega, by omega⟩ ⟨by omega, by omega⟩ (fun h_63 => ?_) (fun h_63 => ?_)
                    · refine go_iinc (L' := [vr 214, un, vi but, vi y, vi n, vi (k + 1)]) dX12_layTo_115 rfl (by decide) rfl rfl ?_
                      refine go_goto (tgt := 45) dX12_layTo_118 (by decide) ?_
                      exact ih_45 m2 y (k + 1) (by first | assumption | omega | rfl) (by first | assumption | omega | rfl) (by first | assumption | omega | rfl) (by first | exact hf2 | exact fun b h => by rw [wr_row h]; exact hf2 b h) (by
                            first
                            | (intro t ht
                               refine ⟨fun h => ?_, fun h => (hP2 t ht).2 (by omega)⟩
                               by_cases q : t = k
                               · subst q; exact ((hP2 t ht).2 (Int.le_refl t)).up (by omega)
                               · exact (hP2 t ht).1 (by omega))
                            | (intro t ht
                               refine ⟨fun h => ?_, fun h => (hP2 t ht).2 (by omega)⟩
                               by_cases q : t = k
                               · subst q; have := (VS_cell hk0).mp ht; omega
                               · exact (hP2 t ht).1 (by omega))
                            | (intro t ht
                               refine ⟨fun h => ?_, fun h => (hP2 t ht).2 (by omega)⟩
                               by_cases q : t = k
                               · subst q
                                 refine ((hP2 t ht).2 (Int.le_refl t)).old (hfk ht) hn0 (by omega) (fun v v0 v1 v2 => ?_) (hr_93.resolve_left (fun h => by omega)).2
                                 have hv := nx8_v hdn ht v0 v1 v2
                                 by_cases z : nx8 G p a t v < t
                                 · exact Or.inr ((hP2 _ hv).1 z)
                                 · exact Or.inl ((hP2 _ hv).2 (by omega))
                               · exact (hP2 t ht).1 (by omega))
                            | (intro t ht
                               have hkv : VS G 8 k := (VS_cell hk0).mpr (by omega)
                               rw [wr_rowat]
                               refine ⟨fun h => ?_, fun h => ((hP2 t ht).2 (by omega)).ne (by omega)⟩
                               by_cases q : t = k
                               · subst q
                                 obtain ⟨v, v0, v1, v2, v3⟩ := (hr_93.resolve_right (fun h => by omega)).2
                                 have hv := nx8_v hdn ht v0 v1 v2
                                 refine ((hP2 t ht).2 (Int.le_refl t)).new (hfk ht) hn0 (by omega) v0 v1 v2 ?_
                                 have hz : PL (nx8 G p a) (4 * G 8 2) g (m2 225) n (nx8 G p a t v) ∨ PL (nx8 G p a) (4 * G 8 2) g (m2 225) (n + 1) (nx8 G p a t v) := by
                                   by_cases z : nx8 G p a t v < t
                                   · exact Or.inr ((hP2 _ hv).1 z)
                                   · exact Or.inl ((hP2 _ hv).2 (by omega))
                                 rcases hz with (⟨z, -⟩ | ⟨-, -, z, -⟩) | (⟨z, -⟩ | ⟨-, -, z, -⟩)
                                 · omega
                                 · rw [v3] at z; exact z
                                 · omega
                                 · rw [v3] at z; exact z
                               · exact ((hP2 t ht).1 (by omega)).ne q)) (by
                            first
                            | (intro h; omega)
                            | (intro h t ht hk
                               by_cases q : t = k
                               · subst q; first | (have := hfk ht; omega) | (have := (VS_cell hk0).mp ht; omega) | (rcases (hP2 t ht).2 (Int.le_refl t) with ⟨z, -⟩ | ⟨-, z, -⟩ <;> omega)
                               · exact hn2 h t ht (by omega))) (by
                            first
                            | exact hc2
                            | (rw [show cntI (fun t => decide (wr m2 225 k (n + 1) 225 t ≠ 100000)) 324 = cntI (fun t => decide (m2 225 t ≠ 100000)) 324 + 1 from by rw [wr_rowat]; exact cnt_inc hk0 (by omega) (hfk ((VS_cell hk0).mpr (by omega))) (by omega)]; omega)) (by omega)
                    · have hfk : VS G 8 k → m2 225 k = 100000 := fun hk => by rcases (hP2 k hk).2 (Int.le_refl k) with ⟨a, -⟩ | ⟨a, b, -⟩; exact a; omega
                      refine go_aload_n dX12_layTo_66 rfl ?_
                      refine go_iload dX12_layTo_67 rfl ?_
                      refine go_iconst dX12_layTo_69 ?_
                      refine go_idiv dX12_layTo_70 ⟨by omega, by omega⟩ ⟨by omega, by omega⟩ (by omega) (by omega) ?_
                      refine go_bipush dX12_layTo_71 (by decide) ?_
                      refine go_irem dX12_layTo_73 ⟨by omega, by omega⟩ ⟨by omega, by omega⟩ (by omega) (by omega) ?_
                      refine go_iload dX12_layTo_74 rfl ?_
                      refine go_iconst dX12_layTo_76 ?_
                      refine go_idiv dX12_layTo_77 ⟨by omega, by omega⟩ ⟨by omega, by omega⟩ (by omega) (by omega) ?_
                      refine go_bipush dX12_layTo_78 (by decide) ?_
                      refine go_idiv dX12_layTo_80 ⟨by omega, by omega⟩ ⟨by omega, by omega⟩ (by omega) (by omega) ?_
                      refine go_callVp_z (as := [vi ((k / 4) % 9), vi ((k / 4) / 9)]) (S := []) (b := 214) (ev_X12_isCell (m := m2) (x := ((k / 4) % 9)) (y := ((k / 4) / 9)) (G := G) (d := 8) (st := 18) hb2 (by first | assumption | omega | exact ⟨by omega, by omega⟩ | (constructor <;> omega)) (by first | assumption | omega | exact ⟨by omega, by omega⟩ | (constructor <;> omega)) (by first | assumption | omega | exact ⟨by omega, by omega⟩ | (constructor <;> omega))) rfl dX12_layTo_81 cv_12_232 rfl rfl ob_214 rfl (by decide) (Nat.le_of_ble_eq_true rfl) (fun r_81 hr_81 ho_81 => ?_)
                      refine go_if_eq (tgt := 115) dX12_layTo_84 (by decide) ⟨by omega, by omega⟩ (fun h_84 => ?_) (fun h_84 => ?_)
                      · refine go_iinc (L' := [vr 214, un, vi but, vi y, vi n, vi (k + 1)]) dX12_layTo_115 rfl (by decide) rfl rfl ?_
                        refine go_goto (tgt := 45) dX12_layTo_118 (by decide) ?_
                        exact ih_45 m2 y (k + 1) (by first | assumption | omega | rfl) (by first | assumption | omega | rfl) (by first | assumption | omega | rfl) (by first | exact hf2 | exact fun b h => by rw [wr_row h]; exact hf2 b h) (by
                              first
                              | (intro t ht
                                 refine ⟨fun h => ?_, fun h => (hP2 t ht).2 (by omega)⟩
                                 by_cases q : t = k
                                 · subst q; exact ((hP2 t ht).2 (Int.le_refl t)).up (by omega)
                                 · exact (hP2 t ht).1 (by omega))
                              | (intro t ht
                                 refine ⟨fun h => ?_, fun h => (hP2 t ht).2 (by omega)⟩
                                 by_cases q : t = k
                                 · subst q; have := (VS_cell hk0).mp ht; omega
                                 · exact (hP2 t ht).1 (by omega))
                              | (intro t ht
                                 refine ⟨fun h => ?_, fun h => (hP2 t ht).2 (by omega)⟩
                                 by_cases q : t = k
                                 · subst q
                                   refine ((hP2 t ht).2 (Int.le_refl t)).old (hfk ht) hn0 (by omega) (fun v v0 v1 v2 => ?_) (hr_93.resolve_left (fun h => by omega)).2
                                   have hv := nx8_v hdn ht v0 v1 v2
                                   by_cases z : nx8 G p a t v < t
                                   · exact Or.inr ((hP2 _ hv).1 z)
                                   · exact Or.inl ((hP2 _ hv).2 (by omega))
                                 · exact (hP2 t ht).1 (by omega))
                              | (intro t ht
                                 have hkv : VS G 8 k := (VS_cell hk0).mpr (by omega)
                                 rw [wr_rowat]
                                 refine ⟨fun h => ?_, fun h => ((hP2 t ht).2 (by omega)).ne (by omega)⟩
                                 by_cases q : t = k
                                 · subst q
                                   obtain ⟨v, v0, v1, v2, v3⟩ := (hr_93.resolve_right (fun h => by omega)).2
                                   have hv := nx8_v hdn ht v0 v1 v2
                                   refine ((hP2 t ht).2 (Int.le_refl t)).new (hfk ht) hn0 (by omega) v0 v1 v2 ?_
                                   have hz : PL (nx8 G p a) (4 * G 8 2) g (m2 225) n (nx8 G p a t v) ∨ PL (nx8 G p a) (4 * G 8 2) g (m2 225) (n + 1) (nx8 G p a t v) := by
                                     by_cases z : nx8 G p a t v < t
                                     · exact Or.inr ((hP2 _ hv).1 z)
                                     · exact Or.inl ((hP2 _ hv).2 (by omega))
                                   rcases hz with (⟨z, -⟩ | ⟨-, -, z, -⟩) | (⟨z, -⟩ | ⟨-, -, z, -⟩)
                                   · omega
                                   · rw [v3] at z; exact z
                                   · omega
                                   · rw [v3] at z; exact z
                                 · exact ((hP2 t ht).1 (by omega)).ne q)) (by
                              first
                              | (intro h; omega)
                              | (intro h t ht hk
                                 by_cases q : t = k
                                 · subst q; first | (have := hfk ht; omega) | (have := (VS_cell hk0).mp ht; omega) | (rcases (hP2 t ht).2 (Int.le_refl t) with ⟨z, -⟩ | ⟨-, z, -⟩ <;> omega)
                                 · exact hn2 h t ht (by omega))) (by
                              first
                              | exact hc2
                              | (rw [show cntI (fun t => decide (wr m2 225 k (n + 1) 225 t ≠ 100000)) 324 = cntI (fun t => decide (m2 225 t ≠ 100000)) 324 + 1 from by rw [wr_rowat]; exact cnt_inc hk0 (by omega) (hfk ((VS_cell hk0).mpr (by omega))) (by omega)]; omega)) (by omega)
                      · refine go_aload_n dX12_layTo_87 rfl ?_
                        refine go_iload dX12_layTo_88 rfl ?_
                        refine go_iload dX12_layTo_90 rfl ?_
                        refine go_iload_n dX12_layTo_92 rfl ?_
                        refine go_callVp_z (as := [vi k, vi n, vi but]) (S := []) (b := 214) (ev_X12_leadsTo (m := m2) (s := k) (n := n) (but := but) (G := G) (B := B) (p := p) (a := a) hb2 (by first | assumption | omega | exact ⟨by omega, by omega⟩ | (constructor <;> omega)) (by first | assumption | omega | exact ⟨by omega, by omega⟩ | (constructor <;> omega)) hbt ((VS_cell hk0).mpr (by omega)) (by first | assumption | omega | exact ⟨by omega, by omega⟩ | (constructor <;> omega))) rfl dX12_layTo_93 cv_12_311 rfl rfl ob_214 rfl (by decide) (Nat.le_of_ble_eq_true rfl) (fun r_93 hr_93 ho_93 => ?_)
                        refine go_if_ne (tgt := 102) dX12_layTo_96 (by decide) ⟨by omega, by omega⟩ (fun h_96 => ?_) (fun h_96 => ?_)
                        · refine go_aload_n dX12_layTo_102 rfl ?_
                          refine go_getf_p (b := 225) dX12_layTo_103 fl_12_127 ob_214 rfl pt_214_26 ?_
                          refine go_iload dX12_layTo_106 rfl ?_
                          refine go_iload dX12_layTo_108 rfl ?_
                          refine go_iconst dX12_layTo_110 ?_
                          refine go_iadd dX12_layTo_111 ?_
                          refine go_iastore dX12_layTo_112 ar_225 (by omega) (by omega) ⟨by omega, by omega⟩ ?_
                          refine go_iconst dX12_layTo_113 ?_
                          refine go_istore_n (L' := [vr 214, un, vi but, vi 1, vi n, vi k]) dX12_layTo_114 (by decide) rfl rfl ?_
                          refine go_iinc (L' := [vr 214, un, vi but, vi 1, vi n, vi (k + 1)]) dX12_layTo_115 rfl (by decide) rfl rfl ?_
                          refine go_goto (tgt := 45) dX12_layTo_118 (by decide) ?_
                          exact ih_45 (wr m2 225 k (n + 1)) 1 (k + 1) (by first | assumption | omega | rfl) (by first | assumption | omega | rfl) (by first | assumption | omega | rfl) (by first | exact hf2 | exact fun b h => by rw [wr_row h]; exact hf2 b h) (by
                                first
                                | (intro t ht
                                   refine ⟨fun h => ?_, fun h => (hP2 t ht).2 (by omega)⟩
                                   by_cases q : t = k
                                   · subst q; exact ((hP2 t ht).2 (Int.le_refl t)).up (by omega)
                                   · exact (hP2 t ht).1 (by omega))
                                | (intro t ht
                                   refine ⟨fun h => ?_, fun h => (hP2 t ht).2 (by omega)⟩
                                   by_cases q : t = k
                                   · subst q; have := (VS_cell hk0).mp ht; omega
                                   · exact (hP2 t ht).1 (by omega))
                                | (intro t ht
                                   refine ⟨fun h => ?_, fun h => (hP2 t ht).2 (by omega)⟩
                                   by_cases q : t = k
                                   · subst q
                                     refine ((hP2 t ht).2 (Int.le_refl t)).old (hfk ht) hn0 (by omega) (fun v v0 v1 v2 => ?_) (hr_93.resolve_left (fun h => by omega)).2
                                     have hv := nx8_v hdn ht v0 v1 v2
                                     by_cases z : nx8 G p a t v < t
                                     · exact Or.inr ((hP2 _ hv).1 z)
                                     · exact Or.inl ((hP2 _ hv).2 (by omega))
                                   · exact (hP2 t ht).1 (by omega))
                                | (intro t ht
                                   have hkv : VS G 8 k := (VS_cell hk0).mpr (by omega)
                                   rw [wr_rowat]
                                   refine ⟨fun h => ?_, fun h => ((hP2 t ht).2 (by omega)).ne (by omega)⟩
                                   by_cases q : t = k
                                   · subst q
                                     obtain ⟨v, v0, v1, v2, v3⟩ := (hr_93.resolve_right (fun h => by omega)).2
                                     have hv := nx8_v hdn ht v0 v1 v2
                                     refine ((hP2 t ht).2 (Int.le_refl t)).new (hfk ht) hn0 (by omega) v0 v1 v2 ?_
                                     have hz : PL (nx8 G p a) (4 * G 8 2) g (m2 225) n (nx8 G p a t v) ∨ PL (nx8 G p a) (4 * G 8 2) g (m2 225) (n + 1) (nx8 G p a t v) := by
                                       by_cases z : nx8 G p a t v < t
                                       · exact Or.inr ((hP2 _ hv).1 z)
                                       · exact Or.inl ((hP2 _ hv).2 (by omega))
                                     rcases hz with (⟨z, -⟩ | ⟨-, -, z, -⟩) | (⟨z, -⟩ | ⟨-, -, z, -⟩)
                                     · omega
                                     · rw [v3] at z; exact z
                                     · omega
                                     · rw [v3] at z; exact z
                                   · exact ((hP2 t ht).1 (by omega)).ne q)) (by
                                first
                                | (intro h; omega)
                                | (intro h t ht hk
                                   by_cases q : t = k
                                   · subst q; first | (have := hfk ht; omega) | (have := (VS_cell hk0).mp ht; omega) | (rcases (hP2 t ht).2 (Int.le_refl t) with ⟨z, -⟩ | ⟨-, z, -⟩ <;> omega)
                                   · exact hn2 h t ht (by omega))) (by
                                first
                                | exact hc2
                                | (rw [show cntI (fun t => decide (wr m2 225 k (n + 1) 225 t ≠ 100000)) 324 = cntI (fun t => decide (m2 225 t ≠ 100000)) 324 + 1 from by rw [wr_rowat]; exact cnt_inc hk0 (by omega) (hfk ((VS_cell hk0).mpr (by omega))) (by omega)]; omega)) (by omega)
                        · refine go_goto (tgt := 115) dX12_layTo_99 (by decide) ?_
                          refine go_iinc (L' := [vr 214, un, vi but, vi y, vi n, vi (k + 1)]) dX12_layTo_115 rfl (by decide) rfl rfl ?_
                          refine go_goto (tgt := 45) dX12_layTo_118 (by decide) ?_
                          exact ih_45 m2 y (k + 1) (by first | assumption | omega | rfl) (by first | assumption | omega | rfl) (by first | assumption | omega | rfl) (by first | exact hf2 | exact fun b h => by rw [wr_row h]; exact hf2 b h) (by
                                first
                                | (intro t ht
                                   refine ⟨fun h => ?_, fun h => (hP2 t ht).2 (by omega)⟩
                                   by_cases q : t = k
                                   · subst q; exact ((hP2 t ht).2 (Int.le_refl t)).up (by omega)
                                   · exact (hP2 t ht).1 (by omega))
                                | (intro t ht
                                   refine ⟨fun h => ?_, fun h => (hP2 t ht).2 (by omega)⟩
                                   by_cases q : t = k
                                   · subst q; have := (VS_cell hk0).mp ht; omega
                                   · exact (hP2 t ht).1 (by omega))
                                | (intro t ht
                                   refine ⟨fun h => ?_, fun h => (hP2 t ht).2 (by omega)⟩
                                   by_cases q : t = k
                                   · subst q
                                     refine ((hP2 t ht).2 (Int.le_refl t)).old (hfk ht) hn0 (by omega) (fun v v0 v1 v2 => ?_) (hr_93.resolve_left (fun h => by omega)).2
                                     have hv := nx8_v hdn ht v0 v1 v2
                                     by_cases z : nx8 G p a t v < t
                                     · exact Or.inr ((hP2 _ hv).1 z)
                                     · exact Or.inl ((hP2 _ hv).2 (by omega))
                                   · exact (hP2 t ht).1 (by omega))
                                | (intro t ht
                                   have hkv : VS G 8 k := (VS_cell hk0).mpr (by omega)
                                   rw [wr_rowat]
                                   refine ⟨fun h => ?_, fun h => ((hP2 t ht).2 (by omega)).ne (by omega)⟩
                                   by_cases q : t = k
                                   · subst q
                                     obtain ⟨v, v0, v1, v2, v3⟩ := (hr_93.resolve_right (fun h => by omega)).2
                                     have hv := nx8_v hdn ht v0 v1 v2
                                     refine ((hP2 t ht).2 (Int.le_refl t)).new (hfk ht) hn0 (by omega) v0 v1 v2 ?_
                                     have hz : PL (nx8 G p a) (4 * G 8 2) g (m2 225) n (nx8 G p a t v) ∨ PL (nx8 G p a) (4 * G 8 2) g (m2 225) (n + 1) (nx8 G p a t v) := by
                                       by_cases z : nx8 G p a t v < t
                                       · exact Or.inr ((hP2 _ hv).1 z)
                                       · exact Or.inl ((hP2 _ hv).2 (by omega))
                                     rcases hz with (⟨z, -⟩ | ⟨-, -, z, -⟩) | (⟨z, -⟩ | ⟨-, -, z, -⟩)
                                     · omega
                                     · rw [v3] at z; exact z
                                     · omega
                                     · rw [v3] at z; exact z
                                   · exact ((hP2 t ht).1 (by omega)).ne q)) (by
                                first
                                | (intro h; omega)
                                | (intro h t ht hk
                                   by_cases q : t = k
                                   · subst q; first | (have := hfk ht; omega) | (have := (VS_cell hk0).mp ht; omega) | (rcases (hP2 t ht).2 (Int.le_refl t) with ⟨z, -⟩ | ⟨-, z, -⟩ <;> omega)
                                   · exact hn2 h t ht (by omega))) (by
                                first
                                | exact hc2
                                | (rw [show cntI (fun t => decide (wr m2 225 k (n + 1) 225 t ≠ 100000)) 324 = cntI (fun t => decide (m2 225 t ≠ 100000)) 324 + 1 from by rw [wr_rowat]; exact cnt_inc hk0 (by omega) (hfk ((VS_cell hk0).mpr (by omega))) (by omega)]; omega)) (by omega)
              exact lp_45 _ m1 0 0 (by first | assumption | omega | rfl) (by first | assumption | omega | rfl) (by first | assumption | omega | rfl) hfr (fun t ht => ⟨fun h => by have := ht.1; omega, fun _ => hPL t ht⟩) (fun _ t ht h => by have := ht.1; omega) (by omega) (Nat.lt_succ_self _)
        exact lp_36 _ (wr m0 225 g 0) 1 0 (by first | assumption | omega | rfl) (by first | assumption | omega | rfl) (fun b h => by rw [wr_row h, hm]; funext j; unfold fill; rw [if_neg (fun q => h q.1)]) (fun t ht => by unfold PL; rw [wr_rowat]; dsimp only; by_cases q : t = g; (right; rw [if_pos q]; exact ⟨Int.le_refl 0, Int.le_refl 0, q, fun j hj => by omega⟩); (left; rw [if_neg q]; refine ⟨e324 t ht, fun j hj => ?_⟩; rw [show j = 0 by omega]; exact q)) (fun h => by omega) (cnt_pos (t := g) hg0 hg324 (by rw [wr_self]; rfl)) (Nat.lt_succ_self _)
      · refine go_aload_n dX12_layTo_9 rfl ?_
        refine go_getf_p (b := 225) dX12_layTo_10 fl_12_127 ob_214 rfl pt_214_26 ?_
        refine go_iload_n dX12_layTo_13 rfl ?_
        refine go_ldcw (x := 100000) dX12_layTo_14 k_12_303 ?_
        refine go_iastore dX12_layTo_17 ar_225 (by omega) (by omega) ⟨by omega, by omega⟩ ?_
        refine go_iinc (L' := [vr 214, vi g, vi but, vi (i + 1), un, un]) dX12_layTo_18 rfl (by decide) rfl rfl ?_
        refine go_goto (tgt := 2) dX12_layTo_21 (by decide) ?_
        exact ih_2 (wr m0 225 i 100000) (i + 1) (by first | assumption | omega | rfl) (by first | assumption | omega | rfl) (by rw [hm]; exact fill_s hi0) (by omega)
  exact lp_2 _ m 0 (by first | assumption | omega | rfl) (by first | assumption | omega | rfl) (fill_0 m 225 100000).symm (Nat.lt_succ_self _)
theorem dX12_isShort_0 : decode mX12_isShort.2.1 0 = .ok (.aload_n 0, 1) := by decide +kernel
theorem dX12_isShort_1 : decode mX12_isShort.2.1 1 = .ok (.iload_n 1, 1) := by decide +kernel
theorem dX12_isShort_2 : decode mX12_isShort.2.1 2 = .ok (.iload_n 2, 1) := by decide +kernel
theorem dX12_isShort_3 : decode mX12_isShort.2.1 3 = .ok (.iconst 4, 1) := by decide +kernel
theorem dX12_isShort_4 : decode mX12_isShort.2.1 4 = .ok (.idiv, 1) := by decide +kernel
theorem dX12_isShort_5 : decode mX12_isShort.2.1 5 = .ok (.iload_n 2, 1) := by decide +kernel
theorem dX12_isShort_6 : decode mX12_isShort.2.1 6 = .ok (.iconst 4, 1) := by decide +kernel
theorem dX12_isShort_7 : decode mX12_isShort.2.1 7 = .ok (.irem, 1) := by decide +kernel
theorem dX12_isShort_8 : decode mX12_isShort.2.1 8 = .ok (.iload 4, 2) := by decide +kernel
theorem dX12_isShort_10 : decode mX12_isShort.2.1 10 = .ok (.invokevirtual 308, 3) := by decide +kernel
theorem dX12_isShort_13 : decode mX12_isShort.2.1 13 = .ok (.istore 5, 2) := by decide +kernel
theorem dX12_isShort_15 : decode mX12_isShort.2.1 15 = .ok (.iload 5, 2) := by decide +kernel
theorem dX12_isShort_17 : decode mX12_isShort.2.1 17 = .ok (.iconst (-1), 1) := by decide +kernel
theorem dX12_isShort_18 : decode mX12_isShort.2.1 18 = .ok (.if_icmp .eq 18, 3) := by decide +kernel
theorem dX12_isShort_21 : decode mX12_isShort.2.1 21 = .ok (.aload_n 0, 1) := by decide +kernel
theorem dX12_isShort_22 : decode mX12_isShort.2.1 22 = .ok (.getfield 127, 3) := by decide +kernel
theorem dX12_isShort_25 : decode mX12_isShort.2.1 25 = .ok (.iload 5, 2) := by decide +kernel
theorem dX12_isShort_27 : decode mX12_isShort.2.1 27 = .ok (.iaload, 1) := by decide +kernel
theorem dX12_isShort_28 : decode mX12_isShort.2.1 28 = .ok (.iload_n 3, 1) := by decide +kernel
theorem dX12_isShort_29 : decode mX12_isShort.2.1 29 = .ok (.if_icmp .ne 7, 3) := by decide +kernel
theorem dX12_isShort_32 : decode mX12_isShort.2.1 32 = .ok (.iconst 1, 1) := by decide +kernel
theorem dX12_isShort_33 : decode mX12_isShort.2.1 33 = .ok (.goto 4, 3) := by decide +kernel
theorem dX12_isShort_36 : decode mX12_isShort.2.1 36 = .ok (.iconst 0, 1) := by decide +kernel
theorem dX12_isShort_37 : decode mX12_isShort.2.1 37 = .ok (.ireturn, 1) := by decide +kernel
set_option maxRecDepth 4000 in
theorem ev_X12_isShort {m : Mem} {G : Mem} {B : Int} {p : Int} {a : Int} {but : Int} {s : Int} {v : Int} {n : Int} (hb : Bg G 8 18 (m 216)) (hdn : DnOk G 8) (hst : StOk G 8 18 B) (hbt : ∀ o : Int, 0 ≤ o → o < G 8 3 → (hasP but o ↔ (o = p ∨ o = a))) (hvs : VS G 8 s) (hv : 0 ≤ v ∧ v < 4 * G 8 2) (hn : InR n) : Ev 0 6 mX12_isShort [vr 214, vi s, vi v, vi n, vi but] m (fun r m' => m' = m ∧ ((r = 1 ∧ nx8 G p a s v ≠ -1 ∧ m 225 (nx8 G p a s v) = n) ∨ (r = 0 ∧ ¬ (nx8 G p a s v ≠ -1 ∧ m 225 (nx8 G p a s v) = n)))) := by
  refine Ev.of (L := [vr 214, vi s, vi v, vi n, vi but, un]) (by decide +kernel) rfl (Nat.le_of_ble_eq_true rfl) rfl (fun t ht => by cases ht; first | exact Or.inl rfl | exact Or.inr (Or.inl rfl) | exact Or.inr (Or.inr rfl)) (fun hcan => ?_)
  obtain ⟨⟨hd0, hd1⟩, ⟨hd2, hd3⟩, ⟨hd4, hd5⟩, ⟨hd6, hd7⟩, ⟨hd8, hd9⟩, hdf, hdp, hdq⟩ := id hdn
  refine go_aload_n dX12_isShort_0 rfl ?_
  refine go_iload_n dX12_isShort_1 rfl ?_
  refine go_iload_n dX12_isShort_2 rfl ?_
  refine go_iconst dX12_isShort_3 ?_
  refine go_idiv dX12_isShort_4 ⟨by omega, by omega⟩ ⟨by omega, by omega⟩ (by omega) (by omega) ?_
  refine go_iload_n dX12_isShort_5 rfl ?_
  refine go_iconst dX12_isShort_6 ?_
  refine go_irem dX12_isShort_7 ⟨by omega, by omega⟩ ⟨by omega, by omega⟩ (by omega) (by omega) ?_
  refine go_iload dX12_isShort_8 rfl ?_
  refine go_callVp_i (as := [vi s, vi (v / 4), vi (v % 4), vi but]) (S := []) (b := 214) (ev_X12_behind (m := m) (s := s) (f := (v / 4)) (sd := (v % 4)) (but := but) (G := G) (B := B) (p := p) (a := a) (v := v) (by first | exact hb | exact hb.w (by decide) | exact (hb.w (by decide)).w (by decide)) (by first | assumption | omega | exact ⟨by omega, by omega⟩ | (constructor <;> omega)) (by first | assumption | omega | exact ⟨by omega, by omega⟩ | (constructor <;> omega)) hbt (by first | assumption | omega | exact ⟨by omega, by omega⟩ | (constructor <;> omega)) (by first | assumption | omega | exact ⟨by omega, by omega⟩ | (constructor <;> omega)) rfl rfl) rfl dX12_isShort_10 cv_12_308 rfl rfl ob_214 rfl (by decide) (Nat.le_of_ble_eq_true rfl) (fun r_10 hr_10 ho_10 => ?_)
  refine go_istore (L' := [vr 214, vi s, vi v, vi n, vi but, vi r_10]) dX12_isShort_13 (by decide) rfl rfl ?_
  refine go_iload dX12_isShort_15 rfl ?_
  refine go_iconst dX12_isShort_17 ?_
  refine go_icmp_eq (tgt := 36) dX12_isShort_18 (by decide) ⟨by omega, by omega⟩ ⟨by omega, by omega⟩ (fun h_18 => ?_) (fun h_18 => ?_)
  · refine go_iconst dX12_isShort_36 ?_
    exact go_ret (v := 0) rfl dX12_isShort_37 (okZ (by first | exact Or.inl rfl | exact Or.inr rfl | assumption | omega)) ⟨rfl, (by rw [← hr_10]; first | (left; exact ⟨rfl, by omega, by omega⟩) | (right; exact ⟨rfl, by omega⟩))⟩
  · have hvn : VS G 8 r_10 := by rw [hr_10]; exact nx8_v hdn hvs (by omega) (by omega) (by rw [← hr_10]; omega)
    have hn324 := hvn.lt hdn
    have hn0 := hvn.1
    refine go_aload_n dX12_isShort_21 rfl ?_
    refine go_getf_p (b := 225) dX12_isShort_22 fl_12_127 ob_214 rfl pt_214_26 ?_
    refine go_iload dX12_isShort_25 rfl ?_
    refine go_iaload dX12_isShort_27 ar_225 (by omega) (by omega) (fun he_27 => ?_)
    refine go_iload_n dX12_isShort_28 rfl ?_
    refine go_icmp_ne (tgt := 36) dX12_isShort_29 (by decide) ⟨by omega, by omega⟩ ⟨by omega, by omega⟩ (fun h_29 => ?_) (fun h_29 => ?_)
    · refine go_iconst dX12_isShort_36 ?_
      exact go_ret (v := 0) rfl dX12_isShort_37 (okZ (by first | exact Or.inl rfl | exact Or.inr rfl | assumption | omega)) ⟨rfl, (by rw [← hr_10]; first | (left; exact ⟨rfl, by omega, by omega⟩) | (right; exact ⟨rfl, by omega⟩))⟩
    · refine go_iconst dX12_isShort_32 ?_
      refine go_goto (tgt := 37) dX12_isShort_33 (by decide) ?_
      exact go_ret (v := 1) rfl dX12_isShort_37 (okZ (by first | exact Or.inl rfl | exact Or.inr rfl | assumption | omega)) ⟨rfl, (by rw [← hr_10]; first | (left; exact ⟨rfl, by omega, by omega⟩) | (right; exact ⟨rfl, by omega⟩))⟩
theorem dX12_way_0 : decode mX12_way.2.1 0 = .ok (.aload_n 0, 1) := by decide +kernel
theorem dX12_way_1 : decode mX12_way.2.1 1 = .ok (.iconst 0, 1) := by decide +kernel
theorem dX12_way_2 : decode mX12_way.2.1 2 = .ok (.putfield 1, 3) := by decide +kernel
theorem dX12_way_5 : decode mX12_way.2.1 5 = .ok (.aload_n 0, 1) := by decide +kernel
theorem dX12_way_6 : decode mX12_way.2.1 6 = .ok (.iload_n 1, 1) := by decide +kernel
theorem dX12_way_7 : decode mX12_way.2.1 7 = .ok (.invokevirtual 245, 3) := by decide +kernel
theorem dX12_way_10 : decode mX12_way.2.1 10 = .ok (.ifCond .eq 11, 3) := by decide +kernel
theorem dX12_way_13 : decode mX12_way.2.1 13 = .ok (.aload_n 0, 1) := by decide +kernel
theorem dX12_way_14 : decode mX12_way.2.1 14 = .ok (.iload_n 2, 1) := by decide +kernel
theorem dX12_way_15 : decode mX12_way.2.1 15 = .ok (.invokevirtual 257, 3) := by decide +kernel
theorem dX12_way_18 : decode mX12_way.2.1 18 = .ok (.ifCond .ne 5, 3) := by decide +kernel
theorem dX12_way_21 : decode mX12_way.2.1 21 = .ok (.iconst (-1), 1) := by decide +kernel
theorem dX12_way_22 : decode mX12_way.2.1 22 = .ok (.ireturn, 1) := by decide +kernel
theorem dX12_way_23 : decode mX12_way.2.1 23 = .ok (.aload_n 0, 1) := by decide +kernel
theorem dX12_way_24 : decode mX12_way.2.1 24 = .ok (.aload_n 0, 1) := by decide +kernel
theorem dX12_way_25 : decode mX12_way.2.1 25 = .ok (.iload_n 2, 1) := by decide +kernel
theorem dX12_way_26 : decode mX12_way.2.1 26 = .ok (.invokevirtual 314, 3) := by decide +kernel
theorem dX12_way_29 : decode mX12_way.2.1 29 = .ok (.iconst 1, 1) := by decide +kernel
theorem dX12_way_30 : decode mX12_way.2.1 30 = .ok (.iload_n 1, 1) := by decide +kernel
theorem dX12_way_31 : decode mX12_way.2.1 31 = .ok (.ishl, 1) := by decide +kernel
theorem dX12_way_32 : decode mX12_way.2.1 32 = .ok (.invokevirtual 317, 3) := by decide +kernel
theorem dX12_way_35 : decode mX12_way.2.1 35 = .ok (.aload_n 0, 1) := by decide +kernel
theorem dX12_way_36 : decode mX12_way.2.1 36 = .ok (.iload_n 1, 1) := by decide +kernel
theorem dX12_way_37 : decode mX12_way.2.1 37 = .ok (.invokevirtual 321, 3) := by decide +kernel
theorem dX12_way_40 : decode mX12_way.2.1 40 = .ok (.istore_n 3, 1) := by decide +kernel
theorem dX12_way_41 : decode mX12_way.2.1 41 = .ok (.aload_n 0, 1) := by decide +kernel
theorem dX12_way_42 : decode mX12_way.2.1 42 = .ok (.getfield 127, 3) := by decide +kernel
theorem dX12_way_45 : decode mX12_way.2.1 45 = .ok (.iload_n 3, 1) := by decide +kernel
theorem dX12_way_46 : decode mX12_way.2.1 46 = .ok (.iaload, 1) := by decide +kernel
theorem dX12_way_47 : decode mX12_way.2.1 47 = .ok (.istore 4, 2) := by decide +kernel
theorem dX12_way_49 : decode mX12_way.2.1 49 = .ok (.iload 4, 2) := by decide +kernel
theorem dX12_way_51 : decode mX12_way.2.1 51 = .ok (.ldc_w 303, 3) := by decide +kernel
theorem dX12_way_54 : decode mX12_way.2.1 54 = .ok (.if_icmp .ne 5, 3) := by decide +kernel
theorem dX12_way_57 : decode mX12_way.2.1 57 = .ok (.iconst (-1), 1) := by decide +kernel
theorem dX12_way_58 : decode mX12_way.2.1 58 = .ok (.ireturn, 1) := by decide +kernel
theorem dX12_way_59 : decode mX12_way.2.1 59 = .ok (.iconst 0, 1) := by decide +kernel
theorem dX12_way_60 : decode mX12_way.2.1 60 = .ok (.istore 5, 2) := by decide +kernel
theorem dX12_way_62 : decode mX12_way.2.1 62 = .ok (.iload 5, 2) := by decide +kernel
theorem dX12_way_64 : decode mX12_way.2.1 64 = .ok (.iload 4, 2) := by decide +kernel
theorem dX12_way_66 : decode mX12_way.2.1 66 = .ok (.if_icmp .ge 64, 3) := by decide +kernel
theorem dX12_way_69 : decode mX12_way.2.1 69 = .ok (.iconst 0, 1) := by decide +kernel
theorem dX12_way_70 : decode mX12_way.2.1 70 = .ok (.istore 6, 2) := by decide +kernel
theorem dX12_way_72 : decode mX12_way.2.1 72 = .ok (.aload_n 0, 1) := by decide +kernel
theorem dX12_way_73 : decode mX12_way.2.1 73 = .ok (.iload_n 3, 1) := by decide +kernel
theorem dX12_way_74 : decode mX12_way.2.1 74 = .ok (.iload 6, 2) := by decide +kernel
theorem dX12_way_76 : decode mX12_way.2.1 76 = .ok (.iload 4, 2) := by decide +kernel
theorem dX12_way_78 : decode mX12_way.2.1 78 = .ok (.iload 5, 2) := by decide +kernel
theorem dX12_way_80 : decode mX12_way.2.1 80 = .ok (.isub, 1) := by decide +kernel
theorem dX12_way_81 : decode mX12_way.2.1 81 = .ok (.iconst 1, 1) := by decide +kernel
theorem dX12_way_82 : decode mX12_way.2.1 82 = .ok (.isub, 1) := by decide +kernel
theorem dX12_way_83 : decode mX12_way.2.1 83 = .ok (.iconst 1, 1) := by decide +kernel
theorem dX12_way_84 : decode mX12_way.2.1 84 = .ok (.iload_n 1, 1) := by decide +kernel
theorem dX12_way_85 : decode mX12_way.2.1 85 = .ok (.ishl, 1) := by decide +kernel
theorem dX12_way_86 : decode mX12_way.2.1 86 = .ok (.invokevirtual 324, 3) := by decide +kernel
theorem dX12_way_89 : decode mX12_way.2.1 89 = .ok (.ifCond .ne 9, 3) := by decide +kernel
theorem dX12_way_92 : decode mX12_way.2.1 92 = .ok (.iinc 6 1, 3) := by decide +kernel
theorem dX12_way_95 : decode mX12_way.2.1 95 = .ok (.goto (-23), 3) := by decide +kernel
theorem dX12_way_98 : decode mX12_way.2.1 98 = .ok (.aload_n 0, 1) := by decide +kernel
theorem dX12_way_99 : decode mX12_way.2.1 99 = .ok (.getfield 133, 3) := by decide +kernel
theorem dX12_way_102 : decode mX12_way.2.1 102 = .ok (.iload 5, 2) := by decide +kernel
theorem dX12_way_104 : decode mX12_way.2.1 104 = .ok (.iload 6, 2) := by decide +kernel
theorem dX12_way_106 : decode mX12_way.2.1 106 = .ok (.iastore, 1) := by decide +kernel
theorem dX12_way_107 : decode mX12_way.2.1 107 = .ok (.aload_n 0, 1) := by decide +kernel
theorem dX12_way_108 : decode mX12_way.2.1 108 = .ok (.iload_n 3, 1) := by decide +kernel
theorem dX12_way_109 : decode mX12_way.2.1 109 = .ok (.iload 6, 2) := by decide +kernel
theorem dX12_way_111 : decode mX12_way.2.1 111 = .ok (.iconst 4, 1) := by decide +kernel
theorem dX12_way_112 : decode mX12_way.2.1 112 = .ok (.idiv, 1) := by decide +kernel
theorem dX12_way_113 : decode mX12_way.2.1 113 = .ok (.iload 6, 2) := by decide +kernel
theorem dX12_way_115 : decode mX12_way.2.1 115 = .ok (.iconst 4, 1) := by decide +kernel
theorem dX12_way_116 : decode mX12_way.2.1 116 = .ok (.irem, 1) := by decide +kernel
theorem dX12_way_117 : decode mX12_way.2.1 117 = .ok (.iconst 1, 1) := by decide +kernel
theorem dX12_way_118 : decode mX12_way.2.1 118 = .ok (.iload_n 1, 1) := by decide +kernel
theorem dX12_way_119 : decode mX12_way.2.1 119 = .ok (.ishl, 1) := by decide +kernel
theorem dX12_way_120 : decode mX12_way.2.1 120 = .ok (.invokevirtual 308, 3) := by decide +kernel
theorem dX12_way_123 : decode mX12_way.2.1 123 = .ok (.istore_n 3, 1) := by decide +kernel
theorem dX12_way_124 : decode mX12_way.2.1 124 = .ok (.iinc 5 1, 3) := by decide +kernel
theorem dX12_way_127 : decode mX12_way.2.1 127 = .ok (.goto (-65), 3) := by decide +kernel
theorem dX12_way_130 : decode mX12_way.2.1 130 = .ok (.aload_n 0, 1) := by decide +kernel
theorem dX12_way_131 : decode mX12_way.2.1 131 = .ok (.iload 4, 2) := by decide +kernel
theorem dX12_way_133 : decode mX12_way.2.1 133 = .ok (.putfield 328, 3) := by decide +kernel
theorem dX12_way_136 : decode mX12_way.2.1 136 = .ok (.iload 4, 2) := by decide +kernel
theorem dX12_way_138 : decode mX12_way.2.1 138 = .ok (.ireturn, 1) := by decide +kernel
set_option maxRecDepth 4000 in
theorem ev_X12_way {m : Mem} {G : Mem} {B : Int} {p : Int} {q : Int} (hb : Bg G 8 18 (m 216)) (hdn : DnOk G 8) (hst : StOk G 8 18 B) (hp : InR p) (hq : InR q) : Ev 0 8 mX12_way [vr 214, vi p, vi q] m (fun r m' => WyM m G p q r m') := by
  refine Ev.of (L := [vr 214, vi p, vi q, un, un, un, un]) (by decide +kernel) rfl (Nat.le_of_ble_eq_true rfl) rfl (fun t ht => by cases ht; first | exact Or.inl rfl | exact Or.inr (Or.inl rfl) | exact Or.inr (Or.inr rfl)) (fun hcan => ?_)
  obtain ⟨⟨hd0, hd1⟩, ⟨hd2, hd3⟩, ⟨hd4, hd5⟩, ⟨hd6, hd7⟩, ⟨hd8, hd9⟩, hdf, hdp, hdq⟩ := id hdn
  refine go_aload_n dX12_way_0 rfl ?_
  refine go_iconst dX12_way_1 ?_
  refine go_putf_i (ki := 0) dX12_way_2 fw_12_1 ob_214 rfl rfl ⟨by omega, by omega⟩ ?_
  refine go_aload_n dX12_way_5 rfl ?_
  refine go_iload_n dX12_way_6 rfl ?_
  refine go_callVp_z (as := [vi p]) (S := []) (b := 214) (ev_X12_isPerson (m := (wr m 214 0 0)) (f := p) (G := G) (d := 8) (st := 18) (by first | exact hb | exact hb.w (by decide) | exact (hb.w (by decide)).w (by decide)) (by first | assumption | omega | exact ⟨by omega, by omega⟩ | (constructor <;> omega)) (by first | assumption | omega | exact ⟨by omega, by omega⟩ | (constructor <;> omega))) rfl dX12_way_7 cv_12_245 rfl rfl ob_214 rfl (by decide) (Nat.le_of_ble_eq_true rfl) (fun r_7 hr_7 ho_7 => ?_)
  refine go_if_eq (tgt := 21) dX12_way_10 (by decide) ⟨by omega, by omega⟩ (fun h_10 => ?_) (fun h_10 => ?_)
  · refine go_iconst dX12_way_21 ?_
    exact go_ret (v := (-1)) rfl dX12_way_22 (okI ⟨by omega, by omega⟩) (Or.inl ⟨by omega, rfl, rfl⟩)
  · refine go_aload_n dX12_way_13 rfl ?_
    refine go_iload_n dX12_way_14 rfl ?_
    refine go_callVp_z (as := [vi q]) (S := []) (b := 214) (ev_X12_isPoint (m := (wr m 214 0 0)) (f := q) (G := G) (d := 8) (st := 18) (by first | exact hb | exact hb.w (by decide) | exact (hb.w (by decide)).w (by decide)) (by first | assumption | omega | exact ⟨by omega, by omega⟩ | (constructor <;> omega)) (by first | assumption | omega | exact ⟨by omega, by omega⟩ | (constructor <;> omega))) rfl dX12_way_15 cv_12_257 rfl rfl ob_214 rfl (by decide) (Nat.le_of_ble_eq_true rfl) (fun r_15 hr_15 ho_15 => ?_)
    refine go_if_ne (tgt := 23) dX12_way_18 (by decide) ⟨by omega, by omega⟩ (fun h_18 => ?_) (fun h_18 => ?_)
    · refine go_aload_n dX12_way_23 rfl ?_
      refine go_aload_n dX12_way_24 rfl ?_
      refine go_iload_n dX12_way_25 rfl ?_
      refine go_callVp_i (as := [vi q]) (S := [vr 214]) (b := 214) (ev_X12_goalOf (m := (wr m 214 0 0)) (q := q) (G := G) (by first | exact hb | exact hb.w (by decide) | exact (hb.w (by decide)).w (by decide)) (by first | assumption | omega | exact ⟨by omega, by omega⟩ | (constructor <;> omega)) (by first | assumption | omega | exact ⟨by omega, by omega⟩ | (constructor <;> omega))) rfl dX12_way_26 cv_12_314 rfl rfl ob_214 rfl (by decide) (Nat.le_of_ble_eq_true rfl) (fun r_26 hr_26 ho_26 => ?_)
      subst hr_26
      refine go_iconst dX12_way_29 ?_
      refine go_iload_n dX12_way_30 rfl ?_
      refine go_ishl dX12_way_31 ?_
      refine go_callV_v (as := [vi (golC G q), vi (ishl 1 p)]) (S := []) (b := 214) (ev_X12_layTo (m := (wr m 214 0 0)) (g := (golC G q)) (but := (ishl 1 p)) (G := G) (B := B) (p := p) (a := (-1)) (by first | exact hb | exact hb.w (by decide) | exact (hb.w (by decide)).w (by decide)) (by first | assumption | omega | exact ⟨by omega, by omega⟩ | (constructor <;> omega)) (by first | assumption | omega | exact ⟨by omega, by omega⟩ | (constructor <;> omega)) (fun o o0 o1 => bit1 (by omega) (by omega) o0 (by omega)) (golC_v hdn (by omega) (by omega))) rfl dX12_way_32 cv_12_317 rfl rfl ob_214 rfl (by decide) (Nat.le_of_ble_eq_true rfl) (fun m_32 hr_32 => ?_)
      obtain ⟨hf32, hl32⟩ := hr_32
      have hb32 : Bg G 8 18 (m_32 216) := by rw [hf32 216 (by decide)]; exact hb.w (by decide)
      have hvp : VS G 8 (stdC G p) := stdC_v hdn hst (by omega) (by omega)
      have hv324 := hvp.lt hdn
      have hv0 := hvp.1
      obtain ⟨N, hN⟩ : ∃ z, z = m_32 225 (stdC G p) := ⟨_, rfl⟩
      have hlp := hl32 _ hvp
      rw [← hN] at hlp
      refine go_aload_n dX12_way_35 rfl ?_
      refine go_iload_n dX12_way_36 rfl ?_
      refine go_callVp_i (as := [vi p]) (S := []) (b := 214) (ev_X12_placeOf (m := m_32) (p := p) (G := G) (B := B) hb32 (by first | assumption | omega | exact ⟨by omega, by omega⟩ | (constructor <;> omega)) (by first | assumption | omega | exact ⟨by omega, by omega⟩ | (constructor <;> omega)) (by first | assumption | omega | exact ⟨by omega, by omega⟩ | (constructor <;> omega))) rfl dX12_way_37 cv_12_321 rfl rfl ob_214 rfl (by decide) (Nat.le_of_ble_eq_true rfl) (fun r_37 hr_37 ho_37 => ?_)
      subst hr_37
      refine go_istore_n (L' := [vr 214, vi p, vi q, vi (stdC G p), un, un, un]) dX12_way_40 (by decide) rfl rfl ?_
      refine go_aload_n dX12_way_41 rfl ?_
      refine go_getf_p (b := 225) dX12_way_42 fl_12_127 ob_214 rfl pt_214_26 ?_
      refine go_iload_n dX12_way_45 rfl ?_
      refine go_iaload dX12_way_46 ar_225 (by omega) (by omega) (fun he_46 => ?_)
      rw [show (m_32 225 (stdC G p) : Int) = N from hN.symm] at he_46 ⊢
      refine go_istore (L' := [vr 214, vi p, vi q, vi (stdC G p), vi N, un, un]) dX12_way_47 (by decide) rfl rfl ?_
      refine go_iload dX12_way_49 rfl ?_
      refine go_ldcw (x := 100000) dX12_way_51 k_12_303 ?_
      refine go_icmp_ne (tgt := 59) dX12_way_54 (by decide) ⟨by omega, by omega⟩ ⟨by omega, by omega⟩ (fun h_54 => ?_) (fun h_54 => ?_)
      · have hl2 : 0 ≤ N ∧ N ≤ 323 ∧ To (nx8 G p (-1)) (4 * G 8 2) (golC G q) N.toNat (stdC G p) ∧ ∀ j : Nat, (j : Int) < N → ¬ To (nx8 G p (-1)) (4 * G 8 2) (golC G q) j (stdC G p) := by rcases hlp with ⟨a, -⟩ | h; omega; exact h
        refine go_iconst dX12_way_59 ?_
        refine go_istore (L' := [vr 214, vi p, vi q, vi (stdC G p), vi N, vi 0, un]) dX12_way_60 (by decide) rfl rfl ?_
        refine go_drop (j := 2) (L' := [vr 214, vi p, un, vi (stdC G p), vi N, vi 0, un]) rfl ?_
        have lp_62 : ∀ (n_62 : Nat) (m1 : Mem) (ps : Int) (k : Int) , (0 ≤ k) → (k ≤ N) → (VS G 8 ps) → (Rch8 G p (-1) k.toNat ps (ext 1 (m1 227) 0 k.toNat)) → (∀ (s : Int) (K : Nat), Rch8 G p (-1) k.toNat s K → To (nx8 G p (-1)) (4 * G 8 2) (golC G q) (N - k).toNat s → ext 1 (m1 227) 0 k.toNat ≤ K) → (m_32 225 ps = N - k) → (∀ j : Int, 0 ≤ j → j < k → 0 ≤ m1 227 j ∧ m1 227 j < (4 * G 8 2)) → (∀ b : Nat, b ≠ 227 → m1 b = m_32 b) → (N - k).toNat < n_62 → Go 0 8 mX12_way (fun r m' => WyM m G p q r m') 62 [vr 214, vi p, un, vi ps, vi N, vi k, un] [] m1 := by
          intro n_62
          induction n_62 with
          | zero => intro m1 ps k hk0 hk1 hvs hR hmin hD hdg hfr hmu; exact absurd hmu (Nat.not_lt_zero _)
          | succ n_62 ih_62 =>
            intro m1 ps k hk0 hk1 hvs hR hmin hD hdg hfr hmu
            refine go_iload dX12_way_62 rfl ?_
            refine go_iload dX12_way_64 rfl ?_
            refine go_icmp_ge (tgt := 130) dX12_way_66 (by decide) ⟨by omega, by omega⟩ ⟨by omega, by omega⟩ (fun h_66 => ?_) (fun h_66 => ?_)
            · refine go_aload_n dX12_way_130 rfl ?_
              refine go_iload dX12_way_131 rfl ?_
              refine go_putf_i (ki := 29) dX12_way_133 fw_12_328 ob_214 rfl rfl ⟨by omega, by omega⟩ ?_
              refine go_iload dX12_way_136 rfl ?_
              refine go_ret (v := N) rfl dX12_way_138 (okI ⟨by omega, by omega⟩) ?_
              have hz : ps = golC G q := by
                rcases hl32 ps hvs with ⟨z, -⟩ | ⟨-, -, z, -⟩
                · omega
                · rw [hD, show (N - k).toNat = 0 by omega] at z; exact z
              refine Or.inr ⟨by omega, fun b h1 h2 h3 => by rw [wr_row h1, hfr b h3, hf32 b h2, wr_row h1], fun j hj => by rw [wr_ni hj, hfr 214 (by decide), hf32 214 (by decide)], Or.inr ⟨N.toNat, by omega, by omega, by rw [wr_self]; omega, ?_, fun j a b => by rw [wr_na (by decide)]; exact hdg j a (by omega)⟩⟩
              rw [wr_row (by decide)]
              rw [show k = N by omega] at hR hmin
              exact way_fin (by omega) hR hz (fun s K h h2 => hmin s K h (by rw [show (N - N).toNat = 0 by omega]; exact h2)) (fun j hj => hl2.2.2.2 j (by omega))
            · obtain ⟨c0, hc0, hc1, hc2, hc3⟩ := lto_ex hdn hl32 (ps := ps) (k := N - k) hvs (by omega) hD (by omega)
              refine go_iconst dX12_way_69 ?_
              refine go_istore (L' := [vr 214, vi p, un, vi ps, vi N, vi k, vi 0]) dX12_way_70 (by decide) rfl rfl ?_
              have lp_72 : ∀ (n_72 : Nat) (v : Int) , (0 ≤ v) → (v ≤ c0) → (∀ j : Int, 0 ≤ j → j < v → ¬ (nx8 G p (-1) ps j ≠ -1 ∧ m_32 225 (nx8 G p (-1) ps j) = N - k - 1)) → (c0 - v).toNat < n_72 → Go 0 8 mX12_way (fun r m' => WyM m G p q r m') 72 [vr 214, vi p, un, vi ps, vi N, vi k, vi v] [] m1 := by
                intro n_72
                induction n_72 with
                | zero => intro v hw0 hw1 hwn hmu; exact absurd hmu (Nat.not_lt_zero _)
                | succ n_72 ih_72 =>
                  intro v hw0 hw1 hwn hmu
                  refine go_aload_n dX12_way_72 rfl ?_
                  refine go_iload_n dX12_way_73 rfl ?_
                  refine go_iload dX12_way_74 rfl ?_
                  refine go_iload dX12_way_76 rfl ?_
                  refine go_iload dX12_way_78 rfl ?_
                  refine go_isub dX12_way_80 ?_
                  refine go_iconst dX12_way_81 ?_
                  refine go_isub dX12_way_82 ?_
                  refine go_iconst dX12_way_83 ?_
                  refine go_iload_n dX12_way_84 rfl ?_
                  refine go_ishl dX12_way_85 ?_
                  refine go_callVp_z (as := [vi ps, vi v, vi ((N - k) - 1), vi (ishl 1 p)]) (S := []) (b := 214) (ev_X12_isShort (m := m1) (s := ps) (v := v) (n := ((N - k) - 1)) (but := (ishl 1 p)) (G := G) (B := B) (p := p) (a := (-1)) (by rw [hfr 216 (by decide)]; exact hb32) (by first | assumption | omega | exact ⟨by omega, by omega⟩ | (constructor <;> omega)) (by first | assumption | omega | exact ⟨by omega, by omega⟩ | (constructor <;> omega)) (fun o o0 o1 => bit1 (by omega) (by omega) o0 (by omega)) hvs (by first | assumption | omega | exact ⟨by omega, by omega⟩ | (constructor <;> omega)) (by first | assumption | omega | exact ⟨by omega, by omega⟩ | (constructor <;> omega))) rfl dX12_way_86 cv_12_324 rfl rfl ob_214 rfl (by decide) (Nat.le_of_ble_eq_true rfl) (fun r_86 hr_86 ho_86 => ?_)
                  rw [hfr 225 (by decide)] at hr_86
                  refine go_if_ne (tgt := 98) dX12_way_89 (by decide) ⟨by omega, by omega⟩ (fun h_89 => ?_) (fun h_89 => ?_)
                  · have hsv := (hr_86.resolve_right (fun h => by omega)).2
                    have hws := way_step (g := golC G q) (j := (N - k - 1).toNat) (v := v) (show (4 * G 8 2) ≤ 24 by omega) hR (by rw [show (N - k - 1).toNat + 1 = (N - k).toNat by omega]; exact hmin) hw0 (by omega) hsv.1 (fun c a b e => lto_no hdn hl32 hvs (by omega) hD (by omega) a (by omega) e (fun z => hwn c a b ⟨e, z⟩))
                    refine go_aload_n dX12_way_98 rfl ?_
                    refine go_getf_p (b := 227) dX12_way_99 fl_12_133 ob_214 rfl pt_214_28 ?_
                    refine go_iload dX12_way_102 rfl ?_
                    refine go_iload dX12_way_104 rfl ?_
                    refine go_iastore dX12_way_106 ar_227 (by omega) (by omega) ⟨by omega, by omega⟩ ?_
                    refine go_aload_n dX12_way_107 rfl ?_
                    refine go_iload_n dX12_way_108 rfl ?_
                    refine go_iload dX12_way_109 rfl ?_
                    refine go_iconst dX12_way_111 ?_
                    refine go_idiv dX12_way_112 ⟨by omega, by omega⟩ ⟨by omega, by omega⟩ (by omega) (by omega) ?_
                    refine go_iload dX12_way_113 rfl ?_
                    refine go_iconst dX12_way_115 ?_
                    refine go_irem dX12_way_116 ⟨by omega, by omega⟩ ⟨by omega, by omega⟩ (by omega) (by omega) ?_
                    refine go_iconst dX12_way_117 ?_
                    refine go_iload_n dX12_way_118 rfl ?_
                    refine go_ishl dX12_way_119 ?_
                    refine go_callVp_i (as := [vi ps, vi (v / 4), vi (v % 4), vi (ishl 1 p)]) (S := []) (b := 214) (ev_X12_behind (m := (wr m1 227 k v)) (s := ps) (f := (v / 4)) (sd := (v % 4)) (but := (ishl 1 p)) (G := G) (B := B) (p := p) (a := (-1)) (v := v) (by rw [wr_row (by decide), hfr 216 (by decide)]; exact hb32) (by first | assumption | omega | exact ⟨by omega, by omega⟩ | (constructor <;> omega)) (by first | assumption | omega | exact ⟨by omega, by omega⟩ | (constructor <;> omega)) (fun o o0 o1 => bit1 (by omega) (by omega) o0 (by omega)) hvs (by first | assumption | omega | exact ⟨by omega, by omega⟩ | (constructor <;> omega)) rfl rfl) rfl dX12_way_120 cv_12_308 rfl rfl ob_214 rfl (by decide) (Nat.le_of_ble_eq_true rfl) (fun r_120 hr_120 ho_120 => ?_)
                    refine go_istore_n (L' := [vr 214, vi p, un, vi r_120, vi N, vi k, vi v]) dX12_way_123 (by decide) rfl rfl ?_
                    refine go_iinc (L' := [vr 214, vi p, un, vi r_120, vi N, vi (k + 1), vi v]) dX12_way_124 rfl (by decide) rfl rfl ?_
                    refine go_goto (tgt := 62) dX12_way_127 (by decide) ?_
                    refine go_drop (j := 6) (L' := [vr 214, vi p, un, vi r_120, vi N, vi (k + 1), un]) rfl ?_
                    exact ih_62 (wr m1 227 k v) r_120 (k + 1) (by first | assumption | omega | rfl) (by first | assumption | omega | rfl) (by rw [hr_120]; exact nx8_v hdn hvs hw0 (by omega) hsv.1) (by rw [wr_rowat, ext_w hk0, hr_120, show (k + 1).toNat = k.toNat + 1 by omega]; exact hws.1) (by rw [wr_rowat, ext_w hk0, show (k + 1).toNat = k.toNat + 1 by omega, show (N - (k + 1)).toNat = (N - k - 1).toNat by omega]; exact hws.2) (by rw [hr_120, hsv.2]; omega) (fun j a b => by by_cases z : j = k; (rw [z, wr_self]; omega); (rw [wr_ni z]; exact hdg j a (by omega))) (fun b h => by rw [wr_row h]; exact hfr b h) (by omega)
                  · refine go_iinc (L' := [vr 214, vi p, un, vi ps, vi N, vi k, vi (v + 1)]) dX12_way_92 rfl (by decide) rfl rfl ?_
                    refine go_goto (tgt := 72) dX12_way_95 (by decide) ?_
                    exact ih_72 (v + 1) (by first | assumption | omega | rfl) (by have hx := (hr_86.resolve_left (fun h => by omega)).2; by_cases z : v = c0; (rw [z] at hx; exact absurd ⟨hc2, hc3⟩ hx); omega) (stp hwn (hr_86.resolve_left (fun h => by omega)).2) (by have hx := (hr_86.resolve_left (fun h => by omega)).2; by_cases z : v = c0; (rw [z] at hx; exact absurd ⟨hc2, hc3⟩ hx); omega)
              exact lp_72 _ 0 (by first | assumption | omega | rfl) (by first | assumption | omega | rfl) (fun j a b => by omega) (Nat.lt_succ_self _)
        exact lp_62 _ m_32 (stdC G p) 0 (by first | assumption | omega | rfl) (by first | assumption | omega | rfl) hvp ⟨rfl, rfl⟩ (fun s K h _ => by rw [h.2]; exact Nat.le_refl 1) (by omega) (fun j a b => by omega) (fun b h => rfl) (Nat.lt_succ_self _)
      · refine go_iconst dX12_way_57 ?_
        refine go_ret (v := (-1)) rfl dX12_way_58 (okI ⟨by omega, by omega⟩) ?_
        refine Or.inr ⟨by omega, fun b h1 h2 h3 => by rw [hf32 b h2, wr_row h1], fun j hj => by rw [hf32 214 (by decide)], Or.inl ⟨rfl, fun n K h => ?_, by rw [hf32 214 (by decide), wr_ni (by decide)], by rw [hf32 227 (by decide), wr_row (by decide)]⟩⟩
        rcases hlp with ⟨-, h2⟩ | ⟨-, h2, -⟩
        · exact h2 n (R2T h)
        · omega
    · refine go_iconst dX12_way_21 ?_
      exact go_ret (v := (-1)) rfl dX12_way_22 (okI ⟨by omega, by omega⟩) (Or.inl ⟨by omega, rfl, rfl⟩)
theorem dX12_both_0 : decode mX12_both.2.1 0 = .ok (.aload_n 0, 1) := by decide +kernel
theorem dX12_both_1 : decode mX12_both.2.1 1 = .ok (.iconst 0, 1) := by decide +kernel
theorem dX12_both_2 : decode mX12_both.2.1 2 = .ok (.putfield 1, 3) := by decide +kernel
theorem dX12_both_5 : decode mX12_both.2.1 5 = .ok (.aload_n 0, 1) := by decide +kernel
theorem dX12_both_6 : decode mX12_both.2.1 6 = .ok (.iload_n 1, 1) := by decide +kernel
theorem dX12_both_7 : decode mX12_both.2.1 7 = .ok (.invokevirtual 245, 3) := by decide +kernel
theorem dX12_both_10 : decode mX12_both.2.1 10 = .ok (.ifCond .eq 24, 3) := by decide +kernel
theorem dX12_both_13 : decode mX12_both.2.1 13 = .ok (.aload_n 0, 1) := by decide +kernel
theorem dX12_both_14 : decode mX12_both.2.1 14 = .ok (.iload_n 2, 1) := by decide +kernel
theorem dX12_both_15 : decode mX12_both.2.1 15 = .ok (.invokevirtual 245, 3) := by decide +kernel
theorem dX12_both_18 : decode mX12_both.2.1 18 = .ok (.ifCond .eq 16, 3) := by decide +kernel
theorem dX12_both_21 : decode mX12_both.2.1 21 = .ok (.iload_n 1, 1) := by decide +kernel
theorem dX12_both_22 : decode mX12_both.2.1 22 = .ok (.iload_n 2, 1) := by decide +kernel
theorem dX12_both_23 : decode mX12_both.2.1 23 = .ok (.if_icmp .eq 11, 3) := by decide +kernel
theorem dX12_both_26 : decode mX12_both.2.1 26 = .ok (.aload_n 0, 1) := by decide +kernel
theorem dX12_both_27 : decode mX12_both.2.1 27 = .ok (.iload_n 3, 1) := by decide +kernel
theorem dX12_both_28 : decode mX12_both.2.1 28 = .ok (.invokevirtual 257, 3) := by decide +kernel
theorem dX12_both_31 : decode mX12_both.2.1 31 = .ok (.ifCond .ne 5, 3) := by decide +kernel
theorem dX12_both_34 : decode mX12_both.2.1 34 = .ok (.iconst (-1), 1) := by decide +kernel
theorem dX12_both_35 : decode mX12_both.2.1 35 = .ok (.ireturn, 1) := by decide +kernel
theorem dX12_both_36 : decode mX12_both.2.1 36 = .ok (.aload_n 0, 1) := by decide +kernel
theorem dX12_both_37 : decode mX12_both.2.1 37 = .ok (.aload_n 0, 1) := by decide +kernel
theorem dX12_both_38 : decode mX12_both.2.1 38 = .ok (.iload_n 3, 1) := by decide +kernel
theorem dX12_both_39 : decode mX12_both.2.1 39 = .ok (.invokevirtual 314, 3) := by decide +kernel
theorem dX12_both_42 : decode mX12_both.2.1 42 = .ok (.iconst 1, 1) := by decide +kernel
theorem dX12_both_43 : decode mX12_both.2.1 43 = .ok (.iload_n 1, 1) := by decide +kernel
theorem dX12_both_44 : decode mX12_both.2.1 44 = .ok (.ishl, 1) := by decide +kernel
theorem dX12_both_45 : decode mX12_both.2.1 45 = .ok (.iconst 1, 1) := by decide +kernel
theorem dX12_both_46 : decode mX12_both.2.1 46 = .ok (.iload_n 2, 1) := by decide +kernel
theorem dX12_both_47 : decode mX12_both.2.1 47 = .ok (.ishl, 1) := by decide +kernel
theorem dX12_both_48 : decode mX12_both.2.1 48 = .ok (.ior, 1) := by decide +kernel
theorem dX12_both_49 : decode mX12_both.2.1 49 = .ok (.invokevirtual 317, 3) := by decide +kernel
theorem dX12_both_52 : decode mX12_both.2.1 52 = .ok (.aload_n 0, 1) := by decide +kernel
theorem dX12_both_53 : decode mX12_both.2.1 53 = .ok (.getfield 127, 3) := by decide +kernel
theorem dX12_both_56 : decode mX12_both.2.1 56 = .ok (.aload_n 0, 1) := by decide +kernel
theorem dX12_both_57 : decode mX12_both.2.1 57 = .ok (.iload_n 1, 1) := by decide +kernel
theorem dX12_both_58 : decode mX12_both.2.1 58 = .ok (.invokevirtual 321, 3) := by decide +kernel
theorem dX12_both_61 : decode mX12_both.2.1 61 = .ok (.iaload, 1) := by decide +kernel
theorem dX12_both_62 : decode mX12_both.2.1 62 = .ok (.istore 4, 2) := by decide +kernel
theorem dX12_both_64 : decode mX12_both.2.1 64 = .ok (.aload_n 0, 1) := by decide +kernel
theorem dX12_both_65 : decode mX12_both.2.1 65 = .ok (.getfield 127, 3) := by decide +kernel
theorem dX12_both_68 : decode mX12_both.2.1 68 = .ok (.aload_n 0, 1) := by decide +kernel
theorem dX12_both_69 : decode mX12_both.2.1 69 = .ok (.iload_n 2, 1) := by decide +kernel
theorem dX12_both_70 : decode mX12_both.2.1 70 = .ok (.invokevirtual 321, 3) := by decide +kernel
theorem dX12_both_73 : decode mX12_both.2.1 73 = .ok (.iaload, 1) := by decide +kernel
theorem dX12_both_74 : decode mX12_both.2.1 74 = .ok (.istore 5, 2) := by decide +kernel
theorem dX12_both_76 : decode mX12_both.2.1 76 = .ok (.iload 4, 2) := by decide +kernel
theorem dX12_both_78 : decode mX12_both.2.1 78 = .ok (.ldc_w 303, 3) := by decide +kernel
theorem dX12_both_81 : decode mX12_both.2.1 81 = .ok (.if_icmp .eq 11, 3) := by decide +kernel
theorem dX12_both_84 : decode mX12_both.2.1 84 = .ok (.iload 5, 2) := by decide +kernel
theorem dX12_both_86 : decode mX12_both.2.1 86 = .ok (.ldc_w 303, 3) := by decide +kernel
theorem dX12_both_89 : decode mX12_both.2.1 89 = .ok (.if_icmp .ne 5, 3) := by decide +kernel
theorem dX12_both_92 : decode mX12_both.2.1 92 = .ok (.iconst (-1), 1) := by decide +kernel
theorem dX12_both_93 : decode mX12_both.2.1 93 = .ok (.ireturn, 1) := by decide +kernel
theorem dX12_both_94 : decode mX12_both.2.1 94 = .ok (.iload 4, 2) := by decide +kernel
theorem dX12_both_96 : decode mX12_both.2.1 96 = .ok (.iload 5, 2) := by decide +kernel
theorem dX12_both_98 : decode mX12_both.2.1 98 = .ok (.if_icmp .le 8, 3) := by decide +kernel
theorem dX12_both_101 : decode mX12_both.2.1 101 = .ok (.iload 4, 2) := by decide +kernel
theorem dX12_both_103 : decode mX12_both.2.1 103 = .ok (.goto 5, 3) := by decide +kernel
theorem dX12_both_106 : decode mX12_both.2.1 106 = .ok (.iload 5, 2) := by decide +kernel
theorem dX12_both_108 : decode mX12_both.2.1 108 = .ok (.ireturn, 1) := by decide +kernel
set_option maxRecDepth 4000 in
theorem ev_X12_both {m : Mem} {G : Mem} {B : Int} {p : Int} {o : Int} {q : Int} (hb : Bg G 8 18 (m 216)) (hdn : DnOk G 8) (hst : StOk G 8 18 B) (hp : InR p) (ho : InR o) (hq : InR q) : Ev 0 8 mX12_both [vr 214, vi p, vi o, vi q] m (fun r m' => BoM m G p o q r m') := by
  refine Ev.of (L := [vr 214, vi p, vi o, vi q, un, un]) (by decide +kernel) rfl (Nat.le_of_ble_eq_true rfl) rfl (fun t ht => by cases ht; first | exact Or.inl rfl | exact Or.inr (Or.inl rfl) | exact Or.inr (Or.inr rfl)) (fun hcan => ?_)
  obtain ⟨⟨hd0, hd1⟩, ⟨hd2, hd3⟩, ⟨hd4, hd5⟩, ⟨hd6, hd7⟩, ⟨hd8, hd9⟩, hdf, hdp, hdq⟩ := id hdn
  refine go_aload_n dX12_both_0 rfl ?_
  refine go_iconst dX12_both_1 ?_
  refine go_putf_i (ki := 0) dX12_both_2 fw_12_1 ob_214 rfl rfl ⟨by omega, by omega⟩ ?_
  refine go_aload_n dX12_both_5 rfl ?_
  refine go_iload_n dX12_both_6 rfl ?_
  refine go_callVp_z (as := [vi p]) (S := []) (b := 214) (ev_X12_isPerson (m := (wr m 214 0 0)) (f := p) (G := G) (d := 8) (st := 18) (by first | exact hb | exact hb.w (by decide) | exact (hb.w (by decide)).w (by decide)) (by first | assumption | omega | exact ⟨by omega, by omega⟩ | (constructor <;> omega)) (by first | assumption | omega | exact ⟨by omega, by omega⟩ | (constructor <;> omega))) rfl dX12_both_7 cv_12_245 rfl rfl ob_214 rfl (by decide) (Nat.le_of_ble_eq_true rfl) (fun r_7 hr_7 ho_7 => ?_)
  refine go_if_eq (tgt := 34) dX12_both_10 (by decide) ⟨by omega, by omega⟩ (fun h_10 => ?_) (fun h_10 => ?_)
  · refine go_iconst dX12_both_34 ?_
    exact go_ret (v := (-1)) rfl dX12_both_35 (okI ⟨by omega, by omega⟩) ⟨fun b h1 h2 => wr_row h1, rfl, Or.inl ⟨by omega, rfl⟩⟩
  · refine go_aload_n dX12_both_13 rfl ?_
    refine go_iload_n dX12_both_14 rfl ?_
    refine go_callVp_z (as := [vi o]) (S := []) (b := 214) (ev_X12_isPerson (m := (wr m 214 0 0)) (f := o) (G := G) (d := 8) (st := 18) (by first | exact hb | exact hb.w (by decide) | exact (hb.w (by decide)).w (by decide)) (by first | assumption | omega | exact ⟨by omega, by omega⟩ | (constructor <;> omega)) (by first | assumption | omega | exact ⟨by omega, by omega⟩ | (constructor <;> omega))) rfl dX12_both_15 cv_12_245 rfl rfl ob_214 rfl (by decide) (Nat.le_of_ble_eq_true rfl) (fun r_15 hr_15 ho_15 => ?_)
    refine go_if_eq (tgt := 34) dX12_both_18 (by decide) ⟨by omega, by omega⟩ (fun h_18 => ?_) (fun h_18 => ?_)
    · refine go_iconst dX12_both_34 ?_
      exact go_ret (v := (-1)) rfl dX12_both_35 (okI ⟨by omega, by omega⟩) ⟨fun b h1 h2 => wr_row h1, rfl, Or.inl ⟨by omega, rfl⟩⟩
    · refine go_iload_n dX12_both_21 rfl ?_
      refine go_iload_n dX12_both_22 rfl ?_
      refine go_icmp_eq (tgt := 34) dX12_both_23 (by decide) ⟨by omega, by omega⟩ ⟨by omega, by omega⟩ (fun h_23 => ?_) (fun h_23 => ?_)
      · refine go_iconst dX12_both_34 ?_
        exact go_ret (v := (-1)) rfl dX12_both_35 (okI ⟨by omega, by omega⟩) ⟨fun b h1 h2 => wr_row h1, rfl, Or.inl ⟨by omega, rfl⟩⟩
      · refine go_aload_n dX12_both_26 rfl ?_
        refine go_iload_n dX12_both_27 rfl ?_
        refine go_callVp_z (as := [vi q]) (S := []) (b := 214) (ev_X12_isPoint (m := (wr m 214 0 0)) (f := q) (G := G) (d := 8) (st := 18) (by first | exact hb | exact hb.w (by decide) | exact (hb.w (by decide)).w (by decide)) (by first | assumption | omega | exact ⟨by omega, by omega⟩ | (constructor <;> omega)) (by first | assumption | omega | exact ⟨by omega, by omega⟩ | (constructor <;> omega))) rfl dX12_both_28 cv_12_257 rfl rfl ob_214 rfl (by decide) (Nat.le_of_ble_eq_true rfl) (fun r_28 hr_28 ho_28 => ?_)
        refine go_if_ne (tgt := 36) dX12_both_31 (by decide) ⟨by omega, by omega⟩ (fun h_31 => ?_) (fun h_31 => ?_)
        · refine go_aload_n dX12_both_36 rfl ?_
          refine go_aload_n dX12_both_37 rfl ?_
          refine go_iload_n dX12_both_38 rfl ?_
          refine go_callVp_i (as := [vi q]) (S := [vr 214]) (b := 214) (ev_X12_goalOf (m := (wr m 214 0 0)) (q := q) (G := G) (by first | exact hb | exact hb.w (by decide) | exact (hb.w (by decide)).w (by decide)) (by first | assumption | omega | exact ⟨by omega, by omega⟩ | (constructor <;> omega)) (by first | assumption | omega | exact ⟨by omega, by omega⟩ | (constructor <;> omega))) rfl dX12_both_39 cv_12_314 rfl rfl ob_214 rfl (by decide) (Nat.le_of_ble_eq_true rfl) (fun r_39 hr_39 ho_39 => ?_)
          subst hr_39
          refine go_iconst dX12_both_42 ?_
          refine go_iload_n dX12_both_43 rfl ?_
          refine go_ishl dX12_both_44 ?_
          refine go_iconst dX12_both_45 ?_
          refine go_iload_n dX12_both_46 rfl ?_
          refine go_ishl dX12_both_47 ?_
          refine go_ior dX12_both_48 ?_
          refine go_callV_v (as := [vi (golC G q), vi (ior (ishl 1 p) (ishl 1 o))]) (S := []) (b := 214) (ev_X12_layTo (m := (wr m 214 0 0)) (g := (golC G q)) (but := (ior (ishl 1 p) (ishl 1 o))) (G := G) (B := B) (p := p) (a := o) (by first | exact hb | exact hb.w (by decide) | exact (hb.w (by decide)).w (by decide)) (by first | assumption | omega | exact ⟨by omega, by omega⟩ | (constructor <;> omega)) (by first | assumption | omega | exact ⟨by omega, by omega⟩ | (constructor <;> omega)) (fun w o0 o1 => bit2 (by omega) (by omega) (by omega) (by omega) o0 (by omega)) (golC_v hdn (by omega) (by omega))) rfl dX12_both_49 cv_12_317 rfl rfl ob_214 rfl (by decide) (Nat.le_of_ble_eq_true rfl) (fun m_49 hr_49 => ?_)
          obtain ⟨hf49, hl49⟩ := hr_49
          have hb49 : Bg G 8 18 (m_49 216) := by rw [hf49 216 (by decide)]; exact hb.w (by decide)
          have hvp : VS G 8 (stdC G p) := stdC_v hdn hst (by omega) (by omega)
          have hvo : VS G 8 (stdC G o) := stdC_v hdn hst (by omega) (by omega)
          have hp324 := hvp.lt hdn
          have hp0 := hvp.1
          have ho324 := hvo.lt hdn
          have ho0 := hvo.1
          have hl1 := hl49 _ hvp
          have hl2 := hl49 _ hvo
          obtain ⟨N1, hN1⟩ : ∃ z, z = m_49 225 (stdC G p) := ⟨_, rfl⟩
          obtain ⟨N2, hN2⟩ : ∃ z, z = m_49 225 (stdC G o) := ⟨_, rfl⟩
          rw [← hN1] at hl1
          rw [← hN2] at hl2
          have hfr : (∀ b : Nat, b ≠ 214 → b ≠ 225 → m_49 b = m b) ∧ m_49 214 = wr m 214 0 0 214 := ⟨fun b h1 h2 => by rw [hf49 b h2, wr_row h1], hf49 214 (by decide)⟩
          refine go_aload_n dX12_both_52 rfl ?_
          refine go_getf_p (b := 225) dX12_both_53 fl_12_127 ob_214 rfl pt_214_26 ?_
          refine go_aload_n dX12_both_56 rfl ?_
          refine go_iload_n dX12_both_57 rfl ?_
          refine go_callVp_i (as := [vi p]) (S := [vr 225]) (b := 214) (ev_X12_placeOf (m := m_49) (p := p) (G := G) (B := B) hb49 (by first | assumption | omega | exact ⟨by omega, by omega⟩ | (constructor <;> omega)) (by first | assumption | omega | exact ⟨by omega, by omega⟩ | (constructor <;> omega)) (by first | assumption | omega | exact ⟨by omega, by omega⟩ | (constructor <;> omega))) rfl dX12_both_58 cv_12_321 rfl rfl ob_214 rfl (by decide) (Nat.le_of_ble_eq_true rfl) (fun r_58 hr_58 ho_58 => ?_)
          subst hr_58
          refine go_iaload dX12_both_61 ar_225 (by omega) (by omega) (fun he_61 => ?_)
          rw [show (m_49 225 (stdC G p) : Int) = N1 from hN1.symm] at he_61 ⊢
          refine go_istore (L' := [vr 214, vi p, vi o, vi q, vi N1, un]) dX12_both_62 (by decide) rfl rfl ?_
          refine go_aload_n dX12_both_64 rfl ?_
          refine go_getf_p (b := 225) dX12_both_65 fl_12_127 ob_214 rfl pt_214_26 ?_
          refine go_aload_n dX12_both_68 rfl ?_
          refine go_iload_n dX12_both_69 rfl ?_
          refine go_callVp_i (as := [vi o]) (S := [vr 225]) (b := 214) (ev_X12_placeOf (m := m_49) (p := o) (G := G) (B := B) hb49 (by first | assumption | omega | exact ⟨by omega, by omega⟩ | (constructor <;> omega)) (by first | assumption | omega | exact ⟨by omega, by omega⟩ | (constructor <;> omega)) (by first | assumption | omega | exact ⟨by omega, by omega⟩ | (constructor <;> omega))) rfl dX12_both_70 cv_12_321 rfl rfl ob_214 rfl (by decide) (Nat.le_of_ble_eq_true rfl) (fun r_70 hr_70 ho_70 => ?_)
          subst hr_70
          refine go_iaload dX12_both_73 ar_225 (by omega) (by omega) (fun he_73 => ?_)
          rw [show (m_49 225 (stdC G o) : Int) = N2 from hN2.symm] at he_73 ⊢
          refine go_istore (L' := [vr 214, vi p, vi o, vi q, vi N1, vi N2]) dX12_both_74 (by decide) rfl rfl ?_
          refine go_iload dX12_both_76 rfl ?_
          refine go_ldcw (x := 100000) dX12_both_78 k_12_303 ?_
          refine go_icmp_eq (tgt := 92) dX12_both_81 (by decide) ⟨by omega, by omega⟩ ⟨by omega, by omega⟩ (fun h_81 => ?_) (fun h_81 => ?_)
          · refine go_iconst dX12_both_92 ?_
            exact go_ret (v := (-1)) rfl dX12_both_93 (okI ⟨by omega, by omega⟩) ⟨hfr.1, hfr.2, Or.inr ⟨by omega, Or.inr ⟨rfl, by rcases hl1 with ⟨-, h⟩ | ⟨-, h, -⟩; exact Or.inl h; (rcases hl2 with ⟨-, k⟩ | ⟨-, k, -⟩; exact Or.inr k; (exfalso; omega))⟩⟩⟩
          · refine go_iload dX12_both_84 rfl ?_
            refine go_ldcw (x := 100000) dX12_both_86 k_12_303 ?_
            refine go_icmp_ne (tgt := 94) dX12_both_89 (by decide) ⟨by omega, by omega⟩ ⟨by omega, by omega⟩ (fun h_89 => ?_) (fun h_89 => ?_)
            · have hk1 := hl1.resolve_left (fun h => by omega)
              have hk2 := hl2.resolve_left (fun h => by omega)
              refine go_iload dX12_both_94 rfl ?_
              refine go_iload dX12_both_96 rfl ?_
              refine go_icmp_le (tgt := 106) dX12_both_98 (by decide) ⟨by omega, by omega⟩ ⟨by omega, by omega⟩ (fun h_98 => ?_) (fun h_98 => ?_)
              · refine go_iload dX12_both_106 rfl ?_
                exact go_ret (v := N2) rfl dX12_both_108 (okI ⟨by omega, by omega⟩) ⟨hfr.1, hfr.2, Or.inr ⟨by omega, Or.inl ⟨N1.toNat, N2.toNat, ⟨hk1.2.2.1, fun j hj => hk1.2.2.2 j (by omega)⟩, ⟨hk2.2.2.1, fun j hj => hk2.2.2.2 j (by omega)⟩, by omega⟩⟩⟩
              · refine go_iload dX12_both_101 rfl ?_
                refine go_goto (tgt := 108) dX12_both_103 (by decide) ?_
                exact go_ret (v := N1) rfl dX12_both_108 (okI ⟨by omega, by omega⟩) ⟨hfr.1, hfr.2, Or.inr ⟨by omega, Or.inl ⟨N1.toNat, N2.toNat, ⟨hk1.2.2.1, fun j hj => hk1.2.2.2 j (by omega)⟩, ⟨hk2.2.2.1, fun j hj => hk2.2.2.2 j (by omega)⟩, by omega⟩⟩⟩
            · refine go_iconst dX12_both_92 ?_
              exact go_ret (v := (-1)) rfl dX12_both_93 (okI ⟨by omega, by omega⟩) ⟨hfr.1, hfr.2, Or.inr ⟨by omega, Or.inr ⟨rfl, by rcases hl1 with ⟨-, h⟩ | ⟨-, h, -⟩; exact Or.inl h; (rcases hl2 with ⟨-, k⟩ | ⟨-, k, -⟩; exact Or.inr k; (exfalso; omega))⟩⟩⟩
        · refine go_iconst dX12_both_34 ?_
          exact go_ret (v := (-1)) rfl dX12_both_35 (okI ⟨by omega, by omega⟩) ⟨fun b h1 h2 => wr_row h1, rfl, Or.inl ⟨by omega, rfl⟩⟩
