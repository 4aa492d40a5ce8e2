/-! ===== fields, arrays, statics ===== -/
def FL (own : String) (idx ci k : Nat) : Prop := ∃ (C : String) (T : u_T) (N : Nat), cls[ci]? = some (C, T, N) ∧ k < N ∧ (∀ w ∈ u_ws C T N, w ∈ tblG) ∧ (∀ j, j < N → parseFieldDescriptor (T j).2.2.1 = some (cty ci j)) ∧ (∀ a, a < N → ∀ b, b < N → a ≠ b → (T a).2.1 ≠ (T b).2.1) ∧ ((Cond.fieldLink own idx (T k).1 (T k).2.1 (T k).2.2.1 ∈ tblG) ∨ ∃ host, Cond.fieldLinkNest own idx (T k).1 (T k).2.1 (T k).2.2.1 host ∈ nestW)
def FLw (own : String) (idx ci k : Nat) : Prop := FL own idx ci k ∧ ∀ (q : vw_C), cls[ci]? = some q → (q.2.1 k).2.2.2 = false
def ob (a ci : Nat) : Prop := a < NC ∧ sk a = ci ∧ ci < 100 ∧ ∀ (q : vw_C), cls[ci]? = some q → sn a = q.2.2
def ar (a kd n : Nat) : Prop := a < NC ∧ sk a = 100 + kd ∧ sn a = n ∧ n < 2147483648
theorem cellE_ob {cA : Nat → ClassId} {ad : Nat → Nat} {m : Mem} {a ci : Nat} (h : ob a ci) : cellE cA ad m a = .inr (ci, objFs ad m a) := by
  unfold cellE; rw [if_pos (by rw [h.2.1]; exact h.2.2.1), h.2.1]
theorem objFs_at {ad : Nat → Nat} {m : Mem} {a k : Nat} (h : k < sn a) : (objFs ad m a)[k]? = some (fval (cty (sk a) k) ad (m a (k : Int)) (sp a k)) := by
  simp [objFs, h]
theorem objFs_set {ad : Nat → Nat} {m : Mem} {a k : Nat} {x : Int} (h : k < sn a) : (objFs ad m a).set k (fval (cty (sk a) k) ad x (sp a k)) = objFs ad (wr m a (k : Int) x) a := by
  apply List.ext_getElem?
  intro j
  rw [List.getElem?_set]
  by_cases hj : k = j
  · subst hj
    rw [if_pos rfl, objFs_at h, wr_self]
    simp [objFs, h]
  · rw [if_neg hj]
    by_cases hl : j < sn a
    · rw [objFs_at hl, objFs_at hl, wr_ni (by omega)]
    · simp [objFs, hl]

theorem tyOf_ob {a ci : Nat} (ho : ob a ci) (k : Nat) : tyOf a (k : Int) = cty ci k := by
  unfold tyOf; rw [if_pos (by rw [ho.2.1]; exact ho.2.2.1), ho.2.1]; rfl
theorem go_getf {g d : Nat} {Y : MD} {Q : Int → Mem → Prop} {pc : Nat} {L S : List AV} {m : Mem} {a ci fk idx : Nat} {v : AV} (hd : decode Y.2.1 pc = .ok (.getfield idx, 3)) (hf : FL Y.1.cls idx ci fk) (ho : ob a ci) (hv : ∀ ad, fval (cty ci fk) ad (m a (fk : Int)) (sp a fk) = toV ad v) (k : inTy (cty ci fk) (m a (fk : Int)) → Go g d Y Q (pc + 3) L (v :: S) m) : Go g d Y Q pc L (vr a :: S) m := by
  obtain ⟨C, T, N, h1, h2, h3, h4, h5, h6⟩ := hf
  intro l D cA ad A p e R s mth args below meth c Z hC hE ls H locs cells slots hR hL hc hs
  have hk : fk < sn a := by rw [ho.2.2.2 _ h1]; exact h2
  have k := (k (by have := (hR.2.2.2 a (fk : Int)).1; rw [tyOf_ob ho] at this; exact this) l D cA ad A p e R s mth args below meth c Z hC hE ls H locs cells slots hR hL hc hs)
  have he : (Wd cA ad m)[a]? = some (ad a, .inr (ci, objFs ad m a)) := by rw [Wd_at ho.1, cellE_ob ho]
  have hat : (objFs ad m a)[fk]? = some (toV ad v) := by rw [objFs_at hk, ho.2.1, hv ad]
  rcases h6 with h6 | ⟨host, h6⟩
  · exact va_get hC.1 hC.2.1 hC.2.2.2.2.1 h3 hC.2.2.2.1 hC.2.2.2.2.2.2.1 hR.1 a he h1 fk h2 (hC.2.2.2.2.1 _ h6) (fun _ h => h) hat hd k
  · exact va_getN hC.1 hC.2.1 hC.2.2.2.2.1 h3 hC.2.2.2.1 hC.2.2.2.2.2.2.1 hR.1 a he h1 fk h2 (va_Nw.use rfl (hC.2.2.2.2.2.1 _ h6)) (fun _ h => h) hat hd k
theorem go_getf_i {g d : Nat} {Y : MD} {Q : Int → Mem → Prop} {pc : Nat} {L S : List AV} {m : Mem} {a ci fk idx : Nat} {ki : Int} (hd : decode Y.2.1 pc = .ok (.getfield idx, 3)) (hf : FL Y.1.cls idx ci fk) (ho : ob a ci) (ht : cty ci fk = .int) (hk : (fk : Int) = ki) (k : InR (m a ki) → Go g d Y Q (pc + 3) L (vi (m a ki) :: S) m) : Go g d Y Q pc L (vr a :: S) m := by
  subst hk
  exact go_getf hd hf ho (v := vi (m a (fk : Int))) (fun ad => by rw [ht]; rfl) (fun h => k (by rw [ht] at h; exact h))
theorem go_getf_z {g d : Nat} {Y : MD} {Q : Int → Mem → Prop} {pc : Nat} {L S : List AV} {m : Mem} {a ci fk idx : Nat} {ki : Int} (hd : decode Y.2.1 pc = .ok (.getfield idx, 3)) (hf : FL Y.1.cls idx ci fk) (ho : ob a ci) (ht : cty ci fk = .boolean) (hk : (fk : Int) = ki) (k : (m a ki = 0 ∨ m a ki = 1) → Go g d Y Q (pc + 3) L (vi (m a ki) :: S) m) : Go g d Y Q pc L (vr a :: S) m := by
  subst hk
  exact go_getf hd hf ho (v := vi (m a (fk : Int))) (fun ad => by rw [ht]; rfl) (fun h => k (by rw [ht] at h; exact h))
theorem go_getf_l {g d : Nat} {Y : MD} {Q : Int → Mem → Prop} {pc : Nat} {L S : List AV} {m : Mem} {a ci fk idx : Nat} {ki : Int} (hd : decode Y.2.1 pc = .ok (.getfield idx, 3)) (hf : FL Y.1.cls idx ci fk) (ho : ob a ci) (ht : cty ci fk = .long) (hk : (fk : Int) = ki) (k : InL (m a ki) → Go g d Y Q (pc + 3) L (vl (m a ki) :: S) m) : Go g d Y Q pc L (vr a :: S) m := by
  subst hk
  exact go_getf hd hf ho (v := vl (m a (fk : Int))) (fun ad => by rw [ht]; rfl) (fun h => k (by rw [ht] at h; exact h))
def isP (t : FieldType) : Bool := match t with
  | .object _ => true
  | .array _ => true
  | _ => false
theorem go_getf_p {g d : Nat} {Y : MD} {Q : Int → Mem → Prop} {pc : Nat} {L S : List AV} {m : Mem} {a ci fk idx b : Nat} (hd : decode Y.2.1 pc = .ok (.getfield idx, 3)) (hf : FL Y.1.cls idx ci fk) (ho : ob a ci) (ht : isP (cty ci fk) = true) (hp : sp a fk = b) (k : Go g d Y Q (pc + 3) L (vr b :: S) m) : Go g d Y Q pc L (vr a :: S) m := by
  subst hp
  refine go_getf hd hf ho (v := vr (sp a fk)) (fun ad => ?_) (fun _ => k)
  cases h : cty ci fk <;> rw [h] at ht <;> first | rfl | cases ht
theorem go_putf {g d : Nat} {Y : MD} {Q : Int → Mem → Prop} {pc : Nat} {L S : List AV} {m : Mem} {a ci fk idx : Nat} {x : Int} {v : AV} (hd : decode Y.2.1 pc = .ok (.putfield idx, 3)) (hf : FLw Y.1.cls idx ci fk) (ho : ob a ci) (hv : ∀ ad, fval (cty ci fk) ad x (sp a fk) = toV ad v) (hx : inTy (cty ci fk) x) (hn : ∀ ad, narrow (cty ci fk) (toV ad v) = toV ad v) (hfit : ∀ ad, fits (cty ci fk) (toV ad v) = true) (k : Go g d Y Q (pc + 3) L S (wr m a (fk : Int) x)) : Go g d Y Q pc L (v :: vr a :: S) m := by
  obtain ⟨⟨C, T, N, h1, h2, h3, h4, h5, h6⟩, h7⟩ := hf
  intro l D cA ad A p e R s mth args below meth c Z hC hE ls H locs cells slots hR hL hc hs
  have hk : fk < sn a := by rw [ho.2.2.2 _ h1]; exact h2
  have he : (Wd cA ad m)[a]? = some (ad a, .inr (ci, objFs ad m a)) := by rw [Wd_at ho.1, cellE_ob ho]
  have hset : (Wd cA ad m).set a (ad a, .inr (ci, (objFs ad m a).set fk (toV ad v))) = Wd cA ad (wr m a (fk : Int) x) := by
    have e1 := objFs_set (ad := ad) (m := m) (x := x) hk
    rw [ho.2.1, hv ad] at e1
    rw [e1, ← cellE_ob (cA := cA) ho]
    exact Wd_set (fun b hb => wr_row hb)
  have hcan : Can (wr m a (fk : Int) x) := can_wr hR.2.2.2 ho.1 (by omega) (by omega) (by rw [tyOf_ob ho]; exact hx)
  have kk : ∀ (H1 : Heap) (locs1 : List Loc), va_P D cls ((Wd cA ad m).set a (ad a, .inr (ci, (objFs ad m a).set fk (toV ad v)))) H1 → va_D A ((Wd cA ad m).set a (ad a, .inr (ci, (objFs ad m a).set fk (toV ad v)))) → va_S A s.heap H1 locs1 → W p l e R s mth args below meth c H1 locs1 cells slots Z (F0 mth (pc + 3) ls (S.map (toV ad))) := by
    intro H1 locs1 q1 q2 q3
    rw [hset] at q1 q2
    exact k l D cA ad A p e R s mth args below meth c Z hC hE ls H1 locs1 cells slots ⟨q1, q2, q3, hcan⟩ hL hc hs
  have hlen : fk < (objFs ad m a).length := by simp [objFs, hk]
  rcases h6 with h6 | ⟨host, h6⟩
  · exact va_put hC.1 hC.2.1 hC.2.2.2.2.1 h3 (cty ci) h4 h5 hC.2.2.2.1 hC.2.2.2.2.2.2.1 hR.1 hR.2.1 hR.2.2.1 a he h1 fk h2 (hC.2.2.2.2.1 _ h6) (fun _ h => h) (h7 _ h1) (h4 fk h2) (hn ad) (hfit ad) hlen hd kk
  · exact va_putN hC.1 hC.2.1 hC.2.2.2.2.1 h3 (cty ci) h4 h5 hC.2.2.2.1 hC.2.2.2.2.2.2.1 hR.1 hR.2.1 hR.2.2.1 a he h1 fk h2 (va_Nw.use rfl (hC.2.2.2.2.2.1 _ h6)) (fun _ h => h) (h7 _ h1) (h4 fk h2) (hn ad) (hfit ad) hlen hd kk
theorem go_putf_i {g d : Nat} {Y : MD} {Q : Int → Mem → Prop} {pc : Nat} {L S : List AV} {m : Mem} {a ci fk idx : Nat} {ki x : Int} (hd : decode Y.2.1 pc = .ok (.putfield idx, 3)) (hf : FLw Y.1.cls idx ci fk) (ho : ob a ci) (ht : cty ci fk = .int) (hk : (fk : Int) = ki) (hx : InR x) (k : Go g d Y Q (pc + 3) L S (wr m a ki x)) : Go g d Y Q pc L (vi x :: vr a :: S) m := by
  subst hk
  exact go_putf (x := x) hd hf ho (fun ad => by rw [ht]; rfl) (by rw [ht]; exact hx) (fun ad => by rw [ht]; rfl) (fun ad => by rw [ht]; rfl) k
theorem go_putf_l {g d : Nat} {Y : MD} {Q : Int → Mem → Prop} {pc : Nat} {L S : List AV} {m : Mem} {a ci fk idx : Nat} {ki x : Int} (hd : decode Y.2.1 pc = .ok (.putfield idx, 3)) (hf : FLw Y.1.cls idx ci fk) (ho : ob a ci) (ht : cty ci fk = .long) (hk : (fk : Int) = ki) (hx : InL x) (k : Go g d Y Q (pc + 3) L S (wr m a ki x)) : Go g d Y Q pc L (vl x :: vr a :: S) m := by
  subst hk
  exact go_putf (x := x) hd hf ho (fun ad => by rw [ht]; rfl) (by rw [ht]; exact hx) (fun ad => by rw [ht]; rfl) (fun ad => by rw [ht]; rfl) k
theorem go_putf_z {g d : Nat} {Y : MD} {Q : Int → Mem → Prop} {pc : Nat} {L S : List AV} {m : Mem} {a ci fk idx : Nat} {ki x : Int} (hd : decode Y.2.1 pc = .ok (.putfield idx, 3)) (hf : FLw Y.1.cls idx ci fk) (ho : ob a ci) (ht : cty ci fk = .boolean) (hk : (fk : Int) = ki) (hx : x = 0 ∨ x = 1) (k : Go g d Y Q (pc + 3) L S (wr m a ki x)) : Go g d Y Q pc L (vi x :: vr a :: S) m := by
  subst hk
  exact go_putf (x := x) hd hf ho (fun ad => by rw [ht]; rfl) (by rw [ht]; exact hx) (fun ad => by rw [ht]; rcases hx with rfl | rfl <;> rfl) (fun ad => by rw [ht]; rcases hx with rfl | rfl <;> rfl) k
theorem cellE_i {cA : Nat → ClassId} {ad : Nat → Nat} {m : Mem} {a kd n : Nat} (h : ar a kd n) (hk : kd < 3) : cellE cA ad m a = .inl (cA kd, n, .inl (fun j => Int32.ofInt (m a (j : Int)))) := by
  unfold cellE; rw [h.2.1, if_neg (by omega), if_pos (by omega), h.2.2.1, Nat.add_sub_cancel_left]
theorem cellE_l {cA : Nat → ClassId} {ad : Nat → Nat} {m : Mem} {a n : Nat} (h : ar a 3 n) : cellE cA ad m a = .inl (cA 3, n, .inr (.inl (fun j => Int64.ofInt (m a (j : Int))))) := by
  unfold cellE; rw [h.2.1, if_neg (by omega), if_neg (by omega), if_pos rfl, h.2.2.1]
theorem cellE_q {cA : Nat → ClassId} {ad : Nat → Nat} {m : Mem} {a kd n : Nat} (h : ar a kd n) (hk : 3 < kd) : cellE cA ad m a = .inl (cA kd, n, .inr (.inr (.inr (.inr (fun j => some (ad (sp a j))))))) := by
  unfold cellE; rw [h.2.1, if_neg (by omega), if_neg (by omega), if_neg (by omega), h.2.2.1, Nat.add_sub_cancel_left]
theorem tys_at {cA : Nat → ClassId} {k : Nat} (h : k < 6) : (tys cA)[k]? = some (cA k, ety k) := by simp [tys, h]
theorem tyOf_ar {a kd n : Nat} (h : ar a kd n) (i : Int) : tyOf a i = ety kd := by
  unfold tyOf; rw [h.2.1, if_neg (by omega), Nat.add_sub_cancel_left]
theorem ar_in {a kd n : Nat} (h : ar a kd n) {i : Int} (h0 : 0 ≤ i) (h1 : i < n) : InR i := ⟨by omega, by have := h.2.2.2; omega⟩
theorem upd_i {m : Mem} {a : Nat} {i x : Int} (h0 : 0 ≤ i) : upd (fun j => Int32.ofInt (m a (j : Int))) i.toNat (Int32.ofInt x) = fun (j : Nat) => Int32.ofInt (wr m a i x a (j : Int)) := by
  funext j
  unfold upd
  by_cases h : j = i.toNat
  · rw [if_pos h, h, Int.toNat_of_nonneg h0, wr_self]
  · rw [if_neg h, wr_ni (by omega)]
theorem upd_l {m : Mem} {a : Nat} {i x : Int} (h0 : 0 ≤ i) : vp_updL (fun j => Int64.ofInt (m a (j : Int))) i.toNat (Int64.ofInt x) = fun (j : Nat) => Int64.ofInt (wr m a i x a (j : Int)) := by
  funext j
  unfold vp_updL
  by_cases h : j = i.toNat
  · rw [if_pos h, h, Int.toNat_of_nonneg h0, wr_self]
  · rw [if_neg h, wr_ni (by omega)]

theorem go_iaload {g d : Nat} {Y : MD} {Q : Int → Mem → Prop} {pc : Nat} {L S : List AV} {m : Mem} {a n : Nat} {i : Int} (hd : decode Y.2.1 pc = .ok (.iaload, 1)) (ha : ar a 0 n) (h0 : 0 ≤ i) (h1 : i < n) (k : InR (m a i) → Go g d Y Q (pc + 1) L (vi (m a i) :: S) m) : Go g d Y Q pc L (vi i :: vr a :: S) m := by
  intro l D cA ad A p e R s mth args below meth c Z hC hE ls H locs cells slots hR hL hc hs
  have hi := ar_in ha h0 h1
  have k := (k (by have := (hR.2.2.2 a i).1; rw [tyOf_ar ha] at this; exact this) l D cA ad A p e R s mth args below meth c Z hC hE ls H locs cells slots hR hL hc hs)
  have he : (Wd cA ad m)[a]? = some (ad a, .inl (cA 0, n, .inl (fun j => Int32.ofInt (m a (j : Int))))) := by rw [Wd_at ha.1, cellE_i ha (by omega)]
  refine va_iald hC.1 hC.2.1 hC.2.2.2.2.2.2.1 hR.1 a 0 he (tys_at (by omega)) (hi.inn h0 h1) hd ?_
  rw [hi.cl, Int.toNat_of_nonneg h0]
  exact k

theorem go_baload {g d : Nat} {Y : MD} {Q : Int → Mem → Prop} {pc : Nat} {L S : List AV} {m : Mem} {a n : Nat} {i : Int} (hd : decode Y.2.1 pc = .ok (.baload, 1)) (ha : ar a 1 n) (h0 : 0 ≤ i) (h1 : i < n) (k : (-128 ≤ m a i ∧ m a i < 128) → Go g d Y Q (pc + 1) L (vi (m a i) :: S) m) : Go g d Y Q pc L (vi i :: vr a :: S) m := by
  intro l D cA ad A p e R s mth args below meth c Z hC hE ls H locs cells slots hR hL hc hs
  have hi := ar_in ha h0 h1
  have k := (k (by have := (hR.2.2.2 a i).1; rw [tyOf_ar ha] at this; exact this) l D cA ad A p e R s mth args below meth c Z hC hE ls H locs cells slots hR hL hc hs)
  have he : (Wd cA ad m)[a]? = some (ad a, .inl (cA 1, n, .inl (fun j => Int32.ofInt (m a (j : Int))))) := by rw [Wd_at ha.1, cellE_i ha (by omega)]
  refine va_bald hC.1 hC.2.1 hC.2.2.2.2.2.2.1 hR.1 a 1 he (tys_at (by omega)) (hi.inn h0 h1) hd ?_
  rw [hi.cl, Int.toNat_of_nonneg h0]
  exact k

theorem go_zaload {g d : Nat} {Y : MD} {Q : Int → Mem → Prop} {pc : Nat} {L S : List AV} {m : Mem} {a n : Nat} {i : Int} (hd : decode Y.2.1 pc = .ok (.baload, 1)) (ha : ar a 2 n) (h0 : 0 ≤ i) (h1 : i < n) (k : (m a i = 0 ∨ m a i = 1) → Go g d Y Q (pc + 1) L (vi (m a i) :: S) m) : Go g d Y Q pc L (vi i :: vr a :: S) m := by
  intro l D cA ad A p e R s mth args below meth c Z hC hE ls H locs cells slots hR hL hc hs
  have hi := ar_in ha h0 h1
  have k := (k (by have := (hR.2.2.2 a i).1; rw [tyOf_ar ha] at this; exact this) l D cA ad A p e R s mth args below meth c Z hC hE ls H locs cells slots hR hL hc hs)
  have he : (Wd cA ad m)[a]? = some (ad a, .inl (cA 2, n, .inl (fun j => Int32.ofInt (m a (j : Int))))) := by rw [Wd_at ha.1, cellE_i ha (by omega)]
  refine va_zald hC.1 hC.2.1 hC.2.2.2.2.2.2.1 hR.1 a 2 he (tys_at (by omega)) (hi.inn h0 h1) hd ?_
  rw [hi.cl, Int.toNat_of_nonneg h0]
  exact k

theorem go_laload {g d : Nat} {Y : MD} {Q : Int → Mem → Prop} {pc : Nat} {L S : List AV} {m : Mem} {a n : Nat} {i : Int} (hd : decode Y.2.1 pc = .ok (.laload, 1)) (ha : ar a 3 n) (h0 : 0 ≤ i) (h1 : i < n) (k : InL (m a i) → Go g d Y Q (pc + 1) L (vl (m a i) :: S) m) : Go g d Y Q pc L (vi i :: vr a :: S) m := by
  intro l D cA ad A p e R s mth args below meth c Z hC hE ls H locs cells slots hR hL hc hs
  have hi := ar_in ha h0 h1
  have k := (k (by have := (hR.2.2.2 a i).1; rw [tyOf_ar ha] at this; exact this) l D cA ad A p e R s mth args below meth c Z hC hE ls H locs cells slots hR hL hc hs)
  have he : (Wd cA ad m)[a]? = some (ad a, .inl (cA 3, n, .inr (.inl (fun j => Int64.ofInt (m a (j : Int)))))) := by rw [Wd_at ha.1, cellE_l ha]
  refine va_lald hC.1 hC.2.1 hC.2.2.2.2.2.2.1 hR.1 a 3 he (tys_at (by omega)) (hi.inn h0 h1) hd ?_
  rw [hi.cl, Int.toNat_of_nonneg h0]
  exact k
theorem go_aaload {g d : Nat} {Y : MD} {Q : Int → Mem → Prop} {pc : Nat} {L S : List AV} {m : Mem} {a kd n b : Nat} {i : Int} (hd : decode Y.2.1 pc = .ok (.aaload, 1)) (ha : ar a kd n) (hk : kd = 4 ∨ kd = 5) (h0 : 0 ≤ i) (h1 : i < n) (hb : sp a i.toNat = b) (k : Go g d Y Q (pc + 1) L (vr b :: S) m) : Go g d Y Q pc L (vi i :: vr a :: S) m := by
  subst hb
  intro l D cA ad A p e R s mth args below meth c Z hC hE ls H locs cells slots hR hL hc hs
  have hi := ar_in ha h0 h1
  have k := (k l D cA ad A p e R s mth args below meth c Z hC hE ls H locs cells slots hR hL hc hs)
  have he : (Wd cA ad m)[a]? = some (ad a, .inl (cA kd, n, .inr (.inr (.inr (.inr (fun j => some (ad (sp a j)))))))) := by rw [Wd_at ha.1, cellE_q ha (by omega)]
  rcases hk with rfl | rfl
  · refine va_aldq (C := "CartTurns$State") hC.1 hC.2.1 hC.2.2.2.2.2.2.1 hR.1 a 4 he (tys_at (by omega)) (hi.inn h0 h1) hd ?_
    rw [hi.cl]
    exact k
  · refine va_aldq (C := "CartTurns$World") hC.1 hC.2.1 hC.2.2.2.2.2.2.1 hR.1 a 5 he (tys_at (by omega)) (hi.inn h0 h1) hd ?_
    rw [hi.cl]
    exact k
theorem go_alen {g d : Nat} {Y : MD} {Q : Int → Mem → Prop} {pc : Nat} {L S : List AV} {m : Mem} {a kd n : Nat} {x : Int} (hd : decode Y.2.1 pc = .ok (.arraylength, 1)) (ha : ar a kd n) (hk : kd < 6) (hx : (n : Int) = x) (k : Go g d Y Q (pc + 1) L (vi x :: S) m) : Go g d Y Q pc L (vr a :: S) m := by
  subst hx
  intro l D cA ad A p e R s mth args below meth c Z hC hE ls H locs cells slots hR hL hc hs
  have k := (k l D cA ad A p e R s mth args below meth c Z hC hE ls H locs cells slots hR hL hc hs)
  have he : ∃ x : vp_A, (Wd cA ad m)[a]? = some (ad a, .inl (cA kd, x)) ∧ x.1 = n := by
    rw [Wd_at ha.1]
    rcases Nat.lt_trichotomy kd 3 with h | h | h
    · rw [cellE_i ha h]; exact ⟨_, rfl, rfl⟩
    · subst h; rw [cellE_l ha]; exact ⟨_, rfl, rfl⟩
    · rw [cellE_q ha h]; exact ⟨_, rfl, rfl⟩
  obtain ⟨x, he, hx⟩ := he
  exact va_alen hC.1 hC.2.1 hC.2.2.2.2.2.2.1 hR.1 a kd he (tys_at hk) (by rw [hx]; exact Int32.ofInt_eq_ofNat.symm) hd k

theorem go_iastore {g d : Nat} {Y : MD} {Q : Int → Mem → Prop} {pc : Nat} {L S : List AV} {m : Mem} {a n : Nat} {i x : Int} (hd : decode Y.2.1 pc = .ok (.iastore, 1)) (ha : ar a 0 n) (h0 : 0 ≤ i) (h1 : i < n) (hx : InR x) (k : Go g d Y Q (pc + 1) L S (wr m a i x)) : Go g d Y Q pc L (vi x :: vi i :: vr a :: S) m := by
  intro l D cA ad A p e R s mth args below meth c Z hC hE ls H locs cells slots hR hL hc hs
  have hi := ar_in ha h0 h1
  have he : (Wd cA ad m)[a]? = some (ad a, .inl (cA 0, n, .inl (fun j => Int32.ofInt (m a (j : Int))))) := by rw [Wd_at ha.1, cellE_i ha (by omega)]
  have hcan : Can (wr m a i x) := can_wr hR.2.2.2 ha.1 h0 (by rw [ha.2.2.1]; exact h1) (by rw [tyOf_ar ha]; exact hx)

  refine va_iast hC.1 hC.2.1 hC.2.2.2.2.2.2.1 hR.1 hR.2.1 hR.2.2.1 a 0 he (tys_at (by omega)) (hi.inn h0 h1) hd (fun H1 locs1 q1 q2 q3 => ?_)
  rw [hi.cl, upd_i h0, ← cellE_i (cA := cA) (ad := ad) ha (by omega), Wd_set (fun b hb => wr_row hb)] at q1 q2
  exact k l D cA ad A p e R s mth args below meth c Z hC hE ls H1 locs1 cells slots ⟨q1, q2, q3, hcan⟩ hL hc hs

theorem go_bastore {g d : Nat} {Y : MD} {Q : Int → Mem → Prop} {pc : Nat} {L S : List AV} {m : Mem} {a n : Nat} {i x : Int} (hd : decode Y.2.1 pc = .ok (.bastore, 1)) (ha : ar a 1 n) (h0 : 0 ≤ i) (h1 : i < n) (hx : (-128 ≤ x ∧ x < 128)) (k : Go g d Y Q (pc + 1) L S (wr m a i x)) : Go g d Y Q pc L (vi x :: vi i :: vr a :: S) m := by
  intro l D cA ad A p e R s mth args below meth c Z hC hE ls H locs cells slots hR hL hc hs
  have hi := ar_in ha h0 h1
  have he : (Wd cA ad m)[a]? = some (ad a, .inl (cA 1, n, .inl (fun j => Int32.ofInt (m a (j : Int))))) := by rw [Wd_at ha.1, cellE_i ha (by omega)]
  have hcan : Can (wr m a i x) := can_wr hR.2.2.2 ha.1 h0 (by rw [ha.2.2.1]; exact h1) (by rw [tyOf_ar ha]; exact hx)
  have hnar : vp_nar .byte (Int32.ofInt x) = Int32.ofInt x := by
    rw [vp_nar_byte, Int32.toInt8_ofInt, ← Int32.toInt_inj, Int8.toInt_toInt32, Int8.toInt_ofInt_of_le (by omega) (by omega), InR.i ⟨by omega, by omega⟩]
  refine va_bast hC.1 hC.2.1 hC.2.2.2.2.2.2.1 hR.1 hR.2.1 hR.2.2.1 a 1 he (tys_at (by omega)) (hi.inn h0 h1) hd (fun H1 locs1 q1 q2 q3 => ?_)
  rw [hnar, hi.cl, upd_i h0, ← cellE_i (cA := cA) (ad := ad) ha (by omega), Wd_set (fun b hb => wr_row hb)] at q1 q2
  exact k l D cA ad A p e R s mth args below meth c Z hC hE ls H1 locs1 cells slots ⟨q1, q2, q3, hcan⟩ hL hc hs

theorem go_zastore {g d : Nat} {Y : MD} {Q : Int → Mem → Prop} {pc : Nat} {L S : List AV} {m : Mem} {a n : Nat} {i x : Int} (hd : decode Y.2.1 pc = .ok (.bastore, 1)) (ha : ar a 2 n) (h0 : 0 ≤ i) (h1 : i < n) (hx : (x = 0 ∨ x = 1)) (k : Go g d Y Q (pc + 1) L S (wr m a i x)) : Go g d Y Q pc L (vi x :: vi i :: vr a :: S) m := by
  intro l D cA ad A p e R s mth args below meth c Z hC hE ls H locs cells slots hR hL hc hs
  have hi := ar_in ha h0 h1
  have he : (Wd cA ad m)[a]? = some (ad a, .inl (cA 2, n, .inl (fun j => Int32.ofInt (m a (j : Int))))) := by rw [Wd_at ha.1, cellE_i ha (by omega)]
  have hcan : Can (wr m a i x) := can_wr hR.2.2.2 ha.1 h0 (by rw [ha.2.2.1]; exact h1) (by rw [tyOf_ar ha]; exact hx)
  have hnar : vp_nar .boolean (Int32.ofInt x) = Int32.ofInt x := by
    rcases hx with rfl | rfl <;> rfl
  refine va_zast hC.1 hC.2.1 hC.2.2.2.2.2.2.1 hR.1 hR.2.1 hR.2.2.1 a 2 he (tys_at (by omega)) (hi.inn h0 h1) hd (fun H1 locs1 q1 q2 q3 => ?_)
  rw [hnar, hi.cl, upd_i h0, ← cellE_i (cA := cA) (ad := ad) ha (by omega), Wd_set (fun b hb => wr_row hb)] at q1 q2
  exact k l D cA ad A p e R s mth args below meth c Z hC hE ls H1 locs1 cells slots ⟨q1, q2, q3, hcan⟩ hL hc hs

theorem go_lastore {g d : Nat} {Y : MD} {Q : Int → Mem → Prop} {pc : Nat} {L S : List AV} {m : Mem} {a n : Nat} {i x : Int} (hd : decode Y.2.1 pc = .ok (.lastore, 1)) (ha : ar a 3 n) (h0 : 0 ≤ i) (h1 : i < n) (hx : InL x) (k : Go g d Y Q (pc + 1) L S (wr m a i x)) : Go g d Y Q pc L (vl x :: vi i :: vr a :: S) m := by
  intro l D cA ad A p e R s mth args below meth c Z hC hE ls H locs cells slots hR hL hc hs
  have hi := ar_in ha h0 h1
  have he : (Wd cA ad m)[a]? = some (ad a, .inl (cA 3, n, .inr (.inl (fun j => Int64.ofInt (m a (j : Int)))))) := by rw [Wd_at ha.1, cellE_l ha]
  have hcan : Can (wr m a i x) := can_wr hR.2.2.2 ha.1 h0 (by rw [ha.2.2.1]; exact h1) (by rw [tyOf_ar ha]; exact hx)
  refine va_last hC.1 hC.2.1 hC.2.2.2.2.2.2.1 hR.1 hR.2.1 hR.2.2.1 a 3 he (tys_at (by omega)) (hi.inn h0 h1) hd (fun H1 locs1 q1 q2 q3 => ?_)
  rw [hi.cl, upd_l h0, ← cellE_l (cA := cA) (ad := ad) ha, Wd_set (fun b hb => wr_row hb)] at q1 q2
  exact k l D cA ad A p e R s mth args below meth c Z hC hE ls H1 locs1 cells slots ⟨q1, q2, q3, hcan⟩ hL hc hs
def SL (own : String) (idx : Nat) (n d : String) : Prop := Cond.fieldLink own idx "CartTurns" n d ∈ tblG ∨ ∃ host, Cond.fieldLinkNest own idx "CartTurns" n d host ∈ nestW
theorem go_stepX {g d : Nat} {Y : MD} {Q : Int → Mem → Prop} {pc : Nat} {L S : List AV} {m : Mem} {idx : Nat} (hd : decode Y.2.1 pc = .ok (.getstatic idx, 3)) (hf : SL Y.1.cls idx "STEP_X" "[I") (k : Go g d Y Q (pc + 3) L (vr 1000 :: S) m) : Go g d Y Q pc L S m := by
  intro l D cA ad A p e R s mth args below meth c Z hC hE ls H locs cells slots hR hL hc hs
  have k := (k l D cA ad A p e R s mth args below meth c Z hC hE ls H locs cells slots hR hL hc hs)
  rcases hf with h6 | ⟨host, h6⟩
  · exact va_gets hC.1 hC.2.1 hC.2.2.2.2.2.2.2.2.1.1 hR.2.2.1 hC.2.2.2.1 (hC.2.2.2.2.1 _ h6) (fun _ h => h) hd k
  · exact va_getsN hC.1 hC.2.1 hC.2.2.2.2.2.2.2.2.1.1 hR.2.2.1 hC.2.2.2.1 (va_Nw.use rfl (hC.2.2.2.2.2.1 _ h6)) (fun _ h => h) hd k
theorem go_stepY {g d : Nat} {Y : MD} {Q : Int → Mem → Prop} {pc : Nat} {L S : List AV} {m : Mem} {idx : Nat} (hd : decode Y.2.1 pc = .ok (.getstatic idx, 3)) (hf : SL Y.1.cls idx "STEP_Y" "[I") (k : Go g d Y Q (pc + 3) L (vr 1001 :: S) m) : Go g d Y Q pc L S m := by
  intro l D cA ad A p e R s mth args below meth c Z hC hE ls H locs cells slots hR hL hc hs
  have k := (k l D cA ad A p e R s mth args below meth c Z hC hE ls H locs cells slots hR hL hc hs)
  rcases hf with h6 | ⟨host, h6⟩
  · exact va_gets hC.1 hC.2.1 hC.2.2.2.2.2.2.2.2.1.2.2.1 hR.2.2.1 hC.2.2.2.1 (hC.2.2.2.2.1 _ h6) (fun _ h => h) hd k
  · exact va_getsN hC.1 hC.2.1 hC.2.2.2.2.2.2.2.2.1.2.2.1 hR.2.2.1 hC.2.2.2.1 (va_Nw.use rfl (hC.2.2.2.2.2.1 _ h6)) (fun _ h => h) hd k
def dx (i : Int) : Int := stepX i.toNat
def dy (i : Int) : Int := stepY i.toNat
theorem go_dx {g d : Nat} {Y : MD} {Q : Int → Mem → Prop} {pc : Nat} {L S : List AV} {m : Mem} {i : Int} (hd : decode Y.2.1 pc = .ok (.iaload, 1)) (h0 : 0 ≤ i) (h1 : i < 4) (k : Go g d Y Q (pc + 1) L (vi (dx i) :: S) m) : Go g d Y Q pc L (vi i :: vr 1000 :: S) m := by
  intro l D cA ad A p e R s mth args below meth c Z hC hE ls H locs cells slots hR hL hc hs
  have hi : InR i := ⟨by omega, by omega⟩
  exact va_ti hC.1 hC.2.1 hC.2.2.2.2.2.2.2.2.1.2.1 hR.2.2.1 (hi.inn h0 h1) (by rw [hi.cl]; rfl) hd (k l D cA ad A p e R s mth args below meth c Z hC hE ls H locs cells slots hR hL hc hs)
theorem go_dy {g d : Nat} {Y : MD} {Q : Int → Mem → Prop} {pc : Nat} {L S : List AV} {m : Mem} {i : Int} (hd : decode Y.2.1 pc = .ok (.iaload, 1)) (h0 : 0 ≤ i) (h1 : i < 4) (k : Go g d Y Q (pc + 1) L (vi (dy i) :: S) m) : Go g d Y Q pc L (vi i :: vr 1001 :: S) m := by
  intro l D cA ad A p e R s mth args below meth c Z hC hE ls H locs cells slots hR hL hc hs
  have hi : InR i := ⟨by omega, by omega⟩
  exact va_ti hC.1 hC.2.1 hC.2.2.2.2.2.2.2.2.1.2.2.2.1 hR.2.2.1 (hi.inn h0 h1) (by rw [hi.cl]; rfl) hd (k l D cA ad A p e R s mth args below meth c Z hC hE ls H locs cells slots hR hL hc hs)
theorem go_ldc {g d : Nat} {Y : MD} {Q : Int → Mem → Prop} {pc : Nat} {L S : List AV} {m : Mem} {idx : Nat} {x : Int} (hd : decode Y.2.1 pc = .ok (.ldc idx, 2)) (hf : Cond.constant Y.1.cls idx (Int32.ofInt x) ∈ tblG) (k : Go g d Y Q (pc + 2) L (vi x :: S) m) : Go g d Y Q pc L S m := by
  intro l D cA ad A p e R s mth args below meth c Z hC hE ls H locs cells slots hR hL hc hs
  exact lv_ldc hC.1 hC.2.1 hC.2.2.2.1 (hC.2.2.2.2.1 _ hf) hd (k l D cA ad A p e R s mth args below meth c Z hC hE ls H locs cells slots hR hL hc hs)
theorem go_ldc2 {g d : Nat} {Y : MD} {Q : Int → Mem → Prop} {pc : Nat} {L S : List AV} {m : Mem} {idx : Nat} {x : Int} (hd : decode Y.2.1 pc = .ok (.ldc2_w idx, 3)) (hf : Cond.constantLong Y.1.cls idx (Int64.ofInt x) ∈ tblG) (k : Go g d Y Q (pc + 3) L (vl x :: S) m) : Go g d Y Q pc L S m := by
  intro l D cA ad A p e R s mth args below meth c Z hC hE ls H locs cells slots hR hL hc hs
  exact lv_ldc2 hC.1 hC.2.1 hC.2.2.2.1 (hC.2.2.2.2.1 _ hf) hd (k l D cA ad A p e R s mth args below meth c Z hC hE ls H locs cells slots hR hL hc hs)
theorem go_ldcw {g d : Nat} {Y : MD} {Q : Int → Mem → Prop} {pc : Nat} {L S : List AV} {m : Mem} {idx : Nat} {x : Int} (hd : decode Y.2.1 pc = .ok (.ldc_w idx, 3)) (hf : Cond.constant Y.1.cls idx (Int32.ofInt x) ∈ tblG) (k : Go g d Y Q (pc + 3) L (vi x :: S) m) : Go g d Y Q pc L S m := by
  intro l D cA ad A p e R s mth args below meth c Z hC hE ls H locs cells slots hR hL hc hs
  exact lv_ldcw hC.1 hC.2.1 hC.2.2.2.1 (hC.2.2.2.2.1 _ hf) hd (k l D cA ad A p e R s mth args below meth c Z hC hE ls H locs cells slots hR hL hc hs)
theorem go_ret {g d : Nat} {Y : MD} {Q : Int → Mem → Prop} {pc : Nat} {L S : List AV} {m : Mem} {v : Int} (hr : rSt Y.2.2.2 v = S) (hd : decode Y.2.1 pc = .ok (rIn Y.2.2.2, 1)) (hv : rOk Y.2.2.2 v) (hq : Q v m) : Go g d Y Q pc L S m := by
  subst hr
  intro l D cA ad A p e R s mth args below meth c Z hC hE ls H locs cells slots hR hL hc hs
  exact hE v m pc ls H locs cells slots hq hv hR (by omega) (by omega) hd
