/-! ===== constructors: fields, rows, what is new ===== -/
def pw (π : Nat → Nat → Nat) (a k q : Nat) : Nat → Nat → Nat := fun b j => if b = a ∧ j = k then q else π b j
theorem pw_row {π : Nat → Nat → Nat} {a k q b : Nat} (h : b ≠ a) : pw π a k q b = π b := by funext j; unfold pw; rw [if_neg (fun z => h z.1)]
theorem pw_at {π : Nat → Nat → Nat} {a k q : Nat} : pw π a k q a k = q := by unfold pw; rw [if_pos ⟨rfl, rfl⟩]
theorem pw_ne {π : Nat → Nat → Nat} {a k q b j : Nat} (h : ¬ (b = a ∧ j = k)) : pw π a k q b j = π b j := by unfold pw; rw [if_neg h]
theorem fsC_at {ad : Nat → Nat} {m : CW} {a k : Nat} (h : k < sn a) : (fsC ad m a)[k]? = some (fvC (cty (sk a) k) ad (m.2.2 a (k : Int)) (m.2.1 a k)) := by
  simp [fsC, h]
theorem fsC_set {ad : Nat → Nat} {m : CW} {a k : Nat} {x : Int} (h : k < sn a) : (fsC ad m a).set k (fvC (cty (sk a) k) ad x (m.2.1 a k)) = fsC ad (m.1, m.2.1, wr m.2.2 a (k : Int) x) a := by
  apply List.ext_getElem?
  intro j
  rw [List.getElem?_set]
  by_cases hj : k = j
  · subst hj
    rw [if_pos rfl, fsC_at h]
    dsimp only
    rw [wr_self]
    simp [fsC, h]
  · rw [if_neg hj]
    by_cases hl : j < sn a
    · rw [fsC_at hl, fsC_at hl]
      dsimp only
      rw [wr_ni (by omega)]
    · simp [fsC, hl]
theorem fsC_setP {ad : Nat → Nat} {m : CW} {a k q : Nat} (h : k < sn a) : (fsC ad m a).set k (fvC (cty (sk a) k) ad (m.2.2 a (k : Int)) q) = fsC ad (m.1, pw m.2.1 a k q, m.2.2) a := by
  apply List.ext_getElem?
  intro j
  rw [List.getElem?_set]
  by_cases hj : k = j
  · subst hj
    rw [if_pos rfl, fsC_at h]
    dsimp only
    rw [pw_at]
    simp [fsC, h]
  · rw [if_neg hj]
    by_cases hl : j < sn a
    · rw [fsC_at hl, fsC_at hl]
      dsimp only
      rw [pw_ne (by omega)]
    · simp [fsC, hl]
theorem fvC_p {ty : FieldType} {ad : Nat → Nat} {x : Int} {b : Nat} (h : isP ty = true) : fvC ty ad x (b + 1) = .ref (ad b) := by
  cases ty <;> first | rfl | cases h
theorem CanC.wr {m : CW} (h : CanC m) {a : Nat} {i x : Int} (ha : a < m.1) (h0 : 0 ≤ i) (h1 : i < sn a) (hx : inTy (tyOf a i) x) : CanC (m.1, m.2.1, _root_.Jvm.Pilot.CCartTurnsLaw_law_r7710_372af8.wr m.2.2 a i x) :=
  ⟨can_wr h.1 (Nat.lt_of_lt_of_le ha h.2.1) h0 h1 hx, h.2.1, fun b hb => ⟨(h.2.2.1 b hb).1, fun j => by
    have hb : m.1 ≤ b := hb
    dsimp only
    rw [wr_na (by omega)]; exact (h.2.2.1 b hb).2 j⟩, h.2.2.2⟩
theorem CanC.pw {m : CW} (h : CanC m) {a k b : Nat} (ha : a < m.1) (hb : b < m.1) : CanC (m.1, _root_.Jvm.Pilot.CCartTurnsLaw_law_r7710_372af8.pw m.2.1 a k (b + 1), m.2.2) :=
  ⟨h.1, h.2.1, fun q hq => ⟨fun j => by
    have hq : m.1 ≤ q := hq
    dsimp only
    rw [pw_row (by omega)]; exact (h.2.2.1 q hq).1 j, (h.2.2.1 q hq).2⟩, fun q j => by
    show _root_.Jvm.Pilot.CCartTurnsLaw_law_r7710_372af8.pw m.2.1 a k (b + 1) q j ≤ m.1
    unfold _root_.Jvm.Pilot.CCartTurnsLaw_law_r7710_372af8.pw
    by_cases z : q = a ∧ j = k
    · rw [if_pos z]; omega
    · rw [if_neg z]; exact h.2.2.2 q j⟩
theorem gc_can {g d : Nat} {Y : MD} {Q : Int → CW → Prop} {pc : Nat} {L S : List AV} {m : CW} (k : CanC m → Gc g d Y Q pc L S m) : Gc g d Y Q pc L S m := by
  intro l D cA ad A p e R s mth args below meth c Z hC hX hE ls H locs cells slots hR hL hc hs
  exact k hR.2.2.2 l D cA ad A p e R s mth args below meth c Z hC hX hE ls H locs cells slots hR hL hc hs
theorem gc_getP {g d : Nat} {Y : MD} {Q : Int → CW → Prop} {pc : Nat} {L S : List AV} {m : CW} {a ci fk idx b : Nat} (hd : decode Y.2.1 pc = .ok (.getfield idx, 3)) (hf : FL Y.1.cls idx ci fk) (ho : ob a ci) (han : a < m.1) (ht : isP (cty ci fk) = true) (hp : m.2.1 a fk = b + 1) (k : Gc g d Y Q (pc + 3) L (vr b :: S) m) : Gc g d Y Q pc L (vr a :: S) m := by
  obtain ⟨C, T, N, h1, h2, h3, h4, h5, h6⟩ := hf
  intro l D cA ad A p e R s mth args below meth c Z hC hX hE ls H locs cells slots hR hL hc hs
  have hk : fk < sn a := by rw [ho.2.2.2 _ h1]; exact h2
  have k := k l D cA ad A p e R s mth args below meth c Z hC hX hE ls H locs cells slots hR hL hc hs
  have he : (Wc cA ad m)[a]? = some (ad a, .inr (ci, fsC ad m a)) := by rw [Wc_at han, ceC_ob ho]
  have hat : (fsC ad m a)[fk]? = some (toV ad (vr b)) := by rw [fsC_at hk, ho.2.1, hp, fvC_p ht]; rfl
  rcases h6 with h6 | ⟨host, h6⟩
  · exact va_get hC.1 hC.2.1 hC.2.2.2.2.1 h3 hC.2.2.2.1 hC.2.2.2.2.2.2.1 hR.1 a he h1 fk h2 (hC.2.2.2.2.1 _ h6) (fun _ h => h) hat hd k
  · exact va_getN hC.1 hC.2.1 hC.2.2.2.2.1 h3 hC.2.2.2.1 hC.2.2.2.2.2.2.1 hR.1 a he h1 fk h2 (va_Nw.use rfl (hC.2.2.2.2.2.1 _ h6)) (fun _ h => h) hat hd k
theorem gc_putn {g d : Nat} {Y : MD} {Q : Int → CW → Prop} {pc : Nat} {L S : List AV} {m : CW} {a ci fk idx : Nat} {x : Int} {v : AV} (hd : decode Y.2.1 pc = .ok (.putfield idx, 3)) (hf : FLw Y.1.cls idx ci fk) (ho : ob a ci) (han : a < m.1) (hv : ∀ ad q, fvC (cty ci fk) ad x q = toV ad v) (hx : inTy (cty ci fk) x) (hn : ∀ ad, narrow (cty ci fk) (toV ad v) = toV ad v) (hfit : ∀ ad, fits (cty ci fk) (toV ad v) = true) (k : Gc g d Y Q (pc + 3) L S (m.1, m.2.1, wr m.2.2 a (fk : Int) x)) : Gc g d Y Q pc L (v :: vr a :: S) m := by
  obtain ⟨⟨C, T, N, h1, h2, h3, h4, h5, h6⟩, h7⟩ := hf
  intro l D cA ad A p e R s mth args below meth c Z hC hX hE ls H locs cells slots hR hL hc hs
  have hk : fk < sn a := by rw [ho.2.2.2 _ h1]; exact h2
  have he : (Wc cA ad m)[a]? = some (ad a, .inr (ci, fsC ad m a)) := by rw [Wc_at han, ceC_ob ho]
  have hset : (Wc cA ad m).set a (ad a, .inr (ci, (fsC ad m a).set fk (toV ad v))) = Wc cA ad (m.1, m.2.1, wr m.2.2 a (fk : Int) x) := by
    have e1 := fsC_set (ad := ad) (m := m) (x := x) hk
    rw [ho.2.1, hv ad] at e1
    rw [e1, ← ceC_ob (cA := cA) ho]
    exact Wc_set rfl (fun b hb => ⟨rfl, wr_row hb⟩)
  have hcan : CanC (m.1, m.2.1, wr m.2.2 a (fk : Int) x) := hR.2.2.2.wr han (by omega) (by omega) (by rw [tyOf_ob ho]; exact hx)
  have kk : ∀ (H1 : Heap) (locs1 : List Loc), va_P D cls ((Wc cA ad m).set a (ad a, .inr (ci, (fsC ad m a).set fk (toV ad v)))) H1 → va_D A ((Wc cA ad m).set a (ad a, .inr (ci, (fsC ad m a).set fk (toV ad v)))) → va_S A s.heap H1 locs1 → W p l e R s mth args below meth c H1 locs1 cells slots Z (F0 mth (pc + 3) ls (S.map (toV ad))) := by
    intro H1 locs1 q1 q2 q3
    rw [hset] at q1 q2
    exact k l D cA ad A p e R s mth args below meth c Z hC hX hE ls H1 locs1 cells slots ⟨q1, q2, q3, hcan⟩ hL hc hs
  have hlen : fk < (fsC ad m a).length := by simp [fsC, hk]
  rcases h6 with h6 | ⟨host, h6⟩
  · exact va_put hC.1 hC.2.1 hC.2.2.2.2.1 h3 (cty ci) h4 h5 hC.2.2.2.1 hC.2.2.2.2.2.2.1 hR.1 hR.2.1 hR.2.2.1 a he h1 fk h2 (hC.2.2.2.2.1 _ h6) (fun _ h => h) (h7 _ h1) (h4 fk h2) (hn ad) (hfit ad) hlen hd kk
  · exact va_putN hC.1 hC.2.1 hC.2.2.2.2.1 h3 (cty ci) h4 h5 hC.2.2.2.1 hC.2.2.2.2.2.2.1 hR.1 hR.2.1 hR.2.2.1 a he h1 fk h2 (va_Nw.use rfl (hC.2.2.2.2.2.1 _ h6)) (fun _ h => h) (h7 _ h1) (h4 fk h2) (hn ad) (hfit ad) hlen hd kk
theorem gc_putI {g d : Nat} {Y : MD} {Q : Int → CW → Prop} {pc : Nat} {L S : List AV} {m : CW} {a ci fk idx : Nat} {x : Int} (hd : decode Y.2.1 pc = .ok (.putfield idx, 3)) (hf : FLw Y.1.cls idx ci fk) (ho : ob a ci) (han : a < m.1) (ht : cty ci fk = .int) (hx : InR x) (k : Gc g d Y Q (pc + 3) L S (m.1, m.2.1, wr m.2.2 a (fk : Int) x)) : Gc g d Y Q pc L (vi x :: vr a :: S) m :=
  gc_putn hd hf ho han (fun ad q => by rw [ht]; rfl) (by rw [ht]; exact hx) (fun ad => by rw [ht]; rfl) (fun ad => by rw [ht]; rfl) k
/-- a zero, where a zero is: an int, a boolean, a long -/
theorem gc_put0 {g d : Nat} {Y : MD} {Q : Int → CW → Prop} {pc : Nat} {L S : List AV} {m : CW} {a ci fk idx : Nat} {v : AV} (hd : decode Y.2.1 pc = .ok (.putfield idx, 3)) (hf : FLw Y.1.cls idx ci fk) (ho : ob a ci) (han : a < m.1) (ht : (v = vi 0 ∧ (cty ci fk = .int ∨ cty ci fk = .boolean)) ∨ (v = vl 0 ∧ cty ci fk = .long)) (hz : m.2.2 a (fk : Int) = 0) (k : Gc g d Y Q (pc + 3) L S m) : Gc g d Y Q pc L (v :: vr a :: S) m := by
  have e : (m.1, m.2.1, wr m.2.2 a (fk : Int) 0) = m := by
    have : wr m.2.2 a (fk : Int) 0 = m.2.2 := by have := wr_id (m := m.2.2) (a := a) (i := (fk : Int)); rw [hz] at this; exact this
    rw [this]
  refine gc_putn (x := 0) hd hf ho han ?_ ?_ ?_ ?_ (by rw [e]; exact k)
  · rcases ht with ⟨rfl, h | h⟩ | ⟨rfl, h⟩ <;> (intro ad q; rw [h]; rfl)
  · rcases ht with ⟨rfl, h | h⟩ | ⟨rfl, h⟩ <;> rw [h] <;> first | exact Or.inl rfl | exact ⟨by decide, by decide⟩
  · rcases ht with ⟨rfl, h | h⟩ | ⟨rfl, h⟩ <;> (intro ad; rw [h]; rfl)
  · rcases ht with ⟨rfl, h | h⟩ | ⟨rfl, h⟩ <;> (intro ad; rw [h]; rfl)
theorem gc_putP {g d : Nat} {Y : MD} {Q : Int → CW → Prop} {pc : Nat} {L S : List AV} {m : CW} {a ci fk idx b : Nat} (hd : decode Y.2.1 pc = .ok (.putfield idx, 3)) (hf : FL Y.1.cls idx ci fk) (hfin : ∀ q : vw_C, cls[ci]? = some q → (q.2.1 fk).2.2.2 = true ∧ (q.2.1 fk).1 = Y.1.cls) (hin : Y.1.name = "<init>") (hlk : ∀ q : vw_C, cls[ci]? = some q → Cond.fieldLink Y.1.cls idx (q.2.1 fk).1 (q.2.1 fk).2.1 (q.2.1 fk).2.2.1 ∈ tblG) (ho : ob a ci) (han : a < m.1) (hbn : b < m.1) (ht : isP (cty ci fk) = true) (k : Gc g d Y Q (pc + 3) L S (m.1, pw m.2.1 a fk (b + 1), m.2.2)) : Gc g d Y Q pc L (vr b :: vr a :: S) m := by
  obtain ⟨C, T, N, h1, h2, h3, h4, h5, -⟩ := hf
  intro l D cA ad A p e R s mth args below meth c Z hC hX hE ls H locs cells slots hR hL hc hs
  have hk : fk < sn a := by rw [ho.2.2.2 _ h1]; exact h2
  have he : (Wc cA ad m)[a]? = some (ad a, .inr (ci, fsC ad m a)) := by rw [Wc_at han, ceC_ob ho]
  have hset : (Wc cA ad m).set a (ad a, .inr (ci, (fsC ad m a).set fk (.ref (ad b)))) = Wc cA ad (m.1, pw m.2.1 a fk (b + 1), m.2.2) := by
    have e1 := fsC_setP (ad := ad) (m := m) (q := b + 1) hk
    rw [ho.2.1, fvC_p ht] at e1
    rw [e1, ← ceC_ob (cA := cA) ho]
    exact Wc_set rfl (fun q hq => ⟨pw_row hq, rfl⟩)
  have kk : ∀ (H1 : Heap) (locs1 : List Loc), va_P D cls ((Wc cA ad m).set a (ad a, .inr (ci, (fsC ad m a).set fk (.ref (ad b))))) H1 → va_D A ((Wc cA ad m).set a (ad a, .inr (ci, (fsC ad m a).set fk (.ref (ad b))))) → va_S A s.heap H1 locs1 → W p l e R s mth args below meth c H1 locs1 cells slots Z (F0 mth (pc + 3) ls (S.map (toV ad))) := by
    intro H1 locs1 q1 q2 q3
    rw [hset] at q1 q2
    exact k l D cA ad A p e R s mth args below meth c Z hC hX hE ls H1 locs1 cells slots ⟨q1, q2, q3, hR.2.2.2.pw han hbn⟩ hL hc hs
  have hlen : fk < (fsC ad m a).length := by simp [fsC, hk]
  exact va_putF hC.1 hC.2.1 hC.2.2.2.2.1 h3 (cty ci) h4 h5 hC.2.2.2.1 hC.2.2.2.2.2.2.1 hR.1 hR.2.1 hR.2.2.1 a he h1 fk h2 (hC.2.2.2.2.1 _ (hlk _ h1)) (fun _ h => h) (hfin _ h1).1 (hX.2.1 hin) (hfin _ h1).2 (h4 fk h2) (by cases h : cty ci fk <;> rw [h] at ht <;> first | rfl | cases ht) (by cases h : cty ci fk <;> rw [h] at ht <;> first | rfl | cases ht) hlen hd kk
def NWc (own : String) (idx ci : Nat) : Prop := ∃ (C : String) (T : u_T) (N : Nat), cls[ci]? = some (C, T, N) ∧ (∀ w ∈ u_ws C T N, w ∈ tblG) ∧ (∀ j, j < N → parseFieldDescriptor (T j).2.2.1 = some (cty ci j)) ∧ Cond.classLink own idx C ∈ tblG ∧ Cond.instantiable C N ∈ tblG ∧ Cond.initialized C ∈ tblG ∧ N ≤ 1000
theorem fvC_0 (ty : FieldType) (ad : Nat → Nat) (h : ty = .int ∨ ty = .boolean ∨ ty = .long ∨ isP ty = true) : fvC ty ad 0 0 = defaultValue ty := by
  rcases h with rfl | rfl | rfl | h
  · rfl
  · rfl
  · rfl
  · cases ty <;> first | rfl | cases h
def tyG (ty : FieldType) : Bool := match ty with
  | .int => true
  | .boolean => true
  | .long => true
  | .object _ => true
  | .array _ => true
  | _ => false
theorem tyG_is {ty : FieldType} (h : tyG ty = true) : ty = .int ∨ ty = .boolean ∨ ty = .long ∨ isP ty = true := by
  cases ty <;> first | exact Or.inl rfl | exact Or.inr (Or.inl rfl) | exact Or.inr (Or.inr (Or.inl rfl)) | exact Or.inr (Or.inr (Or.inr rfl)) | cases h
theorem gc_new {g d : Nat} {Y : MD} {Q : Int → CW → Prop} {pc : Nat} {L S : List AV} {m : CW} {idx ci : Nat} (hd : decode Y.2.1 pc = .ok (.new idx, 3)) (hN : NWc Y.1.cls idx ci) (hty : ∀ j, j < sn m.1 → tyG (cty ci j) = true) (ho : ob m.1 ci) (hLn : okA m.1 L = true) (hSn : okA m.1 S = true) (k : (∀ i : Int, m.2.2 m.1 i = 0) → Gc g d Y Q (pc + 3) L (vr m.1 :: S) (m.1 + 1, m.2)) : Gc (g + 1) d Y Q pc L S m := by
  obtain ⟨C, T, N, h1, h3, h4, h5, h6, h7, h8⟩ := hN
  intro l D cA ad A p e R s mth args below meth c Z hC hX hE ls H locs cells slots hR hL hc hs
  obtain ⟨hx, hb, hmL, hown, hts, hnw, hK, hA, hStt, hfr, hlo, hfl⟩ := id hC
  obtain ⟨hP, hD, hS, hcan⟩ := id hR
  have hz := hcan.2.2.1 m.1 (Nat.le_refl _)
  have hsn : sn m.1 = N := ho.2.2.2 _ h1
  refine va_new hx hb hts h3 (cty ci) h4 hown (hts _ h5) (hts _ h6) (hts _ h7) hK hP hD hS hA h1 (fs := fsC ad m m.1) (fun j hj => ?_) (by omega) (by omega) hd (fun q H1 p1 p2 p3 => ?_)
  · unfold vp_V
    rw [List.getD_eq_getElem?_getD, fsC_at (by rw [hsn]; exact hj), ho.2.1, hz.1, hz.2]
    exact (fvC_0 _ ad (tyG_is (hty j (by rw [hsn]; exact hj)))).symm
  · have hag : Agr m.1 ad (adp ad m.1 q) := adp_agr ho.1
    have hN9 : ∀ k, NC ≤ k → adp ad m.1 q k = ad k := fun k hk => hag k (Or.inr hk)
    have ec : ceC cA (adp ad m.1 q) (m.1 + 1, m.2) m.1 = .inr (ci, fsC ad m m.1) := by
      rw [← ceC_ob (cA := cA) ho]
      exact (ceC_av (ad := ad) (w := (m.1 + 1, m.2)) (fun k z => absurd (hz.1 k) z)).trans (ceC_e rfl rfl)
    have ew : Wc cA (adp ad m.1 q) (m.1 + 1, m.2) = Wc cA ad m ++ [(q, .inr (ci, fsC ad m m.1))] := by rw [Wc_push hcan.2.2.2, ec]
    have k := k hz.2 l D cA (adp ad m.1 q) A p e R s mth args below meth c Z (hC.av hN9) (hX.av hN9) (fun v m' ad' pc' ls H locs cells slots hg1 => hE v m' ad' pc' ls H locs cells slots (hag.tr hg1 (Nat.le_succ _))) ls H1 locs (cells + 1) (slots + N) ⟨by rw [ew]; exact p1, by rw [ew]; exact p2, p3, hcan.push ho.1⟩ (by rw [lvL_ag hag hLn]; exact hL) (by omega) (by omega)
    rw [List.map_cons, mapV_ag hag hSn, show toV (adp ad m.1 q) (vr m.1) = .ref q by show Value.ref (adp ad m.1 q m.1) = .ref q; unfold adp; rw [if_pos rfl]] at k
    exact k
theorem gc_newI {g d : Nat} {Y : MD} {Q : Int → CW → Prop} {pc : Nat} {L S : List AV} {m : CW} {atype : ArrayType} {kd N : Nat} {x : Int} (hd : decode Y.2.1 pc = .ok (.newarray atype, 2)) (hat : newarray.typeOf atype = ety kd) (hkd : kd = 0 ∨ kd = 1 ∨ kd = 2) (hword : Cond.arrayClass (ety kd) ∈ tblG) (ha : ar m.1 kd N) (hN : N ≤ 1000) (hxN : (N : Int) = x) (hLn : okA m.1 L = true) (hSn : okA m.1 S = true) (k : (∀ i : Int, m.2.2 m.1 i = 0) → Gc g d Y Q (pc + 2) L (vr m.1 :: S) (m.1 + 1, m.2)) : Gc (g + 1) d Y Q pc L (vi x :: S) m := by
  subst hxN
  intro l D cA ad A p e R s mth args below meth c Z hC hX hE ls H locs cells slots hR hL hc hs
  obtain ⟨hx, hb, hmL, hown, hts, hnw, hK, hA, hStt, hfr, hlo, hfl⟩ := id hC
  obtain ⟨hP, hD, hS, hcan⟩ := id hR
  have hz := hcan.2.2.1 m.1 (Nat.le_refl _)
  have hi : InR (N : Int) := ⟨by omega, by omega⟩
  have hcell : ∀ w : CW, w.2 = m.2 → ∀ ad' : Nat → Nat, ceC cA ad' w m.1 = .inl (cA kd, (N, .inl (fun j => Int32.ofInt (m.2.2 m.1 (j : Int))))) := by
    intro w hw ad'
    unfold ceC
    rw [hw, ha.2.1, ha.2.2.1, if_neg (by omega), if_pos (by omega), show 100 + kd - 100 = kd by omega]
  refine va_newa (atype := atype) hx hb (by rw [hat]; exact hts _ hword) hat hK hP hD hS hA (a0 := (N, .inl (fun j => Int32.ofInt (m.2.2 m.1 (j : Int))))) (N' := N) (fun c9 => ?_) (by rw [← i32_0, hi.lt InR.zero]; omega) (by rw [hi.cl]; omega) ?_ (by omega) (by omega) hd (fun q c9 H1 hK9 p1 p2 p3 => ?_)
  · rw [vp_cell_i]
    congr 1
    funext j
    rw [hz.2]
    rcases hkd with rfl | rfl | rfl <;> rfl
  · rcases hkd with rfl | rfl | rfl <;> (simp only [ety, componentBytes]; omega)
  · have hag : Agr m.1 ad (adp ad m.1 q) := adp_agr ha.1
    have hN9 : ∀ k, NC ≤ k → adp ad m.1 q k = ad k := fun k hk => hag k (Or.inr hk)
    have ecA : c9 = cA kd := by
      have z1 := (hK9.2 6 (c9, ety kd) (by simp [tys])).2
      have z2 := (hK.2 kd (cA kd, ety kd) (tys_at (by omega))).2
      rcases hkd with rfl | rfl | rfl <;> exact Option.some.inj (Eq.trans (Eq.symm z1) z2)
    have ew : Wc cA (adp ad m.1 q) (m.1 + 1, m.2) = Wc cA ad m ++ [(q, .inl (c9, (N, .inl (fun j => Int32.ofInt (m.2.2 m.1 (j : Int))))))] := by rw [Wc_push hcan.2.2.2, hcell (m.1 + 1, m.2) rfl, ecA]
    have k := k hz.2 l D cA (adp ad m.1 q) A p e R s mth args below meth c Z (hC.av hN9) (hX.av hN9) (fun v m' ad' pc' ls H locs cells slots hg1 => hE v m' ad' pc' ls H locs cells slots (hag.tr hg1 (Nat.le_succ _))) ls H1 locs (cells + 1) (slots + N) ⟨by rw [ew]; exact p1, by rw [ew]; exact p2, p3, hcan.push ha.1⟩ (by rw [lvL_ag hag hLn]; exact hL) (by omega) (by omega)
    rw [List.map_cons, mapV_ag hag hSn, show toV (adp ad m.1 q) (vr m.1) = .ref q by show Value.ref (adp ad m.1 q m.1) = .ref q; unfold adp; rw [if_pos rfl]] at k
    exact k
theorem gc_newJ {g d : Nat} {Y : MD} {Q : Int → CW → Prop} {pc : Nat} {L S : List AV} {m : CW} {atype : ArrayType} {kd N : Nat} {x : Int} (hd : decode Y.2.1 pc = .ok (.newarray atype, 2)) (hat : newarray.typeOf atype = ety kd) (hkd : kd = 3) (hword : Cond.arrayClass (ety kd) ∈ tblG) (ha : ar m.1 kd N) (hN : N ≤ 1000) (hxN : (N : Int) = x) (hLn : okA m.1 L = true) (hSn : okA m.1 S = true) (k : (∀ i : Int, m.2.2 m.1 i = 0) → Gc g d Y Q (pc + 2) L (vr m.1 :: S) (m.1 + 1, m.2)) : Gc (g + 1) d Y Q pc L (vi x :: S) m := by
  subst hxN
  intro l D cA ad A p e R s mth args below meth c Z hC hX hE ls H locs cells slots hR hL hc hs
  obtain ⟨hx, hb, hmL, hown, hts, hnw, hK, hA, hStt, hfr, hlo, hfl⟩ := id hC
  obtain ⟨hP, hD, hS, hcan⟩ := id hR
  have hz := hcan.2.2.1 m.1 (Nat.le_refl _)
  have hi : InR (N : Int) := ⟨by omega, by omega⟩
  have hcell : ∀ w : CW, w.2 = m.2 → ∀ ad' : Nat → Nat, ceC cA ad' w m.1 = .inl (cA kd, (N, .inr (.inl (fun j => Int64.ofInt (m.2.2 m.1 (j : Int)))))) := by
    intro w hw ad'
    unfold ceC
    rw [hw, ha.2.1, ha.2.2.1, if_neg (by omega), if_neg (by omega), if_pos (by omega), hkd]
  refine va_newa (atype := atype) hx hb (by rw [hat]; exact hts _ hword) hat hK hP hD hS hA (a0 := (N, .inr (.inl (fun j => Int64.ofInt (m.2.2 m.1 (j : Int)))))) (N' := N) (fun c9 => ?_) (by rw [← i32_0, hi.lt InR.zero]; omega) (by rw [hi.cl]; omega) ?_ (by omega) (by omega) hd (fun q c9 H1 hK9 p1 p2 p3 => ?_)
  · rw [vp_cell_l]
    congr 1
    funext j
    rw [hz.2]
    subst hkd <;> rfl
  · subst hkd <;> (simp only [ety, componentBytes]; omega)
  · have hag : Agr m.1 ad (adp ad m.1 q) := adp_agr ha.1
    have hN9 : ∀ k, NC ≤ k → adp ad m.1 q k = ad k := fun k hk => hag k (Or.inr hk)
    have ecA : c9 = cA kd := by
      have z1 := (hK9.2 6 (c9, ety kd) (by simp [tys])).2
      have z2 := (hK.2 kd (cA kd, ety kd) (tys_at (by omega))).2
      subst hkd <;> exact Option.some.inj (Eq.trans (Eq.symm z1) z2)
    have ew : Wc cA (adp ad m.1 q) (m.1 + 1, m.2) = Wc cA ad m ++ [(q, .inl (c9, (N, .inr (.inl (fun j => Int64.ofInt (m.2.2 m.1 (j : Int)))))))] := by rw [Wc_push hcan.2.2.2, hcell (m.1 + 1, m.2) rfl, ecA]
    have k := k hz.2 l D cA (adp ad m.1 q) A p e R s mth args below meth c Z (hC.av hN9) (hX.av hN9) (fun v m' ad' pc' ls H locs cells slots hg1 => hE v m' ad' pc' ls H locs cells slots (hag.tr hg1 (Nat.le_succ _))) ls H1 locs (cells + 1) (slots + N) ⟨by rw [ew]; exact p1, by rw [ew]; exact p2, p3, hcan.push ha.1⟩ (by rw [lvL_ag hag hLn]; exact hL) (by omega) (by omega)
    rw [List.map_cons, mapV_ag hag hSn, show toV (adp ad m.1 q) (vr m.1) = .ref q by show Value.ref (adp ad m.1 q m.1) = .ref q; unfold adp; rw [if_pos rfl]] at k
    exact k
theorem gc_anew {g d : Nat} {Y : MD} {Q : Int → CW → Prop} {pc : Nat} {L S : List AV} {m : CW} {kd N idx : Nat} {C : String} {x : Int} (hd : decode Y.2.1 pc = .ok (.anewarray idx, 3)) (hkd : (kd = 4 ∧ C = "CartTurns$State") ∨ (kd = 5 ∧ C = "CartTurns$World")) (hlk : Cond.classLink Y.1.cls idx C ∈ tblG) (ha : ar m.1 kd N) (hN : N ≤ 1000) (hxN : (N : Int) = x) (hLn : okA m.1 L = true) (hSn : okA m.1 S = true) (k : (∀ i : Int, m.2.2 m.1 i = 0) → Gc g d Y Q (pc + 3) L (vr m.1 :: S) (m.1 + 1, m.2)) : Gc (g + 1) d Y Q pc L (vi x :: S) m := by
  subst hxN
  intro l D cA ad A p e R s mth args below meth c Z hC hX hE ls H locs cells slots hR hL hc hs
  obtain ⟨hx, hb, hmL, hown, hts, hnw, hK, hA, hStt, hfr, hlo, hfl⟩ := id hC
  obtain ⟨hP, hD, hS, hcan⟩ := id hR
  have hz := hcan.2.2.1 m.1 (Nat.le_refl _)
  have hi : InR (N : Int) := ⟨by omega, by omega⟩
  have hcell : ∀ w : CW, w.2 = m.2 → ∀ ad' : Nat → Nat, ceC cA ad' w m.1 = .inl (cA kd, N, .inr (.inr (.inr (.inr (fun _ => none))))) := by
    intro w hw ad'
    have ef : (fun j => if m.2.1 m.1 j = 0 then none else some (ad' (m.2.1 m.1 j - 1))) = (fun _ : Nat => (none : Option Nat)) := funext (fun j => by rw [if_pos (hz.1 j)])
    unfold ceC
    rw [hw, ha.2.1, ha.2.2.1, if_neg (by omega), if_neg (by omega), if_neg (by omega), show 100 + kd - 100 = kd by omega, ef]
  have hao : va_AO C s := by
    rcases hkd with ⟨-, rfl⟩ | ⟨-, rfl⟩
    · exact hX.1.2.2.1
    · exact hX.1.2.2.2
  refine va_newq hx hb hown (hts _ hlk) hao hK hP hD hS hA (N' := N) (by rw [← i32_0, hi.lt InR.zero]; omega) (by rw [hi.cl]; omega) (by omega) (by omega) (by omega) hd (fun q c9 H1 hK9 p1 p2 p3 => ?_)
  have hag : Agr m.1 ad (adp ad m.1 q) := adp_agr ha.1
  have hN9 : ∀ k, NC ≤ k → adp ad m.1 q k = ad k := fun k hk => hag k (Or.inr hk)
  have ecA : c9 = cA kd := by
    have z1 := (hK9.2 6 (c9, .object C) (by simp [tys])).2
    have z2 := (hK.2 kd (cA kd, ety kd) (tys_at (by omega))).2
    obtain ⟨_, _, _, _, _, z1⟩ := z1
    rcases hkd with ⟨rfl, rfl⟩ | ⟨rfl, rfl⟩
    · obtain ⟨_, _, _, _, _, z2⟩ := z2; exact Option.some.inj (Eq.trans (Eq.symm z1) z2)
    · obtain ⟨_, _, _, _, _, z2⟩ := z2; exact Option.some.inj (Eq.trans (Eq.symm z1) z2)
  have ew : Wc cA (adp ad m.1 q) (m.1 + 1, m.2) = Wc cA ad m ++ [(q, .inl (c9, N, .inr (.inr (.inr (.inr (fun _ => none))))))] := by rw [Wc_push hcan.2.2.2, hcell (m.1 + 1, m.2) rfl, ecA]
  have k := k hz.2 l D cA (adp ad m.1 q) A p e R s mth args below meth c Z (hC.av hN9) (hX.av hN9) (fun v m' ad' pc' ls H locs cells slots hg1 => hE v m' ad' pc' ls H locs cells slots (hag.tr hg1 (Nat.le_succ _))) ls H1 locs (cells + 1) (slots + N) ⟨by rw [ew]; exact p1, by rw [ew]; exact p2, p3, hcan.push ha.1⟩ (by rw [lvL_ag hag hLn]; exact hL) (by omega) (by omega)
  rw [List.map_cons, mapV_ag hag hSn, show toV (adp ad m.1 q) (vr m.1) = .ref q by show Value.ref (adp ad m.1 q m.1) = .ref q; unfold adp; rw [if_pos rfl]] at k
  exact k
theorem gc_aastore {g d : Nat} {Y : MD} {Q : Int → CW → Prop} {pc : Nat} {L S : List AV} {m : CW} {a kd N b ci : Nat} {i : Int} (hd : decode Y.2.1 pc = .ok (.aastore, 1)) (hkd : (kd = 4 ∧ ci = 6) ∨ (kd = 5 ∧ ci = 10)) (ha : ar a kd N) (han : a < m.1) (ho : ob b ci) (hbn : b < m.1) (h0 : 0 ≤ i) (h1 : i < N) (k : Gc g d Y Q (pc + 1) L S (m.1, pw m.2.1 a i.toNat (b + 1), m.2.2)) : Gc g d Y Q pc L (vr b :: vi i :: vr a :: S) m := by
  intro l D cA ad A p e R s mth args below meth c Z hC hX hE ls H locs cells slots hR hL hc hs
  obtain ⟨hx, hb, hmL, hown, hts, hnw, hK, hA, hStt, hfr, hlo, hfl⟩ := id hC
  obtain ⟨hP, hD, hS, hcan⟩ := id hR
  have hi := ar_in ha h0 h1
  have hcell : ∀ w : CW, ceC cA ad w a = .inl (cA kd, N, .inr (.inr (.inr (.inr (fun j => if w.2.1 a j = 0 then none else some (ad (w.2.1 a j - 1))))))) := by
    intro w
    unfold ceC
    rw [ha.2.1, ha.2.2.1, if_neg (by omega), if_neg (by omega), if_neg (by omega), show 100 + kd - 100 = kd by omega]
  have he : (Wc cA ad m)[a]? = some (ad a, .inl (cA kd, N, .inr (.inr (.inr (.inr (fun j => if m.2.1 a j = 0 then none else some (ad (m.2.1 a j - 1)))))))) := by rw [Wc_at han, hcell]
  have hv : (Wc cA ad m)[b]? = some (ad b, .inr (ci, fsC ad m b)) := by rw [Wc_at hbn, ceC_ob ho]
  have hq : ∃ r : vw_C, cls[ci]? = some r ∧ ety kd = .object r.1 := by
    rcases hkd with ⟨rfl, rfl⟩ | ⟨rfl, rfl⟩
    · exact ⟨_, rfl, rfl⟩
    · exact ⟨_, rfl, rfl⟩
  obtain ⟨r, hr1, hr2⟩ := hq
  refine va_astq hx hb hK hP hD hS a kd b ci he (by rw [tys_at (by omega), hr2]) hv hr1 (hi.inn h0 h1) hd (fun H1 locs1 q1 q2 q3 => ?_)
  have ef : va_up (fun j => if m.2.1 a j = 0 then none else some (ad (m.2.1 a j - 1))) (Int32.ofInt i).toNatClampNeg (some (ad b)) = fun j => if pw m.2.1 a i.toNat (b + 1) a j = 0 then none else some (ad (pw m.2.1 a i.toNat (b + 1) a j - 1)) := by
    rw [hi.cl]
    funext j
    unfold va_up pw
    by_cases z : j = i.toNat
    · have e9 : (if a = a ∧ j = i.toNat then b + 1 else m.2.1 a j) = b + 1 := if_pos ⟨rfl, z⟩
      rw [if_pos z, e9, if_neg (by omega)]; rfl
    · have e9 : (if a = a ∧ j = i.toNat then b + 1 else m.2.1 a j) = m.2.1 a j := if_neg (fun y => z y.2)
      rw [if_neg z, e9]
  have ew : (Wc cA ad m).set a (ad a, ceC cA ad (m.1, pw m.2.1 a i.toNat (b + 1), m.2.2) a) = Wc cA ad (m.1, pw m.2.1 a i.toNat (b + 1), m.2.2) := Wc_set rfl (fun q hq => ⟨pw_row hq, rfl⟩)
  rw [hcell] at ew
  rw [ef, ew] at q1 q2
  exact k l D cA ad A p e R s mth args below meth c Z hC hX hE ls H1 locs1 cells slots ⟨q1, q2, q3, hcan.pw han hbn⟩ hL hc hs
theorem ceC_i {cA : Nat → ClassId} {ad : Nat → Nat} {m : CW} {a kd n : Nat} (h : ar a kd n) (hk : kd < 3) : ceC cA ad m a = .inl (cA kd, n, .inl (fun j => Int32.ofInt (m.2.2 a (j : Int)))) := by
  unfold ceC; rw [h.2.1, h.2.2.1, if_neg (by omega), if_pos (by omega), show 100 + kd - 100 = kd by omega]
theorem ceC_l {cA : Nat → ClassId} {ad : Nat → Nat} {m : CW} {a n : Nat} (h : ar a 3 n) : ceC cA ad m a = .inl (cA 3, n, .inr (.inl (fun j => Int64.ofInt (m.2.2 a (j : Int))))) := by
  unfold ceC; rw [h.2.1, h.2.2.1, if_neg (by omega), if_neg (by omega), if_pos (by omega)]
theorem gc_iastore {g d : Nat} {Y : MD} {Q : Int → CW → Prop} {pc : Nat} {L S : List AV} {m : CW} {a n : Nat} {i x : Int} (hd : decode Y.2.1 pc = .ok (.iastore, 1)) (ha : ar a 0 n) (han : a < m.1) (h0 : 0 ≤ i) (h1 : i < n) (hx : InR x) (k : Gc g d Y Q (pc + 1) L S (m.1, m.2.1, wr m.2.2 a i x)) : Gc g d Y Q pc L (vi x :: vi i :: vr a :: S) m := by
  intro l D cA ad A p e R s mth args below meth c Z hC hX hE ls H locs cells slots hR hL hc hs
  have hi := ar_in ha h0 h1
  have he : (Wc cA ad m)[a]? = some (ad a, .inl (cA 0, n, .inl (fun j => Int32.ofInt (m.2.2 a (j : Int))))) := by rw [Wc_at han, ceC_i ha (by omega)]
  have hcan : CanC (m.1, m.2.1, wr m.2.2 a i x) := hR.2.2.2.wr han h0 (by rw [ha.2.2.1]; exact h1) (by rw [tyOf_ar ha]; exact hx)
  have ew : (Wc cA ad m).set a (ad a, ceC cA ad (m.1, m.2.1, wr m.2.2 a i x) a) = Wc cA ad (m.1, m.2.1, wr m.2.2 a i x) := Wc_set rfl (fun q hq => ⟨rfl, wr_row hq⟩)
  rw [ceC_i ha (by omega)] at ew
  refine va_iast hC.1 hC.2.1 hC.2.2.2.2.2.2.1 hR.1 hR.2.1 hR.2.2.1 a 0 he (tys_at (by omega)) (hi.inn h0 h1) hd (fun H1 locs1 q1 q2 q3 => ?_)
  rw [hi.cl, upd_i h0, ew] at q1 q2
  exact k l D cA ad A p e R s mth args below meth c Z hC hX hE ls H1 locs1 cells slots ⟨q1, q2, q3, hcan⟩ hL hc hs
theorem gc_lastore {g d : Nat} {Y : MD} {Q : Int → CW → Prop} {pc : Nat} {L S : List AV} {m : CW} {a n : Nat} {i x : Int} (hd : decode Y.2.1 pc = .ok (.lastore, 1)) (ha : ar a 3 n) (han : a < m.1) (h0 : 0 ≤ i) (h1 : i < n) (hx : InL x) (k : Gc g d Y Q (pc + 1) L S (m.1, m.2.1, wr m.2.2 a i x)) : Gc g d Y Q pc L (vl x :: vi i :: vr a :: S) m := by
  intro l D cA ad A p e R s mth args below meth c Z hC hX hE ls H locs cells slots hR hL hc hs
  have hi := ar_in ha h0 h1
  have he : (Wc cA ad m)[a]? = some (ad a, .inl (cA 3, n, .inr (.inl (fun j => Int64.ofInt (m.2.2 a (j : Int)))))) := by rw [Wc_at han, ceC_l ha]
  have hcan : CanC (m.1, m.2.1, wr m.2.2 a i x) := hR.2.2.2.wr han h0 (by rw [ha.2.2.1]; exact h1) (by rw [tyOf_ar ha]; exact hx)
  have ew : (Wc cA ad m).set a (ad a, ceC cA ad (m.1, m.2.1, wr m.2.2 a i x) a) = Wc cA ad (m.1, m.2.1, wr m.2.2 a i x) := Wc_set rfl (fun q hq => ⟨rfl, wr_row hq⟩)
  rw [ceC_l ha] at ew
  refine va_last hC.1 hC.2.1 hC.2.2.2.2.2.2.1 hR.1 hR.2.1 hR.2.2.1 a 3 he (tys_at (by omega)) (hi.inn h0 h1) hd (fun H1 locs1 q1 q2 q3 => ?_)
  rw [hi.cl, upd_l h0, ew] at q1 q2
  exact k l D cA ad A p e R s mth args below meth c Z hC hX hE ls H1 locs1 cells slots ⟨q1, q2, q3, hcan⟩ hL hc hs
theorem gc_iaload {g d : Nat} {Y : MD} {Q : Int → CW → Prop} {pc : Nat} {L S : List AV} {m : CW} {a n : Nat} {i : Int} (hd : decode Y.2.1 pc = .ok (.iaload, 1)) (ha : ar a 0 n) (han : a < m.1) (h0 : 0 ≤ i) (h1 : i < n) (k : InR (m.2.2 a i) → Gc g d Y Q (pc + 1) L (vi (m.2.2 a i) :: S) m) : Gc g d Y Q pc L (vi i :: vr a :: S) m := by
  intro l D cA ad A p e R s mth args below meth c Z hC hX hE ls H locs cells slots hR hL hc hs
  have hi := ar_in ha h0 h1
  have k := k (by have := (hR.2.2.2.1 a i).1; rw [tyOf_ar ha] at this; exact this) l D cA ad A p e R s mth args below meth c Z hC hX hE ls H locs cells slots hR hL hc hs
  have he : (Wc cA ad m)[a]? = some (ad a, .inl (cA 0, n, .inl (fun j => Int32.ofInt (m.2.2 a (j : Int))))) := by rw [Wc_at han, ceC_i ha (by omega)]
  refine va_iald hC.1 hC.2.1 hC.2.2.2.2.2.2.1 hR.1 a 0 he (tys_at (by omega)) (hi.inn h0 h1) hd ?_
  rw [hi.cl, Int.toNat_of_nonneg h0]
  exact k
theorem gc_laload {g d : Nat} {Y : MD} {Q : Int → CW → Prop} {pc : Nat} {L S : List AV} {m : CW} {a n : Nat} {i : Int} (hd : decode Y.2.1 pc = .ok (.laload, 1)) (ha : ar a 3 n) (han : a < m.1) (h0 : 0 ≤ i) (h1 : i < n) (k : InL (m.2.2 a i) → Gc g d Y Q (pc + 1) L (vl (m.2.2 a i) :: S) m) : Gc g d Y Q pc L (vi i :: vr a :: S) m := by
  intro l D cA ad A p e R s mth args below meth c Z hC hX hE ls H locs cells slots hR hL hc hs
  have hi := ar_in ha h0 h1
  have k := k (by have := (hR.2.2.2.1 a i).1; rw [tyOf_ar ha] at this; exact this) l D cA ad A p e R s mth args below meth c Z hC hX hE ls H locs cells slots hR hL hc hs
  have he : (Wc cA ad m)[a]? = some (ad a, .inl (cA 3, n, .inr (.inl (fun j => Int64.ofInt (m.2.2 a (j : Int)))))) := by rw [Wc_at han, ceC_l ha]
  refine va_lald hC.1 hC.2.1 hC.2.2.2.2.2.2.1 hR.1 a 3 he (tys_at (by omega)) (hi.inn h0 h1) hd ?_
  rw [hi.cl, Int.toNat_of_nonneg h0]
  exact k
theorem gc_obj {g d : Nat} {Y : MD} {Q : Int → CW → Prop} {pc : Nat} {L S : List AV} {m : CW} {a idx : Nat} (hd : decode Y.2.1 pc = .ok (.invokespecial idx, 3)) (hlk : Cond.methodLink Y.1.cls idx Lib.objectInit ∈ tblG) (hin : Cond.instanceMethod Lib.objectInit ∈ tblG) (hco : Cond.code Lib.objectInit ⟨#[0xb1]⟩ 1 none ∈ tblG) (hd1 : 1 ≤ d) (hrm : scat S ≤ 8) (k : Gc g d Y Q (pc + 3) L S m) : Gc g d Y Q pc L (vr a :: S) m := by
  intro l D cA ad A p e R s mth args below meth c Z hC hX hE ls H locs cells slots hR hL hc hs
  obtain ⟨hx, hb, hmL, hown, hts, hnw, hK, hA, hStt, hfr, hlo, hfl⟩ := id hC
  have hWst : 2 * (F0 mth pc ls ((vr a :: S).map (toV ad))).monitorRoom + ((S.map (toV ad)).map fun v => v.category).sum ≤ 8 := lv_room (by rw [scat_eq]; exact hrm)
  exact W.objInit hx hb hown (hts _ hlk) (hts _ hin) (hts _ hco) rfl (hL.1.trans hmL.symm) rfl hd (by omega) (by omega) (k l D cA ad A p e R s mth args below meth c Z hC hX hE ls H locs cells slots hR hL hc hs)
set_option maxRecDepth 20000 in
theorem ob_in : Cond.instanceMethod Lib.objectInit ∈ tblG := (tblG_in (List.mem_append_right _ (List.mem_append_left _ (List.mem_of_getElem? (l := tables_1_1) (i := 31) rfl))) rfl)
set_option maxRecDepth 20000 in
theorem ob_co : Cond.code Lib.objectInit ⟨#[0xb1]⟩ 1 none ∈ tblG := (tblG_in (List.mem_append_right _ (List.mem_append_left _ (List.mem_of_getElem? (l := tables_1_1) (i := 32) rfl))) rfl)
set_option maxRecDepth 20000 in
theorem oj_11 : Cond.methodLink RX11 3 Lib.objectInit ∈ tblG := (tblG_in (List.mem_append_right _ (List.mem_append_left _ (List.mem_of_getElem? (l := tables_1_1) (i := 30) rfl))) rfl)
set_option maxRecDepth 20000 in
theorem ci_11_11 : CI RX11 11 mX7_init 0 := ⟨⟨Or.inr ⟨"CartTurns", List.mem_of_getElem? (i := 0) (by decide +kernel)⟩, ini_7, co_X7_init, by decide +kernel, by decide +kernel, by decide +kernel, by decide⟩, (tblG_in (List.mem_append_right _ (List.mem_append_left _ (List.mem_of_getElem? (l := tables_1_1) (i := 36) rfl))) rfl), rfl, rfl⟩
set_option maxRecDepth 20000 in
theorem ci_11_20 : CI RX11 20 mX1_init 0 := ⟨⟨Or.inr ⟨"CartTurns", List.mem_of_getElem? (i := 2) (by decide +kernel)⟩, ini_1, co_X1_init, by decide +kernel, by decide +kernel, by decide +kernel, by decide⟩, (tblG_in (List.mem_append_right _ (List.mem_append_left _ (List.mem_of_getElem? (l := tables_1_1) (i := 159) rfl))) rfl), rfl, rfl⟩
set_option maxRecDepth 20000 in
theorem ci_11_21 : CI RX11 21 mX10_init 1 := ⟨⟨Or.inl (tblG_in (List.mem_append_right _ (List.mem_append_right _ (List.mem_append_left _ (List.mem_of_getElem? (l := tables_1_2) (i := 11) rfl)))) rfl), ini_10, co_X10_init, by decide +kernel, by decide +kernel, by decide +kernel, by decide⟩, (tblG_in (List.mem_append_right _ (List.mem_append_right _ (List.mem_append_left _ (List.mem_of_getElem? (l := tables_1_2) (i := 12) rfl)))) rfl), rfl, rfl⟩
set_option maxRecDepth 20000 in
theorem ci_11_37 : CI RX11 37 mX2_init 1 := ⟨⟨Or.inl (tblG_in (List.mem_append_right _ (List.mem_append_right _ (List.mem_append_left _ (List.mem_of_getElem? (l := tables_1_2) (i := 132) rfl)))) rfl), ini_2, co_X2_init, by decide +kernel, by decide +kernel, by decide +kernel, by decide⟩, (tblG_in (List.mem_append_right _ (List.mem_append_right _ (List.mem_append_left _ (List.mem_of_getElem? (l := tables_1_2) (i := 133) rfl)))) rfl), rfl, rfl⟩
set_option maxRecDepth 20000 in
theorem ci_11_46 : CI RX11 46 mX0_init 1 := ⟨⟨Or.inl (tblG_in (List.mem_append_right _ (List.mem_append_right _ (List.mem_append_left _ (List.mem_of_getElem? (l := tables_1_2) (i := 156) rfl)))) rfl), ini_0, co_X0_init, by decide +kernel, by decide +kernel, by decide +kernel, by decide⟩, (tblG_in (List.mem_append_right _ (List.mem_append_right _ (List.mem_append_left _ (List.mem_of_getElem? (l := tables_1_2) (i := 157) rfl)))) rfl), rfl, rfl⟩
set_option maxRecDepth 20000 in
theorem ci_11_53 : CI RX11 53 mX5_init 0 := ⟨⟨Or.inr ⟨"CartTurns", List.mem_of_getElem? (i := 6) (by decide +kernel)⟩, ini_5, co_X5_init, by decide +kernel, by decide +kernel, by decide +kernel, by decide⟩, (tblG_in (List.mem_append_right _ (List.mem_append_right _ (List.mem_append_left _ (List.mem_of_getElem? (l := tables_1_2) (i := 84) rfl)))) rfl), rfl, rfl⟩
set_option maxRecDepth 20000 in
theorem ci_11_60 : CI RX11 60 mX4_init 0 := ⟨⟨Or.inr ⟨"CartTurns", List.mem_of_getElem? (i := 7) (by decide +kernel)⟩, ini_4, co_X4_init, by decide +kernel, by decide +kernel, by decide +kernel, by decide⟩, (tblG_in (List.mem_append_right _ (List.mem_append_right _ (List.mem_append_left _ (List.mem_of_getElem? (l := tables_1_2) (i := 207) rfl)))) rfl), rfl, rfl⟩
set_option maxRecDepth 20000 in
theorem ci_11_67 : CI RX11 67 mX9_init 0 := ⟨⟨Or.inr ⟨"CartTurns", List.mem_of_getElem? (i := 8) (by decide +kernel)⟩, ini_9, co_X9_init, by decide +kernel, by decide +kernel, by decide +kernel, by decide⟩, (tblG_in (List.mem_append_right _ (List.mem_append_right _ (List.mem_append_right _ (List.mem_append_left _ (List.mem_of_getElem? (l := tables_1_3) (i := 4) rfl))))) rfl), rfl, rfl⟩
set_option maxRecDepth 20000 in
theorem ci_11_74 : CI RX11 74 mX8_init 0 := ⟨⟨Or.inr ⟨"CartTurns", List.mem_of_getElem? (i := 9) (by decide +kernel)⟩, ini_8, co_X8_init, by decide +kernel, by decide +kernel, by decide +kernel, by decide⟩, (tblG_in (List.mem_append_right _ (List.mem_append_right _ (List.mem_append_right _ (List.mem_append_left _ (List.mem_of_getElem? (l := tables_1_3) (i := 22) rfl))))) rfl), rfl, rfl⟩
set_option maxRecDepth 20000 in
theorem ci_11_81 : CI RX11 81 mX3_init 0 := ⟨⟨Or.inl (tblG_in (List.mem_append_right _ (List.mem_append_right _ (List.mem_append_right _ (List.mem_append_left _ (List.mem_of_getElem? (l := tables_1_3) (i := 45) rfl))))) rfl), ini_3, co_X3_init, by decide +kernel, by decide +kernel, by decide +kernel, by decide⟩, (tblG_in (List.mem_append_right _ (List.mem_append_right _ (List.mem_append_right _ (List.mem_append_left _ (List.mem_of_getElem? (l := tables_1_3) (i := 46) rfl))))) rfl), rfl, rfl⟩
set_option maxRecDepth 20000 in
theorem oj_0 : Cond.methodLink RX0 3 Lib.objectInit ∈ tblG := (tblG_in (List.mem_append_right _ (List.mem_append_right _ (List.mem_append_left _ (List.mem_of_getElem? (l := tables_1_2) (i := 159) rfl)))) rfl)
set_option maxRecDepth 20000 in
theorem oj_1 : Cond.methodLink RX1 3 Lib.objectInit ∈ tblG := (tblG_in (List.mem_append_right _ (List.mem_append_left _ (List.mem_of_getElem? (l := tables_1_1) (i := 161) rfl))) rfl)
set_option maxRecDepth 20000 in
theorem oj_2 : Cond.methodLink RX2 3 Lib.objectInit ∈ tblG := (tblG_in (List.mem_append_right _ (List.mem_append_right _ (List.mem_append_left _ (List.mem_of_getElem? (l := tables_1_2) (i := 135) rfl)))) rfl)
set_option maxRecDepth 20000 in
theorem ci_2_13 : CI RX2 13 mX1_init 0 := ⟨⟨Or.inr ⟨"CartTurns", List.mem_of_getElem? (i := 5) (by decide +kernel)⟩, ini_1, co_X1_init, by decide +kernel, by decide +kernel, by decide +kernel, by decide⟩, (tblG_in (List.mem_append_right _ (List.mem_append_left _ (List.mem_of_getElem? (l := tables_1_1) (i := 159) rfl))) rfl), rfl, rfl⟩
set_option maxRecDepth 20000 in
theorem ci_2_14 : CI RX2 14 mX10_init 1 := ⟨⟨Or.inl (tblG_in (List.mem_append_right _ (List.mem_append_right _ (List.mem_append_left _ (List.mem_of_getElem? (l := tables_1_2) (i := 139) rfl)))) rfl), ini_10, co_X10_init, by decide +kernel, by decide +kernel, by decide +kernel, by decide⟩, (tblG_in (List.mem_append_right _ (List.mem_append_right _ (List.mem_append_left _ (List.mem_of_getElem? (l := tables_1_2) (i := 12) rfl)))) rfl), rfl, rfl⟩
set_option maxRecDepth 20000 in
theorem oj_3 : Cond.methodLink RX3 3 Lib.objectInit ∈ tblG := (tblG_in (List.mem_append_right _ (List.mem_append_right _ (List.mem_append_right _ (List.mem_append_left _ (List.mem_of_getElem? (l := tables_1_3) (i := 48) rfl))))) rfl)
set_option maxRecDepth 20000 in
theorem ci_3_24 : CI RX3 24 mX6_init 0 := ⟨⟨Or.inr ⟨"CartTurns", List.mem_of_getElem? (i := 10) (by decide +kernel)⟩, ini_6, co_X6_init, by decide +kernel, by decide +kernel, by decide +kernel, by decide⟩, (tblG_in (List.mem_append_right _ (List.mem_append_right _ (List.mem_append_left _ (List.mem_of_getElem? (l := tables_1_2) (i := 18) rfl)))) rfl), rfl, rfl⟩
set_option maxRecDepth 20000 in
theorem oj_4 : Cond.methodLink RX4 3 Lib.objectInit ∈ tblG := (tblG_in (List.mem_append_right _ (List.mem_append_right _ (List.mem_append_left _ (List.mem_of_getElem? (l := tables_1_2) (i := 209) rfl)))) rfl)
set_option maxRecDepth 20000 in
theorem oj_5 : Cond.methodLink RX5 3 Lib.objectInit ∈ tblG := (tblG_in (List.mem_append_right _ (List.mem_append_right _ (List.mem_append_left _ (List.mem_of_getElem? (l := tables_1_2) (i := 86) rfl)))) rfl)
set_option maxRecDepth 20000 in
theorem oj_6 : Cond.methodLink RX6 3 Lib.objectInit ∈ tblG := (tblG_in (List.mem_append_right _ (List.mem_append_right _ (List.mem_append_left _ (List.mem_of_getElem? (l := tables_1_2) (i := 20) rfl)))) rfl)
set_option maxRecDepth 20000 in
theorem oj_7 : Cond.methodLink RX7 3 Lib.objectInit ∈ tblG := (tblG_in (List.mem_append_right _ (List.mem_append_left _ (List.mem_of_getElem? (l := tables_1_1) (i := 38) rfl))) rfl)
set_option maxRecDepth 20000 in
theorem oj_8 : Cond.methodLink RX8 3 Lib.objectInit ∈ tblG := (tblG_in (List.mem_append_right _ (List.mem_append_right _ (List.mem_append_right _ (List.mem_append_left _ (List.mem_of_getElem? (l := tables_1_3) (i := 24) rfl))))) rfl)
set_option maxRecDepth 20000 in
theorem oj_9 : Cond.methodLink RX9 3 Lib.objectInit ∈ tblG := (tblG_in (List.mem_append_right _ (List.mem_append_right _ (List.mem_append_right _ (List.mem_append_left _ (List.mem_of_getElem? (l := tables_1_3) (i := 6) rfl))))) rfl)
set_option maxRecDepth 20000 in
theorem oj_10 : Cond.methodLink RX10 3 Lib.objectInit ∈ tblG := (tblG_in (List.mem_append_right _ (List.mem_append_right _ (List.mem_append_left _ (List.mem_of_getElem? (l := tables_1_2) (i := 14) rfl)))) rfl)
set_option maxRecDepth 20000 in
theorem ci_10_11 : CI RX10 11 mX6_init 0 := ⟨⟨Or.inr ⟨"CartTurns", List.mem_of_getElem? (i := 3) (by decide +kernel)⟩, ini_6, co_X6_init, by decide +kernel, by decide +kernel, by decide +kernel, by decide⟩, (tblG_in (List.mem_append_right _ (List.mem_append_right _ (List.mem_append_left _ (List.mem_of_getElem? (l := tables_1_2) (i := 18) rfl)))) rfl), rfl, rfl⟩
set_option maxRecDepth 20000 in
theorem ci_10_20 : CI RX10 20 mX5_init 0 := ⟨⟨Or.inr ⟨"CartTurns", List.mem_of_getElem? (i := 4) (by decide +kernel)⟩, ini_5, co_X5_init, by decide +kernel, by decide +kernel, by decide +kernel, by decide⟩, (tblG_in (List.mem_append_right _ (List.mem_append_right _ (List.mem_append_left _ (List.mem_of_getElem? (l := tables_1_2) (i := 84) rfl)))) rfl), rfl, rfl⟩
set_option maxRecDepth 20000 in
theorem ci_L_19 : CI "CartTurnsLaw" 19 mX11_init 0 := ⟨⟨Or.inl (tblG_in (List.mem_append_right _ (List.mem_append_left _ (List.mem_of_getElem? (l := tables_1_1) (i := 27) rfl))) rfl), ini_11, co_X11_init, by decide +kernel, by decide +kernel, by decide +kernel, by decide⟩, (tblG_in (List.mem_append_right _ (List.mem_append_left _ (List.mem_of_getElem? (l := tables_1_1) (i := 28) rfl))) rfl), rfl, rfl⟩
set_option maxRecDepth 20000 in
theorem ci_L_22 : CI "CartTurnsLaw" 22 mX12_init 0 := ⟨⟨Or.inl (tblG_in (List.mem_append_right _ (List.mem_append_right _ (List.mem_append_right _ (List.mem_append_right _ (List.mem_append_right _ (List.mem_append_right _ (List.mem_append_left _ (List.mem_of_getElem? (l := tables_1_6) (i := 178) rfl)))))))) rfl), ini_12, co_X12_init, by decide +kernel, by decide +kernel, by decide +kernel, by decide⟩, (tblG_in (List.mem_append_right _ (List.mem_append_right _ (List.mem_append_right _ (List.mem_append_right _ (List.mem_append_right _ (List.mem_append_right _ (List.mem_append_left _ (List.mem_of_getElem? (l := tables_1_6) (i := 179) rfl)))))))) rfl), rfl, rfl⟩
set_option maxRecDepth 20000 in
theorem oj_12 : Cond.methodLink RX12 93 Lib.objectInit ∈ tblG := (tblG_in (List.mem_append_right _ (List.mem_append_right _ (List.mem_append_right _ (List.mem_append_right _ (List.mem_append_right _ (List.mem_append_right _ (List.mem_append_left _ (List.mem_of_getElem? (l := tables_1_6) (i := 181) rfl)))))))) rfl)
set_option maxRecDepth 20000 in
theorem cl_L_8 : Cond.classLink "CartTurnsLaw" 8 RX11 ∈ tblG := (tblG_in (List.mem_append_right _ (List.mem_append_left _ (List.mem_of_getElem? (l := tables_1_1) (i := 25) rfl))) rfl)
set_option maxRecDepth 20000 in
theorem nw_L_8 : NWc "CartTurnsLaw" 8 11 := ⟨RX11, TX11, 14, rfl, in_X11, tyX11_ok, cl_L_8, (tblG_in (List.mem_append_right _ (List.mem_append_left _ (List.mem_of_getElem? (l := tables_1_1) (i := 26) rfl))) rfl), ini_11, by decide⟩
set_option maxRecDepth 20000 in
theorem cl_11_9 : Cond.classLink RX11 9 RX7 ∈ tblG := (tblG_in (List.mem_append_right _ (List.mem_append_left _ (List.mem_of_getElem? (l := tables_1_1) (i := 33) rfl))) rfl)
set_option maxRecDepth 20000 in
theorem nw_11_9 : NWc RX11 9 7 := ⟨RX7, TX7, 14, rfl, in_X7, tyX7_ok, cl_11_9, (tblG_in (List.mem_append_right _ (List.mem_append_left _ (List.mem_of_getElem? (l := tables_1_1) (i := 34) rfl))) rfl), ini_7, by decide⟩
set_option maxRecDepth 20000 in
theorem cl_11_16 : Cond.classLink RX11 16 RX10 ∈ tblG := (tblG_in (List.mem_append_right _ (List.mem_append_left _ (List.mem_of_getElem? (l := tables_1_1) (i := 154) rfl))) rfl)
set_option maxRecDepth 20000 in
theorem nw_11_16 : NWc RX11 16 10 := ⟨RX10, TX10, 4, rfl, in_X10, tyX10_ok, cl_11_16, (tblG_in (List.mem_append_right _ (List.mem_append_left _ (List.mem_of_getElem? (l := tables_1_1) (i := 155) rfl))) rfl), ini_10, by decide⟩
set_option maxRecDepth 20000 in
theorem cl_11_18 : Cond.classLink RX11 18 RX1 ∈ tblG := (tblG_in (List.mem_append_right _ (List.mem_append_left _ (List.mem_of_getElem? (l := tables_1_1) (i := 156) rfl))) rfl)
set_option maxRecDepth 20000 in
theorem nw_11_18 : NWc RX11 18 1 := ⟨RX1, TX1, 14, rfl, in_X1, tyX1_ok, cl_11_18, (tblG_in (List.mem_append_right _ (List.mem_append_left _ (List.mem_of_getElem? (l := tables_1_1) (i := 157) rfl))) rfl), ini_1, by decide⟩
set_option maxRecDepth 20000 in
theorem cl_10_9 : Cond.classLink RX10 9 RX6 ∈ tblG := (tblG_in (List.mem_append_right _ (List.mem_append_right _ (List.mem_append_left _ (List.mem_of_getElem? (l := tables_1_2) (i := 15) rfl)))) rfl)
set_option maxRecDepth 20000 in
theorem nw_10_9 : NWc RX10 9 6 := ⟨RX6, TX6, 9, rfl, in_X6, tyX6_ok, cl_10_9, (tblG_in (List.mem_append_right _ (List.mem_append_right _ (List.mem_append_left _ (List.mem_of_getElem? (l := tables_1_2) (i := 16) rfl)))) rfl), ini_6, by decide⟩
set_option maxRecDepth 20000 in
theorem cl_10_18 : Cond.classLink RX10 18 RX5 ∈ tblG := (tblG_in (List.mem_append_right _ (List.mem_append_right _ (List.mem_append_left _ (List.mem_of_getElem? (l := tables_1_2) (i := 81) rfl)))) rfl)
set_option maxRecDepth 20000 in
theorem nw_10_18 : NWc RX10 18 5 := ⟨RX5, TX5, 6, rfl, in_X5, tyX5_ok, cl_10_18, (tblG_in (List.mem_append_right _ (List.mem_append_right _ (List.mem_append_left _ (List.mem_of_getElem? (l := tables_1_2) (i := 82) rfl)))) rfl), ini_5, by decide⟩
set_option maxRecDepth 20000 in
theorem cl_11_35 : Cond.classLink RX11 35 RX2 ∈ tblG := (tblG_in (List.mem_append_right _ (List.mem_append_right _ (List.mem_append_left _ (List.mem_of_getElem? (l := tables_1_2) (i := 130) rfl)))) rfl)
set_option maxRecDepth 20000 in
theorem nw_11_35 : NWc RX11 35 2 := ⟨RX2, TX2, 4, rfl, in_X2, tyX2_ok, cl_11_35, (tblG_in (List.mem_append_right _ (List.mem_append_right _ (List.mem_append_left _ (List.mem_of_getElem? (l := tables_1_2) (i := 131) rfl)))) rfl), ini_2, by decide⟩
set_option maxRecDepth 20000 in
theorem cl_2_9 : Cond.classLink RX2 9 RX10 ∈ tblG := (tblG_in (List.mem_append_right _ (List.mem_append_right _ (List.mem_append_left _ (List.mem_of_getElem? (l := tables_1_2) (i := 136) rfl)))) rfl)
set_option maxRecDepth 20000 in
theorem nw_2_9 : NWc RX2 9 10 := ⟨RX10, TX10, 4, rfl, in_X10, tyX10_ok, cl_2_9, (tblG_in (List.mem_append_right _ (List.mem_append_left _ (List.mem_of_getElem? (l := tables_1_1) (i := 155) rfl))) rfl), ini_10, by decide⟩
set_option maxRecDepth 20000 in
theorem cl_2_11 : Cond.classLink RX2 11 RX1 ∈ tblG := (tblG_in (List.mem_append_right _ (List.mem_append_right _ (List.mem_append_left _ (List.mem_of_getElem? (l := tables_1_2) (i := 137) rfl)))) rfl)
set_option maxRecDepth 20000 in
theorem nw_2_11 : NWc RX2 11 1 := ⟨RX1, TX1, 14, rfl, in_X1, tyX1_ok, cl_2_11, (tblG_in (List.mem_append_right _ (List.mem_append_left _ (List.mem_of_getElem? (l := tables_1_1) (i := 157) rfl))) rfl), ini_1, by decide⟩
set_option maxRecDepth 20000 in
theorem cl_11_44 : Cond.classLink RX11 44 RX0 ∈ tblG := (tblG_in (List.mem_append_right _ (List.mem_append_right _ (List.mem_append_left _ (List.mem_of_getElem? (l := tables_1_2) (i := 154) rfl)))) rfl)
set_option maxRecDepth 20000 in
theorem nw_11_44 : NWc RX11 44 0 := ⟨RX0, TX0, 12, rfl, in_X0, tyX0_ok, cl_11_44, (tblG_in (List.mem_append_right _ (List.mem_append_right _ (List.mem_append_left _ (List.mem_of_getElem? (l := tables_1_2) (i := 155) rfl)))) rfl), ini_0, by decide⟩
set_option maxRecDepth 20000 in
theorem cl_11_51 : Cond.classLink RX11 51 RX5 ∈ tblG := (tblG_in (List.mem_append_right _ (List.mem_append_right _ (List.mem_append_left _ (List.mem_of_getElem? (l := tables_1_2) (i := 202) rfl)))) rfl)
set_option maxRecDepth 20000 in
theorem nw_11_51 : NWc RX11 51 5 := ⟨RX5, TX5, 6, rfl, in_X5, tyX5_ok, cl_11_51, (tblG_in (List.mem_append_right _ (List.mem_append_right _ (List.mem_append_left _ (List.mem_of_getElem? (l := tables_1_2) (i := 82) rfl)))) rfl), ini_5, by decide⟩
set_option maxRecDepth 20000 in
theorem cl_11_58 : Cond.classLink RX11 58 RX4 ∈ tblG := (tblG_in (List.mem_append_right _ (List.mem_append_right _ (List.mem_append_left _ (List.mem_of_getElem? (l := tables_1_2) (i := 204) rfl)))) rfl)
set_option maxRecDepth 20000 in
theorem nw_11_58 : NWc RX11 58 4 := ⟨RX4, TX4, 9, rfl, in_X4, tyX4_ok, cl_11_58, (tblG_in (List.mem_append_right _ (List.mem_append_right _ (List.mem_append_left _ (List.mem_of_getElem? (l := tables_1_2) (i := 205) rfl)))) rfl), ini_4, by decide⟩
set_option maxRecDepth 20000 in
theorem cl_11_65 : Cond.classLink RX11 65 RX9 ∈ tblG := (tblG_in (List.mem_append_right _ (List.mem_append_right _ (List.mem_append_right _ (List.mem_append_left _ (List.mem_of_getElem? (l := tables_1_3) (i := 1) rfl))))) rfl)
set_option maxRecDepth 20000 in
theorem nw_11_65 : NWc RX11 65 9 := ⟨RX9, TX9, 3, rfl, in_X9, tyX9_ok, cl_11_65, (tblG_in (List.mem_append_right _ (List.mem_append_right _ (List.mem_append_right _ (List.mem_append_left _ (List.mem_of_getElem? (l := tables_1_3) (i := 2) rfl))))) rfl), ini_9, by decide⟩
set_option maxRecDepth 20000 in
theorem cl_11_72 : Cond.classLink RX11 72 RX8 ∈ tblG := (tblG_in (List.mem_append_right _ (List.mem_append_right _ (List.mem_append_right _ (List.mem_append_left _ (List.mem_of_getElem? (l := tables_1_3) (i := 19) rfl))))) rfl)
set_option maxRecDepth 20000 in
theorem nw_11_72 : NWc RX11 72 8 := ⟨RX8, TX8, 5, rfl, in_X8, tyX8_ok, cl_11_72, (tblG_in (List.mem_append_right _ (List.mem_append_right _ (List.mem_append_right _ (List.mem_append_left _ (List.mem_of_getElem? (l := tables_1_3) (i := 20) rfl))))) rfl), ini_8, by decide⟩
set_option maxRecDepth 20000 in
theorem cl_11_79 : Cond.classLink RX11 79 RX3 ∈ tblG := (tblG_in (List.mem_append_right _ (List.mem_append_right _ (List.mem_append_right _ (List.mem_append_left _ (List.mem_of_getElem? (l := tables_1_3) (i := 43) rfl))))) rfl)
set_option maxRecDepth 20000 in
theorem nw_11_79 : NWc RX11 79 3 := ⟨RX3, TX3, 3, rfl, in_X3, tyX3_ok, cl_11_79, (tblG_in (List.mem_append_right _ (List.mem_append_right _ (List.mem_append_right _ (List.mem_append_left _ (List.mem_of_getElem? (l := tables_1_3) (i := 44) rfl))))) rfl), ini_3, by decide⟩
set_option maxRecDepth 20000 in
theorem cl_3_9 : Cond.classLink RX3 9 RX6 ∈ tblG := (tblG_in (List.mem_append_right _ (List.mem_append_right _ (List.mem_append_right _ (List.mem_append_left _ (List.mem_of_getElem? (l := tables_1_3) (i := 49) rfl))))) rfl)
set_option maxRecDepth 20000 in
theorem nw_3_9 : NWc RX3 9 6 := ⟨RX6, TX6, 9, rfl, in_X6, tyX6_ok, cl_3_9, (tblG_in (List.mem_append_right _ (List.mem_append_right _ (List.mem_append_left _ (List.mem_of_getElem? (l := tables_1_2) (i := 16) rfl)))) rfl), ini_6, by decide⟩
set_option maxRecDepth 20000 in
theorem cl_L_20 : Cond.classLink "CartTurnsLaw" 20 RX12 ∈ tblG := (tblG_in (List.mem_append_right _ (List.mem_append_right _ (List.mem_append_right _ (List.mem_append_right _ (List.mem_append_right _ (List.mem_append_right _ (List.mem_append_left _ (List.mem_of_getElem? (l := tables_1_6) (i := 177) rfl)))))))) rfl)
set_option maxRecDepth 20000 in
theorem nw_L_20 : NWc "CartTurnsLaw" 20 12 := ⟨RX12, TX12, 48, rfl, in_X12, tyX12_ok, cl_L_20, (tblG_in (List.mem_append_right _ (List.mem_append_right _ (List.mem_append_right _ (List.mem_append_right _ (List.mem_append_right _ (List.mem_append_right _ (List.mem_append_left _ (List.mem_of_getElem? (l := tables_1_6) (i := 171) rfl)))))))) rfl), ini_12, by decide⟩
set_option maxRecDepth 20000 in
theorem aw_0 : Cond.arrayClass (ety 0) ∈ tblG := (tblG_in (List.mem_append_right _ (List.mem_append_left _ (List.mem_of_getElem? (l := tables_1_1) (i := 153) rfl))) rfl)
set_option maxRecDepth 20000 in
theorem aw_1 : Cond.arrayClass (ety 1) ∈ tblG := (tblG_in (List.mem_append_right _ (List.mem_append_left _ (List.mem_of_getElem? (l := tables_1_1) (i := 151) rfl))) rfl)
set_option maxRecDepth 20000 in
theorem aw_2 : Cond.arrayClass (ety 2) ∈ tblG := (tblG_in (List.mem_append_right _ (List.mem_append_right _ (List.mem_append_left _ (List.mem_of_getElem? (l := tables_1_2) (i := 107) rfl)))) rfl)
set_option maxRecDepth 20000 in
theorem aw_3 : Cond.arrayClass (ety 3) ∈ tblG := (tblG_in (List.mem_append_right _ (List.mem_append_left _ (List.mem_of_getElem? (l := tables_1_1) (i := 152) rfl))) rfl)
set_option maxRecDepth 20000 in
theorem fk_11_12 : ∀ q : vw_C, cls[11]? = some q → Cond.fieldLink RX11 12 (q.2.1 0).1 (q.2.1 0).2.1 (q.2.1 0).2.2.1 ∈ tblG := fun q h => by cases h; exact (tblG_in (List.mem_append_right _ (List.mem_append_right _ (List.mem_append_right _ (List.mem_append_left _ (List.mem_of_getElem? (l := tables_1_3) (i := 63) rfl))))) rfl)
theorem ff_11_12 : ∀ q : vw_C, cls[11]? = some q → (q.2.1 0).2.2.2 = true ∧ (q.2.1 0).1 = RX11 := fun q h => by cases h; exact ⟨rfl, rfl⟩
set_option maxRecDepth 20000 in
theorem fk_11_24 : ∀ q : vw_C, cls[11]? = some q → Cond.fieldLink RX11 24 (q.2.1 1).1 (q.2.1 1).2.1 (q.2.1 1).2.2.1 ∈ tblG := fun q h => by cases h; exact (tblG_in (List.mem_append_right _ (List.mem_append_right _ (List.mem_append_right _ (List.mem_append_left _ (List.mem_of_getElem? (l := tables_1_3) (i := 64) rfl))))) rfl)
theorem ff_11_24 : ∀ q : vw_C, cls[11]? = some q → (q.2.1 1).2.2.2 = true ∧ (q.2.1 1).1 = RX11 := fun q h => by cases h; exact ⟨rfl, rfl⟩
set_option maxRecDepth 20000 in
theorem fk_11_32 : ∀ q : vw_C, cls[11]? = some q → Cond.fieldLink RX11 32 (q.2.1 2).1 (q.2.1 2).2.1 (q.2.1 2).2.2.1 ∈ tblG := fun q h => by cases h; exact (tblG_in (List.mem_append_right _ (List.mem_append_right _ (List.mem_append_right _ (List.mem_append_left _ (List.mem_of_getElem? (l := tables_1_3) (i := 65) rfl))))) rfl)
theorem ff_11_32 : ∀ q : vw_C, cls[11]? = some q → (q.2.1 2).2.2.2 = true ∧ (q.2.1 2).1 = RX11 := fun q h => by cases h; exact ⟨rfl, rfl⟩
set_option maxRecDepth 20000 in
theorem fk_11_40 : ∀ q : vw_C, cls[11]? = some q → Cond.fieldLink RX11 40 (q.2.1 3).1 (q.2.1 3).2.1 (q.2.1 3).2.2.1 ∈ tblG := fun q h => by cases h; exact (tblG_in (List.mem_append_right _ (List.mem_append_right _ (List.mem_append_right _ (List.mem_append_left _ (List.mem_of_getElem? (l := tables_1_3) (i := 66) rfl))))) rfl)
theorem ff_11_40 : ∀ q : vw_C, cls[11]? = some q → (q.2.1 3).2.2.2 = true ∧ (q.2.1 3).1 = RX11 := fun q h => by cases h; exact ⟨rfl, rfl⟩
set_option maxRecDepth 20000 in
theorem fk_11_47 : ∀ q : vw_C, cls[11]? = some q → Cond.fieldLink RX11 47 (q.2.1 4).1 (q.2.1 4).2.1 (q.2.1 4).2.2.1 ∈ tblG := fun q h => by cases h; exact (tblG_in (List.mem_append_right _ (List.mem_append_right _ (List.mem_append_right _ (List.mem_append_left _ (List.mem_of_getElem? (l := tables_1_3) (i := 67) rfl))))) rfl)
theorem ff_11_47 : ∀ q : vw_C, cls[11]? = some q → (q.2.1 4).2.2.2 = true ∧ (q.2.1 4).1 = RX11 := fun q h => by cases h; exact ⟨rfl, rfl⟩
set_option maxRecDepth 20000 in
theorem fk_11_54 : ∀ q : vw_C, cls[11]? = some q → Cond.fieldLink RX11 54 (q.2.1 5).1 (q.2.1 5).2.1 (q.2.1 5).2.2.1 ∈ tblG := fun q h => by cases h; exact (tblG_in (List.mem_append_right _ (List.mem_append_right _ (List.mem_append_right _ (List.mem_append_left _ (List.mem_of_getElem? (l := tables_1_3) (i := 68) rfl))))) rfl)
theorem ff_11_54 : ∀ q : vw_C, cls[11]? = some q → (q.2.1 5).2.2.2 = true ∧ (q.2.1 5).1 = RX11 := fun q h => by cases h; exact ⟨rfl, rfl⟩
set_option maxRecDepth 20000 in
theorem fk_11_61 : ∀ q : vw_C, cls[11]? = some q → Cond.fieldLink RX11 61 (q.2.1 6).1 (q.2.1 6).2.1 (q.2.1 6).2.2.1 ∈ tblG := fun q h => by cases h; exact (tblG_in (List.mem_append_right _ (List.mem_append_right _ (List.mem_append_right _ (List.mem_append_left _ (List.mem_of_getElem? (l := tables_1_3) (i := 69) rfl))))) rfl)
theorem ff_11_61 : ∀ q : vw_C, cls[11]? = some q → (q.2.1 6).2.2.2 = true ∧ (q.2.1 6).1 = RX11 := fun q h => by cases h; exact ⟨rfl, rfl⟩
set_option maxRecDepth 20000 in
theorem fk_11_68 : ∀ q : vw_C, cls[11]? = some q → Cond.fieldLink RX11 68 (q.2.1 7).1 (q.2.1 7).2.1 (q.2.1 7).2.2.1 ∈ tblG := fun q h => by cases h; exact (tblG_in (List.mem_append_right _ (List.mem_append_right _ (List.mem_append_right _ (List.mem_append_left _ (List.mem_of_getElem? (l := tables_1_3) (i := 70) rfl))))) rfl)
theorem ff_11_68 : ∀ q : vw_C, cls[11]? = some q → (q.2.1 7).2.2.2 = true ∧ (q.2.1 7).1 = RX11 := fun q h => by cases h; exact ⟨rfl, rfl⟩
set_option maxRecDepth 20000 in
theorem fk_11_75 : ∀ q : vw_C, cls[11]? = some q → Cond.fieldLink RX11 75 (q.2.1 8).1 (q.2.1 8).2.1 (q.2.1 8).2.2.1 ∈ tblG := fun q h => by cases h; exact (tblG_in (List.mem_append_right _ (List.mem_append_right _ (List.mem_append_right _ (List.mem_append_left _ (List.mem_of_getElem? (l := tables_1_3) (i := 71) rfl))))) rfl)
theorem ff_11_75 : ∀ q : vw_C, cls[11]? = some q → (q.2.1 8).2.2.2 = true ∧ (q.2.1 8).1 = RX11 := fun q h => by cases h; exact ⟨rfl, rfl⟩
set_option maxRecDepth 20000 in
theorem fk_11_82 : ∀ q : vw_C, cls[11]? = some q → Cond.fieldLink RX11 82 (q.2.1 9).1 (q.2.1 9).2.1 (q.2.1 9).2.2.1 ∈ tblG := fun q h => by cases h; exact (tblG_in (List.mem_append_right _ (List.mem_append_right _ (List.mem_append_right _ (List.mem_append_left _ (List.mem_of_getElem? (l := tables_1_3) (i := 72) rfl))))) rfl)
theorem ff_11_82 : ∀ q : vw_C, cls[11]? = some q → (q.2.1 9).2.2.2 = true ∧ (q.2.1 9).1 = RX11 := fun q h => by cases h; exact ⟨rfl, rfl⟩
set_option maxRecDepth 20000 in
theorem fk_11_86 : ∀ q : vw_C, cls[11]? = some q → Cond.fieldLink RX11 86 (q.2.1 10).1 (q.2.1 10).2.1 (q.2.1 10).2.2.1 ∈ tblG := fun q h => by cases h; exact (tblG_in (List.mem_append_right _ (List.mem_append_right _ (List.mem_append_right _ (List.mem_append_left _ (List.mem_of_getElem? (l := tables_1_3) (i := 73) rfl))))) rfl)
theorem ff_11_86 : ∀ q : vw_C, cls[11]? = some q → (q.2.1 10).2.2.2 = true ∧ (q.2.1 10).1 = RX11 := fun q h => by cases h; exact ⟨rfl, rfl⟩
set_option maxRecDepth 20000 in
theorem fk_11_90 : ∀ q : vw_C, cls[11]? = some q → Cond.fieldLink RX11 90 (q.2.1 11).1 (q.2.1 11).2.1 (q.2.1 11).2.2.1 ∈ tblG := fun q h => by cases h; exact (tblG_in (List.mem_append_right _ (List.mem_append_right _ (List.mem_append_right _ (List.mem_append_left _ (List.mem_of_getElem? (l := tables_1_3) (i := 74) rfl))))) rfl)
theorem ff_11_90 : ∀ q : vw_C, cls[11]? = some q → (q.2.1 11).2.2.2 = true ∧ (q.2.1 11).1 = RX11 := fun q h => by cases h; exact ⟨rfl, rfl⟩
set_option maxRecDepth 20000 in
theorem fk_11_94 : ∀ q : vw_C, cls[11]? = some q → Cond.fieldLink RX11 94 (q.2.1 12).1 (q.2.1 12).2.1 (q.2.1 12).2.2.1 ∈ tblG := fun q h => by cases h; exact (tblG_in (List.mem_append_right _ (List.mem_append_right _ (List.mem_append_right _ (List.mem_append_left _ (List.mem_of_getElem? (l := tables_1_3) (i := 75) rfl))))) rfl)
theorem ff_11_94 : ∀ q : vw_C, cls[11]? = some q → (q.2.1 12).2.2.2 = true ∧ (q.2.1 12).1 = RX11 := fun q h => by cases h; exact ⟨rfl, rfl⟩
set_option maxRecDepth 20000 in
theorem fk_0_28 : ∀ q : vw_C, cls[0]? = some q → Cond.fieldLink RX0 28 (q.2.1 6).1 (q.2.1 6).2.1 (q.2.1 6).2.2.1 ∈ tblG := fun q h => by cases h; exact (tblG_in (List.mem_append_right _ (List.mem_append_right _ (List.mem_append_left _ (List.mem_of_getElem? (l := tables_1_2) (i := 171) rfl)))) rfl)
theorem ff_0_28 : ∀ q : vw_C, cls[0]? = some q → (q.2.1 6).2.2.2 = true ∧ (q.2.1 6).1 = RX0 := fun q h => by cases h; exact ⟨rfl, rfl⟩
set_option maxRecDepth 20000 in
theorem fk_0_32 : ∀ q : vw_C, cls[0]? = some q → Cond.fieldLink RX0 32 (q.2.1 7).1 (q.2.1 7).2.1 (q.2.1 7).2.2.1 ∈ tblG := fun q h => by cases h; exact (tblG_in (List.mem_append_right _ (List.mem_append_right _ (List.mem_append_left _ (List.mem_of_getElem? (l := tables_1_2) (i := 172) rfl)))) rfl)
theorem ff_0_32 : ∀ q : vw_C, cls[0]? = some q → (q.2.1 7).2.2.2 = true ∧ (q.2.1 7).1 = RX0 := fun q h => by cases h; exact ⟨rfl, rfl⟩
set_option maxRecDepth 20000 in
theorem fk_0_35 : ∀ q : vw_C, cls[0]? = some q → Cond.fieldLink RX0 35 (q.2.1 8).1 (q.2.1 8).2.1 (q.2.1 8).2.2.1 ∈ tblG := fun q h => by cases h; exact (tblG_in (List.mem_append_right _ (List.mem_append_right _ (List.mem_append_left _ (List.mem_of_getElem? (l := tables_1_2) (i := 173) rfl)))) rfl)
theorem ff_0_35 : ∀ q : vw_C, cls[0]? = some q → (q.2.1 8).2.2.2 = true ∧ (q.2.1 8).1 = RX0 := fun q h => by cases h; exact ⟨rfl, rfl⟩
set_option maxRecDepth 20000 in
theorem fk_0_38 : ∀ q : vw_C, cls[0]? = some q → Cond.fieldLink RX0 38 (q.2.1 9).1 (q.2.1 9).2.1 (q.2.1 9).2.2.1 ∈ tblG := fun q h => by cases h; exact (tblG_in (List.mem_append_right _ (List.mem_append_right _ (List.mem_append_left _ (List.mem_of_getElem? (l := tables_1_2) (i := 174) rfl)))) rfl)
theorem ff_0_38 : ∀ q : vw_C, cls[0]? = some q → (q.2.1 9).2.2.2 = true ∧ (q.2.1 9).1 = RX0 := fun q h => by cases h; exact ⟨rfl, rfl⟩
set_option maxRecDepth 20000 in
theorem fk_0_41 : ∀ q : vw_C, cls[0]? = some q → Cond.fieldLink RX0 41 (q.2.1 10).1 (q.2.1 10).2.1 (q.2.1 10).2.2.1 ∈ tblG := fun q h => by cases h; exact (tblG_in (List.mem_append_right _ (List.mem_append_right _ (List.mem_append_left _ (List.mem_of_getElem? (l := tables_1_2) (i := 175) rfl)))) rfl)
theorem ff_0_41 : ∀ q : vw_C, cls[0]? = some q → (q.2.1 10).2.2.2 = true ∧ (q.2.1 10).1 = RX0 := fun q h => by cases h; exact ⟨rfl, rfl⟩
set_option maxRecDepth 20000 in
theorem fk_0_47 : ∀ q : vw_C, cls[0]? = some q → Cond.fieldLink RX0 47 (q.2.1 5).1 (q.2.1 5).2.1 (q.2.1 5).2.2.1 ∈ tblG := fun q h => by cases h; exact (tblG_in (List.mem_append_right _ (List.mem_append_right _ (List.mem_append_left _ (List.mem_of_getElem? (l := tables_1_2) (i := 170) rfl)))) rfl)
theorem ff_0_47 : ∀ q : vw_C, cls[0]? = some q → (q.2.1 5).2.2.2 = true ∧ (q.2.1 5).1 = RX0 := fun q h => by cases h; exact ⟨rfl, rfl⟩
set_option maxRecDepth 20000 in
theorem fk_1_27 : ∀ q : vw_C, cls[1]? = some q → Cond.fieldLink RX1 27 (q.2.1 5).1 (q.2.1 5).2.1 (q.2.1 5).2.2.1 ∈ tblG := fun q h => by cases h; exact (tblG_in (List.mem_append_right _ (List.mem_append_left _ (List.mem_of_getElem? (l := tables_1_1) (i := 186) rfl))) rfl)
theorem ff_1_27 : ∀ q : vw_C, cls[1]? = some q → (q.2.1 5).2.2.2 = true ∧ (q.2.1 5).1 = RX1 := fun q h => by cases h; exact ⟨rfl, rfl⟩
set_option maxRecDepth 20000 in
theorem fk_1_31 : ∀ q : vw_C, cls[1]? = some q → Cond.fieldLink RX1 31 (q.2.1 6).1 (q.2.1 6).2.1 (q.2.1 6).2.2.1 ∈ tblG := fun q h => by cases h; exact (tblG_in (List.mem_append_right _ (List.mem_append_left _ (List.mem_of_getElem? (l := tables_1_1) (i := 188) rfl))) rfl)
theorem ff_1_31 : ∀ q : vw_C, cls[1]? = some q → (q.2.1 6).2.2.2 = true ∧ (q.2.1 6).1 = RX1 := fun q h => by cases h; exact ⟨rfl, rfl⟩
set_option maxRecDepth 20000 in
theorem fk_1_35 : ∀ q : vw_C, cls[1]? = some q → Cond.fieldLink RX1 35 (q.2.1 7).1 (q.2.1 7).2.1 (q.2.1 7).2.2.1 ∈ tblG := fun q h => by cases h; exact (tblG_in (List.mem_append_right _ (List.mem_append_left _ (List.mem_of_getElem? (l := tables_1_1) (i := 194) rfl))) rfl)
theorem ff_1_35 : ∀ q : vw_C, cls[1]? = some q → (q.2.1 7).2.2.2 = true ∧ (q.2.1 7).1 = RX1 := fun q h => by cases h; exact ⟨rfl, rfl⟩
set_option maxRecDepth 20000 in
theorem fk_1_38 : ∀ q : vw_C, cls[1]? = some q → Cond.fieldLink RX1 38 (q.2.1 8).1 (q.2.1 8).2.1 (q.2.1 8).2.2.1 ∈ tblG := fun q h => by cases h; exact (tblG_in (List.mem_append_right _ (List.mem_append_left _ (List.mem_of_getElem? (l := tables_1_1) (i := 201) rfl))) rfl)
theorem ff_1_38 : ∀ q : vw_C, cls[1]? = some q → (q.2.1 8).2.2.2 = true ∧ (q.2.1 8).1 = RX1 := fun q h => by cases h; exact ⟨rfl, rfl⟩
set_option maxRecDepth 20000 in
theorem fk_1_41 : ∀ q : vw_C, cls[1]? = some q → Cond.fieldLink RX1 41 (q.2.1 9).1 (q.2.1 9).2.1 (q.2.1 9).2.2.1 ∈ tblG := fun q h => by cases h; exact (tblG_in (List.mem_append_right _ (List.mem_append_left _ (List.mem_of_getElem? (l := tables_1_1) (i := 204) rfl))) rfl)
theorem ff_1_41 : ∀ q : vw_C, cls[1]? = some q → (q.2.1 9).2.2.2 = true ∧ (q.2.1 9).1 = RX1 := fun q h => by cases h; exact ⟨rfl, rfl⟩
set_option maxRecDepth 20000 in
theorem fk_1_44 : ∀ q : vw_C, cls[1]? = some q → Cond.fieldLink RX1 44 (q.2.1 10).1 (q.2.1 10).2.1 (q.2.1 10).2.2.1 ∈ tblG := fun q h => by cases h; exact (tblG_in (List.mem_append_right _ (List.mem_append_left _ (List.mem_of_getElem? (l := tables_1_1) (i := 208) rfl))) rfl)
theorem ff_1_44 : ∀ q : vw_C, cls[1]? = some q → (q.2.1 10).2.2.2 = true ∧ (q.2.1 10).1 = RX1 := fun q h => by cases h; exact ⟨rfl, rfl⟩
set_option maxRecDepth 20000 in
theorem fk_1_47 : ∀ q : vw_C, cls[1]? = some q → Cond.fieldLink RX1 47 (q.2.1 11).1 (q.2.1 11).2.1 (q.2.1 11).2.2.1 ∈ tblG := fun q h => by cases h; exact (tblG_in (List.mem_append_right _ (List.mem_append_left _ (List.mem_of_getElem? (l := tables_1_1) (i := 210) rfl))) rfl)
theorem ff_1_47 : ∀ q : vw_C, cls[1]? = some q → (q.2.1 11).2.2.2 = true ∧ (q.2.1 11).1 = RX1 := fun q h => by cases h; exact ⟨rfl, rfl⟩
set_option maxRecDepth 20000 in
theorem fk_1_50 : ∀ q : vw_C, cls[1]? = some q → Cond.fieldLink RX1 50 (q.2.1 12).1 (q.2.1 12).2.1 (q.2.1 12).2.2.1 ∈ tblG := fun q h => by cases h; exact (tblG_in (List.mem_append_right _ (List.mem_append_left _ (List.mem_of_getElem? (l := tables_1_1) (i := 214) rfl))) rfl)
theorem ff_1_50 : ∀ q : vw_C, cls[1]? = some q → (q.2.1 12).2.2.2 = true ∧ (q.2.1 12).1 = RX1 := fun q h => by cases h; exact ⟨rfl, rfl⟩
set_option maxRecDepth 20000 in
theorem fk_1_53 : ∀ q : vw_C, cls[1]? = some q → Cond.fieldLink RX1 53 (q.2.1 13).1 (q.2.1 13).2.1 (q.2.1 13).2.2.1 ∈ tblG := fun q h => by cases h; exact (tblG_in (List.mem_append_right _ (List.mem_append_left _ (List.mem_of_getElem? (l := tables_1_1) (i := 218) rfl))) rfl)
theorem ff_1_53 : ∀ q : vw_C, cls[1]? = some q → (q.2.1 13).2.2.2 = true ∧ (q.2.1 13).1 = RX1 := fun q h => by cases h; exact ⟨rfl, rfl⟩
set_option maxRecDepth 20000 in
theorem fk_2_17 : ∀ q : vw_C, cls[2]? = some q → Cond.fieldLink RX2 17 (q.2.1 0).1 (q.2.1 0).2.1 (q.2.1 0).2.2.1 ∈ tblG := fun q h => by cases h; exact (tblG_in (List.mem_append_right _ (List.mem_append_right _ (List.mem_append_left _ (List.mem_of_getElem? (l := tables_1_2) (i := 140) rfl)))) rfl)
theorem ff_2_17 : ∀ q : vw_C, cls[2]? = some q → (q.2.1 0).2.2.2 = true ∧ (q.2.1 0).1 = RX2 := fun q h => by cases h; exact ⟨rfl, rfl⟩
set_option maxRecDepth 20000 in
theorem fk_2_30 : ∀ q : vw_C, cls[2]? = some q → Cond.fieldLink RX2 30 (q.2.1 1).1 (q.2.1 1).2.1 (q.2.1 1).2.2.1 ∈ tblG := fun q h => by cases h; exact (tblG_in (List.mem_append_right _ (List.mem_append_right _ (List.mem_append_left _ (List.mem_of_getElem? (l := tables_1_2) (i := 142) rfl)))) rfl)
theorem ff_2_30 : ∀ q : vw_C, cls[2]? = some q → (q.2.1 1).2.2.2 = true ∧ (q.2.1 1).1 = RX2 := fun q h => by cases h; exact ⟨rfl, rfl⟩
set_option maxRecDepth 20000 in
theorem fk_3_11 : ∀ q : vw_C, cls[3]? = some q → Cond.fieldLink RX3 11 (q.2.1 0).1 (q.2.1 0).2.1 (q.2.1 0).2.2.1 ∈ tblG := fun q h => by cases h; exact (tblG_in (List.mem_append_right _ (List.mem_append_right _ (List.mem_append_right _ (List.mem_append_left _ (List.mem_of_getElem? (l := tables_1_3) (i := 52) rfl))))) rfl)
theorem ff_3_11 : ∀ q : vw_C, cls[3]? = some q → (q.2.1 0).2.2.2 = true ∧ (q.2.1 0).1 = RX3 := fun q h => by cases h; exact ⟨rfl, rfl⟩
set_option maxRecDepth 20000 in
theorem fk_4_9 : ∀ q : vw_C, cls[4]? = some q → Cond.fieldLink RX4 9 (q.2.1 0).1 (q.2.1 0).2.1 (q.2.1 0).2.2.1 ∈ tblG := fun q h => by cases h; exact (tblG_in (List.mem_append_right _ (List.mem_append_right _ (List.mem_append_left _ (List.mem_of_getElem? (l := tables_1_2) (i := 210) rfl)))) rfl)
theorem ff_4_9 : ∀ q : vw_C, cls[4]? = some q → (q.2.1 0).2.2.2 = true ∧ (q.2.1 0).1 = RX4 := fun q h => by cases h; exact ⟨rfl, rfl⟩
set_option maxRecDepth 20000 in
theorem fk_4_15 : ∀ q : vw_C, cls[4]? = some q → Cond.fieldLink RX4 15 (q.2.1 1).1 (q.2.1 1).2.1 (q.2.1 1).2.2.1 ∈ tblG := fun q h => by cases h; exact (tblG_in (List.mem_append_right _ (List.mem_append_right _ (List.mem_append_left _ (List.mem_of_getElem? (l := tables_1_2) (i := 212) rfl)))) rfl)
theorem ff_4_15 : ∀ q : vw_C, cls[4]? = some q → (q.2.1 1).2.2.2 = true ∧ (q.2.1 1).1 = RX4 := fun q h => by cases h; exact ⟨rfl, rfl⟩
set_option maxRecDepth 20000 in
theorem fk_4_22 : ∀ q : vw_C, cls[4]? = some q → Cond.fieldLink RX4 22 (q.2.1 3).1 (q.2.1 3).2.1 (q.2.1 3).2.2.1 ∈ tblG := fun q h => by cases h; exact (tblG_in (List.mem_append_right _ (List.mem_append_right _ (List.mem_append_left _ (List.mem_of_getElem? (l := tables_1_2) (i := 216) rfl)))) rfl)
theorem ff_4_22 : ∀ q : vw_C, cls[4]? = some q → (q.2.1 3).2.2.2 = true ∧ (q.2.1 3).1 = RX4 := fun q h => by cases h; exact ⟨rfl, rfl⟩
set_option maxRecDepth 20000 in
theorem fk_4_26 : ∀ q : vw_C, cls[4]? = some q → Cond.fieldLink RX4 26 (q.2.1 4).1 (q.2.1 4).2.1 (q.2.1 4).2.2.1 ∈ tblG := fun q h => by cases h; exact (tblG_in (List.mem_append_right _ (List.mem_append_right _ (List.mem_append_left _ (List.mem_of_getElem? (l := tables_1_2) (i := 217) rfl)))) rfl)
theorem ff_4_26 : ∀ q : vw_C, cls[4]? = some q → (q.2.1 4).2.2.2 = true ∧ (q.2.1 4).1 = RX4 := fun q h => by cases h; exact ⟨rfl, rfl⟩
set_option maxRecDepth 20000 in
theorem fk_4_29 : ∀ q : vw_C, cls[4]? = some q → Cond.fieldLink RX4 29 (q.2.1 5).1 (q.2.1 5).2.1 (q.2.1 5).2.2.1 ∈ tblG := fun q h => by cases h; exact (tblG_in (List.mem_append_right _ (List.mem_append_right _ (List.mem_append_left _ (List.mem_of_getElem? (l := tables_1_2) (i := 218) rfl)))) rfl)
theorem ff_4_29 : ∀ q : vw_C, cls[4]? = some q → (q.2.1 5).2.2.2 = true ∧ (q.2.1 5).1 = RX4 := fun q h => by cases h; exact ⟨rfl, rfl⟩
set_option maxRecDepth 20000 in
theorem fk_4_32 : ∀ q : vw_C, cls[4]? = some q → Cond.fieldLink RX4 32 (q.2.1 6).1 (q.2.1 6).2.1 (q.2.1 6).2.2.1 ∈ tblG := fun q h => by cases h; exact (tblG_in (List.mem_append_right _ (List.mem_append_right _ (List.mem_append_left _ (List.mem_of_getElem? (l := tables_1_2) (i := 219) rfl)))) rfl)
theorem ff_4_32 : ∀ q : vw_C, cls[4]? = some q → (q.2.1 6).2.2.2 = true ∧ (q.2.1 6).1 = RX4 := fun q h => by cases h; exact ⟨rfl, rfl⟩
set_option maxRecDepth 20000 in
theorem fk_4_35 : ∀ q : vw_C, cls[4]? = some q → Cond.fieldLink RX4 35 (q.2.1 7).1 (q.2.1 7).2.1 (q.2.1 7).2.2.1 ∈ tblG := fun q h => by cases h; exact (tblG_in (List.mem_append_right _ (List.mem_append_right _ (List.mem_append_left _ (List.mem_of_getElem? (l := tables_1_2) (i := 220) rfl)))) rfl)
theorem ff_4_35 : ∀ q : vw_C, cls[4]? = some q → (q.2.1 7).2.2.2 = true ∧ (q.2.1 7).1 = RX4 := fun q h => by cases h; exact ⟨rfl, rfl⟩
set_option maxRecDepth 20000 in
theorem fk_5_18 : ∀ q : vw_C, cls[5]? = some q → Cond.fieldLink RX5 18 (q.2.1 2).1 (q.2.1 2).2.1 (q.2.1 2).2.2.1 ∈ tblG := fun q h => by cases h; exact (tblG_in (List.mem_append_right _ (List.mem_append_right _ (List.mem_append_left _ (List.mem_of_getElem? (l := tables_1_2) (i := 90) rfl)))) rfl)
theorem ff_5_18 : ∀ q : vw_C, cls[5]? = some q → (q.2.1 2).2.2.2 = true ∧ (q.2.1 2).1 = RX5 := fun q h => by cases h; exact ⟨rfl, rfl⟩
set_option maxRecDepth 20000 in
theorem fk_5_22 : ∀ q : vw_C, cls[5]? = some q → Cond.fieldLink RX5 22 (q.2.1 3).1 (q.2.1 3).2.1 (q.2.1 3).2.2.1 ∈ tblG := fun q h => by cases h; exact (tblG_in (List.mem_append_right _ (List.mem_append_right _ (List.mem_append_left _ (List.mem_of_getElem? (l := tables_1_2) (i := 91) rfl)))) rfl)
theorem ff_5_22 : ∀ q : vw_C, cls[5]? = some q → (q.2.1 3).2.2.2 = true ∧ (q.2.1 3).1 = RX5 := fun q h => by cases h; exact ⟨rfl, rfl⟩
set_option maxRecDepth 20000 in
theorem fk_5_25 : ∀ q : vw_C, cls[5]? = some q → Cond.fieldLink RX5 25 (q.2.1 4).1 (q.2.1 4).2.1 (q.2.1 4).2.2.1 ∈ tblG := fun q h => by cases h; exact (tblG_in (List.mem_append_right _ (List.mem_append_right _ (List.mem_append_left _ (List.mem_of_getElem? (l := tables_1_2) (i := 92) rfl)))) rfl)
theorem ff_5_25 : ∀ q : vw_C, cls[5]? = some q → (q.2.1 4).2.2.2 = true ∧ (q.2.1 4).1 = RX5 := fun q h => by cases h; exact ⟨rfl, rfl⟩
set_option maxRecDepth 20000 in
theorem fk_5_28 : ∀ q : vw_C, cls[5]? = some q → Cond.fieldLink RX5 28 (q.2.1 5).1 (q.2.1 5).2.1 (q.2.1 5).2.2.1 ∈ tblG := fun q h => by cases h; exact (tblG_in (List.mem_append_right _ (List.mem_append_right _ (List.mem_append_left _ (List.mem_of_getElem? (l := tables_1_2) (i := 93) rfl)))) rfl)
theorem ff_5_28 : ∀ q : vw_C, cls[5]? = some q → (q.2.1 5).2.2.2 = true ∧ (q.2.1 5).1 = RX5 := fun q h => by cases h; exact ⟨rfl, rfl⟩
set_option maxRecDepth 20000 in
theorem fk_6_18 : ∀ q : vw_C, cls[6]? = some q → Cond.fieldLink RX6 18 (q.2.1 2).1 (q.2.1 2).2.1 (q.2.1 2).2.2.1 ∈ tblG := fun q h => by cases h; exact (tblG_in (List.mem_append_right _ (List.mem_append_right _ (List.mem_append_left _ (List.mem_of_getElem? (l := tables_1_2) (i := 28) rfl)))) rfl)
theorem ff_6_18 : ∀ q : vw_C, cls[6]? = some q → (q.2.1 2).2.2.2 = true ∧ (q.2.1 2).1 = RX6 := fun q h => by cases h; exact ⟨rfl, rfl⟩
set_option maxRecDepth 20000 in
theorem fk_6_22 : ∀ q : vw_C, cls[6]? = some q → Cond.fieldLink RX6 22 (q.2.1 3).1 (q.2.1 3).2.1 (q.2.1 3).2.2.1 ∈ tblG := fun q h => by cases h; exact (tblG_in (List.mem_append_right _ (List.mem_append_right _ (List.mem_append_left _ (List.mem_of_getElem? (l := tables_1_2) (i := 33) rfl)))) rfl)
theorem ff_6_22 : ∀ q : vw_C, cls[6]? = some q → (q.2.1 3).2.2.2 = true ∧ (q.2.1 3).1 = RX6 := fun q h => by cases h; exact ⟨rfl, rfl⟩
set_option maxRecDepth 20000 in
theorem fk_6_25 : ∀ q : vw_C, cls[6]? = some q → Cond.fieldLink RX6 25 (q.2.1 4).1 (q.2.1 4).2.1 (q.2.1 4).2.2.1 ∈ tblG := fun q h => by cases h; exact (tblG_in (List.mem_append_right _ (List.mem_append_right _ (List.mem_append_left _ (List.mem_of_getElem? (l := tables_1_2) (i := 38) rfl)))) rfl)
theorem ff_6_25 : ∀ q : vw_C, cls[6]? = some q → (q.2.1 4).2.2.2 = true ∧ (q.2.1 4).1 = RX6 := fun q h => by cases h; exact ⟨rfl, rfl⟩
set_option maxRecDepth 20000 in
theorem fk_6_28 : ∀ q : vw_C, cls[6]? = some q → Cond.fieldLink RX6 28 (q.2.1 5).1 (q.2.1 5).2.1 (q.2.1 5).2.2.1 ∈ tblG := fun q h => by cases h; exact (tblG_in (List.mem_append_right _ (List.mem_append_right _ (List.mem_append_left _ (List.mem_of_getElem? (l := tables_1_2) (i := 43) rfl)))) rfl)
theorem ff_6_28 : ∀ q : vw_C, cls[6]? = some q → (q.2.1 5).2.2.2 = true ∧ (q.2.1 5).1 = RX6 := fun q h => by cases h; exact ⟨rfl, rfl⟩
set_option maxRecDepth 20000 in
theorem fk_6_31 : ∀ q : vw_C, cls[6]? = some q → Cond.fieldLink RX6 31 (q.2.1 6).1 (q.2.1 6).2.1 (q.2.1 6).2.2.1 ∈ tblG := fun q h => by cases h; exact (tblG_in (List.mem_append_right _ (List.mem_append_right _ (List.mem_append_left _ (List.mem_of_getElem? (l := tables_1_2) (i := 49) rfl)))) rfl)
theorem ff_6_31 : ∀ q : vw_C, cls[6]? = some q → (q.2.1 6).2.2.2 = true ∧ (q.2.1 6).1 = RX6 := fun q h => by cases h; exact ⟨rfl, rfl⟩
set_option maxRecDepth 20000 in
theorem fk_6_34 : ∀ q : vw_C, cls[6]? = some q → Cond.fieldLink RX6 34 (q.2.1 7).1 (q.2.1 7).2.1 (q.2.1 7).2.2.1 ∈ tblG := fun q h => by cases h; exact (tblG_in (List.mem_append_right _ (List.mem_append_right _ (List.mem_append_left _ (List.mem_of_getElem? (l := tables_1_2) (i := 54) rfl)))) rfl)
theorem ff_6_34 : ∀ q : vw_C, cls[6]? = some q → (q.2.1 7).2.2.2 = true ∧ (q.2.1 7).1 = RX6 := fun q h => by cases h; exact ⟨rfl, rfl⟩
set_option maxRecDepth 20000 in
theorem fk_6_37 : ∀ q : vw_C, cls[6]? = some q → Cond.fieldLink RX6 37 (q.2.1 8).1 (q.2.1 8).2.1 (q.2.1 8).2.2.1 ∈ tblG := fun q h => by cases h; exact (tblG_in (List.mem_append_right _ (List.mem_append_right _ (List.mem_append_left _ (List.mem_of_getElem? (l := tables_1_2) (i := 58) rfl)))) rfl)
theorem ff_6_37 : ∀ q : vw_C, cls[6]? = some q → (q.2.1 8).2.2.2 = true ∧ (q.2.1 8).1 = RX6 := fun q h => by cases h; exact ⟨rfl, rfl⟩
set_option maxRecDepth 20000 in
theorem fk_7_9 : ∀ q : vw_C, cls[7]? = some q → Cond.fieldLink RX7 9 (q.2.1 0).1 (q.2.1 0).2.1 (q.2.1 0).2.2.1 ∈ tblG := fun q h => by cases h; exact (tblG_in (List.mem_append_right _ (List.mem_append_left _ (List.mem_of_getElem? (l := tables_1_1) (i := 95) rfl))) rfl)
theorem ff_7_9 : ∀ q : vw_C, cls[7]? = some q → (q.2.1 0).2.2.2 = true ∧ (q.2.1 0).1 = RX7 := fun q h => by cases h; exact ⟨rfl, rfl⟩
set_option maxRecDepth 20000 in
theorem fk_7_39 : ∀ q : vw_C, cls[7]? = some q → Cond.fieldLink RX7 39 (q.2.1 7).1 (q.2.1 7).2.1 (q.2.1 7).2.2.1 ∈ tblG := fun q h => by cases h; exact (tblG_in (List.mem_append_right _ (List.mem_append_left _ (List.mem_of_getElem? (l := tables_1_1) (i := 115) rfl))) rfl)
theorem ff_7_39 : ∀ q : vw_C, cls[7]? = some q → (q.2.1 7).2.2.2 = true ∧ (q.2.1 7).1 = RX7 := fun q h => by cases h; exact ⟨rfl, rfl⟩
set_option maxRecDepth 20000 in
theorem fk_7_43 : ∀ q : vw_C, cls[7]? = some q → Cond.fieldLink RX7 43 (q.2.1 8).1 (q.2.1 8).2.1 (q.2.1 8).2.2.1 ∈ tblG := fun q h => by cases h; exact (tblG_in (List.mem_append_right _ (List.mem_append_left _ (List.mem_of_getElem? (l := tables_1_1) (i := 116) rfl))) rfl)
theorem ff_7_43 : ∀ q : vw_C, cls[7]? = some q → (q.2.1 8).2.2.2 = true ∧ (q.2.1 8).1 = RX7 := fun q h => by cases h; exact ⟨rfl, rfl⟩
set_option maxRecDepth 20000 in
theorem fk_7_47 : ∀ q : vw_C, cls[7]? = some q → Cond.fieldLink RX7 47 (q.2.1 9).1 (q.2.1 9).2.1 (q.2.1 9).2.2.1 ∈ tblG := fun q h => by cases h; exact (tblG_in (List.mem_append_right _ (List.mem_append_left _ (List.mem_of_getElem? (l := tables_1_1) (i := 117) rfl))) rfl)
theorem ff_7_47 : ∀ q : vw_C, cls[7]? = some q → (q.2.1 9).2.2.2 = true ∧ (q.2.1 9).1 = RX7 := fun q h => by cases h; exact ⟨rfl, rfl⟩
set_option maxRecDepth 20000 in
theorem fk_7_50 : ∀ q : vw_C, cls[7]? = some q → Cond.fieldLink RX7 50 (q.2.1 10).1 (q.2.1 10).2.1 (q.2.1 10).2.2.1 ∈ tblG := fun q h => by cases h; exact (tblG_in (List.mem_append_right _ (List.mem_append_left _ (List.mem_of_getElem? (l := tables_1_1) (i := 118) rfl))) rfl)
theorem ff_7_50 : ∀ q : vw_C, cls[7]? = some q → (q.2.1 10).2.2.2 = true ∧ (q.2.1 10).1 = RX7 := fun q h => by cases h; exact ⟨rfl, rfl⟩
set_option maxRecDepth 20000 in
theorem fk_8_9 : ∀ q : vw_C, cls[8]? = some q → Cond.fieldLink RX8 9 (q.2.1 0).1 (q.2.1 0).2.1 (q.2.1 0).2.2.1 ∈ tblG := fun q h => by cases h; exact (tblG_in (List.mem_append_right _ (List.mem_append_right _ (List.mem_append_right _ (List.mem_append_left _ (List.mem_of_getElem? (l := tables_1_3) (i := 25) rfl))))) rfl)
theorem ff_8_9 : ∀ q : vw_C, cls[8]? = some q → (q.2.1 0).2.2.2 = true ∧ (q.2.1 0).1 = RX8 := fun q h => by cases h; exact ⟨rfl, rfl⟩
set_option maxRecDepth 20000 in
theorem fk_8_19 : ∀ q : vw_C, cls[8]? = some q → Cond.fieldLink RX8 19 (q.2.1 2).1 (q.2.1 2).2.1 (q.2.1 2).2.2.1 ∈ tblG := fun q h => by cases h; exact (tblG_in (List.mem_append_right _ (List.mem_append_right _ (List.mem_append_right _ (List.mem_append_left _ (List.mem_of_getElem? (l := tables_1_3) (i := 29) rfl))))) rfl)
theorem ff_8_19 : ∀ q : vw_C, cls[8]? = some q → (q.2.1 2).2.2.2 = true ∧ (q.2.1 2).1 = RX8 := fun q h => by cases h; exact ⟨rfl, rfl⟩
set_option maxRecDepth 20000 in
theorem fk_8_22 : ∀ q : vw_C, cls[8]? = some q → Cond.fieldLink RX8 22 (q.2.1 3).1 (q.2.1 3).2.1 (q.2.1 3).2.2.1 ∈ tblG := fun q h => by cases h; exact (tblG_in (List.mem_append_right _ (List.mem_append_right _ (List.mem_append_right _ (List.mem_append_left _ (List.mem_of_getElem? (l := tables_1_3) (i := 30) rfl))))) rfl)
theorem ff_8_22 : ∀ q : vw_C, cls[8]? = some q → (q.2.1 3).2.2.2 = true ∧ (q.2.1 3).1 = RX8 := fun q h => by cases h; exact ⟨rfl, rfl⟩
set_option maxRecDepth 20000 in
theorem fk_8_25 : ∀ q : vw_C, cls[8]? = some q → Cond.fieldLink RX8 25 (q.2.1 4).1 (q.2.1 4).2.1 (q.2.1 4).2.2.1 ∈ tblG := fun q h => by cases h; exact (tblG_in (List.mem_append_right _ (List.mem_append_right _ (List.mem_append_right _ (List.mem_append_left _ (List.mem_of_getElem? (l := tables_1_3) (i := 31) rfl))))) rfl)
theorem ff_8_25 : ∀ q : vw_C, cls[8]? = some q → (q.2.1 4).2.2.2 = true ∧ (q.2.1 4).1 = RX8 := fun q h => by cases h; exact ⟨rfl, rfl⟩
set_option maxRecDepth 20000 in
theorem fk_9_9 : ∀ q : vw_C, cls[9]? = some q → Cond.fieldLink RX9 9 (q.2.1 0).1 (q.2.1 0).2.1 (q.2.1 0).2.2.1 ∈ tblG := fun q h => by cases h; exact (tblG_in (List.mem_append_right _ (List.mem_append_right _ (List.mem_append_right _ (List.mem_append_left _ (List.mem_of_getElem? (l := tables_1_3) (i := 7) rfl))))) rfl)
theorem ff_9_9 : ∀ q : vw_C, cls[9]? = some q → (q.2.1 0).2.2.2 = true ∧ (q.2.1 0).1 = RX9 := fun q h => by cases h; exact ⟨rfl, rfl⟩
set_option maxRecDepth 20000 in
theorem fk_9_19 : ∀ q : vw_C, cls[9]? = some q → Cond.fieldLink RX9 19 (q.2.1 2).1 (q.2.1 2).2.1 (q.2.1 2).2.2.1 ∈ tblG := fun q h => by cases h; exact (tblG_in (List.mem_append_right _ (List.mem_append_right _ (List.mem_append_right _ (List.mem_append_left _ (List.mem_of_getElem? (l := tables_1_3) (i := 11) rfl))))) rfl)
theorem ff_9_19 : ∀ q : vw_C, cls[9]? = some q → (q.2.1 2).2.2.2 = true ∧ (q.2.1 2).1 = RX9 := fun q h => by cases h; exact ⟨rfl, rfl⟩
set_option maxRecDepth 20000 in
theorem fk_10_12 : ∀ q : vw_C, cls[10]? = some q → Cond.fieldLink RX10 12 (q.2.1 1).1 (q.2.1 1).2.1 (q.2.1 1).2.2.1 ∈ tblG := fun q h => by cases h; exact (tblG_in (List.mem_append_right _ (List.mem_append_right _ (List.mem_append_left _ (List.mem_of_getElem? (l := tables_1_2) (i := 112) rfl)))) rfl)
theorem ff_10_12 : ∀ q : vw_C, cls[10]? = some q → (q.2.1 1).2.2.2 = true ∧ (q.2.1 1).1 = RX10 := fun q h => by cases h; exact ⟨rfl, rfl⟩
set_option maxRecDepth 20000 in
theorem fk_10_21 : ∀ q : vw_C, cls[10]? = some q → Cond.fieldLink RX10 21 (q.2.1 2).1 (q.2.1 2).2.1 (q.2.1 2).2.2.1 ∈ tblG := fun q h => by cases h; exact (tblG_in (List.mem_append_right _ (List.mem_append_right _ (List.mem_append_left _ (List.mem_of_getElem? (l := tables_1_2) (i := 118) rfl)))) rfl)
theorem ff_10_21 : ∀ q : vw_C, cls[10]? = some q → (q.2.1 2).2.2.2 = true ∧ (q.2.1 2).1 = RX10 := fun q h => by cases h; exact ⟨rfl, rfl⟩
set_option maxRecDepth 20000 in
theorem fk_10_29 : ∀ q : vw_C, cls[10]? = some q → Cond.fieldLink RX10 29 (q.2.1 0).1 (q.2.1 0).2.1 (q.2.1 0).2.2.1 ∈ tblG := fun q h => by cases h; exact (tblG_in (List.mem_append_right _ (List.mem_append_right _ (List.mem_append_left _ (List.mem_of_getElem? (l := tables_1_2) (i := 108) rfl)))) rfl)
theorem ff_10_29 : ∀ q : vw_C, cls[10]? = some q → (q.2.1 0).2.2.2 = true ∧ (q.2.1 0).1 = RX10 := fun q h => by cases h; exact ⟨rfl, rfl⟩
set_option maxRecDepth 20000 in
theorem fk_12_7 : ∀ q : vw_C, cls[12]? = some q → Cond.fieldLink RX12 7 (q.2.1 1).1 (q.2.1 1).2.1 (q.2.1 1).2.2.1 ∈ tblG := fun q h => by cases h; exact (tblG_in (List.mem_append_right _ (List.mem_append_right _ (List.mem_append_right _ (List.mem_append_right _ (List.mem_append_right _ (List.mem_append_right _ (List.mem_append_left _ (List.mem_of_getElem? (l := tables_1_6) (i := 191) rfl)))))))) rfl)
theorem ff_12_7 : ∀ q : vw_C, cls[12]? = some q → (q.2.1 1).2.2.2 = true ∧ (q.2.1 1).1 = RX12 := fun q h => by cases h; exact ⟨rfl, rfl⟩
set_option maxRecDepth 20000 in
theorem fk_12_98 : ∀ q : vw_C, cls[12]? = some q → Cond.fieldLink RX12 98 (q.2.1 14).1 (q.2.1 14).2.1 (q.2.1 14).2.2.1 ∈ tblG := fun q h => by cases h; exact (tblG_in (List.mem_append_right _ (List.mem_append_right _ (List.mem_append_right _ (List.mem_append_right _ (List.mem_append_right _ (List.mem_append_right _ (List.mem_append_left _ (List.mem_of_getElem? (l := tables_1_6) (i := 204) rfl)))))))) rfl)
theorem ff_12_98 : ∀ q : vw_C, cls[12]? = some q → (q.2.1 14).2.2.2 = true ∧ (q.2.1 14).1 = RX12 := fun q h => by cases h; exact ⟨rfl, rfl⟩
set_option maxRecDepth 20000 in
theorem fk_12_101 : ∀ q : vw_C, cls[12]? = some q → Cond.fieldLink RX12 101 (q.2.1 15).1 (q.2.1 15).2.1 (q.2.1 15).2.2.1 ∈ tblG := fun q h => by cases h; exact (tblG_in (List.mem_append_right _ (List.mem_append_right _ (List.mem_append_right _ (List.mem_append_right _ (List.mem_append_right _ (List.mem_append_right _ (List.mem_append_left _ (List.mem_of_getElem? (l := tables_1_6) (i := 205) rfl)))))))) rfl)
theorem ff_12_101 : ∀ q : vw_C, cls[12]? = some q → (q.2.1 15).2.2.2 = true ∧ (q.2.1 15).1 = RX12 := fun q h => by cases h; exact ⟨rfl, rfl⟩
set_option maxRecDepth 20000 in
theorem fk_12_104 : ∀ q : vw_C, cls[12]? = some q → Cond.fieldLink RX12 104 (q.2.1 16).1 (q.2.1 16).2.1 (q.2.1 16).2.2.1 ∈ tblG := fun q h => by cases h; exact (tblG_in (List.mem_append_right _ (List.mem_append_right _ (List.mem_append_right _ (List.mem_append_right _ (List.mem_append_right _ (List.mem_append_right _ (List.mem_append_left _ (List.mem_of_getElem? (l := tables_1_6) (i := 206) rfl)))))))) rfl)
theorem ff_12_104 : ∀ q : vw_C, cls[12]? = some q → (q.2.1 16).2.2.2 = true ∧ (q.2.1 16).1 = RX12 := fun q h => by cases h; exact ⟨rfl, rfl⟩
set_option maxRecDepth 20000 in
theorem fk_12_107 : ∀ q : vw_C, cls[12]? = some q → Cond.fieldLink RX12 107 (q.2.1 17).1 (q.2.1 17).2.1 (q.2.1 17).2.2.1 ∈ tblG := fun q h => by cases h; exact (tblG_in (List.mem_append_right _ (List.mem_append_right _ (List.mem_append_right _ (List.mem_append_right _ (List.mem_append_right _ (List.mem_append_right _ (List.mem_append_left _ (List.mem_of_getElem? (l := tables_1_6) (i := 207) rfl)))))))) rfl)
theorem ff_12_107 : ∀ q : vw_C, cls[12]? = some q → (q.2.1 17).2.2.2 = true ∧ (q.2.1 17).1 = RX12 := fun q h => by cases h; exact ⟨rfl, rfl⟩
set_option maxRecDepth 20000 in
theorem fk_12_110 : ∀ q : vw_C, cls[12]? = some q → Cond.fieldLink RX12 110 (q.2.1 18).1 (q.2.1 18).2.1 (q.2.1 18).2.2.1 ∈ tblG := fun q h => by cases h; exact (tblG_in (List.mem_append_right _ (List.mem_append_right _ (List.mem_append_right _ (List.mem_append_right _ (List.mem_append_right _ (List.mem_append_right _ (List.mem_append_left _ (List.mem_of_getElem? (l := tables_1_6) (i := 208) rfl)))))))) rfl)
theorem ff_12_110 : ∀ q : vw_C, cls[12]? = some q → (q.2.1 18).2.2.2 = true ∧ (q.2.1 18).1 = RX12 := fun q h => by cases h; exact ⟨rfl, rfl⟩
set_option maxRecDepth 20000 in
theorem fk_12_113 : ∀ q : vw_C, cls[12]? = some q → Cond.fieldLink RX12 113 (q.2.1 19).1 (q.2.1 19).2.1 (q.2.1 19).2.2.1 ∈ tblG := fun q h => by cases h; exact (tblG_in (List.mem_append_right _ (List.mem_append_right _ (List.mem_append_right _ (List.mem_append_right _ (List.mem_append_right _ (List.mem_append_right _ (List.mem_append_left _ (List.mem_of_getElem? (l := tables_1_6) (i := 209) rfl)))))))) rfl)
theorem ff_12_113 : ∀ q : vw_C, cls[12]? = some q → (q.2.1 19).2.2.2 = true ∧ (q.2.1 19).1 = RX12 := fun q h => by cases h; exact ⟨rfl, rfl⟩
set_option maxRecDepth 20000 in
theorem fk_12_117 : ∀ q : vw_C, cls[12]? = some q → Cond.fieldLink RX12 117 (q.2.1 20).1 (q.2.1 20).2.1 (q.2.1 20).2.2.1 ∈ tblG := fun q h => by cases h; exact (tblG_in (List.mem_append_right _ (List.mem_append_right _ (List.mem_append_right _ (List.mem_append_right _ (List.mem_append_right _ (List.mem_append_right _ (List.mem_append_left _ (List.mem_of_getElem? (l := tables_1_6) (i := 210) rfl)))))))) rfl)
theorem ff_12_117 : ∀ q : vw_C, cls[12]? = some q → (q.2.1 20).2.2.2 = true ∧ (q.2.1 20).1 = RX12 := fun q h => by cases h; exact ⟨rfl, rfl⟩
set_option maxRecDepth 20000 in
theorem fk_12_120 : ∀ q : vw_C, cls[12]? = some q → Cond.fieldLink RX12 120 (q.2.1 21).1 (q.2.1 21).2.1 (q.2.1 21).2.2.1 ∈ tblG := fun q h => by cases h; exact (tblG_in (List.mem_append_right _ (List.mem_append_right _ (List.mem_append_right _ (List.mem_append_right _ (List.mem_append_right _ (List.mem_append_right _ (List.mem_append_left _ (List.mem_of_getElem? (l := tables_1_6) (i := 211) rfl)))))))) rfl)
theorem ff_12_120 : ∀ q : vw_C, cls[12]? = some q → (q.2.1 21).2.2.2 = true ∧ (q.2.1 21).1 = RX12 := fun q h => by cases h; exact ⟨rfl, rfl⟩
set_option maxRecDepth 20000 in
theorem fk_12_123 : ∀ q : vw_C, cls[12]? = some q → Cond.fieldLink RX12 123 (q.2.1 22).1 (q.2.1 22).2.1 (q.2.1 22).2.2.1 ∈ tblG := fun q h => by cases h; exact (tblG_in (List.mem_append_right _ (List.mem_append_right _ (List.mem_append_right _ (List.mem_append_right _ (List.mem_append_right _ (List.mem_append_right _ (List.mem_append_left _ (List.mem_of_getElem? (l := tables_1_6) (i := 212) rfl)))))))) rfl)
theorem ff_12_123 : ∀ q : vw_C, cls[12]? = some q → (q.2.1 22).2.2.2 = true ∧ (q.2.1 22).1 = RX12 := fun q h => by cases h; exact ⟨rfl, rfl⟩
set_option maxRecDepth 20000 in
theorem fk_12_127 : ∀ q : vw_C, cls[12]? = some q → Cond.fieldLink RX12 127 (q.2.1 26).1 (q.2.1 26).2.1 (q.2.1 26).2.2.1 ∈ tblG := fun q h => by cases h; exact (tblG_in (List.mem_append_right _ (List.mem_append_right _ (List.mem_append_right _ (List.mem_append_right _ (List.mem_append_right _ (List.mem_append_right _ (List.mem_append_left _ (List.mem_of_getElem? (l := tables_1_6) (i := 216) rfl)))))))) rfl)
theorem ff_12_127 : ∀ q : vw_C, cls[12]? = some q → (q.2.1 26).2.2.2 = true ∧ (q.2.1 26).1 = RX12 := fun q h => by cases h; exact ⟨rfl, rfl⟩
set_option maxRecDepth 20000 in
theorem fk_12_130 : ∀ q : vw_C, cls[12]? = some q → Cond.fieldLink RX12 130 (q.2.1 27).1 (q.2.1 27).2.1 (q.2.1 27).2.2.1 ∈ tblG := fun q h => by cases h; exact (tblG_in (List.mem_append_right _ (List.mem_append_right _ (List.mem_append_right _ (List.mem_append_right _ (List.mem_append_right _ (List.mem_append_right _ (List.mem_append_left _ (List.mem_of_getElem? (l := tables_1_6) (i := 217) rfl)))))))) rfl)
theorem ff_12_130 : ∀ q : vw_C, cls[12]? = some q → (q.2.1 27).2.2.2 = true ∧ (q.2.1 27).1 = RX12 := fun q h => by cases h; exact ⟨rfl, rfl⟩
set_option maxRecDepth 20000 in
theorem fk_12_133 : ∀ q : vw_C, cls[12]? = some q → Cond.fieldLink RX12 133 (q.2.1 28).1 (q.2.1 28).2.1 (q.2.1 28).2.2.1 ∈ tblG := fun q h => by cases h; exact (tblG_in (List.mem_append_right _ (List.mem_append_right _ (List.mem_append_right _ (List.mem_append_right _ (List.mem_append_right _ (List.mem_append_right _ (List.mem_append_left _ (List.mem_of_getElem? (l := tables_1_6) (i := 218) rfl)))))))) rfl)
theorem ff_12_133 : ∀ q : vw_C, cls[12]? = some q → (q.2.1 28).2.2.2 = true ∧ (q.2.1 28).1 = RX12 := fun q h => by cases h; exact ⟨rfl, rfl⟩
set_option maxRecDepth 20000 in
theorem fk_12_136 : ∀ q : vw_C, cls[12]? = some q → Cond.fieldLink RX12 136 (q.2.1 30).1 (q.2.1 30).2.1 (q.2.1 30).2.2.1 ∈ tblG := fun q h => by cases h; exact (tblG_in (List.mem_append_right _ (List.mem_append_right _ (List.mem_append_right _ (List.mem_append_right _ (List.mem_append_right _ (List.mem_append_right _ (List.mem_append_left _ (List.mem_of_getElem? (l := tables_1_6) (i := 220) rfl)))))))) rfl)
theorem ff_12_136 : ∀ q : vw_C, cls[12]? = some q → (q.2.1 30).2.2.2 = true ∧ (q.2.1 30).1 = RX12 := fun q h => by cases h; exact ⟨rfl, rfl⟩
set_option maxRecDepth 20000 in
theorem fk_12_139 : ∀ q : vw_C, cls[12]? = some q → Cond.fieldLink RX12 139 (q.2.1 32).1 (q.2.1 32).2.1 (q.2.1 32).2.2.1 ∈ tblG := fun q h => by cases h; exact (tblG_in (List.mem_append_right _ (List.mem_append_right _ (List.mem_append_right _ (List.mem_append_right _ (List.mem_append_right _ (List.mem_append_right _ (List.mem_append_left _ (List.mem_of_getElem? (l := tables_1_6) (i := 222) rfl)))))))) rfl)
theorem ff_12_139 : ∀ q : vw_C, cls[12]? = some q → (q.2.1 32).2.2.2 = true ∧ (q.2.1 32).1 = RX12 := fun q h => by cases h; exact ⟨rfl, rfl⟩
set_option maxRecDepth 20000 in
theorem fk_12_142 : ∀ q : vw_C, cls[12]? = some q → Cond.fieldLink RX12 142 (q.2.1 33).1 (q.2.1 33).2.1 (q.2.1 33).2.2.1 ∈ tblG := fun q h => by cases h; exact (tblG_in (List.mem_append_right _ (List.mem_append_right _ (List.mem_append_right _ (List.mem_append_right _ (List.mem_append_right _ (List.mem_append_right _ (List.mem_append_left _ (List.mem_of_getElem? (l := tables_1_6) (i := 223) rfl)))))))) rfl)
theorem ff_12_142 : ∀ q : vw_C, cls[12]? = some q → (q.2.1 33).2.2.2 = true ∧ (q.2.1 33).1 = RX12 := fun q h => by cases h; exact ⟨rfl, rfl⟩
set_option maxRecDepth 20000 in
theorem fk_12_148 : ∀ q : vw_C, cls[12]? = some q → Cond.fieldLink RX12 148 (q.2.1 36).1 (q.2.1 36).2.1 (q.2.1 36).2.2.1 ∈ tblG := fun q h => by cases h; exact (tblG_in (List.mem_append_right _ (List.mem_append_right _ (List.mem_append_right _ (List.mem_append_right _ (List.mem_append_right _ (List.mem_append_right _ (List.mem_append_left _ (List.mem_of_getElem? (l := tables_1_6) (i := 226) rfl)))))))) rfl)
theorem ff_12_148 : ∀ q : vw_C, cls[12]? = some q → (q.2.1 36).2.2.2 = true ∧ (q.2.1 36).1 = RX12 := fun q h => by cases h; exact ⟨rfl, rfl⟩
set_option maxRecDepth 20000 in
theorem fk_12_151 : ∀ q : vw_C, cls[12]? = some q → Cond.fieldLink RX12 151 (q.2.1 39).1 (q.2.1 39).2.1 (q.2.1 39).2.2.1 ∈ tblG := fun q h => by cases h; exact (tblG_in (List.mem_append_right _ (List.mem_append_right _ (List.mem_append_right _ (List.mem_append_right _ (List.mem_append_right _ (List.mem_append_right _ (List.mem_append_left _ (List.mem_of_getElem? (l := tables_1_6) (i := 229) rfl)))))))) rfl)
theorem ff_12_151 : ∀ q : vw_C, cls[12]? = some q → (q.2.1 39).2.2.2 = true ∧ (q.2.1 39).1 = RX12 := fun q h => by cases h; exact ⟨rfl, rfl⟩
set_option maxRecDepth 20000 in
theorem fk_12_154 : ∀ q : vw_C, cls[12]? = some q → Cond.fieldLink RX12 154 (q.2.1 40).1 (q.2.1 40).2.1 (q.2.1 40).2.2.1 ∈ tblG := fun q h => by cases h; exact (tblG_in (List.mem_append_right _ (List.mem_append_right _ (List.mem_append_right _ (List.mem_append_right _ (List.mem_append_right _ (List.mem_append_right _ (List.mem_append_left _ (List.mem_of_getElem? (l := tables_1_6) (i := 230) rfl)))))))) rfl)
theorem ff_12_154 : ∀ q : vw_C, cls[12]? = some q → (q.2.1 40).2.2.2 = true ∧ (q.2.1 40).1 = RX12 := fun q h => by cases h; exact ⟨rfl, rfl⟩
set_option maxRecDepth 20000 in
theorem fk_12_157 : ∀ q : vw_C, cls[12]? = some q → Cond.fieldLink RX12 157 (q.2.1 43).1 (q.2.1 43).2.1 (q.2.1 43).2.2.1 ∈ tblG := fun q h => by cases h; exact (tblG_in (List.mem_append_right _ (List.mem_append_right _ (List.mem_append_right _ (List.mem_append_right _ (List.mem_append_right _ (List.mem_append_right _ (List.mem_append_left _ (List.mem_of_getElem? (l := tables_1_6) (i := 233) rfl)))))))) rfl)
theorem ff_12_157 : ∀ q : vw_C, cls[12]? = some q → (q.2.1 43).2.2.2 = true ∧ (q.2.1 43).1 = RX12 := fun q h => by cases h; exact ⟨rfl, rfl⟩
