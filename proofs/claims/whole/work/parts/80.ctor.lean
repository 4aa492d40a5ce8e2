/-! ===== constructors: the judgement Gc, over a world that grows ===== -/
abbrev CW : Type := Nat × (Nat → Nat → Nat) × Mem
def fvC (ty : FieldType) (ad : Nat → Nat) (x : Int) (q : Nat) : Value := match ty with
  | .long => .long (Int64.ofInt x)
  | .object _ => if q = 0 then .null else .ref (ad (q - 1))
  | .array _ => if q = 0 then .null else .ref (ad (q - 1))
  | _ => .int (Int32.ofInt x)
def fsC (ad : Nat → Nat) (w : CW) (a : Nat) : List Value := (List.range (sn a)).map (fun k => fvC (cty (sk a) k) ad (w.2.2 a (k : Int)) (w.2.1 a k))
def ceC (cA : Nat → ClassId) (ad : Nat → Nat) (w : CW) (a : Nat) : va_E :=
  if sk a < 100 then .inr (sk a, fsC ad w a)
  else if sk a < 103 then .inl (cA (sk a - 100), sn a, .inl (fun j => Int32.ofInt (w.2.2 a (j : Int))))
  else if sk a = 103 then .inl (cA 3, sn a, .inr (.inl (fun j => Int64.ofInt (w.2.2 a (j : Int)))))
  else .inl (cA (sk a - 100), sn a, .inr (.inr (.inr (.inr (fun j => if w.2.1 a j = 0 then none else some (ad (w.2.1 a j - 1)))))))
def Wc (cA : Nat → ClassId) (ad : Nat → Nat) (w : CW) : va_W := (List.range w.1).map (fun a => (ad a, ceC cA ad w a))
def CanC (w : CW) : Prop := Can w.2.2 ∧ w.1 ≤ NC ∧ (∀ a, w.1 ≤ a → (∀ k, w.2.1 a k = 0) ∧ ∀ i : Int, w.2.2 a i = 0) ∧ ∀ a k, w.2.1 a k ≤ w.1
/-- the addresses of the first n cells, and of what was there before, are the same -/
def Agr (n : Nat) (ad ad' : Nat → Nat) : Prop := ∀ k, k < n ∨ NC ≤ k → ad' k = ad k
theorem Agr.rf {n : Nat} {ad : Nat → Nat} : Agr n ad ad := fun _ _ => rfl
theorem Agr.tr {n n' : Nat} {ad ad' ad'' : Nat → Nat} (h : Agr n ad ad') (h' : Agr n' ad' ad'') (hn : n ≤ n') : Agr n ad ad'' := fun k hk => (h' k (by omega)).trans (h k hk)
theorem Wc_at {cA : Nat → ClassId} {ad : Nat → Nat} {w : CW} {a : Nat} (h : a < w.1) : (Wc cA ad w)[a]? = some (ad a, ceC cA ad w a) := by
  simp [Wc, h]
theorem ceC_e {cA : Nat → ClassId} {ad : Nat → Nat} {w w' : CW} {b : Nat} (h1 : w'.2.1 b = w.2.1 b) (h2 : w'.2.2 b = w.2.2 b) : ceC cA ad w' b = ceC cA ad w b := by
  unfold ceC fsC; rw [h1, h2]
theorem ceC_av {cA : Nat → ClassId} {ad ad' : Nat → Nat} {w : CW} {b : Nat} (h : ∀ k, w.2.1 b k ≠ 0 → ad' (w.2.1 b k - 1) = ad (w.2.1 b k - 1)) : ceC cA ad' w b = ceC cA ad w b := by
  have e1 : fsC ad' w b = fsC ad w b := by
    unfold fsC
    apply List.map_congr_left
    intro k _
    unfold fvC
    by_cases z : w.2.1 b k = 0
    · simp only [z, if_true]
    · simp only [z, if_false, h k z]
  have e2 : (fun j => if w.2.1 b j = 0 then none else some (ad' (w.2.1 b j - 1))) = (fun j => if w.2.1 b j = 0 then none else some (ad (w.2.1 b j - 1))) := by
    funext j
    by_cases z : w.2.1 b j = 0
    · rw [if_pos z, if_pos z]
    · rw [if_neg z, if_neg z, h j z]
  unfold ceC
  rw [e1, e2]
theorem Wc_set {cA : Nat → ClassId} {ad : Nat → Nat} {w w' : CW} {a : Nat} (hn : w'.1 = w.1) (h : ∀ b, b ≠ a → w'.2.1 b = w.2.1 b ∧ w'.2.2 b = w.2.2 b) : (Wc cA ad w).set a (ad a, ceC cA ad w' a) = Wc cA ad w' := by
  apply List.ext_getElem?
  intro k
  rw [List.getElem?_set]
  by_cases hk : a = k
  · subst hk
    by_cases hl : a < w.1
    · simp [Wc, hl, hn]
    · simp [Wc, hl, hn]
  · rw [if_neg hk]
    by_cases hl : k < w.1
    · rw [Wc_at hl, Wc_at (by rw [hn]; exact hl), ceC_e (h k (fun e => hk e.symm)).1 (h k (fun e => hk e.symm)).2]
    · simp [Wc, hl, hn]
def adp (ad : Nat → Nat) (n q : Nat) : Nat → Nat := fun k => if k = n then q else ad k
theorem adp_agr {ad : Nat → Nat} {n q : Nat} (h : n < NC) : Agr n ad (adp ad n q) := fun k hk => by unfold adp; rw [if_neg (by omega)]
theorem Wc_push {cA : Nat → ClassId} {ad : Nat → Nat} {w : CW} {q : Nat} (hc : ∀ a k, w.2.1 a k ≤ w.1) : Wc cA (adp ad w.1 q) (w.1 + 1, w.2) = Wc cA ad w ++ [(q, ceC cA (adp ad w.1 q) (w.1 + 1, w.2) w.1)] := by
  unfold Wc
  rw [List.range_succ, List.map_append]
  congr 1
  · apply List.map_congr_left
    intro a ha
    have ha : a < w.1 := List.mem_range.mp ha
    rw [show adp ad w.1 q a = ad a by unfold adp; rw [if_neg (by omega)]]
    congr 1
    rw [ceC_av (ad := ad) (fun k z => ?_)]
    · exact ceC_e rfl rfl
    · have := hc a k
      unfold adp
      rw [if_neg]
      show w.2.1 a k - 1 ≠ w.1
      have z : w.2.1 a k ≠ 0 := z
      omega
  · simp [adp]
theorem CanC.push {w : CW} (h : CanC w) (hl : w.1 < NC) : CanC (w.1 + 1, w.2) := ⟨h.1, hl, fun a ha => h.2.2.1 a (by have ha : w.1 + 1 ≤ a := ha; omega), fun a k => Nat.le_succ_of_le (h.2.2.2 a k)⟩
def kwT : String := "downs wall figure person point says kicks rests hour east south west north or and not upright spent settled has by breath up said number "
def kwB : List (List Int32) := [[100, 111, 119, 110, 115, 32, 119, 97, 108, 108, 32, 102, 105, 103, 117, 114, 101, 32, 112, 101, 114, 115, 111, 110, 32, 112, 111, 105, 110, 116, 32, 115, 97, 121, 115, 32, 107, 105, 99, 107, 115, 32, 114, 101, 115, 116, 115, 32, 104, 111, 117, 114, 32, 101, 97, 115, 116, 32, 115, 111, 117, 116, 104, 32, 119, 101, 115, 116, 32, 110, 111, 114, 116, 104, 32, 111, 114, 32, 97, 110, 100, 32, 110, 111, 116, 32, 117, 112, 114, 105, 103, 104, 116, 32, 115, 112, 101, 110, 116, 32, 115, 101, 116, 116, 108, 101, 100, 32, 104, 97, 115, 32, 98, 121, 32, 98, 114, 101, 97, 116, 104, 32, 117, 112, 32, 115, 97, 105, 100, 32, 110, 117, 109, 98, 101, 114, 32]]
/-- the text of the keywords -/
def Skw (ad : Nat → Nat) (A : Nat → Prop) (U : State) (H : Heap) : Prop := vk_S 1 [137] kwB (fun i => ad (1008 + i)) (fun i => ad (1009 + i)) A U H ∧ vk_R "CartTurns$Tape" 113 kwT (ad 1008) U ∧ va_AO "CartTurns$State" U ∧ va_AO "CartTurns$World" U
theorem Skw.down {ad : Nat → Nat} {A B : Nat → Prop} {s U : State} {H : Heap} (h : Skw ad A s s.heap) (hW : s.WarmedH U.vm) (hAB : ∀ q, B q → A q) (hk : ∀ q : Nat, q < s.heap.size → ¬ A q → H[q]? = s.heap[q]?) : Skw ad B U H :=
  ⟨((h.1.kept hk).narrow hAB).moved hW.alike, h.2.1.warm hW, h.2.2.1.moved hW.alike, h.2.2.2.moved hW.alike⟩
theorem Skw.same {ad : Nat → Nat} {A : Nat → Prop} {u U : State} {H : Heap} (hv : U.vm = u.vm) (h : Skw ad A u H) : Skw ad A U H := ⟨h.1.moved (by rw [hv]; exact Vm.Alike.refl _), h.2.1.same hv, h.2.2.1.moved (by rw [hv]; exact Vm.Alike.refl _), h.2.2.2.moved (by rw [hv]; exact Vm.Alike.refl _)⟩
theorem Skw.av {ad ad' : Nat → Nat} {A : Nat → Prop} {s : State} {H : Heap} (h : Skw ad A s H) (e : ∀ k, NC ≤ k → ad' k = ad k) : Skw ad' A s H := by
  have e8 : (fun i => ad' (1008 + i)) = (fun i => ad (1008 + i)) := funext (fun i => e _ (by unfold NC; omega))
  have e9 : (fun i => ad' (1009 + i)) = (fun i => ad (1009 + i)) := funext (fun i => e _ (by unfold NC; omega))
  unfold Skw
  rw [e8, e9, e 1008 (by decide)]
  exact h
theorem Stt.av {ad ad' : Nat → Nat} {A : Nat → Prop} {s : State} {H : Heap} (h : Stt ad A s H) (e : ∀ k, NC ≤ k → ad' k = ad k) : Stt ad' A s H := by
  have e2 : (fun i => ad' (1002 + i)) = (fun i => ad (1002 + i)) := funext (fun i => e _ (by unfold NC; omega))
  have e5 : (fun i => ad' (1005 + i)) = (fun i => ad (1005 + i)) := funext (fun i => e _ (by unfold NC; omega))
  unfold Stt Sxt Srf
  rw [e2, e5, e 1000 (by decide), e 1001 (by decide), e 1002 (by decide), e 1003 (by decide), e 1004 (by decide), e 1010 (by decide)]
  exact h
/-- what is known of a frame beside Cx: the text of the keywords, the method's name; of the law's own, its script -/
def KX (Y : MD) (ad : Nat → Nat) (A : Nat → Prop) (l : Launch) (s : State) (meth : Method) : Prop := Skw ad A s s.heap ∧ (Y.1.name = "<init>" → meth.name = "<init>") ∧ (Y.1.name = "law" → ∃ (n : Nat) (xs : Nat → Int32), n ≤ 3072 ∧ va_X (ad 1011) n xs s s.heap ∧ ad 1011 < s.heap.size ∧ ¬ A (ad 1011) ∧ l.stackTraces = false)
theorem Cx.av {d : Nat} {Y : MD} {D : va_G} {cA : Nat → ClassId} {ad ad' : Nat → Nat} {A : Nat → Prop} {l : Launch} {p : Program} {R : Room} {s : State} {mth : MethodId} {args : Array Value} {c : Code} (h : Cx d Y D cA ad A l p R s mth args c) (e : ∀ k, NC ≤ k → ad' k = ad k) : Cx d Y D cA ad' A l p R s mth args c := by
  obtain ⟨h1, h2, h3, h4, h5, h6, h7, h8, h9, h10⟩ := h
  exact ⟨h1, h2, h3, h4, h5, h6, h7, h8, h9.av e, h10⟩
theorem KX.av {Y : MD} {ad ad' : Nat → Nat} {A : Nat → Prop} {l : Launch} {s : State} {meth : Method} (h : KX Y ad A l s meth) (e : ∀ k, NC ≤ k → ad' k = ad k) : KX Y ad' A l s meth := ⟨h.1.av e, h.2.1, by rw [e 1011 (by decide)]; exact h.2.2⟩
def RlC (cA : Nat → ClassId) (D : va_G) (ad : Nat → Nat) (A : Nat → Prop) (s : State) (m : CW) (H : Heap) (locs : List Loc) : Prop :=
  va_P D cls (Wc cA ad m) H ∧ va_D A (Wc cA ad m) ∧ va_S A s.heap H locs ∧ CanC m
def rStC (rt : Option FieldType) (v : Int) : List AV := match rt with
  | none => []
  | some .long => [vl v]
  | some (.array _) => [vr v.toNat]
  | _ => [vi v]
def rInC (rt : Option FieldType) : Instr := match rt with
  | none => .return_
  | some .long => .lreturn
  | some (.array _) => .areturn
  | _ => .ireturn
def rOkC (rt : Option FieldType) (v : Int) : Prop := match rt with
  | none => v = 0
  | some (.array _) => 0 ≤ v
  | some t => inTy t v
def Gc (g d : Nat) (Y : MD) (Q : Int → CW → Prop) (pc : Nat) (L S : List AV) (m : CW) : Prop :=
  ∀ (l : Launch) (D : va_G) (cA : Nat → ClassId) (ad : Nat → Nat) (A : Nat → Prop) (p : Program) (e : Env) (R : Room) (s : State) (mth : MethodId) (args : Array Value) (below : List Frame) (meth : Method) (c : Code) (Z : State → Prop),
    Cx d Y D cA ad A l p R s mth args c → KX Y ad A l s meth →
    (∀ (v : Int) (m' : CW) (ad' : Nat → Nat) (pc' : Nat) (ls : Array Slot) (H : Heap) (locs : List Loc) (cells slots : Nat), Agr m.1 ad ad' → Q v m' → rOkC Y.2.2.2 v → RlC cA D ad' A s m' H locs → cells ≤ R.cells → slots ≤ R.slots → decode Y.2.1 pc' = .ok (rInC Y.2.2.2, 1) →
      W p l e R s mth args below meth c H locs cells slots Z (F0 mth pc' ls ((rStC Y.2.2.2 v).map (toV ad')))) →
    ∀ (ls : Array Slot) (H : Heap) (locs : List Loc) (cells slots : Nat), RlC cA D ad A s m H locs → lv_has ls Y.2.2.1 (lvL ad L) → cells + g ≤ R.cells → slots + 1000 * g ≤ R.slots →
      W p l e R s mth args below meth c H locs cells slots Z (F0 mth pc ls (S.map (toV ad)))
def rmC (g d : Nat) : Room := { frames := d, cells := g, slots := 1000 * g, locals := 40 * d }
def PcC (cA : Nat → ClassId) (D : va_G) (ad : Nat → Nat) (sz : Nat) (as : List AV) (m : CW) : Array Value → State → Prop :=
  va_Pc (as.map (toV ad)) (fun U => U.heap.size = sz ∧ va_P D cls (Wc cA ad m) U.heap ∧ va_K D cls (tys cA) U ∧ va_D (fun _ => True) (Wc cA ad m) ∧ CanC m ∧ (∀ w ∈ nestW, va_Nw w U) ∧ Stt ad (va_A (Wc cA ad m) sz) U U.heap ∧ Skw ad (va_A (Wc cA ad m) sz) U U.heap)
def BC (cA : Nat → ClassId) (D : va_G) (A : Nat → Prop) (u : CW × (Nat → Nat)) (t : State) : Prop :=
  va_P D cls (Wc cA u.2 u.1) t.heap ∧ va_D A (Wc cA u.2 u.1) ∧ CanC u.1
def QcC (rt : Option FieldType) (Q : Int → CW × (Nat → Nat) → Prop) (B : CW × (Nat → Nat) → State → Prop) (A : Nat → Prop) : Array Value → State → Outcome → State → Prop := match rt with
  | none => va_Qv (fun u => Q 0 u) B A
  | some .long => va_Ql (fun r u => Q r.toInt u ∧ InL r.toInt) B A
  | some (.array _) => va_Qr (S := Int × CW × (Nat → Nat)) (fun u => Q u.1 u.2 ∧ 0 ≤ u.1) (fun u a t => B u.2 t ∧ a = u.2.2 u.1.toNat) A
  | some t => va_Qi (fun r u => Q r.toInt u ∧ inTy t r.toInt) B A
def QA (m : CW) (ad : Nat → Nat) (Q : Int → CW → Prop) : Int → CW × (Nat → Nat) → Prop := fun r u => Q r u.1 ∧ Agr m.1 ad u.2
def EvC (g d : Nat) (Y : MD) (as : List AV) (m : CW) (Q : Int → CW → Prop) : Prop :=
  ∀ (l : Launch) (D : va_G) (cA : Nat → ClassId) (ad : Nat → Nat) (sz : Nat), l.flags = flags0 →
    Met l Y.1 (wsY Y) (rmC g d) (PcC cA D ad sz as m) (QcC Y.2.2.2 (QA m ad Q) (BC cA D (va_A (Wc cA ad m) sz)) (va_A (Wc cA ad m) sz)) g (1000 * g) (va_A (Wc cA ad m) sz)
theorem PcC_blind {cA : Nat → ClassId} {D : va_G} {ad : Nat → Nat} {sz : Nat} {as : List AV} {m : CW} : FrameBlind (PcC cA D ad sz as m) := by
  intro a U g mk h
  obtain ⟨h0, h1, h2, h3, h4, h5, h6, h7, h8⟩ := h
  exact ⟨h0, h1, h2, va_K.moved (u := U) (U := U.calling g mk a) (Vm.Alike.refl U.vm) h3, h4, h5, nest_same (s := U) (U := U.calling g mk a) rfl h6, Stt.same (u := U) (U := U.calling g mk a) rfl h7, Skw.same (u := U) (U := U.calling g mk a) rfl h8⟩
theorem freeC {cA : Nat → ClassId} {ad : Nat → Nat} {m : CW} {A : Nat → Prop} {H0 H : Heap} {locs : List Loc} (hD : va_D A (Wc cA ad m)) (hS : va_S A H0 H locs) (hA : ∀ q, H0.size ≤ q → A q) : ∀ q, va_A (Wc cA ad m) H.size q → A q := by
  intro q h
  rcases h with ⟨k, e, h⟩ | h
  · exact hD.2 k _ h
  · exact hA q (Nat.le_trans hS.1 h)
theorem after_callC {rt : Option FieldType} {Q' : Int → CW × (Nat → Nat) → Prop} {B : CW × (Nat → Nat) → State → Prop} {A0 A1 : Nat → Prop} {free : Addr → Prop} {p : Program} {l : Launch} {e : Env} {R : Room} {s : State} {m : MethodId} {args : Array Value} {below : List Frame} {meth : Method} {c : Code} {H H0 : Heap} {locs : List Loc} {cells slots mc ms pc : Nat} {ls : Array Slot} {st0 rest : List Value} {a : Array Value} {Z : State → Prop}
    (hr : va_Run p l e R s m args below meth c H locs cells slots mc ms (F0 m pc ls st0) rest (QcC rt Q' B A1 a) free) (hS : va_S A0 H0 H locs) (hA : ∀ q, q < H.size → A1 q → A0 q) (hf : ∀ q, free q → A0 q)
    (kk : ∀ (r : Int) (u : CW × (Nat → Nat)) (t : State) (H1 : Heap) (locs1 : List Loc), t.heap = H1 → s.vm.Alike t.vm → Q' r u → rOkC rt r → B u t → H.size ≤ H1.size → (∀ q : Nat, q < H.size → ¬ A1 q → H1[q]? = H[q]?) → va_S A0 H0 H1 locs1 → W p l e R s m args below meth c H1 locs1 (cells + mc) (slots + ms) Z (F0 m (pc + 3) ls ((rStC rt r).map (toV u.2) ++ rest))) : W p l e R s m args below meth c H locs cells slots Z (F0 m pc ls st0) := by
  have key : ∀ t : FieldType, t ≠ .long → (∀ z, t ≠ .array z) → rt = some t → W p l e R s m args below meth c H locs cells slots Z (F0 m pc ls st0) := by
    intro t ht hta hrt
    subst hrt
    have e1 : QcC (some t) Q' B A1 = va_Qi (fun r m' => Q' r.toInt m' ∧ inTy t r.toInt) B A1 := by cases t <;> first | rfl | exact absurd rfl ht | exact absurd rfl (hta _)
    have e2 : ∀ r, rStC (some t) r = [vi r] := fun r => by cases t <;> first | rfl | exact absurd rfl ht | exact absurd rfl (hta _)
    rw [e1] at hr
    refine va_calli hr hS hA hf (fun r u t' H1 locs1 h1 h2 h3 h4 h5 h6 h7 => ?_)
    have e3 : rOkC (some t) r.toInt := by have := h3.2; cases t <;> first | exact this | exact absurd rfl (hta _)
    have := kk r.toInt u t' H1 locs1 h1 h2 h3.1 e3 h4 h5 h6 h7
    rw [e2] at this
    simpa [toV, Int32.ofInt_toInt] using this
  match hrt : rt with
  | none =>
    subst hrt
    exact va_callv (a := a) (post := fun m' => Q' 0 m') hr hS hA hf (fun u t H1 locs1 h1 h2 h3 h4 h5 h6 h7 => kk 0 u t H1 locs1 h1 h2 h3 rfl h4 h5 h6 h7)
  | some t =>
    by_cases ht : t = .long
    · subst ht
      subst hrt
      refine va_calll (a := a) (post := fun r m' => Q' r.toInt m' ∧ InL r.toInt) hr hS hA hf (fun r u t' H1 locs1 h1 h2 h3 h4 h5 h6 h7 => ?_)
      have := kk r.toInt u t' H1 locs1 h1 h2 h3.1 h3.2 h4 h5 h6 h7
      simpa [rStC, toV, Int64.ofInt_toInt] using this
    · by_cases hta : ∃ z, t = .array z
      · obtain ⟨z, rfl⟩ := hta
        subst hrt
        refine va_callr (a := a) (S := Int × CW × (Nat → Nat)) (post := fun u => Q' u.1 u.2 ∧ 0 ≤ u.1) hr hS hA hf (fun u ra t' H1 locs1 h1 h2 h3 h4 h5 h6 h7 => ?_)
        have := kk u.1 u.2 t' H1 locs1 h1 h2 h3.1 h3.2 h4.1 h5 h6 h7
        rw [h4.2]
        exact this
      · exact key t ht (fun z e => hta ⟨z, e⟩) rfl
theorem EvC.of {g d : Nat} {Y : MD} {as L : List AV} {m : CW} {Q : Int → CW → Prop} (hp : plainName Y.1.cls = true) (hl : (enL as).length ≤ Y.2.2.1) (hL : L = enL as ++ List.replicate (Y.2.2.1 - (enL as).length) un) (hret : ∀ t, Y.2.2.2 = some t → t = .int ∨ t = .boolean ∨ t = .long ∨ t = .byte ∨ t = .char ∨ t = .array .long) (hnar : ∀ t, Y.2.2.2 = some t → (t = .byte ∨ t = .char) → ∀ v m', Q v m' → 0 ≤ v ∧ v < 128) (k : CanC m → Gc g d Y Q 0 L [] m) (hnl : Y.1.name ≠ "law" := by decide +kernel) : EvC g d Y as m Q := by
  intro l D cA ad sz hfl
  refine Met.ofW (cc := Y.2.1) (maxL := Y.2.2.1) (ret := Y.2.2.2) hp rfl ?_
  intro p e s mth args below meth c s₁ B hml hv
  obtain ⟨rfl, hsz, hP, hK, hD0, hCan, hnw, hStt, hSk⟩ := hv
  subst hsz
  have hts0 := atoms_spec (ws := wsY Y) B.pre
  have hts : ∀ w ∈ tblG, w.before (as.map (toV ad)).toArray s = true := fun w h => hts0 w (List.mem_cons_of_mem _ h)
  have hlen : (lg_sl (as.map (toV ad))).length = (enL as).length := by
    unfold lg_sl enL
    rw [List.length_flatMap, List.length_flatMap, List.map_map]
    congr 1
    apply List.map_congr_left
    intro v _
    by_cases h : isLg v = true
    · match v, h with
      | .inr (.inl x), _ => rfl
    · have := cat_lg (ad := ad) (v := v) (by simpa using h)
      simp [this, h]
  have hen := lv_entry (as.map (toV ad)) (n := Y.2.2.1) (by rw [hlen]; exact hl)
  rw [lg_entry_eq]
  generalize (lg_sl (as.map (toV ad)) ++ List.replicate (Y.2.2.1 - (lg_sl (as.map (toV ad))).length) Slot.unset).toArray = ls at hen ⊢
  have hLs : lv_has ls Y.2.2.1 (lvL ad L) := by
    refine ⟨hen.1, hen.2.1, fun q hq => hen.2.2 q (lvL_entryU 0 q ?_)⟩
    unfold lvL at hq
    rw [hL, List.zipIdx_append, List.filterMap_append, List.mem_append] at hq
    rcases hq with hq | hq
    · exact hq
    · exfalso
      obtain ⟨⟨v, j⟩, h1, h2⟩ := List.mem_filterMap.mp hq
      have hv : v = un := by
        have := List.fst_mem_of_mem_zipIdx h1
        exact (List.mem_replicate.mp this).2
      subst hv
      simp [isUn] at h2
  have hA : ∀ q : Nat, s.heap.size ≤ q → va_A (Wc cA ad m) s.heap.size q := fun q h => Or.inr h
  have hD := hD0.self (sz := s.heap.size)
  refine k hCan l D cA ad (va_A (Wc cA ad m) s.heap.size) p e _ s mth _ below meth c _ ⟨B.exec, B.bytes, hml, findClass_of_methodNamed B.named, hts, hnw, hK, hA, hStt, Nat.le_refl _, Nat.le_refl _, hfl⟩ ⟨hSk, fun h => (name_of_methodNamed B.named B.method).1.trans h, fun h => absurd h hnl⟩ ?_ ls s.heap [] 0 0 ⟨hP, hD, va_S.rf, hCan⟩ hLs (by show 0 + g ≤ g; omega) (by show 0 + 1000 * g ≤ 1000 * g; omega)
  intro v m' ad' pc' ls' H locs cells slots hag hQ hok hR hc hs hd
  refine W.widen (k := g) (n := 1000 * g) hc hs ?_
  have hB : ∀ t : State, t.heap = H → BC cA D (va_A (Wc cA ad m) s.heap.size) (m', ad') t := fun t ht => ⟨by rw [ht]; exact hR.1, hR.2.1, hR.2.2.2⟩
  have hr := B.returns
  have hlocks := B.notSynchronized
  have key : ∀ t : FieldType, (t = .int ∨ t = .boolean ∨ t = .byte ∨ t = .char) → Y.2.2.2 = some t → W p l e (headSpec (wsY Y) (rmC g d)).room s mth (as.map (toV ad)).toArray below meth c H locs g (1000 * g) (MQ below (QcC Y.2.2.2 (QA m ad Q) (BC cA D (va_A (Wc cA ad m) s.heap.size)) (va_A (Wc cA ad m) s.heap.size)) (as.map (toV ad)).toArray s g (1000 * g) (va_A (Wc cA ad m) s.heap.size)) (F0 mth pc' ls' ((rStC Y.2.2.2 v).map (toV ad'))) := by
    intro t ht hrt
    have e1 : QcC (some t) (QA m ad Q) (BC cA D (va_A (Wc cA ad m) s.heap.size)) (va_A (Wc cA ad m) s.heap.size) = va_Qi (fun r u => QA m ad Q r.toInt u ∧ inTy t r.toInt) (BC cA D (va_A (Wc cA ad m) s.heap.size)) (va_A (Wc cA ad m) s.heap.size) := by rcases ht with rfl | rfl | rfl | rfl <;> rfl
    have e2 : rStC (some t) v = [vi v] := by rcases ht with rfl | rfl | rfl | rfl <;> rfl
    have e3 : rInC (some t) = .ireturn := by rcases ht with rfl | rfl | rfl | rfl <;> rfl
    have e4 : InR v ∧ inTy t v ∧ narrow t (.int (Int32.ofInt v)) = .int (Int32.ofInt v) := by
      rw [hrt] at hok
      rcases ht with rfl | rfl | rfl | rfl
      · exact ⟨hok, hok, rfl⟩
      · refine ⟨?_, hok, ?_⟩
        · unfold InR; rcases hok with h | h <;> omega
        · rcases hok with rfl | rfl <;> rfl
      · have h := hnar _ hrt (Or.inl rfl) v m' hQ
        refine ⟨⟨by omega, by omega⟩, hok, ?_⟩
        rw [show v = ((v.toNat : Nat) : Int) by omega]
        exact nar_b v.toNat (by omega)
      · have h := hnar _ hrt (Or.inr rfl) v m' hQ
        refine ⟨⟨by omega, by omega⟩, hok, ?_⟩
        rw [show v = ((v.toNat : Nat) : Int) by omega]
        exact nar_c v.toNat (by omega)
    rw [hrt] at hr hd ⊢
    rw [e1, e2]
    rw [e3] at hd
    refine W.zret B.exec B.bytes hr e4.2.2 (fun t' ht' hW' => ?_) hR.2.2.1.2.2 hd hlocks
    exact ⟨⟨Int32.ofInt v, (m', ad'), rfl, ⟨by rw [e4.1.i]; exact ⟨hQ, hag⟩, by rw [e4.1.i]; exact e4.2.1⟩, hB t' ht'⟩, hR.2.2.1.F ht'⟩
  match hrt : Y.2.2.2 with
  | none =>
    rw [hrt] at hr hd hok
    have hv0 : v = 0 := hok
    subst hv0
    exact W.vret B.exec B.bytes hr (fun t ht _ => ⟨⟨(m', ad'), rfl, ⟨hQ, hag⟩, hB t ht⟩, hR.2.2.1.F ht⟩) hR.2.2.1.2.2 hd hlocks
  | some t =>
    rcases hret t hrt with h | h | h | h | h | h
    · have := key t (Or.inl h) hrt; rw [hrt] at this; exact this
    · have := key t (Or.inr (Or.inl h)) hrt; rw [hrt] at this; exact this
    · subst h
      rw [hrt] at hr hd hok
      have hv1 : InL v := hok
      exact W.lret B.exec B.bytes hr (fun t ht _ => ⟨⟨Int64.ofInt v, (m', ad'), rfl, ⟨by rw [hv1.i]; exact ⟨hQ, hag⟩, by rw [hv1.i]; exact hv1⟩, hB t ht⟩, hR.2.2.1.F ht⟩) hR.2.2.1.2.2 hd hlocks
    · have := key t (Or.inr (Or.inr (Or.inl h))) hrt; rw [hrt] at this; exact this
    · have := key t (Or.inr (Or.inr (Or.inr h))) hrt; rw [hrt] at this; exact this
    · subst h
      rw [hrt] at hr hd hok
      have hv1 : 0 ≤ v := hok
      exact W.aret B.exec B.bytes hr (Or.inr ⟨_, rfl⟩) (Or.inr ⟨_, rfl⟩) (fun t ht _ => ⟨⟨(v, m', ad'), ad' v.toNat, rfl, ⟨⟨hQ, hag⟩, hv1⟩, hB t ht, rfl⟩, hR.2.2.1.F ht⟩) hR.2.2.1.2.2 hd hlocks
theorem gc_iconst {g d : Nat} {Y : MD} {Q : Int → CW → Prop} {pc : Nat} {L S : List AV} {m : CW} {n : Int} (hd : decode Y.2.1 pc = .ok (.iconst n, 1))  (k : Gc g d Y Q (pc + 1) L (vi n :: S) m) : Gc g d Y Q pc L S m := by
  intro l D cA ad A p e R s mth args below meth c Z hC hX hE ls H locs cells slots hR hL hc hs
  have k := (k l D cA ad A p e R s mth args below meth c Z hC hX hE ls H locs cells slots hR hL hc hs)
  exact lv_iconst hC.1 hC.2.1 hd rfl k
theorem gc_bipush {g d : Nat} {Y : MD} {Q : Int → CW → Prop} {pc : Nat} {L S : List AV} {m : CW} {n : Int} (hd : decode Y.2.1 pc = .ok (.bipush n, 2)) (hv : (Int8.ofInt n).toInt32 = Int32.ofInt n) (k : Gc g d Y Q (pc + 2) L (vi n :: S) m) : Gc g d Y Q pc L S m := by
  intro l D cA ad A p e R s mth args below meth c Z hC hX hE ls H locs cells slots hR hL hc hs
  have k := (k l D cA ad A p e R s mth args below meth c Z hC hX hE ls H locs cells slots hR hL hc hs)
  exact lv_bipush hC.1 hC.2.1 hd hv k
theorem gc_sipush {g d : Nat} {Y : MD} {Q : Int → CW → Prop} {pc : Nat} {L S : List AV} {m : CW} {n : Int} (hd : decode Y.2.1 pc = .ok (.sipush n, 3)) (hv : (Int16.ofInt n).toInt32 = Int32.ofInt n) (k : Gc g d Y Q (pc + 3) L (vi n :: S) m) : Gc g d Y Q pc L S m := by
  intro l D cA ad A p e R s mth args below meth c Z hC hX hE ls H locs cells slots hR hL hc hs
  have k := (k l D cA ad A p e R s mth args below meth c Z hC hX hE ls H locs cells slots hR hL hc hs)
  exact lv_sipush hC.1 hC.2.1 hd hv k
theorem gc_lconst {g d : Nat} {Y : MD} {Q : Int → CW → Prop} {pc : Nat} {L S : List AV} {m : CW} {n : Fin 2} {z : Int} (hd : decode Y.2.1 pc = .ok (.lconst n, 1)) (hz : Int64.ofNat (n : Nat) = Int64.ofInt z) (k : Gc g d Y Q (pc + 1) L (vl z :: S) m) : Gc g d Y Q pc L S m := by
  intro l D cA ad A p e R s mth args below meth c Z hC hX hE ls H locs cells slots hR hL hc hs
  have k := (k l D cA ad A p e R s mth args below meth c Z hC hX hE ls H locs cells slots hR hL hc hs)
  exact lv_lconst hC.1 hC.2.1 hd hz k
theorem gc_iload_n {g d : Nat} {Y : MD} {Q : Int → CW → Prop} {pc : Nat} {L S : List AV} {m : CW} {j : Fin 4} {x : Int} (hd : decode Y.2.1 pc = .ok (.iload_n j, 1)) (hl : L[(j : Nat)]? = some (vi x)) (k : Gc g d Y Q (pc + 1) L (vi x :: S) m) : Gc g d Y Q pc L S m := by
  intro l D cA ad A p e R s mth args below meth c Z hC hX hE ls H locs cells slots hR hL hc hs
  have k := (k l D cA ad A p e R s mth args below meth c Z hC hX hE ls H locs cells slots hR hL hc hs)
  exact lv_iload_n hC.1 hC.2.1 hd rfl (lvL_at hL hl rfl) k
theorem gc_lload_n {g d : Nat} {Y : MD} {Q : Int → CW → Prop} {pc : Nat} {L S : List AV} {m : CW} {j : Fin 4} {x : Int} (hd : decode Y.2.1 pc = .ok (.lload_n j, 1)) (hl : L[(j : Nat)]? = some (vl x)) (k : Gc g d Y Q (pc + 1) L (vl x :: S) m) : Gc g d Y Q pc L S m := by
  intro l D cA ad A p e R s mth args below meth c Z hC hX hE ls H locs cells slots hR hL hc hs
  have k := (k l D cA ad A p e R s mth args below meth c Z hC hX hE ls H locs cells slots hR hL hc hs)
  exact lv_lload_n hC.1 hC.2.1 hd rfl (lvL_at hL hl rfl) k
theorem gc_aload_n {g d : Nat} {Y : MD} {Q : Int → CW → Prop} {pc : Nat} {L S : List AV} {m : CW} {j : Fin 4} {a : Nat} (hd : decode Y.2.1 pc = .ok (.aload_n j, 1)) (hl : L[(j : Nat)]? = some (vr a)) (k : Gc g d Y Q (pc + 1) L (vr a :: S) m) : Gc g d Y Q pc L S m := by
  intro l D cA ad A p e R s mth args below meth c Z hC hX hE ls H locs cells slots hR hL hc hs
  have k := (k l D cA ad A p e R s mth args below meth c Z hC hX hE ls H locs cells slots hR hL hc hs)
  exact lv_aload_n hC.1 hC.2.1 hd rfl (lvL_at hL hl rfl) k
theorem gc_istore_n {g d : Nat} {Y : MD} {Q : Int → CW → Prop} {pc : Nat} {L S : List AV} {m : CW} {j : Fin 4} {x : Int} {L' : List AV} (hd : decode Y.2.1 pc = .ok (.istore_n j, 1)) (hn : (j : Nat) < Y.2.2.1) (hg : lgAt L (j : Nat) = false) (hl : L.set (j : Nat) (vi x) = L') (k : Gc g d Y Q (pc + 1) L' S m) : Gc g d Y Q pc L (vi x :: S) m := by
  intro l D cA ad A p e R s mth args below meth c Z hC hX hE ls H locs cells slots hR hL hc hs
  subst hl
  exact lv_istore_n hC.1 hC.2.1 hd rfl hL hn rfl (fun ls' hl' => k l D cA ad A p e R s mth args below meth c Z hC hX hE ls' H locs cells slots hR (lvL_st1 hl' hg) hc hs)
theorem gc_astore_n {g d : Nat} {Y : MD} {Q : Int → CW → Prop} {pc : Nat} {L S : List AV} {m : CW} {j : Fin 4} {a : Nat} {L' : List AV} (hd : decode Y.2.1 pc = .ok (.astore_n j, 1)) (hn : (j : Nat) < Y.2.2.1) (hg : lgAt L (j : Nat) = false) (hl : L.set (j : Nat) (vr a) = L') (k : Gc g d Y Q (pc + 1) L' S m) : Gc g d Y Q pc L (vr a :: S) m := by
  intro l D cA ad A p e R s mth args below meth c Z hC hX hE ls H locs cells slots hR hL hc hs
  subst hl
  exact lv_astore_n hC.1 hC.2.1 hd rfl hL hn rfl (fun ls' hl' => k l D cA ad A p e R s mth args below meth c Z hC hX hE ls' H locs cells slots hR (lvL_st1 hl' hg) hc hs)
theorem gc_iinc {g d : Nat} {Y : MD} {Q : Int → CW → Prop} {pc : Nat} {L S : List AV} {m : CW} {j : Nat} {n x : Int} {L' : List AV} (hd : decode Y.2.1 pc = .ok (.iinc j n, 3)) (hx : L[j]? = some (vi x)) (hn : j < Y.2.2.1) (hg : lgAt L j = false) (hl : L.set j (vi (x + n)) = L') (k : Gc g d Y Q (pc + 3) L' S m) : Gc g d Y Q pc L S m := by
  intro l D cA ad A p e R s mth args below meth c Z hC hX hE ls H locs cells slots hR hL hc hs
  subst hl
  obtain ⟨i0, hi0⟩ := List.getElem?_of_mem (lvL_mk (ad := ad) hx rfl)
  exact lv_iinc hC.1 hC.2.1 hd hL hi0 (Int32.ofInt_add x n).symm hn rfl (fun ls' hl' => k l D cA ad A p e R s mth args below meth c Z hC hX hE ls' H locs cells slots hR (lvL_st1 hl' hg) hc hs)
theorem gc_iadd {g d : Nat} {Y : MD} {Q : Int → CW → Prop} {pc : Nat} {L S : List AV} {m : CW} {x y : Int} (hd : decode Y.2.1 pc = .ok (.iadd, 1))  (k : Gc g d Y Q (pc + 1) L (vi (x + y) :: S) m) : Gc g d Y Q pc L (vi y :: vi x :: S) m := by
  intro l D cA ad A p e R s mth args below meth c Z hC hX hE ls H locs cells slots hR hL hc hs
  have k := (k l D cA ad A p e R s mth args below meth c Z hC hX hE ls H locs cells slots hR hL hc hs)
  refine lv_iadd hC.1 hC.2.1 hd ?_
  rw [← Int32.ofInt_add]
  exact k
theorem gc_isub {g d : Nat} {Y : MD} {Q : Int → CW → Prop} {pc : Nat} {L S : List AV} {m : CW} {x y : Int} (hd : decode Y.2.1 pc = .ok (.isub, 1))  (k : Gc g d Y Q (pc + 1) L (vi (x - y) :: S) m) : Gc g d Y Q pc L (vi y :: vi x :: S) m := by
  intro l D cA ad A p e R s mth args below meth c Z hC hX hE ls H locs cells slots hR hL hc hs
  have k := (k l D cA ad A p e R s mth args below meth c Z hC hX hE ls H locs cells slots hR hL hc hs)
  refine lv_isub hC.1 hC.2.1 hd ?_
  rw [← Int32.ofInt_sub]
  exact k
theorem gc_iand {g d : Nat} {Y : MD} {Q : Int → CW → Prop} {pc : Nat} {L S : List AV} {m : CW} {x y : Int} (hd : decode Y.2.1 pc = .ok (.iand, 1))  (k : Gc g d Y Q (pc + 1) L (vi (iand x y) :: S) m) : Gc g d Y Q pc L (vi y :: vi x :: S) m := by
  intro l D cA ad A p e R s mth args below meth c Z hC hX hE ls H locs cells slots hR hL hc hs
  have k := (k l D cA ad A p e R s mth args below meth c Z hC hX hE ls H locs cells slots hR hL hc hs)
  refine lv_iand hC.1 hC.2.1 hd ?_
  rw [show _ = Int32.ofInt (iand x y) from (Int32.ofInt_toInt _).symm]
  exact k
theorem gc_ishr {g d : Nat} {Y : MD} {Q : Int → CW → Prop} {pc : Nat} {L S : List AV} {m : CW} {x y : Int} (hd : decode Y.2.1 pc = .ok (.ishr, 1))  (k : Gc g d Y Q (pc + 1) L (vi (ishr x y) :: S) m) : Gc g d Y Q pc L (vi y :: vi x :: S) m := by
  intro l D cA ad A p e R s mth args below meth c Z hC hX hE ls H locs cells slots hR hL hc hs
  have k := (k l D cA ad A p e R s mth args below meth c Z hC hX hE ls H locs cells slots hR hL hc hs)
  refine lv_ishr hC.1 hC.2.1 hd ?_
  rw [show _ = Int32.ofInt (ishr x y) from (Int32.ofInt_toInt _).symm]
  exact k
theorem gc_ladd {g d : Nat} {Y : MD} {Q : Int → CW → Prop} {pc : Nat} {L S : List AV} {m : CW} {x y : Int} (hd : decode Y.2.1 pc = .ok (.ladd, 1))  (k : Gc g d Y Q (pc + 1) L (vl (x + y) :: S) m) : Gc g d Y Q pc L (vl y :: vl x :: S) m := by
  intro l D cA ad A p e R s mth args below meth c Z hC hX hE ls H locs cells slots hR hL hc hs
  have k := (k l D cA ad A p e R s mth args below meth c Z hC hX hE ls H locs cells slots hR hL hc hs)
  refine lv_ladd hC.1 hC.2.1 hd ?_
  rw [← Int64.ofInt_add]
  exact k
theorem gc_lmul {g d : Nat} {Y : MD} {Q : Int → CW → Prop} {pc : Nat} {L S : List AV} {m : CW} {x y : Int} (hd : decode Y.2.1 pc = .ok (.lmul, 1))  (k : Gc g d Y Q (pc + 1) L (vl (x * y) :: S) m) : Gc g d Y Q pc L (vl y :: vl x :: S) m := by
  intro l D cA ad A p e R s mth args below meth c Z hC hX hE ls H locs cells slots hR hL hc hs
  have k := (k l D cA ad A p e R s mth args below meth c Z hC hX hE ls H locs cells slots hR hL hc hs)
  refine lv_lmul hC.1 hC.2.1 hd ?_
  rw [← Int64.ofInt_mul]
  exact k
theorem gc_i2l {g d : Nat} {Y : MD} {Q : Int → CW → Prop} {pc : Nat} {L S : List AV} {m : CW} {x : Int} (hd : decode Y.2.1 pc = .ok (.i2l, 1)) (hx : InR x) (k : Gc g d Y Q (pc + 1) L (vl x :: S) m) : Gc g d Y Q pc L (vi x :: S) m := by
  intro l D cA ad A p e R s mth args below meth c Z hC hX hE ls H locs cells slots hR hL hc hs
  exact lv_i2l hC.1 hC.2.1 hd (by rw [← Int64.toInt_inj, Int32.toInt_toInt64, hx.i, InL.i ⟨by unfold InR at hx; omega, by unfold InR at hx; omega⟩]) (k l D cA ad A p e R s mth args below meth c Z hC hX hE ls H locs cells slots hR hL hc hs)
theorem gc_goto {g d : Nat} {Y : MD} {Q : Int → CW → Prop} {pc : Nat} {L S : List AV} {m : CW} {off : Int} {tgt : Nat} (hd : decode Y.2.1 pc = .ok (.goto off, 3)) (ht : (pc : Int) + off = (tgt : Int)) (k : Gc g d Y Q tgt L S m) : Gc g d Y Q pc L S m := by
  intro l D cA ad A p e R s mth args below meth c Z hC hX hE ls H locs cells slots hR hL hc hs
  exact lv_goto hC.1 hC.2.1 hd ht (k l D cA ad A p e R s mth args below meth c Z hC hX hE ls H locs cells slots hR hL hc hs)
theorem gc_dup_r {g d : Nat} {Y : MD} {Q : Int → CW → Prop} {pc : Nat} {L S : List AV} {m : CW} {a : Nat} (hd : decode Y.2.1 pc = .ok (.dup, 1)) (k : Gc g d Y Q (pc + 1) L (vr a :: vr a :: S) m) : Gc g d Y Q pc L (vr a :: S) m := by
  intro l D cA ad A p e R s mth args below meth c Z hC hX hE ls H locs cells slots hR hL hc hs
  exact lv_dup hC.1 hC.2.1 hd rfl (k l D cA ad A p e R s mth args below meth c Z hC hX hE ls H locs cells slots hR hL hc hs)
theorem gc_pop_i {g d : Nat} {Y : MD} {Q : Int → CW → Prop} {pc : Nat} {L S : List AV} {m : CW} {x : Int} (hd : decode Y.2.1 pc = .ok (.pop, 1)) (k : Gc g d Y Q (pc + 1) L S m) : Gc g d Y Q pc L (vi x :: S) m := by
  intro l D cA ad A p e R s mth args below meth c Z hC hX hE ls H locs cells slots hR hL hc hs
  exact lv_pop hC.1 hC.2.1 hd rfl (k l D cA ad A p e R s mth args below meth c Z hC hX hE ls H locs cells slots hR hL hc hs)
theorem gc_icmp_lt {g d : Nat} {Y : MD} {Q : Int → CW → Prop} {pc : Nat} {L S : List AV} {m : CW} {x y off : Int} {tgt : Nat} (hd : decode Y.2.1 pc = .ok (.if_icmp .lt off, 3)) (ht : (pc : Int) + off = (tgt : Int)) (hx : InR x) (hy : InR y) (kt : x < y → Gc g d Y Q tgt L S m) (kf : y ≤ x → Gc g d Y Q (pc + 3) L S m) : Gc g d Y Q pc L (vi y :: vi x :: S) m := by
  intro l D cA ad A p e R s mth args below meth c Z hC hX hE ls H locs cells slots hR hL hc hs
  refine lv_icmp_lt hC.1 hC.2.1 hd ht (fun q => kt (by first | simpa [hx.eq hy] using q | (simp only [hx.eq hy, hx.lt hy, hx.le hy, hy.lt hx, hy.le hx, GE.ge, GT.gt, ne_eq] at q; omega)) l D cA ad A p e R s mth args below meth c Z hC hX hE ls H locs cells slots hR hL hc hs) (fun q => kf (by first | simpa [hx.eq hy] using q | (simp only [hx.eq hy, hx.lt hy, hx.le hy, hy.lt hx, hy.le hx, GE.ge, GT.gt, ne_eq] at q; omega)) l D cA ad A p e R s mth args below meth c Z hC hX hE ls H locs cells slots hR hL hc hs)
theorem gc_icmp_ge {g d : Nat} {Y : MD} {Q : Int → CW → Prop} {pc : Nat} {L S : List AV} {m : CW} {x y off : Int} {tgt : Nat} (hd : decode Y.2.1 pc = .ok (.if_icmp .ge off, 3)) (ht : (pc : Int) + off = (tgt : Int)) (hx : InR x) (hy : InR y) (kt : y ≤ x → Gc g d Y Q tgt L S m) (kf : x < y → Gc g d Y Q (pc + 3) L S m) : Gc g d Y Q pc L (vi y :: vi x :: S) m := by
  intro l D cA ad A p e R s mth args below meth c Z hC hX hE ls H locs cells slots hR hL hc hs
  refine lv_icmp_ge hC.1 hC.2.1 hd ht (fun q => kt (by first | simpa [hx.eq hy] using q | (simp only [hx.eq hy, hx.lt hy, hx.le hy, hy.lt hx, hy.le hx, GE.ge, GT.gt, ne_eq] at q; omega)) l D cA ad A p e R s mth args below meth c Z hC hX hE ls H locs cells slots hR hL hc hs) (fun q => kf (by first | simpa [hx.eq hy] using q | (simp only [hx.eq hy, hx.lt hy, hx.le hy, hy.lt hx, hy.le hx, GE.ge, GT.gt, ne_eq] at q; omega)) l D cA ad A p e R s mth args below meth c Z hC hX hE ls H locs cells slots hR hL hc hs)
theorem gc_icmp_ne {g d : Nat} {Y : MD} {Q : Int → CW → Prop} {pc : Nat} {L S : List AV} {m : CW} {x y off : Int} {tgt : Nat} (hd : decode Y.2.1 pc = .ok (.if_icmp .ne off, 3)) (ht : (pc : Int) + off = (tgt : Int)) (hx : InR x) (hy : InR y) (kt : ¬ x = y → Gc g d Y Q tgt L S m) (kf : x = y → Gc g d Y Q (pc + 3) L S m) : Gc g d Y Q pc L (vi y :: vi x :: S) m := by
  intro l D cA ad A p e R s mth args below meth c Z hC hX hE ls H locs cells slots hR hL hc hs
  refine lv_icmp_ne hC.1 hC.2.1 hd ht (fun q => kt (by first | simpa [hx.eq hy] using q | (simp only [hx.eq hy, hx.lt hy, hx.le hy, hy.lt hx, hy.le hx, GE.ge, GT.gt, ne_eq] at q; omega)) l D cA ad A p e R s mth args below meth c Z hC hX hE ls H locs cells slots hR hL hc hs) (fun q => kf (by first | simpa [hx.eq hy] using q | (simp only [hx.eq hy, hx.lt hy, hx.le hy, hy.lt hx, hy.le hx, GE.ge, GT.gt, ne_eq] at q; omega)) l D cA ad A p e R s mth args below meth c Z hC hX hE ls H locs cells slots hR hL hc hs)
theorem gc_if_eq {g d : Nat} {Y : MD} {Q : Int → CW → Prop} {pc : Nat} {L S : List AV} {m : CW} {x off : Int} {tgt : Nat} (hd : decode Y.2.1 pc = .ok (.ifCond .eq off, 3)) (ht : (pc : Int) + off = (tgt : Int)) (hx : InR x) (kt : x = 0 → Gc g d Y Q tgt L S m) (kf : ¬ x = 0 → Gc g d Y Q (pc + 3) L S m) : Gc g d Y Q pc L (vi x :: S) m := by
  intro l D cA ad A p e R s mth args below meth c Z hC hX hE ls H locs cells slots hR hL hc hs
  refine lv_if_eq hC.1 hC.2.1 hd ht (fun q => kt (by rw [← i32_0] at q; first | simpa [hx.eq InR.zero] using q | (simp only [hx.eq InR.zero, hx.lt InR.zero, hx.le InR.zero, InR.zero.lt hx, InR.zero.le hx, GE.ge, GT.gt, ne_eq] at q; omega)) l D cA ad A p e R s mth args below meth c Z hC hX hE ls H locs cells slots hR hL hc hs) (fun q => kf (by rw [← i32_0] at q; first | simpa [hx.eq InR.zero] using q | (simp only [hx.eq InR.zero, hx.lt InR.zero, hx.le InR.zero, InR.zero.lt hx, InR.zero.le hx, GE.ge, GT.gt, ne_eq] at q; omega)) l D cA ad A p e R s mth args below meth c Z hC hX hE ls H locs cells slots hR hL hc hs)
theorem gc_if_ne {g d : Nat} {Y : MD} {Q : Int → CW → Prop} {pc : Nat} {L S : List AV} {m : CW} {x off : Int} {tgt : Nat} (hd : decode Y.2.1 pc = .ok (.ifCond .ne off, 3)) (ht : (pc : Int) + off = (tgt : Int)) (hx : InR x) (kt : ¬ x = 0 → Gc g d Y Q tgt L S m) (kf : x = 0 → Gc g d Y Q (pc + 3) L S m) : Gc g d Y Q pc L (vi x :: S) m := by
  intro l D cA ad A p e R s mth args below meth c Z hC hX hE ls H locs cells slots hR hL hc hs
  refine lv_if_ne hC.1 hC.2.1 hd ht (fun q => kt (by rw [← i32_0] at q; first | simpa [hx.eq InR.zero] using q | (simp only [hx.eq InR.zero, hx.lt InR.zero, hx.le InR.zero, InR.zero.lt hx, InR.zero.le hx, GE.ge, GT.gt, ne_eq] at q; omega)) l D cA ad A p e R s mth args below meth c Z hC hX hE ls H locs cells slots hR hL hc hs) (fun q => kf (by rw [← i32_0] at q; first | simpa [hx.eq InR.zero] using q | (simp only [hx.eq InR.zero, hx.lt InR.zero, hx.le InR.zero, InR.zero.lt hx, InR.zero.le hx, GE.ge, GT.gt, ne_eq] at q; omega)) l D cA ad A p e R s mth args below meth c Z hC hX hE ls H locs cells slots hR hL hc hs)
theorem gc_if_lt {g d : Nat} {Y : MD} {Q : Int → CW → Prop} {pc : Nat} {L S : List AV} {m : CW} {x off : Int} {tgt : Nat} (hd : decode Y.2.1 pc = .ok (.ifCond .lt off, 3)) (ht : (pc : Int) + off = (tgt : Int)) (hx : InR x) (kt : x < 0 → Gc g d Y Q tgt L S m) (kf : 0 ≤ x → Gc g d Y Q (pc + 3) L S m) : Gc g d Y Q pc L (vi x :: S) m := by
  intro l D cA ad A p e R s mth args below meth c Z hC hX hE ls H locs cells slots hR hL hc hs
  refine lv_if_lt hC.1 hC.2.1 hd ht (fun q => kt (by rw [← i32_0] at q; first | simpa [hx.eq InR.zero] using q | (simp only [hx.eq InR.zero, hx.lt InR.zero, hx.le InR.zero, InR.zero.lt hx, InR.zero.le hx, GE.ge, GT.gt, ne_eq] at q; omega)) l D cA ad A p e R s mth args below meth c Z hC hX hE ls H locs cells slots hR hL hc hs) (fun q => kf (by rw [← i32_0] at q; first | simpa [hx.eq InR.zero] using q | (simp only [hx.eq InR.zero, hx.lt InR.zero, hx.le InR.zero, InR.zero.lt hx, InR.zero.le hx, GE.ge, GT.gt, ne_eq] at q; omega)) l D cA ad A p e R s mth args below meth c Z hC hX hE ls H locs cells slots hR hL hc hs)
theorem gc_i2c {g d : Nat} {Y : MD} {Q : Int → CW → Prop} {pc : Nat} {L S : List AV} {m : CW} {x : Int} (hd : decode Y.2.1 pc = .ok (.i2c, 1)) (hx0 : 0 ≤ x ∧ x < 128) (k : Gc g d Y Q (pc + 1) L (vi x :: S) m) : Gc g d Y Q pc L (vi x :: S) m := by
  intro l D cA ad A p e R s mth args below meth c Z hC hX hE ls H locs cells slots hR hL hc hs
  refine lv_i2c hC.1 hC.2.1 hd ?_ (k l D cA ad A p e R s mth args below meth c Z hC hX hE ls H locs cells slots hR hL hc hs)
  have h := i2c_n x.toNat (by omega)
  rw [show ((x.toNat : Nat) : Int) = x by omega] at h
  exact h
theorem gc_getsC {g d : Nat} {Y : MD} {Q : Int → CW → Prop} {pc : Nat} {L S : List AV} {m : CW} {idx : Nat} (hd : decode Y.2.1 pc = .ok (.getstatic idx, 3)) (hlk : Cond.fieldLink Y.1.cls idx "java/lang/String" "COMPACT_STRINGS" "Z" ∈ tblG) (k : Gc g d Y Q (pc + 3) L (vi 1 :: S) m) : Gc g d Y Q pc L S m := by
  intro l D cA ad A p e R s mth args below meth c Z hC hX hE ls H locs cells slots hR hL hc hs
  have k := k l D cA ad A p e R s mth args below meth c Z hC hX hE ls H locs cells slots hR hL hc hs
  obtain ⟨hx, hb, hmL, hown, hts, hnw, hK, hA, hStt, hfr, hlo, hfl⟩ := id hC
  exact va_gets hx hb hStt.2.2.2.2.1.2.1 hR.2.2.1 hown (hts _ hlk) (fun _ h => h) hd k
theorem gc_getsF {g d : Nat} {Y : MD} {Q : Int → CW → Prop} {pc : Nat} {L S : List AV} {m : CW} {idx : Nat} (hd : decode Y.2.1 pc = .ok (.getstatic idx, 3)) (hlk : Cond.fieldLink Y.1.cls idx "jdk/internal/util/Preconditions" "SIOOBE_FORMATTER" "Ljava/util/function/BiFunction;" ∈ tblG) (k0 : Gc g d Y Q (pc + 3) L (un :: S) m) (k1 : Gc g d Y Q (pc + 3) L (vr 1010 :: S) m) : Gc g d Y Q pc L S m := by
  intro l D cA ad A p e R s mth args below meth c Z hC hX hE ls H locs cells slots hR hL hc hs
  have k0 := k0 l D cA ad A p e R s mth args below meth c Z hC hX hE ls H locs cells slots hR hL hc hs
  have k1 := k1 l D cA ad A p e R s mth args below meth c Z hC hX hE ls H locs cells slots hR hL hc hs
  obtain ⟨hx, hb, hmL, hown, hts, hnw, hK, hA, hStt, hfr, hlo, hfl⟩ := id hC
  rcases hStt.2.2.2.2.1.2.2.1 with h | h
  · exact va_gets hx hb h hR.2.2.1 hown (hts _ hlk) (fun _ h => h) hd k0
  · exact va_gets hx hb h hR.2.2.1 hown (hts _ hlk) (fun _ h => h) hd k1
theorem gc_ldc2 {g d : Nat} {Y : MD} {Q : Int → CW → Prop} {pc : Nat} {L S : List AV} {m : CW} {idx : Nat} {x : Int} (hd : decode Y.2.1 pc = .ok (.ldc2_w idx, 3)) (hf : Cond.constantLong Y.1.cls idx (Int64.ofInt x) ∈ tblG) (k : Gc g d Y Q (pc + 3) L (vl x :: S) m) : Gc g d Y Q pc L S m := by
  intro l D cA ad A p e R s mth args below meth c Z hC hX hE ls H locs cells slots hR hL hc hs
  exact lv_ldc2 hC.1 hC.2.1 hC.2.2.2.1 (hC.2.2.2.2.1 _ hf) hd (k l D cA ad A p e R s mth args below meth c Z hC hX hE ls H locs cells slots hR hL hc hs)
theorem gc_ret {g d : Nat} {Y : MD} {Q : Int → CW → Prop} {pc : Nat} {L S : List AV} {m : CW} {v : Int} (hr : rStC Y.2.2.2 v = S) (hd : decode Y.2.1 pc = .ok (rInC Y.2.2.2, 1)) (hv : rOkC Y.2.2.2 v) (hq : Q v m) : Gc g d Y Q pc L S m := by
  intro l D cA ad A p e R s mth args below meth c Z hC hX hE ls H locs cells slots hR hL hc hs
  subst hr
  exact hE v m ad pc ls H locs cells slots Agr.rf hq hv hR (by omega) (by omega) hd
/-- every cell that is named lies below n (or was there before) -/
def okA (n : Nat) (L : List AV) : Bool := L.all (fun v => match v with
  | .inr (.inr (.inl a)) => decide (a < n) || decide (NC ≤ a)
  | _ => true)
theorem toV_ag {n : Nat} {ad ad' : Nat → Nat} (h : Agr n ad ad') {v : AV} (hv : (match v with | .inr (.inr (.inl a)) => decide (a < n) || decide (NC ≤ a) | _ => true) = true) : toV ad' v = toV ad v := by
  match v, hv with
  | .inl x, _ => rfl
  | .inr (.inl x), _ => rfl
  | .inr (.inr (.inl a)), hv =>
    have : a < n ∨ NC ≤ a := by simpa using hv
    show Value.ref (ad' a) = Value.ref (ad a)
    rw [h a this]
  | .inr (.inr (.inr _)), _ => rfl
theorem mapV_ag {n : Nat} {ad ad' : Nat → Nat} (h : Agr n ad ad') {L : List AV} (hl : okA n L = true) : L.map (toV ad') = L.map (toV ad) := by
  apply List.map_congr_left
  intro v hv
  exact toV_ag h (List.all_eq_true.mp hl v hv)
theorem fm_congr {α β : Type} {f g : α → Option β} : ∀ {l : List α}, (∀ a ∈ l, f a = g a) → l.filterMap f = l.filterMap g := by
  intro l
  induction l with
  | nil => intro _; rfl
  | cons a l ih =>
    intro h
    rw [List.filterMap_cons, List.filterMap_cons, h a List.mem_cons_self, ih (fun b hb => h b (List.mem_cons_of_mem _ hb))]
theorem lvL_ag {n : Nat} {ad ad' : Nat → Nat} (h : Agr n ad ad') {L : List AV} (hl : okA n L = true) : lvL ad' L = lvL ad L := by
  unfold lvL
  apply fm_congr
  intro q hq
  have hm : q.1 ∈ L := List.fst_mem_of_mem_zipIdx hq
  rw [toV_ag h (List.all_eq_true.mp hl q.1 hm)]
theorem ceC_ob {cA : Nat → ClassId} {ad : Nat → Nat} {m : CW} {a ci : Nat} (h : ob a ci) : ceC cA ad m a = .inr (ci, fsC ad m a) := by
  unfold ceC; rw [if_pos (by rw [h.2.1]; exact h.2.2.1), h.2.1]
theorem gc_callV {g d : Nat} {Y : MD} {Q : Int → CW → Prop} {pc : Nat} {L S : List AV} {m : CW} {g' d' idx n b ci : Nat} {Y' : MD} {as : List AV} {Q' : Int → CW → Prop} {S0 : List AV} (hE : EvC g' d' Y' (vr b :: as) m Q') (hd : decode Y.2.1 pc = .ok (.invokevirtual idx, 3)) (hcv : CV Y.1.cls idx Y' n) (hn : as.length = n) (hst : S0 = as.reverse ++ vr b :: S) (ho : ob b ci) (hbn : b < m.1) (hci : (cls[ci]?).map (fun q => q.1) = some Y'.1.cls) (hdp : d' + 1 ≤ d) (hrm : scat S ≤ 8) (hg : g' ≤ g) (hmono : ∀ r m', Q' r m' → m.1 ≤ m'.1) (hLn : okA m.1 L = true) (hSn : okA m.1 S = true) (k : ∀ r m', Q' r m' → rOkC Y'.2.2.2 r → Gc (g - g') d Y Q (pc + 3) L (rStC Y'.2.2.2 r ++ S) m') : Gc g d Y Q pc L S0 m := by
  subst hst
  intro l D cA ad A p e R s mth args below meth c Z hC hX hE0 ls H locs cells slots hR hL hc hs
  obtain ⟨⟨hlk, hini, hcode, hy1, hy2, hpd, hml⟩, hin, hsel⟩ := hcv
  obtain ⟨hx, hb, hmL, hown, hts, hnw, hK, hA, hStt, hfr, hlo, hfl⟩ := id hC
  obtain ⟨hP, hD, hS, hCan⟩ := id hR
  obtain ⟨q, hq, hqn⟩ : ∃ q, cls[ci]? = some q ∧ q.1 = Y'.1.cls := by
    cases h : cls[ci]? with
    | none => rw [h] at hci; cases hci
    | some q => rw [h] at hci; exact ⟨q, rfl, Option.some.inj hci⟩
  have he : (Wc cA ad m)[b]? = some (ad b, .inr (ci, fsC ad m b)) := by rw [Wc_at hbn, ceC_ob ho]
  have hrecv := va_recv hK hP hq he
  rw [hqn] at hrecv
  have hF := freeC hD hS hA
  have hpre : PreV s H Y'.1.cls (ad b) (PcC cA D ad H.size (vr b :: as) m) (as.map (toV ad)) := ⟨PcC_blind, hrecv, fun U hU hW => ⟨rfl, by rw [hU], by rw [hU]; exact hP, va_K.moved hW.alike hK, hD.weaken (fun _ _ _ _ => trivial), hCan, nest_warm hW hnw, by rw [hU]; exact hStt.down hW hF (fun q h1 h2 => hS.2.1 q h1 h2), by rw [hU]; exact hX.1.down hW hF (fun q h1 h2 => hS.2.1 q h1 h2)⟩⟩
  have hMet := hE l D cA ad H.size hfl
  have hroom : (rmC g' d').frames + 1 ≤ R.frames ∧ 8 + (Y'.2.2.1 + 11) + (rmC g' d').locals ≤ R.locals := ⟨by show d' + 1 ≤ _; omega, by show _ + 40 * d' ≤ _; omega⟩
  have hstk : (F0 mth pc ls ((as.reverse ++ vr b :: S).map (toV ad))).stack = (as.map (toV ad)).reverse ++ .ref (ad b) :: S.map (toV ad) := by simp [toV]
  have hWst : 2 * (F0 mth pc ls ((as.reverse ++ vr b :: S).map (toV ad))).monitorRoom + ((S.map (toV ad)).map fun v => v.category).sum ≤ 8 := lv_room (by rw [scat_eq]; exact hrm)
  have hrun : va_Run p l e R s mth args below meth c H locs cells slots g' (1000 * g') (F0 mth pc ls ((as.reverse ++ vr b :: S).map (toV ad))) (S.map (toV ad)) (QcC Y'.2.2.2 (QA m ad Q') (BC cA D (va_A (Wc cA ad m) H.size)) (va_A (Wc cA ad m) H.size) (Value.ref (ad b) :: as.map (toV ad)).toArray) (va_A (Wc cA ad m) H.size) := by
    rcases hlk with hlk | ⟨host, hlk⟩
    · exact va_runV ⟨hx, hb, hmL, hown, hts⟩ hMet ⟨callB_of n hts (wsY_good hcode) rfl rfl rfl (hts _ hini) (hts _ hlk) ⟨hy1, hy2, hpd⟩ hroom, hts _ hin, hts _ hsel⟩ hpre rfl (by simpa using hn) hL.1 hstk hWst hd ⟨by omega, by omega⟩
    · exact va_runVN ⟨hx, hb, hmL, hown, hts⟩ hMet ⟨va_cnB n hts (wsY_good hcode) rfl rfl rfl (hnw _ hlk) (hts _ hini) ⟨hy1, hy2, hpd⟩ hroom, hts _ hin, hts _ hsel⟩ hpre rfl (by simpa using hn) hL.1 hstk hWst hd ⟨by omega, by omega⟩
  refine after_callC hrun hS (fun q _ h => hF q h) hF (fun r u t H1 locs1 h1 h2 h3 h4 h5 h6 h7 h8 => ?_)
  obtain ⟨b1, b2, b3⟩ := h5
  obtain ⟨hq9, hag⟩ := h3
  have hn9 := hmono r u.1 hq9
  have hN9 : ∀ k, NC ≤ k → u.2 k = ad k := fun k hk => hag k (Or.inr hk)
  have eL : lvL u.2 L = lvL ad L := lvL_ag hag hLn
  have eS : S.map (toV u.2) = S.map (toV ad) := mapV_ag hag hSn
  have k := k r u.1 hq9 h4 l D cA u.2 A p e R s mth args below meth c Z (hC.av hN9) (hX.av hN9) (fun v m' ad' pc' ls H locs cells slots hg1 => hE0 v m' ad' pc' ls H locs cells slots (hag.tr hg1 hn9)) ls H1 locs1 (cells + g') (slots + 1000 * g') ⟨by rw [← h1]; exact b1, b2.weaken (fun _ q _ h => hF q.1 h), h8, b3⟩ (by rw [eL]; exact hL) (by omega) (by omega)
  rw [List.map_append, eS] at k
  exact k
theorem gc_callS {g d : Nat} {Y : MD} {Q : Int → CW → Prop} {pc : Nat} {L S : List AV} {m : CW} {g' d' idx n : Nat} {Y' : MD} {as : List AV} {Q' : Int → CW → Prop} {S0 : List AV} (hE : EvC g' d' Y' as m Q') (hd : decode Y.2.1 pc = .ok (.invokestatic idx, 3)) (hcv : CS Y.1.cls idx Y' n) (hn : as.length = n) (hst : S0 = as.reverse ++ S) (hdp : d' + 1 ≤ d) (hrm : scat S ≤ 8) (hg : g' ≤ g) (hmono : ∀ r m', Q' r m' → m.1 ≤ m'.1) (hLn : okA m.1 L = true) (hSn : okA m.1 S = true) (k : ∀ r m', Q' r m' → rOkC Y'.2.2.2 r → Gc (g - g') d Y Q (pc + 3) L (rStC Y'.2.2.2 r ++ S) m') : Gc g d Y Q pc L S0 m := by
  subst hst
  intro l D cA ad A p e R s mth args below meth c Z hC hX hE0 ls H locs cells slots hR hL hc hs
  obtain ⟨⟨hlk, hini, hcode, hy1, hy2, hpd, hml⟩, hin⟩ := hcv
  obtain ⟨hx, hb, hmL, hown, hts, hnw, hK, hA, hStt, hfr, hlo, hfl⟩ := id hC
  obtain ⟨hP, hD, hS, hCan⟩ := id hR
  have hF := freeC hD hS hA
  have hpre : PreS s H (PcC cA D ad H.size as m) (as.map (toV ad)) := ⟨PcC_blind, fun U hU hW => ⟨rfl, by rw [hU], by rw [hU]; exact hP, va_K.moved hW.alike hK, hD.weaken (fun _ _ _ _ => trivial), hCan, nest_warm hW hnw, by rw [hU]; exact hStt.down hW hF (fun q h1 h2 => hS.2.1 q h1 h2), by rw [hU]; exact hX.1.down hW hF (fun q h1 h2 => hS.2.1 q h1 h2)⟩⟩
  have hMet := hE l D cA ad H.size hfl
  have hroom : (rmC g' d').frames + 1 ≤ R.frames ∧ 8 + (Y'.2.2.1 + 11) + (rmC g' d').locals ≤ R.locals := ⟨by show d' + 1 ≤ _; omega, by show _ + 40 * d' ≤ _; omega⟩
  have hstk : (F0 mth pc ls ((as.reverse ++ S).map (toV ad))).stack = (as.map (toV ad)).reverse ++ S.map (toV ad) := by simp
  have hWst : 2 * (F0 mth pc ls ((as.reverse ++ S).map (toV ad))).monitorRoom + ((S.map (toV ad)).map fun v => v.category).sum ≤ 8 := lv_room (by rw [scat_eq]; exact hrm)
  have hrun : va_Run p l e R s mth args below meth c H locs cells slots g' (1000 * g') (F0 mth pc ls ((as.reverse ++ S).map (toV ad))) (S.map (toV ad)) (QcC Y'.2.2.2 (QA m ad Q') (BC cA D (va_A (Wc cA ad m) H.size)) (va_A (Wc cA ad m) H.size) (as.map (toV ad)).toArray) (va_A (Wc cA ad m) H.size) := by
    rcases hlk with hlk | ⟨host, hlk⟩
    · exact va_runS ⟨hx, hb, hmL, hown, hts⟩ hMet ⟨callB_of n hts (wsY_good hcode) rfl rfl rfl (hts _ hini) (hts _ hlk) ⟨hy1, hy2, hpd⟩ hroom, hts _ hin⟩ hpre rfl (by simpa using hn) hL.1 hstk hWst hd ⟨by omega, by omega⟩
    · exact va_runSN ⟨hx, hb, hmL, hown, hts⟩ hMet ⟨va_cnB n hts (wsY_good hcode) rfl rfl rfl (hnw _ hlk) (hts _ hini) ⟨hy1, hy2, hpd⟩ hroom, hts _ hin, trivial⟩ hpre rfl (by simpa using hn) hL.1 hstk hWst hd ⟨by omega, by omega⟩
  refine after_callC hrun hS (fun q _ h => hF q h) hF (fun r u t H1 locs1 h1 h2 h3 h4 h5 h6 h7 h8 => ?_)
  obtain ⟨b1, b2, b3⟩ := h5
  obtain ⟨hq9, hag⟩ := h3
  have hn9 := hmono r u.1 hq9
  have hN9 : ∀ k, NC ≤ k → u.2 k = ad k := fun k hk => hag k (Or.inr hk)
  have eL : lvL u.2 L = lvL ad L := lvL_ag hag hLn
  have eS : S.map (toV u.2) = S.map (toV ad) := mapV_ag hag hSn
  have k := k r u.1 hq9 h4 l D cA u.2 A p e R s mth args below meth c Z (hC.av hN9) (hX.av hN9) (fun v m' ad' pc' ls H locs cells slots hg1 => hE0 v m' ad' pc' ls H locs cells slots (hag.tr hg1 hn9)) ls H1 locs1 (cells + g') (slots + 1000 * g') ⟨by rw [← h1]; exact b1, b2.weaken (fun _ q _ h => hF q.1 h), h8, b3⟩ (by rw [eL]; exact hL) (by omega) (by omega)
  rw [List.map_append, eS] at k
  exact k
def CI (own : String) (idx : Nat) (Y' : MD) (n : Nat) : Prop := CB own idx Y' n ∧ Cond.instanceMethod Y'.1 ∈ tblG ∧ Y'.1.name = "<init>" ∧ Y'.2.2.2 = none
theorem gc_callI {g d : Nat} {Y : MD} {Q : Int → CW → Prop} {pc : Nat} {L S : List AV} {m : CW} {g' d' idx n b : Nat} {Y' : MD} {as : List AV} {Q' : Int → CW → Prop} {S0 : List AV} (hE : EvC g' d' Y' (vr b :: as) m Q') (hd : decode Y.2.1 pc = .ok (.invokespecial idx, 3)) (hcv : CI Y.1.cls idx Y' n) (hn : as.length = n) (hst : S0 = as.reverse ++ vr b :: S) (hdp : d' + 1 ≤ d) (hrm : scat S ≤ 8) (hg : g' ≤ g) (hmono : ∀ r m', Q' r m' → m.1 ≤ m'.1) (hLn : okA m.1 L = true) (hSn : okA m.1 S = true) (k : ∀ r m', Q' r m' → rOkC Y'.2.2.2 r → Gc (g - g') d Y Q (pc + 3) L (rStC Y'.2.2.2 r ++ S) m') : Gc g d Y Q pc L S0 m := by
  subst hst
  intro l D cA ad A p e R s mth args below meth c Z hC hX hE0 ls H locs cells slots hR hL hc hs
  obtain ⟨⟨hlk, hini, hcode, hy1, hy2, hpd, hml⟩, hin, hnm, hrt0⟩ := hcv
  obtain ⟨hx, hb, hmL, hown, hts, hnw, hK, hA, hStt, hfr, hlo, hfl⟩ := id hC
  obtain ⟨hP, hD, hS, hCan⟩ := id hR
  have hF := freeC hD hS hA
  have hpre : PreS s H (PcC cA D ad H.size (vr b :: as) m) (Value.ref (ad b) :: as.map (toV ad)) := ⟨PcC_blind, fun U hU hW => ⟨rfl, by rw [hU], by rw [hU]; exact hP, va_K.moved hW.alike hK, hD.weaken (fun _ _ _ _ => trivial), hCan, nest_warm hW hnw, by rw [hU]; exact hStt.down hW hF (fun q h1 h2 => hS.2.1 q h1 h2), by rw [hU]; exact hX.1.down hW hF (fun q h1 h2 => hS.2.1 q h1 h2)⟩⟩
  have hMet := hE l D cA ad H.size hfl
  have hroom : (rmC g' d').frames + 1 ≤ R.frames ∧ 8 + (Y'.2.2.1 + 11) + (rmC g' d').locals ≤ R.locals := ⟨by show d' + 1 ≤ _; omega, by show _ + 40 * d' ≤ _; omega⟩
  have hstk : (F0 mth pc ls ((as.reverse ++ vr b :: S).map (toV ad))).stack = (as.map (toV ad)).reverse ++ .ref (ad b) :: S.map (toV ad) := by simp [toV]
  have hWst : 2 * (F0 mth pc ls ((as.reverse ++ vr b :: S).map (toV ad))).monitorRoom + ((S.map (toV ad)).map fun v => v.category).sum ≤ 8 := lv_room (by rw [scat_eq]; exact hrm)
  have hrun : va_Run p l e R s mth args below meth c H locs cells slots g' (1000 * g') (F0 mth pc ls ((as.reverse ++ vr b :: S).map (toV ad))) (S.map (toV ad)) (QcC Y'.2.2.2 (QA m ad Q') (BC cA D (va_A (Wc cA ad m) H.size)) (va_A (Wc cA ad m) H.size) (Value.ref (ad b) :: as.map (toV ad)).toArray) (va_A (Wc cA ad m) H.size) := by
    have hc9 : Cond.code Y'.1 Y'.2.1 Y'.2.2.1 none ∈ tblG := by rw [← hrt0]; exact hcode
    have hw9 : wsY Y' = .code Y'.1 Y'.2.1 Y'.2.2.1 none :: tblG := by unfold wsY; rw [hrt0]
    rcases hlk with hlk | ⟨host, hlk⟩
    · exact va_runI ⟨hx, hb, hmL, hown, hts⟩ hMet ⟨callB_of n hts (wsY_good hcode) hw9 rfl rfl (hts _ hini) (hts _ hlk) ⟨hy1, hy2, hpd⟩ hroom, hnm, hts _ hin⟩ hpre rfl (by simpa using hn) hL.1 hstk hWst hd ⟨by omega, by omega⟩
    · exact va_runIN ⟨hx, hb, hmL, hown, hts⟩ hMet ⟨va_cnB n hts (wsY_good hcode) hw9 rfl rfl (hnw _ hlk) (hts _ hini) ⟨hy1, hy2, hpd⟩ hroom, hnm, hts _ hin⟩ hpre rfl (by simpa using hn) hL.1 hstk hWst hd ⟨by omega, by omega⟩
  refine after_callC hrun hS (fun q _ h => hF q h) hF (fun r u t H1 locs1 h1 h2 h3 h4 h5 h6 h7 h8 => ?_)
  obtain ⟨b1, b2, b3⟩ := h5
  obtain ⟨hq9, hag⟩ := h3
  have hn9 := hmono r u.1 hq9
  have hN9 : ∀ k, NC ≤ k → u.2 k = ad k := fun k hk => hag k (Or.inr hk)
  have eL : lvL u.2 L = lvL ad L := lvL_ag hag hLn
  have eS : S.map (toV u.2) = S.map (toV ad) := mapV_ag hag hSn
  have k := k r u.1 hq9 h4 l D cA u.2 A p e R s mth args below meth c Z (hC.av hN9) (hX.av hN9) (fun v m' ad' pc' ls H locs cells slots hg1 => hE0 v m' ad' pc' ls H locs cells slots (hag.tr hg1 hn9)) ls H1 locs1 (cells + g') (slots + 1000 * g') ⟨by rw [← h1]; exact b1, b2.weaken (fun _ q _ h => hF q.1 h), h8, b3⟩ (by rw [eL]; exact hL) (by omega) (by omega)
  rw [List.map_append, eS] at k
  exact k
theorem gc_callVS {g d : Nat} {Y : MD} {Q : Int → CW → Prop} {pc : Nat} {L S : List AV} {m : CW} {g' d' idx n : Nat} {Y' : MD} {as : List AV} {Q' : Int → CW → Prop} {S0 : List AV} (hE : EvC g' d' Y' (vr (1008) :: as) m Q') (hd : decode Y.2.1 pc = .ok (.invokevirtual idx, 3)) (hcv : CV Y.1.cls idx Y' n) (hn : as.length = n) (hst : S0 = as.reverse ++ vr (1008) :: S) (hci : Y'.1.cls = "java/lang/String") (hdp : d' + 1 ≤ d) (hrm : scat S ≤ 8) (hg : g' ≤ g) (hmono : ∀ r m', Q' r m' → m.1 ≤ m'.1) (hLn : okA m.1 L = true) (hSn : okA m.1 S = true) (k : ∀ r m', Q' r m' → rOkC Y'.2.2.2 r → Gc (g - g') d Y Q (pc + 3) L (rStC Y'.2.2.2 r ++ S) m') : Gc g d Y Q pc L S0 m := by
  subst hst
  intro l D cA ad A p e R s mth args below meth c Z hC hX hE0 ls H locs cells slots hR hL hc hs
  obtain ⟨⟨hlk, hini, hcode, hy1, hy2, hpd, hml⟩, hin, hsel⟩ := hcv
  obtain ⟨hx, hb, hmL, hown, hts, hnw, hK, hA, hStt, hfr, hlo, hfl⟩ := id hC
  obtain ⟨hP, hD, hS, hCan⟩ := id hR
  have hrecv : ∃ cell : Cell, H[ad (1008)]? = some cell ∧ cell.vm.isStatics = false ∧ s.vm.findClass Y'.1.cls = some cell.cls := by rw [hci]; exact vk_recv (adK := fun i => ad (1008 + i)) (i := 0) hX.1.1 (by decide) hS
  have hF := freeC hD hS hA
  have hpre : PreV s H Y'.1.cls (ad (1008)) (PcC cA D ad H.size (vr (1008) :: as) m) (as.map (toV ad)) := ⟨PcC_blind, hrecv, fun U hU hW => ⟨rfl, by rw [hU], by rw [hU]; exact hP, va_K.moved hW.alike hK, hD.weaken (fun _ _ _ _ => trivial), hCan, nest_warm hW hnw, by rw [hU]; exact hStt.down hW hF (fun q h1 h2 => hS.2.1 q h1 h2), by rw [hU]; exact hX.1.down hW hF (fun q h1 h2 => hS.2.1 q h1 h2)⟩⟩
  have hMet := hE l D cA ad H.size hfl
  have hroom : (rmC g' d').frames + 1 ≤ R.frames ∧ 8 + (Y'.2.2.1 + 11) + (rmC g' d').locals ≤ R.locals := ⟨by show d' + 1 ≤ _; omega, by show _ + 40 * d' ≤ _; omega⟩
  have hstk : (F0 mth pc ls ((as.reverse ++ vr (1008) :: S).map (toV ad))).stack = (as.map (toV ad)).reverse ++ .ref (ad (1008)) :: S.map (toV ad) := by simp [toV]
  have hWst : 2 * (F0 mth pc ls ((as.reverse ++ vr (1008) :: S).map (toV ad))).monitorRoom + ((S.map (toV ad)).map fun v => v.category).sum ≤ 8 := lv_room (by rw [scat_eq]; exact hrm)
  have hrun : va_Run p l e R s mth args below meth c H locs cells slots g' (1000 * g') (F0 mth pc ls ((as.reverse ++ vr (1008) :: S).map (toV ad))) (S.map (toV ad)) (QcC Y'.2.2.2 (QA m ad Q') (BC cA D (va_A (Wc cA ad m) H.size)) (va_A (Wc cA ad m) H.size) (Value.ref (ad (1008)) :: as.map (toV ad)).toArray) (va_A (Wc cA ad m) H.size) := by
    rcases hlk with hlk | ⟨host, hlk⟩
    · exact va_runV ⟨hx, hb, hmL, hown, hts⟩ hMet ⟨callB_of n hts (wsY_good hcode) rfl rfl rfl (hts _ hini) (hts _ hlk) ⟨hy1, hy2, hpd⟩ hroom, hts _ hin, hts _ hsel⟩ hpre rfl (by simpa using hn) hL.1 hstk hWst hd ⟨by omega, by omega⟩
    · exact va_runVN ⟨hx, hb, hmL, hown, hts⟩ hMet ⟨va_cnB n hts (wsY_good hcode) rfl rfl rfl (hnw _ hlk) (hts _ hini) ⟨hy1, hy2, hpd⟩ hroom, hts _ hin, hts _ hsel⟩ hpre rfl (by simpa using hn) hL.1 hstk hWst hd ⟨by omega, by omega⟩
  refine after_callC hrun hS (fun q _ h => hF q h) hF (fun r u t H1 locs1 h1 h2 h3 h4 h5 h6 h7 h8 => ?_)
  obtain ⟨b1, b2, b3⟩ := h5
  obtain ⟨hq9, hag⟩ := h3
  have hn9 := hmono r u.1 hq9
  have hN9 : ∀ k, NC ≤ k → u.2 k = ad k := fun k hk => hag k (Or.inr hk)
  have eL : lvL u.2 L = lvL ad L := lvL_ag hag hLn
  have eS : S.map (toV u.2) = S.map (toV ad) := mapV_ag hag hSn
  have k := k r u.1 hq9 h4 l D cA u.2 A p e R s mth args below meth c Z (hC.av hN9) (hX.av hN9) (fun v m' ad' pc' ls H locs cells slots hg1 => hE0 v m' ad' pc' ls H locs cells slots (hag.tr hg1 hn9)) ls H1 locs1 (cells + g') (slots + 1000 * g') ⟨by rw [← h1]; exact b1, b2.weaken (fun _ q _ h => hF q.1 h), h8, b3⟩ (by rw [eL]; exact hL) (by omega) (by omega)
  rw [List.map_append, eS] at k
  exact k
def chK (j : Int) : Int := ((kwB.getD 0 []).getD j.toNat 0).toInt
theorem gc_getfV {g d : Nat} {Y : MD} {Q : Int → CW → Prop} {pc : Nat} {L S : List AV} {m : CW} {idx : Nat} (hd : decode Y.2.1 pc = .ok (.getfield idx, 3)) (hlk : Cond.fieldLink Y.1.cls idx "java/lang/String" "value" "[B" ∈ tblG) (k : Gc g d Y Q (pc + 3) L (vr (1009) :: S) m) : Gc g d Y Q pc L (vr (1008) :: S) m := by
  intro l D cA ad A p e R s mth args below meth c Z hC hX hE ls H locs cells slots hR hL hc hs
  have k := k l D cA ad A p e R s mth args below meth c Z hC hX hE ls H locs cells slots hR hL hc hs
  obtain ⟨hx, hb, hmL, hown, hts, hnw, hK, hA, hStt, hfr, hlo, hfl⟩ := id hC
  exact vk_getf hx hb (hX.1.1.1 0 (by decide)).2.2.1 hR.2.2.1 hown (hts _ hlk) (fun _ h => h) hd k
theorem gc_getfC {g d : Nat} {Y : MD} {Q : Int → CW → Prop} {pc : Nat} {L S : List AV} {m : CW} {idx : Nat} (hd : decode Y.2.1 pc = .ok (.getfield idx, 3)) (hlk : Cond.fieldLink Y.1.cls idx "java/lang/String" "coder" "B" ∈ tblG) (k : Gc g d Y Q (pc + 3) L (vi 0 :: S) m) : Gc g d Y Q pc L (vr (1008) :: S) m := by
  intro l D cA ad A p e R s mth args below meth c Z hC hX hE ls H locs cells slots hR hL hc hs
  have k := k l D cA ad A p e R s mth args below meth c Z hC hX hE ls H locs cells slots hR hL hc hs
  obtain ⟨hx, hb, hmL, hown, hts, hnw, hK, hA, hStt, hfr, hlo, hfl⟩ := id hC
  exact vk_getf hx hb (hX.1.1.1 0 (by decide)).2.1 hR.2.2.1 hown (hts _ hlk) (fun _ h => h) hd k
theorem gc_alenS {g d : Nat} {Y : MD} {Q : Int → CW → Prop} {pc : Nat} {L S : List AV} {m : CW} (hd : decode Y.2.1 pc = .ok (.arraylength, 1)) (k : Gc g d Y Q (pc + 1) L (vi 137 :: S) m) : Gc g d Y Q pc L (vr (1009) :: S) m := by
  intro l D cA ad A p e R s mth args below meth c Z hC hX hE ls H locs cells slots hR hL hc hs
  have k := k l D cA ad A p e R s mth args below meth c Z hC hX hE ls H locs cells slots hR hL hc hs
  obtain ⟨hx, hb, hmL, hown, hts, hnw, hK, hA, hStt, hfr, hlo, hfl⟩ := id hC
  exact va_tlen hx hb (hX.1.1.1 0 (by decide)).2.2.2 hR.2.2.1 rfl hd k
theorem gc_baloadS {g d : Nat} {Y : MD} {Q : Int → CW → Prop} {pc : Nat} {L S : List AV} {m : CW} {j : Int} (hd : decode Y.2.1 pc = .ok (.baload, 1)) (h0 : 0 ≤ j) (h1 : j < 137) (k : Gc g d Y Q (pc + 1) L (vi (chK j) :: S) m) : Gc g d Y Q pc L (vi j :: vr (1009) :: S) m := by
  intro l D cA ad A p e R s mth args below meth c Z hC hX hE ls H locs cells slots hR hL hc hs
  have k := k l D cA ad A p e R s mth args below meth c Z hC hX hE ls H locs cells slots hR hL hc hs
  obtain ⟨hx, hb, hmL, hown, hts, hnw, hK, hA, hStt, hfr, hlo, hfl⟩ := id hC
  have hj : InR j := ⟨by omega, by omega⟩
  refine va_tb hx hb (hX.1.1.1 0 (by decide)).2.2.2 hR.2.2.1 (hj.inn h0 h1) (v := .int (Int32.ofInt (chK j))) ?_ hd k
  rw [hj.cl]
  unfold chK
  rw [Int32.ofInt_toInt]
theorem gc_ldcK {g d : Nat} {Y : MD} {Q : Int → CW → Prop} {pc : Nat} {L S : List AV} {m : CW} (hd : decode Y.2.1 pc = .ok (.ldc 113, 2)) (hcl : Y.1.cls = "CartTurns$Tape") (k : Gc g d Y Q (pc + 2) L (vr 1008 :: S) m) : Gc g d Y Q pc L S m := by
  intro l D cA ad A p e R s mth args below meth c Z hC hX hE ls H locs cells slots hR hL hc hs
  have k := k l D cA ad A p e R s mth args below meth c Z hC hX hE ls H locs cells slots hR hL hc hs
  obtain ⟨hx, hb, hmL, hown, hts, hnw, hK, hA, hStt, hfr, hlo, hfl⟩ := id hC
  have hZ := hX.1.2.1
  rw [hcl] at hown
  intro T hT XX
  obtain ⟨t, a1, b1⟩ := k T hT XX
  exact ⟨t, XX.ldcString hx hown (text := kwT) (a := ad 1008) hZ.1 hZ.2 (g := F0 mth pc ls (S.map (toV ad))) rfl (by rw [hb]; exact hd) t a1, b1⟩
