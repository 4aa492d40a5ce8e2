/-! ===== calls ===== -/
def isNw (w : Cond) : Bool := match w with
  | .fieldLinkNest _ _ _ _ _ _ => true
  | .methodLinkNest _ _ _ _ => true
  | _ => false
theorem nestW_is : nestW.all isNw = true := by decide +kernel
theorem nw_warm {w : Cond} (h : isNw w = true) {s U : State} (hW : s.WarmedH U.vm) (hs : va_Nw w s) : va_Nw w U := by
  cases w <;> first | exact va_Nw.warmF hW hs | exact va_Nw.warmM hW hs | cases h
theorem nest_warm {s U : State} (hW : s.WarmedH U.vm) (hs : ∀ w ∈ nestW, va_Nw w s) : ∀ w ∈ nestW, va_Nw w U :=
  fun w h => nw_warm (List.all_eq_true.mp nestW_is w h) hW (hs w h)
theorem nw_onTables {w : Cond} (h : isNw w = true) : w.onTables = true := by
  cases w <;> first | rfl | cases h
theorem nest_same {s U : State} (hv : s.vm = U.vm) (hs : ∀ w ∈ nestW, va_Nw w s) : ∀ w ∈ nestW, va_Nw w U :=
  fun w h => va_Nw.same (nw_onTables (List.all_eq_true.mp nestW_is w h)) hv (hs w h)
theorem Stt.down {ad : Nat → Nat} {A B : Nat → Prop} {s U : State} {H : Heap} (h : Stt ad A s s.heap) (hW : s.WarmedH U.vm) (hAB : ∀ q, B q → A q) (hk : ∀ q : Nat, q < s.heap.size → ¬ A q → H[q]? = s.heap[q]?) : Stt ad B U H :=
  ⟨((h.1.kept hk).narrow hAB).moved hW.alike, ((h.2.1.kept hk).narrow hAB).moved hW.alike, ((h.2.2.1.kept hk).narrow hAB).moved hW.alike, ((h.2.2.2.1.kept hk).narrow hAB).moved hW.alike, h.2.2.2.2.1.down hW.alike hAB hk, h.2.2.2.2.2.warm hW⟩
theorem PcY_blind {cA : Nat → ClassId} {D : va_G} {ad : Nat → Nat} {sz : Nat} {as : List AV} {m : Mem} : FrameBlind (PcY cA D ad sz as m) := by
  intro a U g mk h
  obtain ⟨h0, h1, h2, h3, h4, h5, h6, h7⟩ := h
  exact ⟨h0, h1, h2, va_K.moved (u := U) (U := U.calling g mk a) (Vm.Alike.refl U.vm) h3, h4, h5, nest_same (s := U) (U := U.calling g mk a) rfl h6, Stt.same (u := U) (U := U.calling g mk a) rfl h7⟩
theorem freeY {cA : Nat → ClassId} {ad : Nat → Nat} {m : Mem} {A : Nat → Prop} {H0 H : Heap} {locs : List Loc} (hD : va_D A (Wd cA ad m)) (hS : va_S A H0 H locs) (hA : ∀ q, H0.size ≤ q → A q) : ∀ q, va_A (Wd cA ad m) H.size q → A q := by
  intro q h
  rcases h with ⟨k, e, h⟩ | h
  · exact hD.2 k _ h
  · exact hA q (Nat.le_trans hS.1 h)

theorem after_call {rt : Option FieldType} {Q' : Int → Mem → Prop} {B : Mem → State → Prop} {A0 A1 : Nat → Prop} {free : Addr → Prop} {p : Program} {l : Launch} {e : Env} {R : Room} {s : State} {m : MethodId} {args : Array Value} {below : List Frame} {meth : Method} {c : Code} {H H0 : Heap} {locs : List Loc} {cells slots mc ms pc : Nat} {ls : Array Slot} {st0 rest : List Value} {a : Array Value} {Z : State → Prop} {ad : Nat → Nat}
    (hr : va_Run p l e R s m args below meth c H locs cells slots mc ms (F0 m pc ls st0) rest (QcY rt Q' B A1 a) free) (hS : va_S A0 H0 H locs) (hA : ∀ q, q < H.size → A1 q → A0 q) (hf : ∀ q, free q → A0 q)
    (kk : ∀ (r : Int) (u : Mem) (t : State) (H1 : Heap) (locs1 : List Loc), t.heap = H1 → s.vm.Alike t.vm → Q' r u → rOk rt r → B u t → H.size ≤ H1.size → (∀ q : Nat, q < H.size → ¬ A1 q → H1[q]? = H[q]?) → va_S A0 H0 H1 locs1 → W p l e R s m args below meth c H1 locs1 (cells + mc) (slots + ms) Z (F0 m (pc + 3) ls ((rSt rt r).map (toV ad) ++ rest))) : W p l e R s m args below meth c H locs cells slots Z (F0 m pc ls st0) := by
  have key : ∀ t : FieldType, t ≠ .long → rt = some t → W p l e R s m args below meth c H locs cells slots Z (F0 m pc ls st0) := by
    intro t ht hrt
    subst hrt
    have e1 : QcY (some t) Q' B A1 = va_Qi (fun r m' => Q' r.toInt m' ∧ inTy t r.toInt) B A1 := by cases t <;> first | rfl | exact absurd rfl ht
    have e2 : ∀ r, rSt (some t) r = [vi r] := fun r => by cases t <;> first | rfl | exact absurd rfl ht
    rw [e1] at hr
    refine va_calli hr hS hA hf (fun r u t' H1 locs1 h1 h2 h3 h4 h5 h6 h7 => ?_)
    have := kk r.toInt u t' H1 locs1 h1 h2 h3.1 h3.2 h4 h5 h6 h7
    rw [e2] at this
    simpa [toV, Int32.ofInt_toInt] using this
  match hrt : rt with
  | none =>
    subst hrt
    exact va_callv (a := a) (post := fun m' => Q' 0 m') hr hS hA hf (fun u t H1 locs1 h1 h2 h3 h4 h5 h6 h7 => kk 0 u t H1 locs1 h1 h2 h3 rfl h4 h5 h6 h7)
  | some t =>
    by_cases ht : t = .long
    · subst ht
      subst hrt
      refine va_calll (a := a) (post := fun r m' => Q' r.toInt m' ∧ InL r.toInt) hr hS hA hf (fun r u t' H1 locs1 h1 h2 h3 h4 h5 h6 h7 => ?_)
      have := kk r.toInt u t' H1 locs1 h1 h2 h3.1 h3.2 h4 h5 h6 h7
      simpa [rSt, toV, Int64.ofInt_toInt] using this
    · exact key t ht rfl
def CB (own : String) (idx : Nat) (Y' : MD) (n : Nat) : Prop := (Cond.methodLink own idx Y'.1 ∈ tblG ∨ ∃ host, Cond.methodLinkNest own idx Y'.1 host ∈ nestW) ∧ Cond.initialized Y'.1.cls ∈ tblG ∧ Cond.code Y'.1 Y'.2.1 Y'.2.2.1 Y'.2.2.2 ∈ tblG ∧ Y'.1.cls ≠ "java/lang/invoke/MethodHandle" ∧ Y'.1.cls ≠ "java/lang/invoke/VarHandle" ∧ (parseMethodDescriptor Y'.1.desc).map (fun d => d.parameters.length) = some n ∧ Y'.2.2.1 ≤ 21
def CV (own : String) (idx : Nat) (Y' : MD) (n : Nat) : Prop := CB own idx Y' n ∧ Cond.instanceMethod Y'.1 ∈ tblG ∧ Cond.selects Y'.1.cls Y'.1 Y'.1 ∈ tblG
def CS (own : String) (idx : Nat) (Y' : MD) (n : Nat) : Prop := CB own idx Y' n ∧ Cond.static Y'.1 ∈ tblG
theorem wsY_good {Y' : MD} (h : Cond.code Y'.1 Y'.2.1 Y'.2.2.1 Y'.2.2.2 ∈ tblG) : GoodIn tblG (wsY Y') := tblG_good (fun w hw => by
  rcases List.mem_cons.mp hw with rfl | hw
  · exact h
  · exact hw)
def scat (S : List AV) : Nat := (S.map (fun v => if isLg v then 2 else 1)).sum
theorem scat_eq {ad : Nat → Nat} (S : List AV) : ((S.map (toV ad)).map fun v => v.category).sum = scat S := by
  unfold scat
  congr 1
  rw [List.map_map]
  apply List.map_congr_left
  intro v _
  by_cases h : isLg v = true
  · match v, h with
    | .inr (.inl x), _ => rfl
  · rw [if_neg h]; exact cat_lg (by simpa using h)

theorem go_callV {g d : Nat} {Y : MD} {Q : Int → Mem → Prop} {pc : Nat} {L S : List AV} {m : Mem} {g' d' idx n b ci : Nat} {Y' : MD} {as : List AV} {Q' : Int → Mem → Prop} {S0 : List AV} (hE : Ev g' d' Y' (vr b :: as) m Q') (hd : decode Y.2.1 pc = .ok (.invokevirtual idx, 3)) (hcv : CV Y.1.cls idx Y' n) (hn : as.length = n) (hst : S0 = as.reverse ++ vr b :: S) (ho : ob b ci) (hci : (cls[ci]?).map (fun q => q.1) = some Y'.1.cls) (hdp : d' + 1 ≤ d) (hrm : scat S ≤ 8) (hg : g' ≤ g) (k : ∀ r m', Q' r m' → rOk Y'.2.2.2 r → Go (g - g') d Y Q (pc + 3) L (rSt Y'.2.2.2 r ++ S) m') : Go g d Y Q pc L S0 m := by
  subst hst
  intro l D cA ad A p e R s mth args below meth c Z hC hE0 ls H locs cells slots hR hL hc hs
  obtain ⟨⟨hlk, hini, hcode, hy1, hy2, hpd, hml⟩, hin, hsel⟩ := hcv
  obtain ⟨hx, hb, hmL, hown, hts, hnw, hK, hA, hStt, hfr, hlo, hfl⟩ := id hC
  obtain ⟨hP, hD, hS, hCan⟩ := id hR
  obtain ⟨q, hq, hqn⟩ : ∃ q, cls[ci]? = some q ∧ q.1 = Y'.1.cls := by
    cases h : cls[ci]? with
    | none => rw [h] at hci; cases hci
    | some q => rw [h] at hci; exact ⟨q, rfl, Option.some.inj hci⟩
  have he : (Wd cA ad m)[b]? = some (ad b, .inr (ci, objFs ad m b)) := by rw [Wd_at ho.1, cellE_ob ho]
  have hrecv := va_recv hK hP hq he
  rw [hqn] at hrecv
  have hF := freeY hD hS hA
  have hpre : PreV s H Y'.1.cls (ad b) (PcY cA D ad H.size (vr b :: as) m) (as.map (toV ad)) := ⟨PcY_blind, hrecv, fun U hU hW => ⟨rfl, by rw [hU], by rw [hU]; exact hP, va_K.moved hW.alike hK, hD.weaken (fun _ _ _ _ => trivial), hCan, nest_warm hW hnw, by rw [hU]; exact hStt.down hW hF (fun q h1 h2 => hS.2.1 q h1 h2)⟩⟩
  have hMet := hE l D cA ad H.size hfl
  have hroom : (rmY g' d').frames + 1 ≤ R.frames ∧ 8 + (Y'.2.2.1 + 11) + (rmY g' d').locals ≤ R.locals := ⟨by show d' + 1 ≤ _; omega, by show _ + 40 * d' ≤ _; omega⟩
  have hstk : (F0 mth pc ls ((as.reverse ++ vr b :: S).map (toV ad))).stack = (as.map (toV ad)).reverse ++ .ref (ad b) :: S.map (toV ad) := by simp [toV]
  have hWst : 2 * (F0 mth pc ls ((as.reverse ++ vr b :: S).map (toV ad))).monitorRoom + ((S.map (toV ad)).map fun v => v.category).sum ≤ 8 := lv_room (by rw [scat_eq]; exact hrm)
  have hrun : va_Run p l e R s mth args below meth c H locs cells slots g' (20 * g') (F0 mth pc ls ((as.reverse ++ vr b :: S).map (toV ad))) (S.map (toV ad)) (QcY Y'.2.2.2 Q' (BY cA D ad (va_A (Wd cA ad m) H.size)) (va_A (Wd cA ad m) H.size) (Value.ref (ad b) :: as.map (toV ad)).toArray) (va_A (Wd cA ad m) H.size) := by
    rcases hlk with hlk | ⟨host, hlk⟩
    · exact va_runV ⟨hx, hb, hmL, hown, hts⟩ hMet ⟨callB_of n hts (wsY_good hcode) rfl rfl rfl (hts _ hini) (hts _ hlk) ⟨hy1, hy2, hpd⟩ hroom, hts _ hin, hts _ hsel⟩ hpre rfl (by simpa using hn) hL.1 hstk hWst hd ⟨by omega, by omega⟩
    · exact va_runVN ⟨hx, hb, hmL, hown, hts⟩ hMet ⟨va_cnB n hts (wsY_good hcode) rfl rfl rfl (hnw _ hlk) (hts _ hini) ⟨hy1, hy2, hpd⟩ hroom, hts _ hin, hts _ hsel⟩ hpre rfl (by simpa using hn) hL.1 hstk hWst hd ⟨by omega, by omega⟩
  refine after_call (ad := ad) hrun hS (fun q _ h => hF q h) hF (fun r u t H1 locs1 h1 h2 h3 h4 h5 h6 h7 h8 => ?_)
  obtain ⟨b1, b2, b3⟩ := h5
  have k := k r u h3 h4 l D cA ad A p e R s mth args below meth c Z hC hE0 ls H1 locs1 (cells + g') (slots + 20 * g') ⟨by rw [← h1]; exact b1, b2.weaken (fun _ q _ h => hF q.1 h), h8, b3⟩ hL (by omega) (by omega)
  rw [List.map_append] at k
  exact k
theorem go_callS {g d : Nat} {Y : MD} {Q : Int → Mem → Prop} {pc : Nat} {L S : List AV} {m : Mem} {g' d' idx n : Nat} {Y' : MD} {as : List AV} {Q' : Int → Mem → Prop} {S0 : List AV} (hE : Ev g' d' Y' as m Q') (hd : decode Y.2.1 pc = .ok (.invokestatic idx, 3)) (hcv : CS Y.1.cls idx Y' n) (hn : as.length = n) (hst : S0 = as.reverse ++ S) (hdp : d' + 1 ≤ d) (hrm : scat S ≤ 8) (hg : g' ≤ g) (k : ∀ r m', Q' r m' → rOk Y'.2.2.2 r → Go (g - g') d Y Q (pc + 3) L (rSt Y'.2.2.2 r ++ S) m') : Go g d Y Q pc L S0 m := by
  subst hst
  intro l D cA ad A p e R s mth args below meth c Z hC hE0 ls H locs cells slots hR hL hc hs
  obtain ⟨⟨hlk, hini, hcode, hy1, hy2, hpd, hml⟩, hin⟩ := hcv
  obtain ⟨hx, hb, hmL, hown, hts, hnw, hK, hA, hStt, hfr, hlo, hfl⟩ := id hC
  obtain ⟨hP, hD, hS, hCan⟩ := id hR
  have hF := freeY hD hS hA
  have hpre : PreS s H (PcY cA D ad H.size as m) (as.map (toV ad)) := ⟨PcY_blind, fun U hU hW => ⟨rfl, by rw [hU], by rw [hU]; exact hP, va_K.moved hW.alike hK, hD.weaken (fun _ _ _ _ => trivial), hCan, nest_warm hW hnw, by rw [hU]; exact hStt.down hW hF (fun q h1 h2 => hS.2.1 q h1 h2)⟩⟩
  have hMet := hE l D cA ad H.size hfl
  have hroom : (rmY g' d').frames + 1 ≤ R.frames ∧ 8 + (Y'.2.2.1 + 11) + (rmY g' d').locals ≤ R.locals := ⟨by show d' + 1 ≤ _; omega, by show _ + 40 * d' ≤ _; omega⟩
  have hstk : (F0 mth pc ls ((as.reverse ++ S).map (toV ad))).stack = (as.map (toV ad)).reverse ++ S.map (toV ad) := by simp
  have hWst : 2 * (F0 mth pc ls ((as.reverse ++ S).map (toV ad))).monitorRoom + ((S.map (toV ad)).map fun v => v.category).sum ≤ 8 := lv_room (by rw [scat_eq]; exact hrm)
  have hrun : va_Run p l e R s mth args below meth c H locs cells slots g' (20 * g') (F0 mth pc ls ((as.reverse ++ S).map (toV ad))) (S.map (toV ad)) (QcY Y'.2.2.2 Q' (BY cA D ad (va_A (Wd cA ad m) H.size)) (va_A (Wd cA ad m) H.size) (as.map (toV ad)).toArray) (va_A (Wd cA ad m) H.size) := by
    rcases hlk with hlk | ⟨host, hlk⟩
    · exact va_runS ⟨hx, hb, hmL, hown, hts⟩ hMet ⟨callB_of n hts (wsY_good hcode) rfl rfl rfl (hts _ hini) (hts _ hlk) ⟨hy1, hy2, hpd⟩ hroom, hts _ hin⟩ hpre rfl (by simpa using hn) hL.1 hstk hWst hd ⟨by omega, by omega⟩
    · exact va_runSN ⟨hx, hb, hmL, hown, hts⟩ hMet ⟨va_cnB n hts (wsY_good hcode) rfl rfl rfl (hnw _ hlk) (hts _ hini) ⟨hy1, hy2, hpd⟩ hroom, hts _ hin, trivial⟩ hpre rfl (by simpa using hn) hL.1 hstk hWst hd ⟨by omega, by omega⟩
  refine after_call (ad := ad) hrun hS (fun q _ h => hF q h) hF (fun r u t H1 locs1 h1 h2 h3 h4 h5 h6 h7 h8 => ?_)
  obtain ⟨b1, b2, b3⟩ := h5
  have k := k r u h3 h4 l D cA ad A p e R s mth args below meth c Z hC hE0 ls H1 locs1 (cells + g') (slots + 20 * g') ⟨by rw [← h1]; exact b1, b2.weaken (fun _ q _ h => hF q.1 h), h8, b3⟩ hL (by omega) (by omega)
  rw [List.map_append] at k
  exact k

/-- the locals at a method's entry -/
def enL (as : List AV) : List AV := as.flatMap (fun v => if isLg v then [v, un] else [v])
theorem lvL_entry {ad : Nat → Nat} {as : List AV} (hu : as.all (fun v => !isUn v) = true) : ∀ (k : Nat) (q : Nat × Value), q ∈ ((enL as).zipIdx k).filterMap (fun q => if isUn q.1 then none else some (q.2, toV ad q.1)) → q ∈ lv_args k (as.map (toV ad)) := by
  induction as with
  | nil => intro k q h; simp [enL] at h
  | cons v as ih =>
    intro k q h
    have hu2 : as.all (fun v => !isUn v) = true := by
      rw [List.all_cons, Bool.and_eq_true] at hu; exact hu.2
    have hu1 : isUn v = false := by
      rw [List.all_cons, Bool.and_eq_true] at hu; simpa using hu.1
    by_cases hg : isLg v = true
    · have e : enL (v :: as) = v :: un :: enL as := by simp [enL, hg]
      have ec : (toV ad v).category = 2 := by
        match v, hg with
        | .inr (.inl x), _ => rfl
      rw [e] at h
      simp only [List.zipIdx_cons, List.filterMap_cons, hu1] at h
      simp only [show isUn un = true from rfl, if_true] at h
      simp only [Bool.false_eq_true, if_false, List.mem_cons] at h
      simp only [List.map_cons, lv_args, ec]
      rcases h with h | h
      · subst h; simp
      · have := ih hu2 (k + 1 + 1) q h
        simp only [List.mem_cons]
        first | exact Or.inr this | (right; simpa using this)
    · have e : enL (v :: as) = v :: enL as := by simp [enL, hg]
      have ec : (toV ad v).category = 1 := cat_lg (by simpa using hg)
      rw [e] at h
      simp only [List.zipIdx_cons, List.filterMap_cons, hu1, Bool.false_eq_true, if_false, List.mem_cons] at h
      simp only [List.map_cons, lv_args, ec]
      rcases h with h | h
      · subst h; simp
      · have := ih hu2 (k + 1) q h
        simp only [List.mem_cons]
        first | exact Or.inr this | (right; simpa using this)
theorem Ev.of {g d : Nat} {Y : MD} {as L : List AV} {m : Mem} {Q : Int → Mem → Prop} (hp : plainName Y.1.cls = true) (hu : as.all (fun v => !isUn v) = true) (hl : (enL as).length ≤ Y.2.2.1) (hL : L = enL as ++ List.replicate (Y.2.2.1 - (enL as).length) un) (hret : ∀ t, Y.2.2.2 = some t → t = .int ∨ t = .boolean ∨ t = .long) (k : Can m → Go g d Y Q 0 L [] m) : Ev g d Y as m Q := by
  intro l D cA ad sz hfl
  refine Met.ofW (cc := Y.2.1) (maxL := Y.2.2.1) (ret := Y.2.2.2) hp rfl ?_
  intro p e s mth args below meth c s₁ B hml hv
  obtain ⟨rfl, hsz, hP, hK, hD0, hCan, hnw, hStt⟩ := hv
  subst hsz
  have hts0 := atoms_spec (ws := wsY Y) B.pre
  have hts : ∀ w ∈ tblG, w.before (as.map (toV ad)).toArray s = true := fun w h => hts0 w (List.mem_cons_of_mem _ h)
  have hlen : (lg_sl (as.map (toV ad))).length = (enL as).length := by
    unfold lg_sl enL
    rw [List.length_flatMap, List.length_flatMap, List.map_map]
    congr 1
    apply List.map_congr_left
    intro v _
    by_cases h : isLg v = true
    · match v, h with
      | .inr (.inl x), _ => rfl
    · have := cat_lg (ad := ad) (v := v) (by simpa using h)
      simp [this, h]
  have hen := lv_entry (as.map (toV ad)) (n := Y.2.2.1) (by rw [hlen]; exact hl)
  rw [lg_entry_eq]
  generalize (lg_sl (as.map (toV ad)) ++ List.replicate (Y.2.2.1 - (lg_sl (as.map (toV ad))).length) Slot.unset).toArray = ls at hen ⊢
  have hLs : lv_has ls Y.2.2.1 (lvL ad L) := by
    refine ⟨hen.1, hen.2.1, fun q hq => hen.2.2 q (lvL_entry hu 0 q ?_)⟩
    unfold lvL at hq
    rw [hL, List.zipIdx_append, List.filterMap_append, List.mem_append] at hq
    rcases hq with hq | hq
    · exact hq
    · exfalso
      obtain ⟨⟨v, j⟩, h1, h2⟩ := List.mem_filterMap.mp hq
      have hv : v = un := by
        have := List.fst_mem_of_mem_zipIdx h1
        exact (List.mem_replicate.mp this).2
      subst hv
      simp [isUn] at h2
  have hA : ∀ q : Nat, s.heap.size ≤ q → va_A (Wd cA ad m) s.heap.size q := fun q h => Or.inr h
  have hD := hD0.self (sz := s.heap.size)
  refine k hCan l D cA ad (va_A (Wd cA ad m) s.heap.size) p e _ s mth _ below meth c _ ⟨B.exec, B.bytes, hml, findClass_of_methodNamed B.named, hts, hnw, hK, hA, hStt, Nat.le_refl _, Nat.le_refl _, hfl⟩ ?_ ls s.heap [] 0 0 ⟨hP, hD, va_S.rf, hCan⟩ hLs (by show 0 + g ≤ g; omega) (by show 0 + 20 * g ≤ 20 * g; omega)
  intro v m' pc' ls' H locs cells slots hQ hok hR hc hs hd
  refine W.widen (k := g) (n := 20 * g) hc hs ?_
  have hB : ∀ t : State, t.heap = H → BY cA D ad (va_A (Wd cA ad m) s.heap.size) m' t := fun t ht => ⟨by rw [ht]; exact hR.1, hR.2.1, hR.2.2.2⟩
  have hr := B.returns
  have hlocks := B.notSynchronized
  have key : ∀ t : FieldType, (t = .int ∨ t = .boolean) → Y.2.2.2 = some t → W p l e (headSpec (wsY Y) (rmY g d)).room s mth (as.map (toV ad)).toArray below meth c H locs g (20 * g) (MQ below (QcY Y.2.2.2 Q (BY cA D ad (va_A (Wd cA ad m) s.heap.size)) (va_A (Wd cA ad m) s.heap.size)) (as.map (toV ad)).toArray s g (20 * g) (va_A (Wd cA ad m) s.heap.size)) (F0 mth pc' ls' ((rSt Y.2.2.2 v).map (toV ad))) := by
    intro t ht hrt
    have e1 : QcY (some t) Q (BY cA D ad (va_A (Wd cA ad m) s.heap.size)) (va_A (Wd cA ad m) s.heap.size) = va_Qi (fun r m' => Q r.toInt m' ∧ inTy t r.toInt) (BY cA D ad (va_A (Wd cA ad m) s.heap.size)) (va_A (Wd cA ad m) s.heap.size) := by rcases ht with rfl | rfl <;> rfl
    have e2 : rSt (some t) v = [vi v] := by rcases ht with rfl | rfl <;> rfl
    have e3 : rIn (some t) = .ireturn := by rcases ht with rfl | rfl <;> rfl
    have e4 : InR v ∧ inTy t v ∧ narrow t (.int (Int32.ofInt v)) = .int (Int32.ofInt v) := by
      rw [hrt] at hok
      rcases ht with rfl | rfl
      · exact ⟨hok, hok, rfl⟩
      · refine ⟨?_, hok, ?_⟩
        · unfold InR; rcases hok with h | h <;> omega
        · rcases hok with rfl | rfl <;> rfl
    rw [hrt] at hr hd ⊢
    rw [e1, e2]
    rw [e3] at hd
    refine W.zret B.exec B.bytes hr e4.2.2 (fun t' ht' hW' => ?_) hR.2.2.1.2.2 hd hlocks
    exact ⟨⟨Int32.ofInt v, m', rfl, ⟨by rw [e4.1.i]; exact hQ, by rw [e4.1.i]; exact e4.2.1⟩, hB t' ht'⟩, hR.2.2.1.F ht'⟩
  match hrt : Y.2.2.2 with
  | none =>
    rw [hrt] at hr hd hok
    have hv0 : v = 0 := hok
    subst hv0
    exact W.vret B.exec B.bytes hr (fun t ht _ => ⟨⟨m', rfl, hQ, hB t ht⟩, hR.2.2.1.F ht⟩) hR.2.2.1.2.2 hd hlocks
  | some t =>
    rcases hret t hrt with h | h | h
    · have := key t (Or.inl h) hrt; rw [hrt] at this; exact this
    · have := key t (Or.inr h) hrt; rw [hrt] at this; exact this
    · subst h
      rw [hrt] at hr hd hok
      have hv1 : InL v := hok
      exact W.lret B.exec B.bytes hr (fun t ht _ => ⟨⟨Int64.ofInt v, m', rfl, ⟨by rw [hv1.i]; exact hQ, by rw [hv1.i]; exact hv1⟩, hB t ht⟩, hR.2.2.1.F ht⟩) hR.2.2.1.2.2 hd hlocks
