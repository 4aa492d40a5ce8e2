theorem lvL_entryU {ad : Nat → Nat} {as : List AV} : ∀ (k : Nat) (q : Nat × Value), q ∈ ((enL as).zipIdx k).filterMap (fun q => if isUn q.1 then none else some (q.2, toV ad q.1)) → q ∈ lv_args k (as.map (toV ad)) := by
  induction as with
  | nil => intro k q h; simp [enL] at h
  | cons v as ih =>
    intro k q h
    by_cases hun : isUn v = true
    · have hg : ¬ isLg v = true := by
        match v, hun with
        | .inr (.inr (.inr _)), _ => exact Bool.false_ne_true
      have e : enL (v :: as) = v :: enL as := by simp [enL, hg]
      have ec : (toV ad v).category = 1 := cat_lg (by simpa using hg)
      rw [e] at h
      simp only [List.zipIdx_cons, List.filterMap_cons, hun, if_true] at h
      simp only [List.map_cons, lv_args, ec]
      have := ih (k + 1) q h
      simp only [List.mem_cons]
      first | exact Or.inr this | (right; simpa using this)
    have hu1 : isUn v = false := by simpa using hun
    by_cases hg : isLg v = true
    · have e : enL (v :: as) = v :: un :: enL as := by simp [enL, hg]
      have ec : (toV ad v).category = 2 := by
        match v, hg with
        | .inr (.inl x), _ => rfl
      rw [e] at h
      simp only [List.zipIdx_cons, List.filterMap_cons, hu1] at h
      simp only [show isUn un = true from rfl, if_true] at h
      simp only [Bool.false_eq_true, if_false, List.mem_cons] at h
      simp only [List.map_cons, lv_args, ec]
      rcases h with h | h
      · subst h; simp
      · have := ih (k + 1 + 1) q h
        simp only [List.mem_cons]
        first | exact Or.inr this | (right; simpa using this)
    · have e : enL (v :: as) = v :: enL as := by simp [enL, hg]
      have ec : (toV ad v).category = 1 := cat_lg (by simpa using hg)
      rw [e] at h
      simp only [List.zipIdx_cons, List.filterMap_cons, hu1, Bool.false_eq_true, if_false, List.mem_cons] at h
      simp only [List.map_cons, lv_args, ec]
      rcases h with h | h
      · subst h; simp
      · have := ih (k + 1) q h
        simp only [List.mem_cons]
        first | exact Or.inr this | (right; simpa using this)
theorem nar_b : ∀ n : Nat, n < 128 → narrow .byte (.int (Int32.ofInt (n : Int))) = .int (Int32.ofInt (n : Int)) := by decide +kernel
theorem nar_c : ∀ n : Nat, n < 128 → narrow .char (.int (Int32.ofInt (n : Int))) = .int (Int32.ofInt (n : Int)) := by decide +kernel
theorem i2c_n : ∀ n : Nat, n < 128 → ((Int32.ofInt (n : Int)).toUInt32 % 65536).toInt32 = Int32.ofInt (n : Int) := by decide +kernel
theorem Ev.ofU {g d : Nat} {Y : MD} {as L : List AV} {m : Mem} {Q : Int → Mem → Prop} (hp : plainName Y.1.cls = true) (hl : (enL as).length ≤ Y.2.2.1) (hL : L = enL as ++ List.replicate (Y.2.2.1 - (enL as).length) un) (hret : ∀ t, Y.2.2.2 = some t → t = .int ∨ t = .boolean ∨ t = .long ∨ t = .byte ∨ t = .char) (hnar : ∀ t, Y.2.2.2 = some t → (t = .byte ∨ t = .char) → ∀ v m', Q v m' → 0 ≤ v ∧ v < 128) (k : Can m → Go g d Y Q 0 L [] m) : Ev g d Y as m Q := by
  intro l D cA ad sz hfl
  refine Met.ofW (cc := Y.2.1) (maxL := Y.2.2.1) (ret := Y.2.2.2) hp rfl ?_
  intro p e s mth args below meth c s₁ B hml hv
  obtain ⟨rfl, hsz, hP, hK, hD0, hCan, hnw, hStt⟩ := hv
  subst hsz
  have hts0 := atoms_spec (ws := wsY Y) B.pre
  have hts : ∀ w ∈ tblG, w.before (as.map (toV ad)).toArray s = true := fun w h => hts0 w (List.mem_cons_of_mem _ h)
  have hlen : (lg_sl (as.map (toV ad))).length = (enL as).length := by
    unfold lg_sl enL
    rw [List.length_flatMap, List.length_flatMap, List.map_map]
    congr 1
    apply List.map_congr_left
    intro v _
    by_cases h : isLg v = true
    · match v, h with
      | .inr (.inl x), _ => rfl
    · have := cat_lg (ad := ad) (v := v) (by simpa using h)
      simp [this, h]
  have hen := lv_entry (as.map (toV ad)) (n := Y.2.2.1) (by rw [hlen]; exact hl)
  rw [lg_entry_eq]
  generalize (lg_sl (as.map (toV ad)) ++ List.replicate (Y.2.2.1 - (lg_sl (as.map (toV ad))).length) Slot.unset).toArray = ls at hen ⊢
  have hLs : lv_has ls Y.2.2.1 (lvL ad L) := by
    refine ⟨hen.1, hen.2.1, fun q hq => hen.2.2 q (lvL_entryU 0 q ?_)⟩
    unfold lvL at hq
    rw [hL, List.zipIdx_append, List.filterMap_append, List.mem_append] at hq
    rcases hq with hq | hq
    · exact hq
    · exfalso
      obtain ⟨⟨v, j⟩, h1, h2⟩ := List.mem_filterMap.mp hq
      have hv : v = un := by
        have := List.fst_mem_of_mem_zipIdx h1
        exact (List.mem_replicate.mp this).2
      subst hv
      simp [isUn] at h2
  have hA : ∀ q : Nat, s.heap.size ≤ q → va_A (Wd cA ad m) s.heap.size q := fun q h => Or.inr h
  have hD := hD0.self (sz := s.heap.size)
  refine k hCan l D cA ad (va_A (Wd cA ad m) s.heap.size) p e _ s mth _ below meth c _ ⟨B.exec, B.bytes, hml, findClass_of_methodNamed B.named, hts, hnw, hK, hA, hStt, Nat.le_refl _, Nat.le_refl _, hfl⟩ ?_ ls s.heap [] 0 0 ⟨hP, hD, va_S.rf, hCan⟩ hLs (by show 0 + g ≤ g; omega) (by show 0 + 20 * g ≤ 20 * g; omega)
  intro v m' pc' ls' H locs cells slots hQ hok hR hc hs hd
  refine W.widen (k := g) (n := 20 * g) hc hs ?_
  have hB : ∀ t : State, t.heap = H → BY cA D ad (va_A (Wd cA ad m) s.heap.size) m' t := fun t ht => ⟨by rw [ht]; exact hR.1, hR.2.1, hR.2.2.2⟩
  have hr := B.returns
  have hlocks := B.notSynchronized
  have key : ∀ t : FieldType, (t = .int ∨ t = .boolean ∨ t = .byte ∨ t = .char) → Y.2.2.2 = some t → W p l e (headSpec (wsY Y) (rmY g d)).room s mth (as.map (toV ad)).toArray below meth c H locs g (20 * g) (MQ below (QcY Y.2.2.2 Q (BY cA D ad (va_A (Wd cA ad m) s.heap.size)) (va_A (Wd cA ad m) s.heap.size)) (as.map (toV ad)).toArray s g (20 * g) (va_A (Wd cA ad m) s.heap.size)) (F0 mth pc' ls' ((rSt Y.2.2.2 v).map (toV ad))) := by
    intro t ht hrt
    have e1 : QcY (some t) Q (BY cA D ad (va_A (Wd cA ad m) s.heap.size)) (va_A (Wd cA ad m) s.heap.size) = va_Qi (fun r m' => Q r.toInt m' ∧ inTy t r.toInt) (BY cA D ad (va_A (Wd cA ad m) s.heap.size)) (va_A (Wd cA ad m) s.heap.size) := by rcases ht with rfl | rfl | rfl | rfl <;> rfl
    have e2 : rSt (some t) v = [vi v] := by rcases ht with rfl | rfl | rfl | rfl <;> rfl
    have e3 : rIn (some t) = .ireturn := by rcases ht with rfl | rfl | rfl | rfl <;> rfl
    have e4 : InR v ∧ inTy t v ∧ narrow t (.int (Int32.ofInt v)) = .int (Int32.ofInt v) := by
      rw [hrt] at hok
      rcases ht with rfl | rfl | rfl | rfl
      · exact ⟨hok, hok, rfl⟩
      · refine ⟨?_, hok, ?_⟩
        · unfold InR; rcases hok with h | h <;> omega
        · rcases hok with rfl | rfl <;> rfl
      · have h := hnar _ hrt (Or.inl rfl) v m' hQ
        refine ⟨⟨by omega, by omega⟩, hok, ?_⟩
        rw [show v = ((v.toNat : Nat) : Int) by omega]
        exact nar_b v.toNat (by omega)
      · have h := hnar _ hrt (Or.inr rfl) v m' hQ
        refine ⟨⟨by omega, by omega⟩, hok, ?_⟩
        rw [show v = ((v.toNat : Nat) : Int) by omega]
        exact nar_c v.toNat (by omega)
    rw [hrt] at hr hd ⊢
    rw [e1, e2]
    rw [e3] at hd
    refine W.zret B.exec B.bytes hr e4.2.2 (fun t' ht' hW' => ?_) hR.2.2.1.2.2 hd hlocks
    exact ⟨⟨Int32.ofInt v, m', rfl, ⟨by rw [e4.1.i]; exact hQ, by rw [e4.1.i]; exact e4.2.1⟩, hB t' ht'⟩, hR.2.2.1.F ht'⟩
  match hrt : Y.2.2.2 with
  | none =>
    rw [hrt] at hr hd hok
    have hv0 : v = 0 := hok
    subst hv0
    exact W.vret B.exec B.bytes hr (fun t ht _ => ⟨⟨m', rfl, hQ, hB t ht⟩, hR.2.2.1.F ht⟩) hR.2.2.1.2.2 hd hlocks
  | some t =>
    rcases hret t hrt with h | h | h | h | h
    · have := key t (Or.inl h) hrt; rw [hrt] at this; exact this
    · have := key t (Or.inr (Or.inl h)) hrt; rw [hrt] at this; exact this
    · subst h
      rw [hrt] at hr hd hok
      have hv1 : InL v := hok
      exact W.lret B.exec B.bytes hr (fun t ht _ => ⟨⟨Int64.ofInt v, m', rfl, ⟨by rw [hv1.i]; exact hQ, by rw [hv1.i]; exact hv1⟩, hB t ht⟩, hR.2.2.1.F ht⟩) hR.2.2.1.2.2 hd hlocks
    · have := key t (Or.inr (Or.inr (Or.inl h))) hrt; rw [hrt] at this; exact this
    · have := key t (Or.inr (Or.inr (Or.inr h))) hrt; rw [hrt] at this; exact this
theorem go_callVS {g d : Nat} {Y : MD} {Q : Int → Mem → Prop} {pc : Nat} {L S : List AV} {m : Mem} {g' d' idx n i : Nat} {Y' : MD} {as : List AV} {Q' : Int → Mem → Prop} {S0 : List AV} (hE : Ev g' d' Y' (vr (1002 + i) :: as) m Q') (hd : decode Y.2.1 pc = .ok (.invokevirtual idx, 3)) (hcv : CV Y.1.cls idx Y' n) (hn : as.length = n) (hst : S0 = as.reverse ++ vr (1002 + i) :: S) (hi : i < 3) (hci : Y'.1.cls = "java/lang/String") (hdp : d' + 1 ≤ d) (hrm : scat S ≤ 8) (hg : g' ≤ g) (k : ∀ r m', Q' r m' → rOk Y'.2.2.2 r → Go (g - g') d Y Q (pc + 3) L (rSt Y'.2.2.2 r ++ S) m') : Go g d Y Q pc L S0 m := by
  subst hst
  intro l D cA ad A p e R s mth args below meth c Z hC hE0 ls H locs cells slots hR hL hc hs
  obtain ⟨⟨hlk, hini, hcode, hy1, hy2, hpd, hml⟩, hin, hsel⟩ := hcv
  obtain ⟨hx, hb, hmL, hown, hts, hnw, hK, hA, hStt, hfr, hlo, hfl⟩ := id hC
  obtain ⟨hP, hD, hS, hCan⟩ := id hR
  have hrecv : ∃ cell : Cell, H[ad (1002 + i)]? = some cell ∧ cell.vm.isStatics = false ∧ s.vm.findClass Y'.1.cls = some cell.cls := by rw [hci]; exact vk_recv (adK := fun i => ad (1002 + i)) (i := i) hStt.2.2.2.2.1.1 hi hS
  have hF := freeY hD hS hA
  have hpre : PreV s H Y'.1.cls (ad (1002 + i)) (PcY cA D ad H.size (vr (1002 + i) :: as) m) (as.map (toV ad)) := ⟨PcY_blind, hrecv, fun U hU hW => ⟨rfl, by rw [hU], by rw [hU]; exact hP, va_K.moved hW.alike hK, hD.weaken (fun _ _ _ _ => trivial), hCan, nest_warm hW hnw, by rw [hU]; exact hStt.down hW hF (fun q h1 h2 => hS.2.1 q h1 h2)⟩⟩
  have hMet := hE l D cA ad H.size hfl
  have hroom : (rmY g' d').frames + 1 ≤ R.frames ∧ 8 + (Y'.2.2.1 + 11) + (rmY g' d').locals ≤ R.locals := ⟨by show d' + 1 ≤ _; omega, by show _ + 40 * d' ≤ _; omega⟩
  have hstk : (F0 mth pc ls ((as.reverse ++ vr (1002 + i) :: S).map (toV ad))).stack = (as.map (toV ad)).reverse ++ .ref (ad (1002 + i)) :: S.map (toV ad) := by simp [toV]
  have hWst : 2 * (F0 mth pc ls ((as.reverse ++ vr (1002 + i) :: S).map (toV ad))).monitorRoom + ((S.map (toV ad)).map fun v => v.category).sum ≤ 8 := lv_room (by rw [scat_eq]; exact hrm)
  have hrun : va_Run p l e R s mth args below meth c H locs cells slots g' (20 * g') (F0 mth pc ls ((as.reverse ++ vr (1002 + i) :: S).map (toV ad))) (S.map (toV ad)) (QcY Y'.2.2.2 Q' (BY cA D ad (va_A (Wd cA ad m) H.size)) (va_A (Wd cA ad m) H.size) (Value.ref (ad (1002 + i)) :: as.map (toV ad)).toArray) (va_A (Wd cA ad m) H.size) := by
    rcases hlk with hlk | ⟨host, hlk⟩
    · exact va_runV ⟨hx, hb, hmL, hown, hts⟩ hMet ⟨callB_of n hts (wsY_good hcode) rfl rfl rfl (hts _ hini) (hts _ hlk) ⟨hy1, hy2, hpd⟩ hroom, hts _ hin, hts _ hsel⟩ hpre rfl (by simpa using hn) hL.1 hstk hWst hd ⟨by omega, by omega⟩
    · exact va_runVN ⟨hx, hb, hmL, hown, hts⟩ hMet ⟨va_cnB n hts (wsY_good hcode) rfl rfl rfl (hnw _ hlk) (hts _ hini) ⟨hy1, hy2, hpd⟩ hroom, hts _ hin, hts _ hsel⟩ hpre rfl (by simpa using hn) hL.1 hstk hWst hd ⟨by omega, by omega⟩
  refine after_call (ad := ad) hrun hS (fun q _ h => hF q h) hF (fun r u t H1 locs1 h1 h2 h3 h4 h5 h6 h7 h8 => ?_)
  obtain ⟨b1, b2, b3⟩ := h5
  have k := k r u h3 h4 l D cA ad A p e R s mth args below meth c Z hC hE0 ls H1 locs1 (cells + g') (slots + 20 * g') ⟨by rw [← h1]; exact b1, b2.weaken (fun _ q _ h => hF q.1 h), h8, b3⟩ hL (by omega) (by omega)
  rw [List.map_append] at k
  exact k
def lnS (i : Nat) : Nat := [4, 4, 6].getD i 0
def chS (i : Nat) (j : Int) : Int := ((strB.getD i []).getD j.toNat 0).toInt
theorem go_ldcwS {g d : Nat} {Y : MD} {Q : Int → Mem → Prop} {pc : Nat} {L S : List AV} {m : Mem} {idx b : Nat} {tx : String} (hd : decode Y.2.1 pc = .ok (.ldc_w idx, 3)) (hcl : Y.1.cls = "CartTurns") (hz : ∀ (ad : Nat → Nat) (U : State), Srf ad U → vk_R "CartTurns" idx tx (ad b) U) (k : Go g d Y Q (pc + 3) L (vr b :: S) m) : Go g d Y Q pc L S m := by
  intro l D cA ad A p e R s mth args below meth c Z hC hE ls H locs cells slots hR hL hc hs
  have k := k l D cA ad A p e R s mth args below meth c Z hC hE ls H locs cells slots hR hL hc hs
  obtain ⟨hx, hb, hmL, hown, hts, hnw, hK, hA, hStt, hfr, hlo, hfl⟩ := id hC
  have hZ := hz ad s hStt.2.2.2.2.2
  rw [hcl] at hown
  intro T hT X
  obtain ⟨t, a1, b1⟩ := k T hT X
  exact ⟨t, X.ldcStringW hx hown (text := tx) (a := ad b) hZ.1 hZ.2 (g := F0 mth pc ls (S.map (toV ad))) rfl (by rw [hb]; exact hd) t a1, b1⟩
theorem go_getfV {g d : Nat} {Y : MD} {Q : Int → Mem → Prop} {pc : Nat} {L S : List AV} {m : Mem} {idx i : Nat} (hd : decode Y.2.1 pc = .ok (.getfield idx, 3)) (hlk : Cond.fieldLink Y.1.cls idx "java/lang/String" "value" "[B" ∈ tblG) (hi : i < 3) (k : Go g d Y Q (pc + 3) L (vr (1005 + i) :: S) m) : Go g d Y Q pc L (vr (1002 + i) :: S) m := by
  intro l D cA ad A p e R s mth args below meth c Z hC hE ls H locs cells slots hR hL hc hs
  have k := k l D cA ad A p e R s mth args below meth c Z hC hE ls H locs cells slots hR hL hc hs
  obtain ⟨hx, hb, hmL, hown, hts, hnw, hK, hA, hStt, hfr, hlo, hfl⟩ := id hC
  exact vk_getf hx hb (hStt.2.2.2.2.1.1.1 i hi).2.2.1 hR.2.2.1 hown (hts _ hlk) (fun _ h => h) hd k
theorem go_getfC {g d : Nat} {Y : MD} {Q : Int → Mem → Prop} {pc : Nat} {L S : List AV} {m : Mem} {idx i : Nat} (hd : decode Y.2.1 pc = .ok (.getfield idx, 3)) (hlk : Cond.fieldLink Y.1.cls idx "java/lang/String" "coder" "B" ∈ tblG) (hi : i < 3) (k : Go g d Y Q (pc + 3) L (vi 0 :: S) m) : Go g d Y Q pc L (vr (1002 + i) :: S) m := by
  intro l D cA ad A p e R s mth args below meth c Z hC hE ls H locs cells slots hR hL hc hs
  have k := k l D cA ad A p e R s mth args below meth c Z hC hE ls H locs cells slots hR hL hc hs
  obtain ⟨hx, hb, hmL, hown, hts, hnw, hK, hA, hStt, hfr, hlo, hfl⟩ := id hC
  exact vk_getf hx hb (hStt.2.2.2.2.1.1.1 i hi).2.1 hR.2.2.1 hown (hts _ hlk) (fun _ h => h) hd k
theorem go_getsC {g d : Nat} {Y : MD} {Q : Int → Mem → Prop} {pc : Nat} {L S : List AV} {m : Mem} {idx : Nat} (hd : decode Y.2.1 pc = .ok (.getstatic idx, 3)) (hlk : Cond.fieldLink Y.1.cls idx "java/lang/String" "COMPACT_STRINGS" "Z" ∈ tblG) (k : Go g d Y Q (pc + 3) L (vi 1 :: S) m) : Go g d Y Q pc L S m := by
  intro l D cA ad A p e R s mth args below meth c Z hC hE ls H locs cells slots hR hL hc hs
  have k := k l D cA ad A p e R s mth args below meth c Z hC hE ls H locs cells slots hR hL hc hs
  obtain ⟨hx, hb, hmL, hown, hts, hnw, hK, hA, hStt, hfr, hlo, hfl⟩ := id hC
  exact va_gets hx hb hStt.2.2.2.2.1.2.1 hR.2.2.1 hown (hts _ hlk) (fun _ h => h) hd k
theorem go_getsF {g d : Nat} {Y : MD} {Q : Int → Mem → Prop} {pc : Nat} {L S : List AV} {m : Mem} {idx : Nat} (hd : decode Y.2.1 pc = .ok (.getstatic idx, 3)) (hlk : Cond.fieldLink Y.1.cls idx "jdk/internal/util/Preconditions" "SIOOBE_FORMATTER" "Ljava/util/function/BiFunction;" ∈ tblG) (k0 : Go g d Y Q (pc + 3) L (un :: S) m) (k1 : Go g d Y Q (pc + 3) L (vr 1010 :: S) m) : Go g d Y Q pc L S m := by
  intro l D cA ad A p e R s mth args below meth c Z hC hE ls H locs cells slots hR hL hc hs
  have k0 := k0 l D cA ad A p e R s mth args below meth c Z hC hE ls H locs cells slots hR hL hc hs
  have k1 := k1 l D cA ad A p e R s mth args below meth c Z hC hE ls H locs cells slots hR hL hc hs
  obtain ⟨hx, hb, hmL, hown, hts, hnw, hK, hA, hStt, hfr, hlo, hfl⟩ := id hC
  rcases hStt.2.2.2.2.1.2.2.1 with h | h
  · exact va_gets hx hb h hR.2.2.1 hown (hts _ hlk) (fun _ h => h) hd k0
  · exact va_gets hx hb h hR.2.2.1 hown (hts _ hlk) (fun _ h => h) hd k1
theorem go_alenS {g d : Nat} {Y : MD} {Q : Int → Mem → Prop} {pc : Nat} {L S : List AV} {m : Mem} {i : Nat} (hd : decode Y.2.1 pc = .ok (.arraylength, 1)) (hi : i < 3) (k : Go g d Y Q (pc + 1) L (vi (lnS i : Nat) :: S) m) : Go g d Y Q pc L (vr (1005 + i) :: S) m := by
  intro l D cA ad A p e R s mth args below meth c Z hC hE ls H locs cells slots hR hL hc hs
  have k := k l D cA ad A p e R s mth args below meth c Z hC hE ls H locs cells slots hR hL hc hs
  obtain ⟨hx, hb, hmL, hown, hts, hnw, hK, hA, hStt, hfr, hlo, hfl⟩ := id hC
  exact va_tlen hx hb (hStt.2.2.2.2.1.1.1 i hi).2.2.2 hR.2.2.1 rfl hd k
theorem go_baloadS {g d : Nat} {Y : MD} {Q : Int → Mem → Prop} {pc : Nat} {L S : List AV} {m : Mem} {i : Nat} {j : Int} (hd : decode Y.2.1 pc = .ok (.baload, 1)) (hi : i < 3) (h0 : 0 ≤ j) (h1 : j < (lnS i : Nat)) (k : Go g d Y Q (pc + 1) L (vi (chS i j) :: S) m) : Go g d Y Q pc L (vi j :: vr (1005 + i) :: S) m := by
  intro l D cA ad A p e R s mth args below meth c Z hC hE ls H locs cells slots hR hL hc hs
  have k := k l D cA ad A p e R s mth args below meth c Z hC hE ls H locs cells slots hR hL hc hs
  obtain ⟨hx, hb, hmL, hown, hts, hnw, hK, hA, hStt, hfr, hlo, hfl⟩ := id hC
  have hl6 : lnS i ≤ 6 := by
    have : i = 0 ∨ i = 1 ∨ i = 2 := by omega
    rcases this with rfl | rfl | rfl <;> decide
  have hj : InR j := ⟨by omega, by omega⟩
  refine va_tb hx hb (hStt.2.2.2.2.1.1.1 i hi).2.2.2 hR.2.2.1 (hj.inn h0 h1) (v := .int (Int32.ofInt (chS i j))) ?_ hd k
  rw [hj.cl]
  unfold chS
  rw [Int32.ofInt_toInt]
theorem go_i2c {g d : Nat} {Y : MD} {Q : Int → Mem → Prop} {pc : Nat} {L S : List AV} {m : Mem} {x : Int} (hd : decode Y.2.1 pc = .ok (.i2c, 1)) (hx0 : 0 ≤ x ∧ x < 128) (k : Go g d Y Q (pc + 1) L (vi x :: S) m) : Go g d Y Q pc L (vi x :: S) m := by
  intro l D cA ad A p e R s mth args below meth c Z hC hE ls H locs cells slots hR hL hc hs
  refine lv_i2c hC.1 hC.2.1 hd ?_ (k l D cA ad A p e R s mth args below meth c Z hC hE ls H locs cells slots hR hL hc hs)
  have h := i2c_n x.toNat (by omega)
  rw [show ((x.toNat : Nat) : Int) = x by omega] at h
  exact h
def RJ0 : String := "java/lang/String"
set_option maxRecDepth 20000 in
theorem ini_J0 : Cond.initialized RJ0 ∈ tblG := (tblG_in (List.mem_append_right _ (List.mem_append_left _ (List.mem_of_getElem? (l := tables_1_1) (i := 3) rfl))) rfl)
def RJ1 : String := "java/lang/StringLatin1"
set_option maxRecDepth 20000 in
theorem ini_J1 : Cond.initialized RJ1 ∈ tblG := (tblG_in (List.mem_append_right _ (List.mem_append_left _ (List.mem_of_getElem? (l := tables_1_1) (i := 4) rfl))) rfl)
def RJ3 : String := "jdk/internal/util/Preconditions"
set_option maxRecDepth 20000 in
theorem ini_J3 : Cond.initialized RJ3 ∈ tblG := (tblG_in (List.mem_append_right _ (List.mem_append_left _ (List.mem_of_getElem? (l := tables_1_1) (i := 5) rfl))) rfl)
abbrev cJ0_coder_7d493 : ByteArray := prog_21_method_152_code
def yJ0_coder_7d493 : MethodName := ⟨RJ0, "coder", "()B"⟩
def mJ0_coder_7d493 : MD := (yJ0_coder_7d493, cJ0_coder_7d493, 1, (some .byte))
set_option maxRecDepth 20000 in
theorem co_J0_coder_7d493 : Cond.code mJ0_coder_7d493.1 mJ0_coder_7d493.2.1 mJ0_coder_7d493.2.2.1 mJ0_coder_7d493.2.2.2 ∈ tblG := (tblG_in (List.mem_append_right _ (List.mem_append_left _ (List.mem_of_getElem? (l := tables_1_1) (i := 50) rfl))) rfl)
set_option maxRecDepth 20000 in
theorem im_J0_coder_7d493 : Cond.instanceMethod mJ0_coder_7d493.1 ∈ tblG := (tblG_in (List.mem_append_right _ (List.mem_append_left _ (List.mem_of_getElem? (l := tables_1_1) (i := 48) rfl))) rfl)
set_option maxRecDepth 20000 in
theorem se_J0_coder_7d493 : Cond.selects mJ0_coder_7d493.1.cls mJ0_coder_7d493.1 mJ0_coder_7d493.1 ∈ tblG := (tblG_in (List.mem_append_right _ (List.mem_append_left _ (List.mem_of_getElem? (l := tables_1_1) (i := 49) rfl))) rfl)
theorem dJ0_coder_7d493_0 : decode mJ0_coder_7d493.2.1 0 = .ok (.getstatic 38, 3) := by decide +kernel
theorem dJ0_coder_7d493_3 : decode mJ0_coder_7d493.2.1 3 = .ok (.ifCond .eq 10, 3) := by decide +kernel
theorem dJ0_coder_7d493_6 : decode mJ0_coder_7d493.2.1 6 = .ok (.aload_n 0, 1) := by decide +kernel
theorem dJ0_coder_7d493_7 : decode mJ0_coder_7d493.2.1 7 = .ok (.getfield 15, 3) := by decide +kernel
theorem dJ0_coder_7d493_10 : decode mJ0_coder_7d493.2.1 10 = .ok (.goto 4, 3) := by decide +kernel
theorem dJ0_coder_7d493_13 : decode mJ0_coder_7d493.2.1 13 = .ok (.iconst 1, 1) := by decide +kernel
theorem dJ0_coder_7d493_14 : decode mJ0_coder_7d493.2.1 14 = .ok (.ireturn, 1) := by decide +kernel
abbrev cJ0_length_8abf5 : ByteArray := prog_21_method_54_code
def yJ0_length_8abf5 : MethodName := ⟨RJ0, "length", "()I"⟩
def mJ0_length_8abf5 : MD := (yJ0_length_8abf5, cJ0_length_8abf5, 1, (some .int))
set_option maxRecDepth 20000 in
theorem co_J0_length_8abf5 : Cond.code mJ0_length_8abf5.1 mJ0_length_8abf5.2.1 mJ0_length_8abf5.2.2.1 mJ0_length_8abf5.2.2.2 ∈ tblG := (tblG_in (List.mem_append_right _ (List.mem_append_left _ (List.mem_of_getElem? (l := tables_1_1) (i := 46) rfl))) rfl)
set_option maxRecDepth 20000 in
theorem im_J0_length_8abf5 : Cond.instanceMethod mJ0_length_8abf5.1 ∈ tblG := (tblG_in (List.mem_append_right _ (List.mem_append_left _ (List.mem_of_getElem? (l := tables_1_1) (i := 44) rfl))) rfl)
set_option maxRecDepth 20000 in
theorem se_J0_length_8abf5 : Cond.selects mJ0_length_8abf5.1.cls mJ0_length_8abf5.1 mJ0_length_8abf5.1 ∈ tblG := (tblG_in (List.mem_append_right _ (List.mem_append_left _ (List.mem_of_getElem? (l := tables_1_1) (i := 45) rfl))) rfl)
theorem dJ0_length_8abf5_0 : decode mJ0_length_8abf5.2.1 0 = .ok (.aload_n 0, 1) := by decide +kernel
theorem dJ0_length_8abf5_1 : decode mJ0_length_8abf5.2.1 1 = .ok (.getfield 9, 3) := by decide +kernel
theorem dJ0_length_8abf5_4 : decode mJ0_length_8abf5.2.1 4 = .ok (.arraylength, 1) := by decide +kernel
theorem dJ0_length_8abf5_5 : decode mJ0_length_8abf5.2.1 5 = .ok (.aload_n 0, 1) := by decide +kernel
theorem dJ0_length_8abf5_6 : decode mJ0_length_8abf5.2.1 6 = .ok (.invokevirtual 335, 3) := by decide +kernel
theorem dJ0_length_8abf5_9 : decode mJ0_length_8abf5.2.1 9 = .ok (.ishr, 1) := by decide +kernel
theorem dJ0_length_8abf5_10 : decode mJ0_length_8abf5.2.1 10 = .ok (.ireturn, 1) := by decide +kernel
abbrev cJ0_isLatin1_aae02 : ByteArray := prog_21_method_154_code
def yJ0_isLatin1_aae02 : MethodName := ⟨RJ0, "isLatin1", "()Z"⟩
def mJ0_isLatin1_aae02 : MD := (yJ0_isLatin1_aae02, cJ0_isLatin1_aae02, 1, (some .boolean))
set_option maxRecDepth 20000 in
theorem co_J0_isLatin1_aae02 : Cond.code mJ0_isLatin1_aae02.1 mJ0_isLatin1_aae02.2.1 mJ0_isLatin1_aae02.2.2.1 mJ0_isLatin1_aae02.2.2.2 ∈ tblG := (tblG_in (List.mem_append_right _ (List.mem_append_left _ (List.mem_of_getElem? (l := tables_1_1) (i := 60) rfl))) rfl)
set_option maxRecDepth 20000 in
theorem im_J0_isLatin1_aae02 : Cond.instanceMethod mJ0_isLatin1_aae02.1 ∈ tblG := (tblG_in (List.mem_append_right _ (List.mem_append_left _ (List.mem_of_getElem? (l := tables_1_1) (i := 58) rfl))) rfl)
set_option maxRecDepth 20000 in
theorem se_J0_isLatin1_aae02 : Cond.selects mJ0_isLatin1_aae02.1.cls mJ0_isLatin1_aae02.1 mJ0_isLatin1_aae02.1 ∈ tblG := (tblG_in (List.mem_append_right _ (List.mem_append_left _ (List.mem_of_getElem? (l := tables_1_1) (i := 59) rfl))) rfl)
theorem dJ0_isLatin1_aae02_0 : decode mJ0_isLatin1_aae02.2.1 0 = .ok (.getstatic 38, 3) := by decide +kernel
theorem dJ0_isLatin1_aae02_3 : decode mJ0_isLatin1_aae02.2.1 3 = .ok (.ifCond .eq 14, 3) := by decide +kernel
theorem dJ0_isLatin1_aae02_6 : decode mJ0_isLatin1_aae02.2.1 6 = .ok (.aload_n 0, 1) := by decide +kernel
theorem dJ0_isLatin1_aae02_7 : decode mJ0_isLatin1_aae02.2.1 7 = .ok (.getfield 15, 3) := by decide +kernel
theorem dJ0_isLatin1_aae02_10 : decode mJ0_isLatin1_aae02.2.1 10 = .ok (.ifCond .ne 7, 3) := by decide +kernel
theorem dJ0_isLatin1_aae02_13 : decode mJ0_isLatin1_aae02.2.1 13 = .ok (.iconst 1, 1) := by decide +kernel
theorem dJ0_isLatin1_aae02_14 : decode mJ0_isLatin1_aae02.2.1 14 = .ok (.goto 4, 3) := by decide +kernel
theorem dJ0_isLatin1_aae02_17 : decode mJ0_isLatin1_aae02.2.1 17 = .ok (.iconst 0, 1) := by decide +kernel
theorem dJ0_isLatin1_aae02_18 : decode mJ0_isLatin1_aae02.2.1 18 = .ok (.ireturn, 1) := by decide +kernel
abbrev cJ3_checkIndex_8e157 : ByteArray := prog_30_method_11_code
def yJ3_checkIndex_8e157 : MethodName := ⟨RJ3, "checkIndex", "(IILjava/util/function/BiFunction;)I"⟩
def mJ3_checkIndex_8e157 : MD := (yJ3_checkIndex_8e157, cJ3_checkIndex_8e157, 3, (some .int))
set_option maxRecDepth 20000 in
theorem co_J3_checkIndex_8e157 : Cond.code mJ3_checkIndex_8e157.1 mJ3_checkIndex_8e157.2.1 mJ3_checkIndex_8e157.2.2.1 mJ3_checkIndex_8e157.2.2.2 ∈ tblG := (tblG_in (List.mem_append_right _ (List.mem_append_left _ (List.mem_of_getElem? (l := tables_1_1) (i := 71) rfl))) rfl)
set_option maxRecDepth 20000 in
theorem st_J3_checkIndex_8e157 : Cond.static mJ3_checkIndex_8e157.1 ∈ tblG := (tblG_in (List.mem_append_right _ (List.mem_append_left _ (List.mem_of_getElem? (l := tables_1_1) (i := 70) rfl))) rfl)
theorem dJ3_checkIndex_8e157_0 : decode mJ3_checkIndex_8e157.2.1 0 = .ok (.iload_n 0, 1) := by decide +kernel
theorem dJ3_checkIndex_8e157_1 : decode mJ3_checkIndex_8e157.2.1 1 = .ok (.ifCond .lt 8, 3) := by decide +kernel
theorem dJ3_checkIndex_8e157_4 : decode mJ3_checkIndex_8e157.2.1 4 = .ok (.iload_n 0, 1) := by decide +kernel
theorem dJ3_checkIndex_8e157_5 : decode mJ3_checkIndex_8e157.2.1 5 = .ok (.iload_n 1, 1) := by decide +kernel
theorem dJ3_checkIndex_8e157_6 : decode mJ3_checkIndex_8e157.2.1 6 = .ok (.if_icmp .lt 10, 3) := by decide +kernel
theorem dJ3_checkIndex_8e157_9 : decode mJ3_checkIndex_8e157.2.1 9 = .ok (.aload_n 2, 1) := by decide +kernel
theorem dJ3_checkIndex_8e157_10 : decode mJ3_checkIndex_8e157.2.1 10 = .ok (.iload_n 0, 1) := by decide +kernel
theorem dJ3_checkIndex_8e157_11 : decode mJ3_checkIndex_8e157.2.1 11 = .ok (.iload_n 1, 1) := by decide +kernel
theorem dJ3_checkIndex_8e157_12 : decode mJ3_checkIndex_8e157.2.1 12 = .ok (.invokestatic 95, 3) := by decide +kernel
theorem dJ3_checkIndex_8e157_15 : decode mJ3_checkIndex_8e157.2.1 15 = .ok (.athrow, 1) := by decide +kernel
theorem dJ3_checkIndex_8e157_16 : decode mJ3_checkIndex_8e157.2.1 16 = .ok (.iload_n 0, 1) := by decide +kernel
theorem dJ3_checkIndex_8e157_17 : decode mJ3_checkIndex_8e157.2.1 17 = .ok (.ireturn, 1) := by decide +kernel
abbrev cJ0_checkIndex_df160 : ByteArray := prog_21_method_155_code
def yJ0_checkIndex_df160 : MethodName := ⟨RJ0, "checkIndex", "(II)V"⟩
def mJ0_checkIndex_df160 : MD := (yJ0_checkIndex_df160, cJ0_checkIndex_df160, 2, none)
set_option maxRecDepth 20000 in
theorem co_J0_checkIndex_df160 : Cond.code mJ0_checkIndex_df160.1 mJ0_checkIndex_df160.2.1 mJ0_checkIndex_df160.2.2.1 mJ0_checkIndex_df160.2.2.2 ∈ tblG := (tblG_in (List.mem_append_right _ (List.mem_append_left _ (List.mem_of_getElem? (l := tables_1_1) (i := 66) rfl))) rfl)
set_option maxRecDepth 20000 in
theorem st_J0_checkIndex_df160 : Cond.static mJ0_checkIndex_df160.1 ∈ tblG := (tblG_in (List.mem_append_right _ (List.mem_append_left _ (List.mem_of_getElem? (l := tables_1_1) (i := 65) rfl))) rfl)
theorem dJ0_checkIndex_df160_0 : decode mJ0_checkIndex_df160.2.1 0 = .ok (.iload_n 0, 1) := by decide +kernel
theorem dJ0_checkIndex_df160_1 : decode mJ0_checkIndex_df160.2.1 1 = .ok (.iload_n 1, 1) := by decide +kernel
theorem dJ0_checkIndex_df160_2 : decode mJ0_checkIndex_df160.2.1 2 = .ok (.getstatic 1053, 3) := by decide +kernel
theorem dJ0_checkIndex_df160_5 : decode mJ0_checkIndex_df160.2.1 5 = .ok (.invokestatic 1059, 3) := by decide +kernel
theorem dJ0_checkIndex_df160_8 : decode mJ0_checkIndex_df160.2.1 8 = .ok (.pop, 1) := by decide +kernel
theorem dJ0_checkIndex_df160_9 : decode mJ0_checkIndex_df160.2.1 9 = .ok (.return_, 1) := by decide +kernel
abbrev cJ1_charAt_3b067 : ByteArray := prog_22_method_2_code
def yJ1_charAt_3b067 : MethodName := ⟨RJ1, "charAt", "([BI)C"⟩
def mJ1_charAt_3b067 : MD := (yJ1_charAt_3b067, cJ1_charAt_3b067, 2, (some .char))
set_option maxRecDepth 20000 in
theorem co_J1_charAt_3b067 : Cond.code mJ1_charAt_3b067.1 mJ1_charAt_3b067.2.1 mJ1_charAt_3b067.2.2.1 mJ1_charAt_3b067.2.2.2 ∈ tblG := (tblG_in (List.mem_append_right _ (List.mem_append_left _ (List.mem_of_getElem? (l := tables_1_1) (i := 63) rfl))) rfl)
set_option maxRecDepth 20000 in
theorem st_J1_charAt_3b067 : Cond.static mJ1_charAt_3b067.1 ∈ tblG := (tblG_in (List.mem_append_right _ (List.mem_append_left _ (List.mem_of_getElem? (l := tables_1_1) (i := 62) rfl))) rfl)
theorem dJ1_charAt_3b067_0 : decode mJ1_charAt_3b067.2.1 0 = .ok (.iload_n 1, 1) := by decide +kernel
theorem dJ1_charAt_3b067_1 : decode mJ1_charAt_3b067.2.1 1 = .ok (.aload_n 0, 1) := by decide +kernel
theorem dJ1_charAt_3b067_2 : decode mJ1_charAt_3b067.2.1 2 = .ok (.arraylength, 1) := by decide +kernel
theorem dJ1_charAt_3b067_3 : decode mJ1_charAt_3b067.2.1 3 = .ok (.invokestatic 9, 3) := by decide +kernel
theorem dJ1_charAt_3b067_6 : decode mJ1_charAt_3b067.2.1 6 = .ok (.aload_n 0, 1) := by decide +kernel
theorem dJ1_charAt_3b067_7 : decode mJ1_charAt_3b067.2.1 7 = .ok (.iload_n 1, 1) := by decide +kernel
theorem dJ1_charAt_3b067_8 : decode mJ1_charAt_3b067.2.1 8 = .ok (.baload, 1) := by decide +kernel
theorem dJ1_charAt_3b067_9 : decode mJ1_charAt_3b067.2.1 9 = .ok (.sipush 255, 3) := by decide +kernel
theorem dJ1_charAt_3b067_12 : decode mJ1_charAt_3b067.2.1 12 = .ok (.iand, 1) := by decide +kernel
theorem dJ1_charAt_3b067_13 : decode mJ1_charAt_3b067.2.1 13 = .ok (.i2c, 1) := by decide +kernel
theorem dJ1_charAt_3b067_14 : decode mJ1_charAt_3b067.2.1 14 = .ok (.ireturn, 1) := by decide +kernel
abbrev cJ0_charAt_5068e : ByteArray := prog_21_method_56_code
def yJ0_charAt_5068e : MethodName := ⟨RJ0, "charAt", "(I)C"⟩
def mJ0_charAt_5068e : MD := (yJ0_charAt_5068e, cJ0_charAt_5068e, 2, (some .char))
set_option maxRecDepth 20000 in
theorem co_J0_charAt_5068e : Cond.code mJ0_charAt_5068e.1 mJ0_charAt_5068e.2.1 mJ0_charAt_5068e.2.2.1 mJ0_charAt_5068e.2.2.2 ∈ tblG := (tblG_in (List.mem_append_right _ (List.mem_append_left _ (List.mem_of_getElem? (l := tables_1_1) (i := 56) rfl))) rfl)
set_option maxRecDepth 20000 in
theorem im_J0_charAt_5068e : Cond.instanceMethod mJ0_charAt_5068e.1 ∈ tblG := (tblG_in (List.mem_append_right _ (List.mem_append_left _ (List.mem_of_getElem? (l := tables_1_1) (i := 54) rfl))) rfl)
set_option maxRecDepth 20000 in
theorem se_J0_charAt_5068e : Cond.selects mJ0_charAt_5068e.1.cls mJ0_charAt_5068e.1 mJ0_charAt_5068e.1 ∈ tblG := (tblG_in (List.mem_append_right _ (List.mem_append_left _ (List.mem_of_getElem? (l := tables_1_1) (i := 55) rfl))) rfl)
theorem dJ0_charAt_5068e_0 : decode mJ0_charAt_5068e.2.1 0 = .ok (.aload_n 0, 1) := by decide +kernel
theorem dJ0_charAt_5068e_1 : decode mJ0_charAt_5068e.2.1 1 = .ok (.invokevirtual 492, 3) := by decide +kernel
theorem dJ0_charAt_5068e_4 : decode mJ0_charAt_5068e.2.1 4 = .ok (.ifCond .eq 12, 3) := by decide +kernel
theorem dJ0_charAt_5068e_7 : decode mJ0_charAt_5068e.2.1 7 = .ok (.aload_n 0, 1) := by decide +kernel
theorem dJ0_charAt_5068e_8 : decode mJ0_charAt_5068e.2.1 8 = .ok (.getfield 9, 3) := by decide +kernel
theorem dJ0_charAt_5068e_11 : decode mJ0_charAt_5068e.2.1 11 = .ok (.iload_n 1, 1) := by decide +kernel
theorem dJ0_charAt_5068e_12 : decode mJ0_charAt_5068e.2.1 12 = .ok (.invokestatic 495, 3) := by decide +kernel
theorem dJ0_charAt_5068e_15 : decode mJ0_charAt_5068e.2.1 15 = .ok (.ireturn, 1) := by decide +kernel
theorem dJ0_charAt_5068e_16 : decode mJ0_charAt_5068e.2.1 16 = .ok (.aload_n 0, 1) := by decide +kernel
theorem dJ0_charAt_5068e_17 : decode mJ0_charAt_5068e.2.1 17 = .ok (.getfield 9, 3) := by decide +kernel
theorem dJ0_charAt_5068e_20 : decode mJ0_charAt_5068e.2.1 20 = .ok (.iload_n 1, 1) := by decide +kernel
theorem dJ0_charAt_5068e_21 : decode mJ0_charAt_5068e.2.1 21 = .ok (.invokestatic 498, 3) := by decide +kernel
theorem dJ0_charAt_5068e_24 : decode mJ0_charAt_5068e.2.1 24 = .ok (.ireturn, 1) := by decide +kernel
set_option maxRecDepth 20000 in
theorem cj_335 : CV RJ0 335 mJ0_coder_7d493 0 := ⟨⟨Or.inl (tblG_in (List.mem_append_right _ (List.mem_append_left _ (List.mem_of_getElem? (l := tables_1_1) (i := 47) rfl))) rfl), ini_J0, co_J0_coder_7d493, by decide +kernel, by decide +kernel, by decide +kernel, by decide⟩, im_J0_coder_7d493, se_J0_coder_7d493⟩
set_option maxRecDepth 20000 in
theorem cj_492 : CV RJ0 492 mJ0_isLatin1_aae02 0 := ⟨⟨Or.inl (tblG_in (List.mem_append_right _ (List.mem_append_left _ (List.mem_of_getElem? (l := tables_1_1) (i := 57) rfl))) rfl), ini_J0, co_J0_isLatin1_aae02, by decide +kernel, by decide +kernel, by decide +kernel, by decide⟩, im_J0_isLatin1_aae02, se_J0_isLatin1_aae02⟩
set_option maxRecDepth 20000 in
theorem cj_495 : CS RJ0 495 mJ1_charAt_3b067 2 := ⟨⟨Or.inl (tblG_in (List.mem_append_right _ (List.mem_append_left _ (List.mem_of_getElem? (l := tables_1_1) (i := 61) rfl))) rfl), ini_J1, co_J1_charAt_3b067, by decide +kernel, by decide +kernel, by decide +kernel, by decide⟩, st_J1_charAt_3b067⟩
set_option maxRecDepth 20000 in
theorem cj_1059 : CS RJ0 1059 mJ3_checkIndex_8e157 3 := ⟨⟨Or.inl (tblG_in (List.mem_append_right _ (List.mem_append_left _ (List.mem_of_getElem? (l := tables_1_1) (i := 69) rfl))) rfl), ini_J3, co_J3_checkIndex_8e157, by decide +kernel, by decide +kernel, by decide +kernel, by decide⟩, st_J3_checkIndex_8e157⟩
set_option maxRecDepth 20000 in
theorem cj1_9 : CS RJ1 9 mJ0_checkIndex_df160 2 := ⟨⟨Or.inl (tblG_in (List.mem_append_right _ (List.mem_append_left _ (List.mem_of_getElem? (l := tables_1_1) (i := 64) rfl))) rfl), ini_J0, co_J0_checkIndex_df160, by decide +kernel, by decide +kernel, by decide +kernel, by decide⟩, st_J0_checkIndex_df160⟩
set_option maxRecDepth 20000 in
theorem fj_9 : Cond.fieldLink RJ0 9 "java/lang/String" "value" "[B" ∈ tblG := (tblG_in (List.mem_append_right _ (List.mem_append_right _ (List.mem_append_right _ (List.mem_append_right _ (List.mem_append_right _ (List.mem_append_right _ (List.mem_append_right _ (List.mem_append_right _ (List.mem_append_right _ (List.mem_of_getElem? (l := tables_1_9) (i := 131) rfl)))))))))) rfl)
set_option maxRecDepth 20000 in
theorem fj_15 : Cond.fieldLink RJ0 15 "java/lang/String" "coder" "B" ∈ tblG := (tblG_in (List.mem_append_right _ (List.mem_append_right _ (List.mem_append_right _ (List.mem_append_right _ (List.mem_append_right _ (List.mem_append_right _ (List.mem_append_right _ (List.mem_append_right _ (List.mem_append_right _ (List.mem_of_getElem? (l := tables_1_9) (i := 132) rfl)))))))))) rfl)
set_option maxRecDepth 20000 in
theorem fj_38 : Cond.fieldLink RJ0 38 "java/lang/String" "COMPACT_STRINGS" "Z" ∈ tblG := (tblG_in (List.mem_append_right _ (List.mem_append_left _ (List.mem_of_getElem? (l := tables_1_1) (i := 51) rfl))) rfl)
set_option maxRecDepth 20000 in
theorem fj_1053 : Cond.fieldLink RJ0 1053 "jdk/internal/util/Preconditions" "SIOOBE_FORMATTER" "Ljava/util/function/BiFunction;" ∈ tblG := (tblG_in (List.mem_append_right _ (List.mem_append_left _ (List.mem_of_getElem? (l := tables_1_1) (i := 67) rfl))) rfl)
theorem ev_J0_coder_7d493 {m : Mem} {i : Nat} (hi : i < 3) : Ev 0 1 mJ0_coder_7d493 [vr (1002 + i)] m (fun r m' => m' = m ∧ r = 0) := by
  refine Ev.ofU (L := [vr (1002 + i)]) (by decide +kernel) (Nat.le_of_ble_eq_true rfl) rfl (fun t ht => by cases ht; first | exact Or.inl rfl | exact Or.inr (Or.inl rfl) | exact Or.inr (Or.inr (Or.inr (Or.inl rfl))) | exact Or.inr (Or.inr (Or.inr (Or.inr rfl)))) (fun t ht z v m' hq => by obtain ⟨_, h⟩ := hq; subst h; exact ⟨by decide, by decide⟩) (fun hcan => ?_)
  refine go_getsC dJ0_coder_7d493_0 fj_38 ?_
  refine go_if_eq (tgt := 13) dJ0_coder_7d493_3 (by decide) ⟨by omega, by omega⟩ (fun h => absurd h (by decide)) (fun _ => ?_)
  refine go_aload_n dJ0_coder_7d493_6 rfl ?_
  refine go_getfC dJ0_coder_7d493_7 fj_15 hi ?_
  refine go_goto (tgt := 14) dJ0_coder_7d493_10 (by decide) ?_
  exact go_ret (v := 0) rfl dJ0_coder_7d493_14 ⟨by decide, by decide⟩ ⟨rfl, rfl⟩
theorem ev_J0_isLatin1_aae02 {m : Mem} {i : Nat} (hi : i < 3) : Ev 0 1 mJ0_isLatin1_aae02 [vr (1002 + i)] m (fun r m' => m' = m ∧ r = 1) := by
  refine Ev.ofU (L := [vr (1002 + i)]) (by decide +kernel) (Nat.le_of_ble_eq_true rfl) rfl (fun t ht => by cases ht; first | exact Or.inl rfl | exact Or.inr (Or.inl rfl) | exact Or.inr (Or.inr (Or.inr (Or.inl rfl))) | exact Or.inr (Or.inr (Or.inr (Or.inr rfl)))) (fun t ht z => by cases ht; rcases z with z | z <;> cases z) (fun hcan => ?_)
  refine go_getsC dJ0_isLatin1_aae02_0 fj_38 ?_
  refine go_if_eq (tgt := 17) dJ0_isLatin1_aae02_3 (by decide) ⟨by omega, by omega⟩ (fun h => absurd h (by decide)) (fun _ => ?_)
  refine go_aload_n dJ0_isLatin1_aae02_6 rfl ?_
  refine go_getfC dJ0_isLatin1_aae02_7 fj_15 hi ?_
  refine go_if_ne (tgt := 17) dJ0_isLatin1_aae02_10 (by decide) ⟨by omega, by omega⟩ (fun h => absurd rfl h) (fun _ => ?_)
  refine go_iconst dJ0_isLatin1_aae02_13 ?_
  refine go_goto (tgt := 18) dJ0_isLatin1_aae02_14 (by decide) ?_
  exact go_ret (v := 1) rfl dJ0_isLatin1_aae02_18 (okZ (Or.inr rfl)) ⟨rfl, rfl⟩
theorem ishr_l : ∀ n : Nat, n < 3 → ishr (lnS n : Nat) 0 = (lnS n : Nat) := by decide +kernel
theorem lnS_b : ∀ n : Nat, n < 3 → lnS n ≤ 6 := by decide
theorem ev_J0_length_8abf5 {m : Mem} {i : Nat} (hi : i < 3) : Ev 0 2 mJ0_length_8abf5 [vr (1002 + i)] m (fun r m' => m' = m ∧ r = (lnS i : Nat)) := by
  refine Ev.ofU (L := [vr (1002 + i)]) (by decide +kernel) (Nat.le_of_ble_eq_true rfl) rfl (fun t ht => by cases ht; first | exact Or.inl rfl | exact Or.inr (Or.inl rfl) | exact Or.inr (Or.inr (Or.inr (Or.inl rfl))) | exact Or.inr (Or.inr (Or.inr (Or.inr rfl)))) (fun t ht z => by cases ht; rcases z with z | z <;> cases z) (fun hcan => ?_)
  have hl6 := lnS_b i hi
  refine go_aload_n dJ0_length_8abf5_0 rfl ?_
  refine go_getfV dJ0_length_8abf5_1 fj_9 hi ?_
  refine go_alenS dJ0_length_8abf5_4 hi ?_
  refine go_aload_n dJ0_length_8abf5_5 rfl ?_
  refine go_callVS (as := []) (S := [vi (lnS i : Nat)]) (i := i) (ev_J0_coder_7d493 hi) dJ0_length_8abf5_6 cj_335 rfl rfl hi rfl (by decide) (Nat.le_of_ble_eq_true rfl) (Nat.zero_le _) (fun r m' h1 h2 => ?_)
  obtain ⟨rfl, rfl⟩ := h1
  refine go_ishr dJ0_length_8abf5_9 ?_
  rw [ishr_l i hi]
  exact go_ret (v := (lnS i : Nat)) rfl dJ0_length_8abf5_10 (okI ⟨by omega, by omega⟩) ⟨rfl, rfl⟩
theorem ev_J3_checkIndex_8e157n {m : Mem} {x n : Int} (h : 0 ≤ x ∧ x < n) (hn : n ≤ 1000) : Ev 0 1 mJ3_checkIndex_8e157 [vi x, vi n, un] m (fun r m' => m' = m ∧ r = x) := by
  refine Ev.ofU (L := [vi x, vi n, un]) (by decide +kernel) (Nat.le_of_ble_eq_true rfl) rfl (fun t ht => by cases ht; first | exact Or.inl rfl | exact Or.inr (Or.inl rfl) | exact Or.inr (Or.inr (Or.inr (Or.inl rfl))) | exact Or.inr (Or.inr (Or.inr (Or.inr rfl)))) (fun t ht z => by cases ht; rcases z with z | z <;> cases z) (fun hcan => ?_)
  refine go_iload_n dJ3_checkIndex_8e157_0 rfl ?_
  refine go_if_lt (tgt := 9) dJ3_checkIndex_8e157_1 (by decide) ⟨by omega, by omega⟩ (fun h => by omega) (fun _ => ?_)
  refine go_iload_n dJ3_checkIndex_8e157_4 rfl ?_
  refine go_iload_n dJ3_checkIndex_8e157_5 rfl ?_
  refine go_icmp_lt (tgt := 16) dJ3_checkIndex_8e157_6 (by decide) ⟨by omega, by omega⟩ ⟨by omega, by omega⟩ (fun _ => ?_) (fun h => by omega)
  refine go_iload_n dJ3_checkIndex_8e157_16 rfl ?_
  exact go_ret (v := x) rfl dJ3_checkIndex_8e157_17 (okI ⟨by omega, by omega⟩) ⟨rfl, rfl⟩
theorem ev_J3_checkIndex_8e157r {m : Mem} {x n : Int} (h : 0 ≤ x ∧ x < n) (hn : n ≤ 1000) : Ev 0 1 mJ3_checkIndex_8e157 [vi x, vi n, vr 1010] m (fun r m' => m' = m ∧ r = x) := by
  refine Ev.ofU (L := [vi x, vi n, vr 1010]) (by decide +kernel) (Nat.le_of_ble_eq_true rfl) rfl (fun t ht => by cases ht; first | exact Or.inl rfl | exact Or.inr (Or.inl rfl) | exact Or.inr (Or.inr (Or.inr (Or.inl rfl))) | exact Or.inr (Or.inr (Or.inr (Or.inr rfl)))) (fun t ht z => by cases ht; rcases z with z | z <;> cases z) (fun hcan => ?_)
  refine go_iload_n dJ3_checkIndex_8e157_0 rfl ?_
  refine go_if_lt (tgt := 9) dJ3_checkIndex_8e157_1 (by decide) ⟨by omega, by omega⟩ (fun h => by omega) (fun _ => ?_)
  refine go_iload_n dJ3_checkIndex_8e157_4 rfl ?_
  refine go_iload_n dJ3_checkIndex_8e157_5 rfl ?_
  refine go_icmp_lt (tgt := 16) dJ3_checkIndex_8e157_6 (by decide) ⟨by omega, by omega⟩ ⟨by omega, by omega⟩ (fun _ => ?_) (fun h => by omega)
  refine go_iload_n dJ3_checkIndex_8e157_16 rfl ?_
  exact go_ret (v := x) rfl dJ3_checkIndex_8e157_17 (okI ⟨by omega, by omega⟩) ⟨rfl, rfl⟩
theorem ev_J0_checkIndex_df160 {m : Mem} {x n : Int} (h : 0 ≤ x ∧ x < n) (hn : n ≤ 1000) : Ev 0 2 mJ0_checkIndex_df160 [vi x, vi n] m (fun r m' => m' = m ∧ True) := by
  refine Ev.ofU (L := [vi x, vi n]) (by decide +kernel) (Nat.le_of_ble_eq_true rfl) rfl (fun t ht => by cases ht) (fun t ht => by cases ht) (fun hcan => ?_)
  refine go_iload_n dJ0_checkIndex_df160_0 rfl ?_
  refine go_iload_n dJ0_checkIndex_df160_1 rfl ?_
  refine go_getsF dJ0_checkIndex_df160_2 fj_1053 ?_ ?_
  · refine go_callSp_i (as := [vi x, vi n, un]) (S := []) (ev_J3_checkIndex_8e157n h hn) rfl dJ0_checkIndex_df160_5 cj_1059 rfl rfl (by decide) (Nat.le_of_ble_eq_true rfl) (fun r _ _ => ?_)
    refine go_pop_i dJ0_checkIndex_df160_8 ?_
    exact go_ret (v := 0) rfl dJ0_checkIndex_df160_9 rfl ⟨rfl, trivial⟩
  · refine go_callSp_i (as := [vi x, vi n, vr 1010]) (S := []) (ev_J3_checkIndex_8e157r h hn) rfl dJ0_checkIndex_df160_5 cj_1059 rfl rfl (by decide) (Nat.le_of_ble_eq_true rfl) (fun r _ _ => ?_)
    refine go_pop_i dJ0_checkIndex_df160_8 ?_
    exact go_ret (v := 0) rfl dJ0_checkIndex_df160_9 rfl ⟨rfl, trivial⟩
theorem chS_k : ∀ i : Nat, i < 3 → ∀ j : Nat, j < 6 → (0 ≤ chS i j ∧ chS i j < 128) ∧ iand (chS i j) 255 = chS i j := by decide +kernel
theorem chS_b {i : Nat} {j : Int} (hi : i < 3) (h : 0 ≤ j ∧ j < (lnS i : Nat)) : (0 ≤ chS i j ∧ chS i j < 128) ∧ iand (chS i j) 255 = chS i j := by
  have hl6 := lnS_b i hi
  have := chS_k i hi j.toNat (by omega)
  rw [show ((j.toNat : Nat) : Int) = j by omega] at this
  exact this
theorem ev_J1_charAt_3b067 {m : Mem} {i : Nat} {j : Int} (hi : i < 3) (h0 : 0 ≤ j ∧ j < (lnS i : Nat)) : Ev 0 3 mJ1_charAt_3b067 [vr (1005 + i), vi j] m (fun r m' => m' = m ∧ r = chS i j) := by
  refine Ev.ofU (L := [vr (1005 + i), vi j]) (by decide +kernel) (Nat.le_of_ble_eq_true rfl) rfl (fun t ht => by cases ht; first | exact Or.inl rfl | exact Or.inr (Or.inl rfl) | exact Or.inr (Or.inr (Or.inr (Or.inl rfl))) | exact Or.inr (Or.inr (Or.inr (Or.inr rfl)))) (fun t ht z v m' hq => by obtain ⟨_, h⟩ := hq; rw [h]; exact (chS_b hi h0).1) (fun hcan => ?_)
  have hl6 := lnS_b i hi
  have hcb := chS_b hi h0
  refine go_iload_n dJ1_charAt_3b067_0 rfl ?_
  refine go_aload_n dJ1_charAt_3b067_1 rfl ?_
  refine go_alenS dJ1_charAt_3b067_2 hi ?_
  refine go_callS_v (as := [vi j, vi (lnS i : Nat)]) (S := []) (ev_J0_checkIndex_df160 h0 (by omega)) rfl dJ1_charAt_3b067_3 cj1_9 rfl rfl (by decide) (Nat.le_of_ble_eq_true rfl) (fun m' h1 => ?_)
  obtain ⟨rfl, -⟩ := h1
  refine go_aload_n dJ1_charAt_3b067_6 rfl ?_
  refine go_iload_n dJ1_charAt_3b067_7 rfl ?_
  refine go_baloadS dJ1_charAt_3b067_8 hi h0.1 h0.2 ?_
  refine go_sipush dJ1_charAt_3b067_9 (by decide) ?_
  refine go_iand dJ1_charAt_3b067_12 ?_
  rw [hcb.2]
  refine go_i2c dJ1_charAt_3b067_13 hcb.1 ?_
  exact go_ret (v := chS i j) rfl dJ1_charAt_3b067_14 ⟨by omega, by omega⟩ ⟨rfl, rfl⟩
theorem ev_J0_charAt_5068e {m : Mem} {i : Nat} {j : Int} (hi : i < 3) (h0 : 0 ≤ j ∧ j < (lnS i : Nat)) : Ev 0 4 mJ0_charAt_5068e [vr (1002 + i), vi j] m (fun r m' => m' = m ∧ r = chS i j) := by
  refine Ev.ofU (L := [vr (1002 + i), vi j]) (by decide +kernel) (Nat.le_of_ble_eq_true rfl) rfl (fun t ht => by cases ht; first | exact Or.inl rfl | exact Or.inr (Or.inl rfl) | exact Or.inr (Or.inr (Or.inr (Or.inl rfl))) | exact Or.inr (Or.inr (Or.inr (Or.inr rfl)))) (fun t ht z v m' hq => by obtain ⟨_, h⟩ := hq; rw [h]; exact (chS_b hi h0).1) (fun hcan => ?_)
  have hcb := chS_b hi h0
  refine go_aload_n dJ0_charAt_5068e_0 rfl ?_
  refine go_callVS (as := []) (S := []) (i := i) (ev_J0_isLatin1_aae02 hi) dJ0_charAt_5068e_1 cj_492 rfl rfl hi rfl (by decide) (Nat.le_of_ble_eq_true rfl) (Nat.zero_le _) (fun r m' h1 h2 => ?_)
  obtain ⟨rfl, rfl⟩ := h1
  refine go_if_eq (tgt := 16) dJ0_charAt_5068e_4 (by decide) ⟨by omega, by omega⟩ (fun h => absurd h (by decide)) (fun _ => ?_)
  refine go_aload_n dJ0_charAt_5068e_7 rfl ?_
  refine go_getfV dJ0_charAt_5068e_8 fj_9 hi ?_
  refine go_iload_n dJ0_charAt_5068e_11 rfl ?_
  refine go_callS (as := [vr (1005 + i), vi j]) (S := []) (ev_J1_charAt_3b067 hi h0) dJ0_charAt_5068e_12 cj_495 rfl rfl (by decide) (Nat.le_of_ble_eq_true rfl) (Nat.zero_le _) (fun r m' h1 h2 => ?_)
  obtain ⟨rfl, rfl⟩ := h1
  exact go_ret (v := chS i j) rfl dJ0_charAt_5068e_15 ⟨by omega, by omega⟩ ⟨rfl, rfl⟩
set_option maxRecDepth 20000 in
theorem cs_len : CV RX11 407 mJ0_length_8abf5 0 := ⟨⟨Or.inl (tblG_in (List.mem_append_right _ (List.mem_append_right _ (List.mem_append_right _ (List.mem_append_right _ (List.mem_append_right _ (List.mem_append_left _ (List.mem_of_getElem? (l := tables_1_5) (i := 123) rfl))))))) rfl), ini_J0, co_J0_length_8abf5, by decide +kernel, by decide +kernel, by decide +kernel, by decide⟩, im_J0_length_8abf5, se_J0_length_8abf5⟩
set_option maxRecDepth 20000 in
theorem cs_chr : CV RX11 411 mJ0_charAt_5068e 1 := ⟨⟨Or.inl (tblG_in (List.mem_append_right _ (List.mem_append_right _ (List.mem_append_right _ (List.mem_append_right _ (List.mem_append_right _ (List.mem_append_left _ (List.mem_of_getElem? (l := tables_1_5) (i := 124) rfl))))))) rfl), ini_J0, co_J0_charAt_5068e, by decide +kernel, by decide +kernel, by decide +kernel, by decide⟩, im_J0_charAt_5068e, se_J0_charAt_5068e⟩
