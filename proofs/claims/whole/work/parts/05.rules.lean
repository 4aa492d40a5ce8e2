/-! ===== the rules of Go ===== -/
theorem InR.r (x : Int32) : InR x.toInt := ⟨by have := x.le_toInt; simpa using this, by have := x.toInt_lt; simpa using this⟩
theorem InL.r (x : Int64) : InL x.toInt := ⟨by have := x.le_toInt; simpa using this, by have := x.toInt_lt; simpa using this⟩
theorem InR.i {x : Int} (h : InR x) : (Int32.ofInt x).toInt = x := Int32.toInt_ofInt_of_le (by simpa using h.1) (by simpa using h.2)
theorem InL.i {x : Int} (h : InL x) : (Int64.ofInt x).toInt = x := Int64.toInt_ofInt_of_le (by simpa using h.1) (by simpa using h.2)
theorem InR.eq {x y : Int} (hx : InR x) (hy : InR y) : Int32.ofInt x = Int32.ofInt y ↔ x = y := by
  rw [← Int32.toInt_inj, hx.i, hy.i]
theorem InR.lt {x y : Int} (hx : InR x) (hy : InR y) : Int32.ofInt x < Int32.ofInt y ↔ x < y := by
  rw [Int32.lt_iff_toInt_lt, hx.i, hy.i]
theorem InR.le {x y : Int} (hx : InR x) (hy : InR y) : Int32.ofInt x ≤ Int32.ofInt y ↔ x ≤ y := by
  rw [Int32.le_iff_toInt_le, hx.i, hy.i]
theorem InR.zero : InR 0 := by unfold InR; omega
theorem i32_0 : Int32.ofInt 0 = 0 := rfl
theorem InR.cl {x : Int} (h : InR x) : (Int32.ofInt x).toNatClampNeg = x.toNat := Int32.toNatClampNeg_ofInt_of_le (by simpa using h.1) (by simpa using h.2)
theorem InR.inn {x : Int} {n : Nat} (h : InR x) (h0 : 0 ≤ x) (h1 : x < n) : vp_in (Int32.ofInt x) n := by
  rw [vp_in_iff, h.i]; exact ⟨h0, h1⟩
theorem InR.of {x : Int} (h0 : 0 ≤ x) (h1 : x < 2147483648) : InR x := ⟨by omega, h1⟩
def iand (x y : Int) : Int := (Int32.ofInt x &&& Int32.ofInt y).toInt
def ior (x y : Int) : Int := (Int32.ofInt x ||| Int32.ofInt y).toInt
def ishl (x y : Int) : Int := (Int32.ofInt x <<< (Int32.ofInt y &&& 31)).toInt
def ishr (x y : Int) : Int := (Int32.ofInt x >>> (Int32.ofInt y &&& 31)).toInt
def iushr (x y : Int) : Int := (((Int32.ofInt x).toUInt32 >>> ((Int32.ofInt y).toUInt32 &&& Int32.toUInt32 31)).toInt32).toInt
def lushr (x y : Int) : Int := (((Int64.ofInt x).toUInt64 >>> ((Int32.ofInt y).toInt64.toUInt64 &&& Int64.toUInt64 63)).toInt64).toInt
def lcmpI (x y : Int) : Int := if x < y then -1 else if x = y then 0 else 1
def wr (m : Mem) (a : Nat) (i x : Int) : Mem := fun b j => if b = a ∧ j = i then x else m b j
theorem wr_self (m : Mem) (a : Nat) (i x : Int) : wr m a i x a i = x := by simp [wr]
theorem wr_na {m : Mem} {a b : Nat} {i j x : Int} (h : b ≠ a) : wr m a i x b j = m b j := by simp [wr, h]
theorem wr_ni {m : Mem} {a b : Nat} {i j x : Int} (h : j ≠ i) : wr m a i x b j = m b j := by simp [wr, h]
theorem wr_row {m : Mem} {a b : Nat} {i x : Int} (h : b ≠ a) : wr m a i x b = m b := by funext j; exact wr_na h
theorem Wd_at {cA : Nat → ClassId} {ad : Nat → Nat} {m : Mem} {a : Nat} (h : a < NC) : (Wd cA ad m)[a]? = some (ad a, cellE cA ad m a) := by
  simp [Wd, h]
theorem cellE_ne {cA : Nat → ClassId} {ad : Nat → Nat} {m m' : Mem} {b : Nat} (h : m' b = m b) : cellE cA ad m' b = cellE cA ad m b := by
  simp only [cellE, objFs, h]
theorem Wd_set {cA : Nat → ClassId} {ad : Nat → Nat} {m m' : Mem} {a : Nat} (h : ∀ b, b ≠ a → m' b = m b) : (Wd cA ad m).set a (ad a, cellE cA ad m' a) = Wd cA ad m' := by
  apply List.ext_getElem?
  intro k
  rw [List.getElem?_set]
  by_cases hk : a = k
  · subst hk
    by_cases hl : a < NC
    · simp [Wd, hl]
    · simp [Wd, hl]
  · rw [if_neg hk]
    by_cases hl : k < NC
    · rw [Wd_at hl, Wd_at hl, cellE_ne (h k (fun e => hk e.symm))]
    · simp [Wd, hl]
theorem can_wr {m : Mem} (hm : Can m) {a : Nat} {i x : Int} (ha : a < NC) (h0 : 0 ≤ i) (h1 : i < sn a) (hx : inTy (tyOf a i) x) : Can (wr m a i x) := by
  intro b j
  by_cases h : b = a ∧ j = i
  · obtain ⟨rfl, rfl⟩ := h
    rw [wr_self]
    exact ⟨hx, fun q => by omega⟩
  · have e : wr m a i x b j = m b j := by simp [wr, h]
    rw [e]
    exact hm b j
theorem lvL_at {ad : Nat → Nat} {L : List AV} {ls : Array Slot} {n k : Nat} {v : AV} (h : lv_has ls n (lvL ad L)) (hk : L[k]? = some v) (hu : isUn v = false) : ls[k]? = some (.val (toV ad v)) := by
  refine h.2.2 (k, toV ad v) ?_
  refine List.mem_filterMap.mpr ⟨(v, k), ?_, by simp [hu]⟩
  rw [List.mem_zipIdx_iff_getElem?]
  exact hk
theorem lvL_mem {ad : Nat → Nat} {L : List AV} {q : Nat × Value} (h : q ∈ lvL ad L) : ∃ v, L[q.1]? = some v ∧ isUn v = false ∧ q.2 = toV ad v := by
  obtain ⟨⟨v, k⟩, h1, h2⟩ := List.mem_filterMap.mp h
  rw [List.mem_zipIdx_iff_getElem?] at h1
  dsimp only at h1 h2
  by_cases hu : isUn v = true
  · rw [if_pos hu] at h2; cases h2
  · rw [if_neg hu] at h2
    cases h2
    exact ⟨v, h1, by simpa using hu, rfl⟩
theorem lvL_mk {ad : Nat → Nat} {L : List AV} {k : Nat} {v : AV} (hk : L[k]? = some v) (hu : isUn v = false) : (k, toV ad v) ∈ lvL ad L := by
  refine List.mem_filterMap.mpr ⟨(v, k), ?_, by simp [hu]⟩
  rw [List.mem_zipIdx_iff_getElem?]
  exact hk
theorem cat_lg {ad : Nat → Nat} {v : AV} (h : isLg v = false) : (toV ad v).category = 1 := by
  match v, h with
  | .inl x, _ => rfl
  | .inr (.inr (.inl a)), _ => rfl
  | .inr (.inr (.inr _)), _ => rfl
def lgAt (L : List AV) (i : Nat) : Bool := match i with
  | 0 => false
  | k + 1 => ((L[k]?).map isLg).getD false
theorem lvL_st1 {ad : Nat → Nat} {L : List AV} {ls : Array Slot} {n i : Nat} {v : AV} (h : lv_has ls n ((i, toV ad v) :: (lvL ad L).filter (fun q => !(q.1 == i) && !(q.1 + 1 == i && q.2.category == 2)))) (hg : lgAt L i = false) : lv_has ls n (lvL ad (L.set i v)) := by
  refine ⟨h.1, h.2.1, fun q hq => ?_⟩
  obtain ⟨w, h1, h2, h3⟩ := lvL_mem hq
  rw [List.getElem?_set] at h1
  by_cases hi : i = q.1
  · rw [if_pos hi] at h1
    by_cases hl : i < L.length
    · rw [if_pos hl] at h1
      cases h1
      have := h.2.2 (i, toV ad v) List.mem_cons_self
      rw [hi] at this
      rw [h3]; exact this
    · rw [if_neg hl] at h1; cases h1
  · rw [if_neg hi] at h1
    refine h.2.2 q (List.mem_cons_of_mem _ (List.mem_filter.mpr ⟨?_, ?_⟩))
    · have := lvL_mk (ad := ad) h1 h2
      rw [← h3] at this
      exact this
    · have e1 : (q.1 == i) = false := by simp; exact fun e => hi e.symm
      by_cases e2 : q.1 + 1 = i
      · subst e2
        have e3 : isLg w = false := by simpa [lgAt, h1] using hg
        have e4 : q.2.category = 1 := by rw [h3]; exact cat_lg e3
        simp [e1, e4]
      · simp [e1, e2]
theorem lvL_st2 {ad : Nat → Nat} {L : List AV} {ls : Array Slot} {n i : Nat} {v : AV} (h : lv_has ls n ((i, toV ad v) :: (lvL ad L).filter (fun q => !(q.1 == i) && (!(q.1 == i + 1) && !(q.1 + 1 == i && q.2.category == 2))))) (hg : lgAt L i = false) : lv_has ls n (lvL ad ((L.set i v).set (i + 1) un)) := by
  refine ⟨h.1, h.2.1, fun q hq => ?_⟩
  obtain ⟨w, h1, h2, h3⟩ := lvL_mem hq
  rw [List.getElem?_set] at h1
  by_cases hj : i + 1 = q.1
  · rw [if_pos hj] at h1
    split at h1
    · cases h1; cases h2
    · cases h1
  · rw [if_neg hj, List.getElem?_set] at h1
    by_cases hi : i = q.1
    · rw [if_pos hi] at h1
      by_cases hl : i < L.length
      · rw [if_pos hl] at h1
        cases h1
        have := h.2.2 (i, toV ad v) List.mem_cons_self
        rw [hi] at this
        rw [h3]; exact this
      · rw [if_neg hl] at h1; cases h1
    · rw [if_neg hi] at h1
      refine h.2.2 q (List.mem_cons_of_mem _ (List.mem_filter.mpr ⟨?_, ?_⟩))
      · have := lvL_mk (ad := ad) h1 h2
        rw [← h3] at this
        exact this
      · have e1 : (q.1 == i) = false := by simp; exact fun e => hi e.symm
        have e0 : (q.1 == i + 1) = false := by simp; exact fun e => hj e.symm
        by_cases e2 : q.1 + 1 = i
        · subst e2
          have e3 : isLg w = false := by simpa [lgAt, h1] using hg
          have e4 : q.2.category = 1 := by rw [h3]; exact cat_lg e3
          simp [e1, e0, e4]
        · simp [e1, e0, e2]

theorem go_iconst {g d : Nat} {Y : MD} {Q : Int → Mem → Prop} {pc : Nat} {L S : List AV} {m : Mem} {n : Int} (hd : decode Y.2.1 pc = .ok (.iconst n, 1))  (k : Go g d Y Q (pc + 1) L (vi n :: S) m) : Go g d Y Q pc L S m := by
  intro l D cA ad A p e R s mth args below meth c Z hC hE ls H locs cells slots hR hL hc hs
  have k := (k l D cA ad A p e R s mth args below meth c Z hC hE ls H locs cells slots hR hL hc hs)
  exact lv_iconst hC.1 hC.2.1 hd rfl k

theorem go_bipush {g d : Nat} {Y : MD} {Q : Int → Mem → Prop} {pc : Nat} {L S : List AV} {m : Mem} {n : Int} (hd : decode Y.2.1 pc = .ok (.bipush n, 2)) (hv : (Int8.ofInt n).toInt32 = Int32.ofInt n) (k : Go g d Y Q (pc + 2) L (vi n :: S) m) : Go g d Y Q pc L S m := by
  intro l D cA ad A p e R s mth args below meth c Z hC hE ls H locs cells slots hR hL hc hs
  have k := (k l D cA ad A p e R s mth args below meth c Z hC hE ls H locs cells slots hR hL hc hs)
  exact lv_bipush hC.1 hC.2.1 hd hv k

theorem go_sipush {g d : Nat} {Y : MD} {Q : Int → Mem → Prop} {pc : Nat} {L S : List AV} {m : Mem} {n : Int} (hd : decode Y.2.1 pc = .ok (.sipush n, 3)) (hv : (Int16.ofInt n).toInt32 = Int32.ofInt n) (k : Go g d Y Q (pc + 3) L (vi n :: S) m) : Go g d Y Q pc L S m := by
  intro l D cA ad A p e R s mth args below meth c Z hC hE ls H locs cells slots hR hL hc hs
  have k := (k l D cA ad A p e R s mth args below meth c Z hC hE ls H locs cells slots hR hL hc hs)
  exact lv_sipush hC.1 hC.2.1 hd hv k

theorem go_lconst {g d : Nat} {Y : MD} {Q : Int → Mem → Prop} {pc : Nat} {L S : List AV} {m : Mem} {n : Fin 2} {z : Int} (hd : decode Y.2.1 pc = .ok (.lconst n, 1)) (hz : Int64.ofNat (n : Nat) = Int64.ofInt z) (k : Go g d Y Q (pc + 1) L (vl z :: S) m) : Go g d Y Q pc L S m := by
  intro l D cA ad A p e R s mth args below meth c Z hC hE ls H locs cells slots hR hL hc hs
  have k := (k l D cA ad A p e R s mth args below meth c Z hC hE ls H locs cells slots hR hL hc hs)
  exact lv_lconst hC.1 hC.2.1 hd hz k

theorem go_iload_n {g d : Nat} {Y : MD} {Q : Int → Mem → Prop} {pc : Nat} {L S : List AV} {m : Mem} {j : Fin 4} {x : Int} (hd : decode Y.2.1 pc = .ok (.iload_n j, 1)) (hl : L[(j : Nat)]? = some (vi x)) (k : Go g d Y Q (pc + 1) L (vi x :: S) m) : Go g d Y Q pc L S m := by
  intro l D cA ad A p e R s mth args below meth c Z hC hE ls H locs cells slots hR hL hc hs
  have k := (k l D cA ad A p e R s mth args below meth c Z hC hE ls H locs cells slots hR hL hc hs)
  exact lv_iload_n hC.1 hC.2.1 hd rfl (lvL_at hL hl rfl) k

theorem go_iload {g d : Nat} {Y : MD} {Q : Int → Mem → Prop} {pc : Nat} {L S : List AV} {m : Mem} {j : Nat} {x : Int} (hd : decode Y.2.1 pc = .ok (.iload j, 2)) (hl : L[j]? = some (vi x)) (k : Go g d Y Q (pc + 2) L (vi x :: S) m) : Go g d Y Q pc L S m := by
  intro l D cA ad A p e R s mth args below meth c Z hC hE ls H locs cells slots hR hL hc hs
  have k := (k l D cA ad A p e R s mth args below meth c Z hC hE ls H locs cells slots hR hL hc hs)
  exact lv_iload hC.1 hC.2.1 hd (lvL_at hL hl rfl) k

theorem go_lload_n {g d : Nat} {Y : MD} {Q : Int → Mem → Prop} {pc : Nat} {L S : List AV} {m : Mem} {j : Fin 4} {x : Int} (hd : decode Y.2.1 pc = .ok (.lload_n j, 1)) (hl : L[(j : Nat)]? = some (vl x)) (k : Go g d Y Q (pc + 1) L (vl x :: S) m) : Go g d Y Q pc L S m := by
  intro l D cA ad A p e R s mth args below meth c Z hC hE ls H locs cells slots hR hL hc hs
  have k := (k l D cA ad A p e R s mth args below meth c Z hC hE ls H locs cells slots hR hL hc hs)
  exact lv_lload_n hC.1 hC.2.1 hd rfl (lvL_at hL hl rfl) k

theorem go_lload {g d : Nat} {Y : MD} {Q : Int → Mem → Prop} {pc : Nat} {L S : List AV} {m : Mem} {j : Nat} {x : Int} (hd : decode Y.2.1 pc = .ok (.lload j, 2)) (hl : L[j]? = some (vl x)) (k : Go g d Y Q (pc + 2) L (vl x :: S) m) : Go g d Y Q pc L S m := by
  intro l D cA ad A p e R s mth args below meth c Z hC hE ls H locs cells slots hR hL hc hs
  have k := (k l D cA ad A p e R s mth args below meth c Z hC hE ls H locs cells slots hR hL hc hs)
  exact lv_lload hC.1 hC.2.1 hd (lvL_at hL hl rfl) k

theorem go_aload_n {g d : Nat} {Y : MD} {Q : Int → Mem → Prop} {pc : Nat} {L S : List AV} {m : Mem} {j : Fin 4} {a : Nat} (hd : decode Y.2.1 pc = .ok (.aload_n j, 1)) (hl : L[(j : Nat)]? = some (vr a)) (k : Go g d Y Q (pc + 1) L (vr a :: S) m) : Go g d Y Q pc L S m := by
  intro l D cA ad A p e R s mth args below meth c Z hC hE ls H locs cells slots hR hL hc hs
  have k := (k l D cA ad A p e R s mth args below meth c Z hC hE ls H locs cells slots hR hL hc hs)
  exact lv_aload_n hC.1 hC.2.1 hd rfl (lvL_at hL hl rfl) k

theorem go_aload {g d : Nat} {Y : MD} {Q : Int → Mem → Prop} {pc : Nat} {L S : List AV} {m : Mem} {j : Nat} {a : Nat} (hd : decode Y.2.1 pc = .ok (.aload j, 2)) (hl : L[j]? = some (vr a)) (k : Go g d Y Q (pc + 2) L (vr a :: S) m) : Go g d Y Q pc L S m := by
  intro l D cA ad A p e R s mth args below meth c Z hC hE ls H locs cells slots hR hL hc hs
  have k := (k l D cA ad A p e R s mth args below meth c Z hC hE ls H locs cells slots hR hL hc hs)
  exact lv_aload hC.1 hC.2.1 hd (lvL_at hL hl rfl) k

theorem go_istore_n {g d : Nat} {Y : MD} {Q : Int → Mem → Prop} {pc : Nat} {L S : List AV} {m : Mem} {j : Fin 4} {x : Int} {L' : List AV} (hd : decode Y.2.1 pc = .ok (.istore_n j, 1)) (hn : (j : Nat) < Y.2.2.1) (hg : lgAt L (j : Nat) = false) (hl : L.set (j : Nat) (vi x) = L') (k : Go g d Y Q (pc + 1) L' S m) : Go g d Y Q pc L (vi x :: S) m := by
  intro l D cA ad A p e R s mth args below meth c Z hC hE ls H locs cells slots hR hL hc hs
  subst hl
  exact lv_istore_n hC.1 hC.2.1 hd rfl hL hn rfl (fun ls' hl' => k l D cA ad A p e R s mth args below meth c Z hC hE ls' H locs cells slots hR (lvL_st1 hl' hg) hc hs)

theorem go_istore {g d : Nat} {Y : MD} {Q : Int → Mem → Prop} {pc : Nat} {L S : List AV} {m : Mem} {j : Nat} {x : Int} {L' : List AV} (hd : decode Y.2.1 pc = .ok (.istore j, 2)) (hn : j < Y.2.2.1) (hg : lgAt L j = false) (hl : L.set j (vi x) = L') (k : Go g d Y Q (pc + 2) L' S m) : Go g d Y Q pc L (vi x :: S) m := by
  intro l D cA ad A p e R s mth args below meth c Z hC hE ls H locs cells slots hR hL hc hs
  subst hl
  exact lv_istore hC.1 hC.2.1 hd hL hn rfl (fun ls' hl' => k l D cA ad A p e R s mth args below meth c Z hC hE ls' H locs cells slots hR (lvL_st1 hl' hg) hc hs)

theorem go_astore_n {g d : Nat} {Y : MD} {Q : Int → Mem → Prop} {pc : Nat} {L S : List AV} {m : Mem} {j : Fin 4} {a : Nat} {L' : List AV} (hd : decode Y.2.1 pc = .ok (.astore_n j, 1)) (hn : (j : Nat) < Y.2.2.1) (hg : lgAt L (j : Nat) = false) (hl : L.set (j : Nat) (vr a) = L') (k : Go g d Y Q (pc + 1) L' S m) : Go g d Y Q pc L (vr a :: S) m := by
  intro l D cA ad A p e R s mth args below meth c Z hC hE ls H locs cells slots hR hL hc hs
  subst hl
  exact lv_astore_n hC.1 hC.2.1 hd rfl hL hn rfl (fun ls' hl' => k l D cA ad A p e R s mth args below meth c Z hC hE ls' H locs cells slots hR (lvL_st1 hl' hg) hc hs)

theorem go_astore {g d : Nat} {Y : MD} {Q : Int → Mem → Prop} {pc : Nat} {L S : List AV} {m : Mem} {j : Nat} {a : Nat} {L' : List AV} (hd : decode Y.2.1 pc = .ok (.astore j, 2)) (hn : j < Y.2.2.1) (hg : lgAt L j = false) (hl : L.set j (vr a) = L') (k : Go g d Y Q (pc + 2) L' S m) : Go g d Y Q pc L (vr a :: S) m := by
  intro l D cA ad A p e R s mth args below meth c Z hC hE ls H locs cells slots hR hL hc hs
  subst hl
  exact lv_astore hC.1 hC.2.1 hd hL hn rfl (fun ls' hl' => k l D cA ad A p e R s mth args below meth c Z hC hE ls' H locs cells slots hR (lvL_st1 hl' hg) hc hs)

theorem go_lstore_n {g d : Nat} {Y : MD} {Q : Int → Mem → Prop} {pc : Nat} {L S : List AV} {m : Mem} {j : Fin 4} {x : Int} {L' : List AV} (hd : decode Y.2.1 pc = .ok (.lstore_n j, 1)) (hn : (j : Nat) + 1 < Y.2.2.1) (hg : lgAt L (j : Nat) = false) (hl : (L.set (j : Nat) (vl x)).set ((j : Nat) + 1) un = L') (k : Go g d Y Q (pc + 1) L' S m) : Go g d Y Q pc L (vl x :: S) m := by
  intro l D cA ad A p e R s mth args below meth c Z hC hE ls H locs cells slots hR hL hc hs
  subst hl
  exact lv_lstore_n hC.1 hC.2.1 hd rfl hL hn rfl (fun ls' hl' => k l D cA ad A p e R s mth args below meth c Z hC hE ls' H locs cells slots hR (lvL_st2 hl' hg) hc hs)

theorem go_lstore {g d : Nat} {Y : MD} {Q : Int → Mem → Prop} {pc : Nat} {L S : List AV} {m : Mem} {j : Nat} {x : Int} {L' : List AV} (hd : decode Y.2.1 pc = .ok (.lstore j, 2)) (hn : j + 1 < Y.2.2.1) (hg : lgAt L j = false) (hl : (L.set j (vl x)).set (j + 1) un = L') (k : Go g d Y Q (pc + 2) L' S m) : Go g d Y Q pc L (vl x :: S) m := by
  intro l D cA ad A p e R s mth args below meth c Z hC hE ls H locs cells slots hR hL hc hs
  subst hl
  exact lv_lstore hC.1 hC.2.1 hd hL hn rfl (fun ls' hl' => k l D cA ad A p e R s mth args below meth c Z hC hE ls' H locs cells slots hR (lvL_st2 hl' hg) hc hs)

theorem go_iinc {g d : Nat} {Y : MD} {Q : Int → Mem → Prop} {pc : Nat} {L S : List AV} {m : Mem} {j : Nat} {n x : Int} {L' : List AV} (hd : decode Y.2.1 pc = .ok (.iinc j n, 3)) (hx : L[j]? = some (vi x)) (hn : j < Y.2.2.1) (hg : lgAt L j = false) (hl : L.set j (vi (x + n)) = L') (k : Go g d Y Q (pc + 3) L' S m) : Go g d Y Q pc L S m := by
  intro l D cA ad A p e R s mth args below meth c Z hC hE ls H locs cells slots hR hL hc hs
  subst hl
  obtain ⟨i0, hi0⟩ := List.getElem?_of_mem (lvL_mk (ad := ad) hx rfl)
  exact lv_iinc hC.1 hC.2.1 hd hL hi0 (Int32.ofInt_add x n).symm hn rfl (fun ls' hl' => k l D cA ad A p e R s mth args below meth c Z hC hE ls' H locs cells slots hR (lvL_st1 hl' hg) hc hs)

theorem go_iadd {g d : Nat} {Y : MD} {Q : Int → Mem → Prop} {pc : Nat} {L S : List AV} {m : Mem} {x y : Int} (hd : decode Y.2.1 pc = .ok (.iadd, 1))  (k : Go g d Y Q (pc + 1) L (vi (x + y) :: S) m) : Go g d Y Q pc L (vi y :: vi x :: S) m := by
  intro l D cA ad A p e R s mth args below meth c Z hC hE ls H locs cells slots hR hL hc hs
  have k := (k l D cA ad A p e R s mth args below meth c Z hC hE ls H locs cells slots hR hL hc hs)
  refine lv_iadd hC.1 hC.2.1 hd ?_
  rw [← Int32.ofInt_add]
  exact k

theorem go_isub {g d : Nat} {Y : MD} {Q : Int → Mem → Prop} {pc : Nat} {L S : List AV} {m : Mem} {x y : Int} (hd : decode Y.2.1 pc = .ok (.isub, 1))  (k : Go g d Y Q (pc + 1) L (vi (x - y) :: S) m) : Go g d Y Q pc L (vi y :: vi x :: S) m := by
  intro l D cA ad A p e R s mth args below meth c Z hC hE ls H locs cells slots hR hL hc hs
  have k := (k l D cA ad A p e R s mth args below meth c Z hC hE ls H locs cells slots hR hL hc hs)
  refine lv_isub hC.1 hC.2.1 hd ?_
  rw [← Int32.ofInt_sub]
  exact k

theorem go_imul {g d : Nat} {Y : MD} {Q : Int → Mem → Prop} {pc : Nat} {L S : List AV} {m : Mem} {x y : Int} (hd : decode Y.2.1 pc = .ok (.imul, 1))  (k : Go g d Y Q (pc + 1) L (vi (x * y) :: S) m) : Go g d Y Q pc L (vi y :: vi x :: S) m := by
  intro l D cA ad A p e R s mth args below meth c Z hC hE ls H locs cells slots hR hL hc hs
  have k := (k l D cA ad A p e R s mth args below meth c Z hC hE ls H locs cells slots hR hL hc hs)
  refine lv_imul hC.1 hC.2.1 hd ?_
  rw [← Int32.ofInt_mul]
  exact k

theorem go_ineg {g d : Nat} {Y : MD} {Q : Int → Mem → Prop} {pc : Nat} {L S : List AV} {m : Mem} {x : Int} (hd : decode Y.2.1 pc = .ok (.ineg, 1))  (k : Go g d Y Q (pc + 1) L (vi (-x) :: S) m) : Go g d Y Q pc L (vi x :: S) m := by
  intro l D cA ad A p e R s mth args below meth c Z hC hE ls H locs cells slots hR hL hc hs
  have k := (k l D cA ad A p e R s mth args below meth c Z hC hE ls H locs cells slots hR hL hc hs)
  refine lv_ineg hC.1 hC.2.1 hd ?_
  rw [← Int32.ofInt_neg]
  exact k

theorem go_iand {g d : Nat} {Y : MD} {Q : Int → Mem → Prop} {pc : Nat} {L S : List AV} {m : Mem} {x y : Int} (hd : decode Y.2.1 pc = .ok (.iand, 1))  (k : Go g d Y Q (pc + 1) L (vi (iand x y) :: S) m) : Go g d Y Q pc L (vi y :: vi x :: S) m := by
  intro l D cA ad A p e R s mth args below meth c Z hC hE ls H locs cells slots hR hL hc hs
  have k := (k l D cA ad A p e R s mth args below meth c Z hC hE ls H locs cells slots hR hL hc hs)
  refine lv_iand hC.1 hC.2.1 hd ?_
  rw [show _ = Int32.ofInt (iand x y) from (Int32.ofInt_toInt _).symm]
  exact k

theorem go_ior {g d : Nat} {Y : MD} {Q : Int → Mem → Prop} {pc : Nat} {L S : List AV} {m : Mem} {x y : Int} (hd : decode Y.2.1 pc = .ok (.ior, 1))  (k : Go g d Y Q (pc + 1) L (vi (ior x y) :: S) m) : Go g d Y Q pc L (vi y :: vi x :: S) m := by
  intro l D cA ad A p e R s mth args below meth c Z hC hE ls H locs cells slots hR hL hc hs
  have k := (k l D cA ad A p e R s mth args below meth c Z hC hE ls H locs cells slots hR hL hc hs)
  refine lv_ior hC.1 hC.2.1 hd ?_
  rw [show _ = Int32.ofInt (ior x y) from (Int32.ofInt_toInt _).symm]
  exact k

theorem go_ishl {g d : Nat} {Y : MD} {Q : Int → Mem → Prop} {pc : Nat} {L S : List AV} {m : Mem} {x y : Int} (hd : decode Y.2.1 pc = .ok (.ishl, 1))  (k : Go g d Y Q (pc + 1) L (vi (ishl x y) :: S) m) : Go g d Y Q pc L (vi y :: vi x :: S) m := by
  intro l D cA ad A p e R s mth args below meth c Z hC hE ls H locs cells slots hR hL hc hs
  have k := (k l D cA ad A p e R s mth args below meth c Z hC hE ls H locs cells slots hR hL hc hs)
  refine lv_ishl hC.1 hC.2.1 hd ?_
  rw [show _ = Int32.ofInt (ishl x y) from (Int32.ofInt_toInt _).symm]
  exact k

theorem go_ishr {g d : Nat} {Y : MD} {Q : Int → Mem → Prop} {pc : Nat} {L S : List AV} {m : Mem} {x y : Int} (hd : decode Y.2.1 pc = .ok (.ishr, 1))  (k : Go g d Y Q (pc + 1) L (vi (ishr x y) :: S) m) : Go g d Y Q pc L (vi y :: vi x :: S) m := by
  intro l D cA ad A p e R s mth args below meth c Z hC hE ls H locs cells slots hR hL hc hs
  have k := (k l D cA ad A p e R s mth args below meth c Z hC hE ls H locs cells slots hR hL hc hs)
  refine lv_ishr hC.1 hC.2.1 hd ?_
  rw [show _ = Int32.ofInt (ishr x y) from (Int32.ofInt_toInt _).symm]
  exact k

theorem go_iushr {g d : Nat} {Y : MD} {Q : Int → Mem → Prop} {pc : Nat} {L S : List AV} {m : Mem} {x y : Int} (hd : decode Y.2.1 pc = .ok (.iushr, 1)) (k : Go g d Y Q (pc + 1) L (vi (iushr x y) :: S) m) : Go g d Y Q pc L (vi y :: vi x :: S) m := by
  intro l D cA ad A p e R s mth args below meth c Z hC hE ls H locs cells slots hR hL hc hs
  exact lv_iushr hC.1 hC.2.1 hd (Int32.ofInt_toInt _).symm (k l D cA ad A p e R s mth args below meth c Z hC hE ls H locs cells slots hR hL hc hs)
theorem go_lushr {g d : Nat} {Y : MD} {Q : Int → Mem → Prop} {pc : Nat} {L S : List AV} {m : Mem} {x y : Int} (hd : decode Y.2.1 pc = .ok (.lushr, 1)) (k : Go g d Y Q (pc + 1) L (vl (lushr x y) :: S) m) : Go g d Y Q pc L (vi y :: vl x :: S) m := by
  intro l D cA ad A p e R s mth args below meth c Z hC hE ls H locs cells slots hR hL hc hs
  exact lv_lushr hC.1 hC.2.1 hd (Int64.ofInt_toInt _).symm (k l D cA ad A p e R s mth args below meth c Z hC hE ls H locs cells slots hR hL hc hs)
theorem i32_div {x y : Int} (hx : InR x) (hy : InR y) (h0 : 0 ≤ x) (h1 : 0 < y) : Int32.ofInt x / Int32.ofInt y = Int32.ofInt (x / y) := by
  rw [← Int32.toInt_inj, Int32.toInt_div, hx.i, hy.i, Int32.toInt_ofInt, Int.tdiv_eq_ediv_of_nonneg h0]
theorem i32_rem {x y : Int} (hx : InR x) (hy : InR y) (h0 : 0 ≤ x) (h1 : 0 < y) : Int32.ofInt x % Int32.ofInt y = Int32.ofInt (x % y) := by
  have hb : 0 ≤ x % y ∧ x % y < y := ⟨Int.emod_nonneg _ (by omega), Int.emod_lt_of_pos _ h1⟩
  have hz : InR (x % y) := ⟨by unfold InR at hy; omega, by unfold InR at hy; omega⟩
  rw [← Int32.toInt_inj, Int32.toInt_mod, hx.i, hy.i, hz.i, Int.tmod_eq_emod_of_nonneg h0]
theorem go_idiv {g d : Nat} {Y : MD} {Q : Int → Mem → Prop} {pc : Nat} {L S : List AV} {m : Mem} {x y : Int} (hd : decode Y.2.1 pc = .ok (.idiv, 1)) (hx : InR x) (hy : InR y) (h0 : 0 ≤ x) (h1 : 0 < y) (k : Go g d Y Q (pc + 1) L (vi (x / y) :: S) m) : Go g d Y Q pc L (vi y :: vi x :: S) m := by
  intro l D cA ad A p e R s mth args below meth c Z hC hE ls H locs cells slots hR hL hc hs
  have k := (k l D cA ad A p e R s mth args below meth c Z hC hE ls H locs cells slots hR hL hc hs)
  refine lv_idiv hC.1 hC.2.1 hd (fun e => ?_) ?_
  · rw [← i32_0, hy.eq InR.zero] at e; omega
  · rw [i32_div hx hy h0 h1]; exact k
theorem go_irem {g d : Nat} {Y : MD} {Q : Int → Mem → Prop} {pc : Nat} {L S : List AV} {m : Mem} {x y : Int} (hd : decode Y.2.1 pc = .ok (.irem, 1)) (hx : InR x) (hy : InR y) (h0 : 0 ≤ x) (h1 : 0 < y) (k : Go g d Y Q (pc + 1) L (vi (x % y) :: S) m) : Go g d Y Q pc L (vi y :: vi x :: S) m := by
  intro l D cA ad A p e R s mth args below meth c Z hC hE ls H locs cells slots hR hL hc hs
  have k := (k l D cA ad A p e R s mth args below meth c Z hC hE ls H locs cells slots hR hL hc hs)
  refine lv_irem hC.1 hC.2.1 hd (fun e => ?_) ?_
  · rw [← i32_0, hy.eq InR.zero] at e; omega
  · rw [i32_div hx hy h0 h1, ← Int32.ofInt_mul, ← Int32.ofInt_sub, show x - x / y * y = x % y from by rw [Int.emod_def, Int.mul_comm]]; exact k

theorem go_ladd {g d : Nat} {Y : MD} {Q : Int → Mem → Prop} {pc : Nat} {L S : List AV} {m : Mem} {x y : Int} (hd : decode Y.2.1 pc = .ok (.ladd, 1))  (k : Go g d Y Q (pc + 1) L (vl (x + y) :: S) m) : Go g d Y Q pc L (vl y :: vl x :: S) m := by
  intro l D cA ad A p e R s mth args below meth c Z hC hE ls H locs cells slots hR hL hc hs
  have k := (k l D cA ad A p e R s mth args below meth c Z hC hE ls H locs cells slots hR hL hc hs)
  refine lv_ladd hC.1 hC.2.1 hd ?_
  rw [← Int64.ofInt_add]
  exact k

theorem go_lsub {g d : Nat} {Y : MD} {Q : Int → Mem → Prop} {pc : Nat} {L S : List AV} {m : Mem} {x y : Int} (hd : decode Y.2.1 pc = .ok (.lsub, 1))  (k : Go g d Y Q (pc + 1) L (vl (x - y) :: S) m) : Go g d Y Q pc L (vl y :: vl x :: S) m := by
  intro l D cA ad A p e R s mth args below meth c Z hC hE ls H locs cells slots hR hL hc hs
  have k := (k l D cA ad A p e R s mth args below meth c Z hC hE ls H locs cells slots hR hL hc hs)
  refine lv_lsub hC.1 hC.2.1 hd ?_
  rw [← Int64.ofInt_sub]
  exact k

theorem go_lmul {g d : Nat} {Y : MD} {Q : Int → Mem → Prop} {pc : Nat} {L S : List AV} {m : Mem} {x y : Int} (hd : decode Y.2.1 pc = .ok (.lmul, 1))  (k : Go g d Y Q (pc + 1) L (vl (x * y) :: S) m) : Go g d Y Q pc L (vl y :: vl x :: S) m := by
  intro l D cA ad A p e R s mth args below meth c Z hC hE ls H locs cells slots hR hL hc hs
  have k := (k l D cA ad A p e R s mth args below meth c Z hC hE ls H locs cells slots hR hL hc hs)
  refine lv_lmul hC.1 hC.2.1 hd ?_
  rw [← Int64.ofInt_mul]
  exact k

theorem i64_div {x y : Int} (hx : InL x) (hy : InL y) (h0 : 0 ≤ x) (h1 : 0 < y) : Int64.ofInt x / Int64.ofInt y = Int64.ofInt (x / y) := by
  rw [← Int64.toInt_inj, Int64.toInt_div, hx.i, hy.i, Int64.toInt_ofInt, Int.tdiv_eq_ediv_of_nonneg h0]
theorem i64_rem {x y : Int} (hx : InL x) (hy : InL y) (h0 : 0 ≤ x) (h1 : 0 < y) : Int64.ofInt x % Int64.ofInt y = Int64.ofInt (x % y) := by
  have hb : 0 ≤ x % y ∧ x % y < y := ⟨Int.emod_nonneg _ (by omega), Int.emod_lt_of_pos _ h1⟩
  have hz : InL (x % y) := ⟨by unfold InL at hy; omega, by unfold InL at hy; omega⟩
  rw [← Int64.toInt_inj, Int64.toInt_mod, hx.i, hy.i, hz.i, Int.tmod_eq_emod_of_nonneg h0]
theorem go_ldiv {g d : Nat} {Y : MD} {Q : Int → Mem → Prop} {pc : Nat} {L S : List AV} {m : Mem} {x y : Int} (hd : decode Y.2.1 pc = .ok (.ldiv, 1)) (hx : InL x) (hy : InL y) (h0 : 0 ≤ x) (h1 : 0 < y) (k : Go g d Y Q (pc + 1) L (vl (x / y) :: S) m) : Go g d Y Q pc L (vl y :: vl x :: S) m := by
  intro l D cA ad A p e R s mth args below meth c Z hC hE ls H locs cells slots hR hL hc hs
  have k := (k l D cA ad A p e R s mth args below meth c Z hC hE ls H locs cells slots hR hL hc hs)
  refine lv_ldiv hC.1 hC.2.1 hd (fun e => ?_) ?_
  · have e2 : (Int64.ofInt y).toInt = 0 := by rw [e]; rfl
    rw [hy.i] at e2; omega
  · rw [i64_div hx hy h0 h1]; exact k
theorem go_lrem {g d : Nat} {Y : MD} {Q : Int → Mem → Prop} {pc : Nat} {L S : List AV} {m : Mem} {x y : Int} (hd : decode Y.2.1 pc = .ok (.lrem, 1)) (hx : InL x) (hy : InL y) (h0 : 0 ≤ x) (h1 : 0 < y) (k : Go g d Y Q (pc + 1) L (vl (x % y) :: S) m) : Go g d Y Q pc L (vl y :: vl x :: S) m := by
  intro l D cA ad A p e R s mth args below meth c Z hC hE ls H locs cells slots hR hL hc hs
  have k := (k l D cA ad A p e R s mth args below meth c Z hC hE ls H locs cells slots hR hL hc hs)
  refine lv_lrem hC.1 hC.2.1 hd (fun e => ?_) ?_
  · have e2 : (Int64.ofInt y).toInt = 0 := by rw [e]; rfl
    rw [hy.i] at e2; omega
  · rw [i64_div hx hy h0 h1, ← Int64.ofInt_mul, ← Int64.ofInt_sub, show x - x / y * y = x % y from by rw [Int.emod_def, Int.mul_comm]]; exact k
theorem go_i2l {g d : Nat} {Y : MD} {Q : Int → Mem → Prop} {pc : Nat} {L S : List AV} {m : Mem} {x : Int} (hd : decode Y.2.1 pc = .ok (.i2l, 1)) (hx : InR x) (k : Go g d Y Q (pc + 1) L (vl x :: S) m) : Go g d Y Q pc L (vi x :: S) m := by
  intro l D cA ad A p e R s mth args below meth c Z hC hE ls H locs cells slots hR hL hc hs
  exact lv_i2l hC.1 hC.2.1 hd (by rw [← Int64.toInt_inj, Int32.toInt_toInt64, hx.i, InL.i ⟨by unfold InR at hx; omega, by unfold InR at hx; omega⟩]) (k l D cA ad A p e R s mth args below meth c Z hC hE ls H locs cells slots hR hL hc hs)
theorem go_l2i {g d : Nat} {Y : MD} {Q : Int → Mem → Prop} {pc : Nat} {L S : List AV} {m : Mem} {x : Int} (hd : decode Y.2.1 pc = .ok (.l2i, 1)) (k : Go g d Y Q (pc + 1) L (vi x :: S) m) : Go g d Y Q pc L (vl x :: S) m := by
  intro l D cA ad A p e R s mth args below meth c Z hC hE ls H locs cells slots hR hL hc hs
  exact lv_l2i hC.1 hC.2.1 hd Int64.toInt32_ofInt (k l D cA ad A p e R s mth args below meth c Z hC hE ls H locs cells slots hR hL hc hs)
theorem go_i2b {g d : Nat} {Y : MD} {Q : Int → Mem → Prop} {pc : Nat} {L S : List AV} {m : Mem} {x : Int} (hd : decode Y.2.1 pc = .ok (.i2b, 1)) (k : Go g d Y Q (pc + 1) L (vi (x.bmod 256) :: S) m) : Go g d Y Q pc L (vi x :: S) m := by
  intro l D cA ad A p e R s mth args below meth c Z hC hE ls H locs cells slots hR hL hc hs
  refine lv_i2b hC.1 hC.2.1 hd ?_ (k l D cA ad A p e R s mth args below meth c Z hC hE ls H locs cells slots hR hL hc hs)
  rw [Int32.toInt8_ofInt, ← Int32.toInt_inj, Int8.toInt_toInt32, Int8.toInt_ofInt, InR.i]
  unfold InR; have := @Int.bmod_lt x 256 (by decide); have := @Int.le_bmod x 256 (by decide); omega
theorem go_lcmp {g d : Nat} {Y : MD} {Q : Int → Mem → Prop} {pc : Nat} {L S : List AV} {m : Mem} {x y : Int} (hd : decode Y.2.1 pc = .ok (.lcmp, 1)) (hx : InL x) (hy : InL y) (k : Go g d Y Q (pc + 1) L (vi (lcmpI x y) :: S) m) : Go g d Y Q pc L (vl y :: vl x :: S) m := by
  intro l D cA ad A p e R s mth args below meth c Z hC hE ls H locs cells slots hR hL hc hs
  have k := (k l D cA ad A p e R s mth args below meth c Z hC hE ls H locs cells slots hR hL hc hs)
  refine W.lcmp hC.1 hC.2.1 hd ?_
  have e : lg_cmp (Int64.ofInt x) (Int64.ofInt y) = Int32.ofInt (lcmpI x y) := by
    have h1 : Int64.ofInt x > Int64.ofInt y ↔ y < x := by rw [gt_iff_lt, Int64.lt_iff_toInt_lt, hx.i, hy.i]
    have h2 : Int64.ofInt x = Int64.ofInt y ↔ x = y := by rw [← Int64.toInt_inj, hx.i, hy.i]
    unfold lcmpI lg_cmp
    simp only [h1, h2]
    by_cases a1 : y < x
    · rw [if_pos a1, if_neg (by omega), if_neg (by omega)]; rfl
    · rw [if_neg a1]
      by_cases a2 : x = y
      · rw [if_pos a2, if_neg (by omega), if_pos a2]; rfl
      · rw [if_neg a2, if_pos (by omega)]; rfl
  rw [e]
  exact k
theorem go_dup_r {g d : Nat} {Y : MD} {Q : Int → Mem → Prop} {pc : Nat} {L S : List AV} {m : Mem} {a : Nat} (hd : decode Y.2.1 pc = .ok (.dup, 1)) (k : Go g d Y Q (pc + 1) L (vr a :: vr a :: S) m) : Go g d Y Q pc L (vr a :: S) m := by
  intro l D cA ad A p e R s mth args below meth c Z hC hE ls H locs cells slots hR hL hc hs
  exact lv_dup hC.1 hC.2.1 hd rfl (k l D cA ad A p e R s mth args below meth c Z hC hE ls H locs cells slots hR hL hc hs)
theorem go_dup_i {g d : Nat} {Y : MD} {Q : Int → Mem → Prop} {pc : Nat} {L S : List AV} {m : Mem} {x : Int} (hd : decode Y.2.1 pc = .ok (.dup, 1)) (k : Go g d Y Q (pc + 1) L (vi x :: vi x :: S) m) : Go g d Y Q pc L (vi x :: S) m := by
  intro l D cA ad A p e R s mth args below meth c Z hC hE ls H locs cells slots hR hL hc hs
  exact lv_dup hC.1 hC.2.1 hd rfl (k l D cA ad A p e R s mth args below meth c Z hC hE ls H locs cells slots hR hL hc hs)
theorem go_pop_i {g d : Nat} {Y : MD} {Q : Int → Mem → Prop} {pc : Nat} {L S : List AV} {m : Mem} {x : Int} (hd : decode Y.2.1 pc = .ok (.pop, 1)) (k : Go g d Y Q (pc + 1) L S m) : Go g d Y Q pc L (vi x :: S) m := by
  intro l D cA ad A p e R s mth args below meth c Z hC hE ls H locs cells slots hR hL hc hs
  exact lv_pop hC.1 hC.2.1 hd rfl (k l D cA ad A p e R s mth args below meth c Z hC hE ls H locs cells slots hR hL hc hs)
theorem go_dup2_ir {g d : Nat} {Y : MD} {Q : Int → Mem → Prop} {pc : Nat} {L S : List AV} {m : Mem} {x : Int} {a : Nat} (hd : decode Y.2.1 pc = .ok (.dup2, 1)) (k : Go g d Y Q (pc + 1) L (vi x :: vr a :: vi x :: vr a :: S) m) : Go g d Y Q pc L (vi x :: vr a :: S) m := by
  intro l D cA ad A p e R s mth args below meth c Z hC hE ls H locs cells slots hR hL hc hs
  exact lv_dup2_11 hC.1 hC.2.1 hd rfl rfl (k l D cA ad A p e R s mth args below meth c Z hC hE ls H locs cells slots hR hL hc hs)
theorem go_goto {g d : Nat} {Y : MD} {Q : Int → Mem → Prop} {pc : Nat} {L S : List AV} {m : Mem} {off : Int} {tgt : Nat} (hd : decode Y.2.1 pc = .ok (.goto off, 3)) (ht : (pc : Int) + off = (tgt : Int)) (k : Go g d Y Q tgt L S m) : Go g d Y Q pc L S m := by
  intro l D cA ad A p e R s mth args below meth c Z hC hE ls H locs cells slots hR hL hc hs
  exact lv_goto hC.1 hC.2.1 hd ht (k l D cA ad A p e R s mth args below meth c Z hC hE ls H locs cells slots hR hL hc hs)

theorem go_icmp_eq {g d : Nat} {Y : MD} {Q : Int → Mem → Prop} {pc : Nat} {L S : List AV} {m : Mem} {x y off : Int} {tgt : Nat} (hd : decode Y.2.1 pc = .ok (.if_icmp .eq off, 3)) (ht : (pc : Int) + off = (tgt : Int)) (hx : InR x) (hy : InR y) (kt : x = y → Go g d Y Q tgt L S m) (kf : ¬ x = y → Go g d Y Q (pc + 3) L S m) : Go g d Y Q pc L (vi y :: vi x :: S) m := by
  intro l D cA ad A p e R s mth args below meth c Z hC hE ls H locs cells slots hR hL hc hs
  refine lv_icmp_eq hC.1 hC.2.1 hd ht (fun q => kt (by first | simpa [hx.eq hy] using q | (simp only [hx.eq hy, hx.lt hy, hx.le hy, hy.lt hx, hy.le hx, GE.ge, GT.gt, ne_eq] at q; omega)) l D cA ad A p e R s mth args below meth c Z hC hE ls H locs cells slots hR hL hc hs) (fun q => kf (by first | simpa [hx.eq hy] using q | (simp only [hx.eq hy, hx.lt hy, hx.le hy, hy.lt hx, hy.le hx, GE.ge, GT.gt, ne_eq] at q; omega)) l D cA ad A p e R s mth args below meth c Z hC hE ls H locs cells slots hR hL hc hs)

theorem go_if_eq {g d : Nat} {Y : MD} {Q : Int → Mem → Prop} {pc : Nat} {L S : List AV} {m : Mem} {x off : Int} {tgt : Nat} (hd : decode Y.2.1 pc = .ok (.ifCond .eq off, 3)) (ht : (pc : Int) + off = (tgt : Int)) (hx : InR x) (kt : x = 0 → Go g d Y Q tgt L S m) (kf : ¬ x = 0 → Go g d Y Q (pc + 3) L S m) : Go g d Y Q pc L (vi x :: S) m := by
  intro l D cA ad A p e R s mth args below meth c Z hC hE ls H locs cells slots hR hL hc hs
  refine lv_if_eq hC.1 hC.2.1 hd ht (fun q => kt (by rw [← i32_0] at q; first | simpa [hx.eq InR.zero] using q | (simp only [hx.eq InR.zero, hx.lt InR.zero, hx.le InR.zero, InR.zero.lt hx, InR.zero.le hx, GE.ge, GT.gt, ne_eq] at q; omega)) l D cA ad A p e R s mth args below meth c Z hC hE ls H locs cells slots hR hL hc hs) (fun q => kf (by rw [← i32_0] at q; first | simpa [hx.eq InR.zero] using q | (simp only [hx.eq InR.zero, hx.lt InR.zero, hx.le InR.zero, InR.zero.lt hx, InR.zero.le hx, GE.ge, GT.gt, ne_eq] at q; omega)) l D cA ad A p e R s mth args below meth c Z hC hE ls H locs cells slots hR hL hc hs)

theorem go_icmp_ne {g d : Nat} {Y : MD} {Q : Int → Mem → Prop} {pc : Nat} {L S : List AV} {m : Mem} {x y off : Int} {tgt : Nat} (hd : decode Y.2.1 pc = .ok (.if_icmp .ne off, 3)) (ht : (pc : Int) + off = (tgt : Int)) (hx : InR x) (hy : InR y) (kt : ¬ x = y → Go g d Y Q tgt L S m) (kf : x = y → Go g d Y Q (pc + 3) L S m) : Go g d Y Q pc L (vi y :: vi x :: S) m := by
  intro l D cA ad A p e R s mth args below meth c Z hC hE ls H locs cells slots hR hL hc hs
  refine lv_icmp_ne hC.1 hC.2.1 hd ht (fun q => kt (by first | simpa [hx.eq hy] using q | (simp only [hx.eq hy, hx.lt hy, hx.le hy, hy.lt hx, hy.le hx, GE.ge, GT.gt, ne_eq] at q; omega)) l D cA ad A p e R s mth args below meth c Z hC hE ls H locs cells slots hR hL hc hs) (fun q => kf (by first | simpa [hx.eq hy] using q | (simp only [hx.eq hy, hx.lt hy, hx.le hy, hy.lt hx, hy.le hx, GE.ge, GT.gt, ne_eq] at q; omega)) l D cA ad A p e R s mth args below meth c Z hC hE ls H locs cells slots hR hL hc hs)

theorem go_if_ne {g d : Nat} {Y : MD} {Q : Int → Mem → Prop} {pc : Nat} {L S : List AV} {m : Mem} {x off : Int} {tgt : Nat} (hd : decode Y.2.1 pc = .ok (.ifCond .ne off, 3)) (ht : (pc : Int) + off = (tgt : Int)) (hx : InR x) (kt : ¬ x = 0 → Go g d Y Q tgt L S m) (kf : x = 0 → Go g d Y Q (pc + 3) L S m) : Go g d Y Q pc L (vi x :: S) m := by
  intro l D cA ad A p e R s mth args below meth c Z hC hE ls H locs cells slots hR hL hc hs
  refine lv_if_ne hC.1 hC.2.1 hd ht (fun q => kt (by rw [← i32_0] at q; first | simpa [hx.eq InR.zero] using q | (simp only [hx.eq InR.zero, hx.lt InR.zero, hx.le InR.zero, InR.zero.lt hx, InR.zero.le hx, GE.ge, GT.gt, ne_eq] at q; omega)) l D cA ad A p e R s mth args below meth c Z hC hE ls H locs cells slots hR hL hc hs) (fun q => kf (by rw [← i32_0] at q; first | simpa [hx.eq InR.zero] using q | (simp only [hx.eq InR.zero, hx.lt InR.zero, hx.le InR.zero, InR.zero.lt hx, InR.zero.le hx, GE.ge, GT.gt, ne_eq] at q; omega)) l D cA ad A p e R s mth args below meth c Z hC hE ls H locs cells slots hR hL hc hs)

theorem go_icmp_lt {g d : Nat} {Y : MD} {Q : Int → Mem → Prop} {pc : Nat} {L S : List AV} {m : Mem} {x y off : Int} {tgt : Nat} (hd : decode Y.2.1 pc = .ok (.if_icmp .lt off, 3)) (ht : (pc : Int) + off = (tgt : Int)) (hx : InR x) (hy : InR y) (kt : x < y → Go g d Y Q tgt L S m) (kf : y ≤ x → Go g d Y Q (pc + 3) L S m) : Go g d Y Q pc L (vi y :: vi x :: S) m := by
  intro l D cA ad A p e R s mth args below meth c Z hC hE ls H locs cells slots hR hL hc hs
  refine lv_icmp_lt hC.1 hC.2.1 hd ht (fun q => kt (by first | simpa [hx.eq hy] using q | (simp only [hx.eq hy, hx.lt hy, hx.le hy, hy.lt hx, hy.le hx, GE.ge, GT.gt, ne_eq] at q; omega)) l D cA ad A p e R s mth args below meth c Z hC hE ls H locs cells slots hR hL hc hs) (fun q => kf (by first | simpa [hx.eq hy] using q | (simp only [hx.eq hy, hx.lt hy, hx.le hy, hy.lt hx, hy.le hx, GE.ge, GT.gt, ne_eq] at q; omega)) l D cA ad A p e R s mth args below meth c Z hC hE ls H locs cells slots hR hL hc hs)

theorem go_if_lt {g d : Nat} {Y : MD} {Q : Int → Mem → Prop} {pc : Nat} {L S : List AV} {m : Mem} {x off : Int} {tgt : Nat} (hd : decode Y.2.1 pc = .ok (.ifCond .lt off, 3)) (ht : (pc : Int) + off = (tgt : Int)) (hx : InR x) (kt : x < 0 → Go g d Y Q tgt L S m) (kf : 0 ≤ x → Go g d Y Q (pc + 3) L S m) : Go g d Y Q pc L (vi x :: S) m := by
  intro l D cA ad A p e R s mth args below meth c Z hC hE ls H locs cells slots hR hL hc hs
  refine lv_if_lt hC.1 hC.2.1 hd ht (fun q => kt (by rw [← i32_0] at q; first | simpa [hx.eq InR.zero] using q | (simp only [hx.eq InR.zero, hx.lt InR.zero, hx.le InR.zero, InR.zero.lt hx, InR.zero.le hx, GE.ge, GT.gt, ne_eq] at q; omega)) l D cA ad A p e R s mth args below meth c Z hC hE ls H locs cells slots hR hL hc hs) (fun q => kf (by rw [← i32_0] at q; first | simpa [hx.eq InR.zero] using q | (simp only [hx.eq InR.zero, hx.lt InR.zero, hx.le InR.zero, InR.zero.lt hx, InR.zero.le hx, GE.ge, GT.gt, ne_eq] at q; omega)) l D cA ad A p e R s mth args below meth c Z hC hE ls H locs cells slots hR hL hc hs)

theorem go_icmp_ge {g d : Nat} {Y : MD} {Q : Int → Mem → Prop} {pc : Nat} {L S : List AV} {m : Mem} {x y off : Int} {tgt : Nat} (hd : decode Y.2.1 pc = .ok (.if_icmp .ge off, 3)) (ht : (pc : Int) + off = (tgt : Int)) (hx : InR x) (hy : InR y) (kt : y ≤ x → Go g d Y Q tgt L S m) (kf : x < y → Go g d Y Q (pc + 3) L S m) : Go g d Y Q pc L (vi y :: vi x :: S) m := by
  intro l D cA ad A p e R s mth args below meth c Z hC hE ls H locs cells slots hR hL hc hs
  refine lv_icmp_ge hC.1 hC.2.1 hd ht (fun q => kt (by first | simpa [hx.eq hy] using q | (simp only [hx.eq hy, hx.lt hy, hx.le hy, hy.lt hx, hy.le hx, GE.ge, GT.gt, ne_eq] at q; omega)) l D cA ad A p e R s mth args below meth c Z hC hE ls H locs cells slots hR hL hc hs) (fun q => kf (by first | simpa [hx.eq hy] using q | (simp only [hx.eq hy, hx.lt hy, hx.le hy, hy.lt hx, hy.le hx, GE.ge, GT.gt, ne_eq] at q; omega)) l D cA ad A p e R s mth args below meth c Z hC hE ls H locs cells slots hR hL hc hs)

theorem go_if_ge {g d : Nat} {Y : MD} {Q : Int → Mem → Prop} {pc : Nat} {L S : List AV} {m : Mem} {x off : Int} {tgt : Nat} (hd : decode Y.2.1 pc = .ok (.ifCond .ge off, 3)) (ht : (pc : Int) + off = (tgt : Int)) (hx : InR x) (kt : 0 ≤ x → Go g d Y Q tgt L S m) (kf : x < 0 → Go g d Y Q (pc + 3) L S m) : Go g d Y Q pc L (vi x :: S) m := by
  intro l D cA ad A p e R s mth args below meth c Z hC hE ls H locs cells slots hR hL hc hs
  refine lv_if_ge hC.1 hC.2.1 hd ht (fun q => kt (by rw [← i32_0] at q; first | simpa [hx.eq InR.zero] using q | (simp only [hx.eq InR.zero, hx.lt InR.zero, hx.le InR.zero, InR.zero.lt hx, InR.zero.le hx, GE.ge, GT.gt, ne_eq] at q; omega)) l D cA ad A p e R s mth args below meth c Z hC hE ls H locs cells slots hR hL hc hs) (fun q => kf (by rw [← i32_0] at q; first | simpa [hx.eq InR.zero] using q | (simp only [hx.eq InR.zero, hx.lt InR.zero, hx.le InR.zero, InR.zero.lt hx, InR.zero.le hx, GE.ge, GT.gt, ne_eq] at q; omega)) l D cA ad A p e R s mth args below meth c Z hC hE ls H locs cells slots hR hL hc hs)

theorem go_icmp_gt {g d : Nat} {Y : MD} {Q : Int → Mem → Prop} {pc : Nat} {L S : List AV} {m : Mem} {x y off : Int} {tgt : Nat} (hd : decode Y.2.1 pc = .ok (.if_icmp .gt off, 3)) (ht : (pc : Int) + off = (tgt : Int)) (hx : InR x) (hy : InR y) (kt : y < x → Go g d Y Q tgt L S m) (kf : x ≤ y → Go g d Y Q (pc + 3) L S m) : Go g d Y Q pc L (vi y :: vi x :: S) m := by
  intro l D cA ad A p e R s mth args below meth c Z hC hE ls H locs cells slots hR hL hc hs
  refine lv_icmp_gt hC.1 hC.2.1 hd ht (fun q => kt (by first | simpa [hx.eq hy] using q | (simp only [hx.eq hy, hx.lt hy, hx.le hy, hy.lt hx, hy.le hx, GE.ge, GT.gt, ne_eq] at q; omega)) l D cA ad A p e R s mth args below meth c Z hC hE ls H locs cells slots hR hL hc hs) (fun q => kf (by first | simpa [hx.eq hy] using q | (simp only [hx.eq hy, hx.lt hy, hx.le hy, hy.lt hx, hy.le hx, GE.ge, GT.gt, ne_eq] at q; omega)) l D cA ad A p e R s mth args below meth c Z hC hE ls H locs cells slots hR hL hc hs)

theorem go_if_gt {g d : Nat} {Y : MD} {Q : Int → Mem → Prop} {pc : Nat} {L S : List AV} {m : Mem} {x off : Int} {tgt : Nat} (hd : decode Y.2.1 pc = .ok (.ifCond .gt off, 3)) (ht : (pc : Int) + off = (tgt : Int)) (hx : InR x) (kt : 0 < x → Go g d Y Q tgt L S m) (kf : x ≤ 0 → Go g d Y Q (pc + 3) L S m) : Go g d Y Q pc L (vi x :: S) m := by
  intro l D cA ad A p e R s mth args below meth c Z hC hE ls H locs cells slots hR hL hc hs
  refine lv_if_gt hC.1 hC.2.1 hd ht (fun q => kt (by rw [← i32_0] at q; first | simpa [hx.eq InR.zero] using q | (simp only [hx.eq InR.zero, hx.lt InR.zero, hx.le InR.zero, InR.zero.lt hx, InR.zero.le hx, GE.ge, GT.gt, ne_eq] at q; omega)) l D cA ad A p e R s mth args below meth c Z hC hE ls H locs cells slots hR hL hc hs) (fun q => kf (by rw [← i32_0] at q; first | simpa [hx.eq InR.zero] using q | (simp only [hx.eq InR.zero, hx.lt InR.zero, hx.le InR.zero, InR.zero.lt hx, InR.zero.le hx, GE.ge, GT.gt, ne_eq] at q; omega)) l D cA ad A p e R s mth args below meth c Z hC hE ls H locs cells slots hR hL hc hs)

theorem go_icmp_le {g d : Nat} {Y : MD} {Q : Int → Mem → Prop} {pc : Nat} {L S : List AV} {m : Mem} {x y off : Int} {tgt : Nat} (hd : decode Y.2.1 pc = .ok (.if_icmp .le off, 3)) (ht : (pc : Int) + off = (tgt : Int)) (hx : InR x) (hy : InR y) (kt : x ≤ y → Go g d Y Q tgt L S m) (kf : y < x → Go g d Y Q (pc + 3) L S m) : Go g d Y Q pc L (vi y :: vi x :: S) m := by
  intro l D cA ad A p e R s mth args below meth c Z hC hE ls H locs cells slots hR hL hc hs
  refine lv_icmp_le hC.1 hC.2.1 hd ht (fun q => kt (by first | simpa [hx.eq hy] using q | (simp only [hx.eq hy, hx.lt hy, hx.le hy, hy.lt hx, hy.le hx, GE.ge, GT.gt, ne_eq] at q; omega)) l D cA ad A p e R s mth args below meth c Z hC hE ls H locs cells slots hR hL hc hs) (fun q => kf (by first | simpa [hx.eq hy] using q | (simp only [hx.eq hy, hx.lt hy, hx.le hy, hy.lt hx, hy.le hx, GE.ge, GT.gt, ne_eq] at q; omega)) l D cA ad A p e R s mth args below meth c Z hC hE ls H locs cells slots hR hL hc hs)

theorem go_if_le {g d : Nat} {Y : MD} {Q : Int → Mem → Prop} {pc : Nat} {L S : List AV} {m : Mem} {x off : Int} {tgt : Nat} (hd : decode Y.2.1 pc = .ok (.ifCond .le off, 3)) (ht : (pc : Int) + off = (tgt : Int)) (hx : InR x) (kt : x ≤ 0 → Go g d Y Q tgt L S m) (kf : 0 < x → Go g d Y Q (pc + 3) L S m) : Go g d Y Q pc L (vi x :: S) m := by
  intro l D cA ad A p e R s mth args below meth c Z hC hE ls H locs cells slots hR hL hc hs
  refine lv_if_le hC.1 hC.2.1 hd ht (fun q => kt (by rw [← i32_0] at q; first | simpa [hx.eq InR.zero] using q | (simp only [hx.eq InR.zero, hx.lt InR.zero, hx.le InR.zero, InR.zero.lt hx, InR.zero.le hx, GE.ge, GT.gt, ne_eq] at q; omega)) l D cA ad A p e R s mth args below meth c Z hC hE ls H locs cells slots hR hL hc hs) (fun q => kf (by rw [← i32_0] at q; first | simpa [hx.eq InR.zero] using q | (simp only [hx.eq InR.zero, hx.lt InR.zero, hx.le InR.zero, InR.zero.lt hx, InR.zero.le hx, GE.ge, GT.gt, ne_eq] at q; omega)) l D cA ad A p e R s mth args below meth c Z hC hE ls H locs cells slots hR hL hc hs)

theorem go_tswitch {g d : Nat} {Y : MD} {Q : Int → Mem → Prop} {pc : Nat} {L S : List AV} {m : Mem} {x dflt lo hi : Int} {offs : Array Int} {len tgt : Nat} (hd : decode Y.2.1 pc = .ok (.tableswitch dflt lo hi offs, len)) (hx : InR x) (ht : (pc : Int) + dflt = (tgt : Int)) (ki : ∀ n : Nat, x = lo + n → x ≤ hi → ∃ (off : Int) (t : Nat), offs[n]? = some off ∧ (pc : Int) + off = (t : Int) ∧ Go g d Y Q t L S m) (kd : x < lo ∨ hi < x → Go g d Y Q tgt L S m) : Go g d Y Q pc L (vi x :: S) m := by
  intro l D cA ad A p e R s mth args below meth c Z hC hE ls H locs cells slots hR hL hc hs
  by_cases h : x < lo ∨ hi < x
  · exact lv_tableOut hC.1 hC.2.1 hd (by rw [hx.i]; exact h) ht (kd h l D cA ad A p e R s mth args below meth c Z hC hE ls H locs cells slots hR hL hc hs)
  · obtain ⟨off, t, h1, h2, k⟩ := ki (x - lo).toNat (by omega) (by omega)
    exact lv_tableIn hC.1 hC.2.1 hd (by rw [hx.i]; omega) (by rw [hx.i]; omega) (by rw [hx.i]; exact h1) h2 (k l D cA ad A p e R s mth args below meth c Z hC hE ls H locs cells slots hR hL hc hs)
theorem go_lswitch {g d : Nat} {Y : MD} {Q : Int → Mem → Prop} {pc : Nat} {L S : List AV} {m : Mem} {x dflt off : Int} {ps : Array (Int × Int)} {len tgt : Nat} (hd : decode Y.2.1 pc = .ok (.lookupswitch dflt ps, len)) (hx : InR x) (hp : (ps.toList.zip (ps.toList.drop 1)).all (fun (a, next) => a.1 < next.1) = true) (ho : Op.lookupswitch.offset ps.toList dflt x = off) (ht : (pc : Int) + off = (tgt : Int)) (k : Go g d Y Q tgt L S m) : Go g d Y Q pc L (vi x :: S) m := by
  intro l D cA ad A p e R s mth args below meth c Z hC hE ls H locs cells slots hR hL hc hs
  exact lv_lookup hC.1 hC.2.1 hd hp (by rw [hx.i]; exact ho) ht (k l D cA ad A p e R s mth args below meth c Z hC hE ls H locs cells slots hR hL hc hs)
