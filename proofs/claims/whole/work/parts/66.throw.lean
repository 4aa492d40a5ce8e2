/-! ===== the judgement GoT: to a point where something is thrown ===== -/
def GoT (tp g d : Nat) (Y : MD) (Q : Mem → Prop) (pc : Nat) (L S : List AV) (m : Mem) : Prop :=
  ∀ (l : Launch) (D : va_G) (cA : Nat → ClassId) (ad : Nat → Nat) (A : Nat → Prop) (p : Program) (e : Env) (R : Room) (s : State) (mth : MethodId) (args : Array Value) (below : List Frame) (meth : Method) (c : Code) (Z : State → Prop),
    Cx d Y D cA ad A l p R s mth args c →
    (∀ (m' : Mem) (ls : Array Slot) (H : Heap) (locs : List Loc) (cells slots : Nat), Q m' → Rl cA D ad A s m' H locs → ls.size = Y.2.2.1 → cells + g ≤ R.cells → slots + 20 * g ≤ R.slots → W p l e R s mth args below meth c H locs cells slots Z (F0 mth tp ls [])) →
    ∀ (ls : Array Slot) (H : Heap) (locs : List Loc) (cells slots : Nat), Rl cA D ad A s m H locs → lv_has ls Y.2.2.1 (lvL ad L) → cells + g ≤ R.cells → slots + 20 * g ≤ R.slots →
      W p l e R s mth args below meth c H locs cells slots Z (F0 mth pc ls (S.map (toV ad)))
theorem gt_aload_n {g d : Nat} {Y : MD} {tp : Nat} {Q : Mem → Prop} {pc : Nat} {L S : List AV} {m : Mem} {j : Fin 4} {a : Nat} (hd : decode Y.2.1 pc = .ok (.aload_n j, 1)) (hl : L[(j : Nat)]? = some (vr a)) (k : GoT tp g d Y Q (pc + 1) L (vr a :: S) m) : GoT tp g d Y Q pc L S m := by
  intro l D cA ad A p e R s mth args below meth c Z hC hE ls H locs cells slots hR hL hc hs
  have k := (k l D cA ad A p e R s mth args below meth c Z hC hE ls H locs cells slots hR hL hc hs)
  exact lv_aload_n hC.1 hC.2.1 hd rfl (lvL_at hL hl rfl) k
theorem gt_iload_n {g d : Nat} {Y : MD} {tp : Nat} {Q : Mem → Prop} {pc : Nat} {L S : List AV} {m : Mem} {j : Fin 4} {x : Int} (hd : decode Y.2.1 pc = .ok (.iload_n j, 1)) (hl : L[(j : Nat)]? = some (vi x)) (k : GoT tp g d Y Q (pc + 1) L (vi x :: S) m) : GoT tp g d Y Q pc L S m := by
  intro l D cA ad A p e R s mth args below meth c Z hC hE ls H locs cells slots hR hL hc hs
  have k := (k l D cA ad A p e R s mth args below meth c Z hC hE ls H locs cells slots hR hL hc hs)
  exact lv_iload_n hC.1 hC.2.1 hd rfl (lvL_at hL hl rfl) k
theorem gt_istore_n {g d : Nat} {Y : MD} {tp : Nat} {Q : Mem → Prop} {pc : Nat} {L S : List AV} {m : Mem} {j : Fin 4} {x : Int} {L' : List AV} (hd : decode Y.2.1 pc = .ok (.istore_n j, 1)) (hn : (j : Nat) < Y.2.2.1) (hg : lgAt L (j : Nat) = false) (hl : L.set (j : Nat) (vi x) = L') (k : GoT tp g d Y Q (pc + 1) L' S m) : GoT tp g d Y Q pc L (vi x :: S) m := by
  intro l D cA ad A p e R s mth args below meth c Z hC hE ls H locs cells slots hR hL hc hs
  subst hl
  exact lv_istore_n hC.1 hC.2.1 hd rfl hL hn rfl (fun ls' hl' => k l D cA ad A p e R s mth args below meth c Z hC hE ls' H locs cells slots hR (lvL_st1 hl' hg) hc hs)
theorem gt_iconst {g d : Nat} {Y : MD} {tp : Nat} {Q : Mem → Prop} {pc : Nat} {L S : List AV} {m : Mem} {n : Int} (hd : decode Y.2.1 pc = .ok (.iconst n, 1))  (k : GoT tp g d Y Q (pc + 1) L (vi n :: S) m) : GoT tp g d Y Q pc L S m := by
  intro l D cA ad A p e R s mth args below meth c Z hC hE ls H locs cells slots hR hL hc hs
  have k := (k l D cA ad A p e R s mth args below meth c Z hC hE ls H locs cells slots hR hL hc hs)
  exact lv_iconst hC.1 hC.2.1 hd rfl k
theorem gt_bipush {g d : Nat} {Y : MD} {tp : Nat} {Q : Mem → Prop} {pc : Nat} {L S : List AV} {m : Mem} {n : Int} (hd : decode Y.2.1 pc = .ok (.bipush n, 2)) (hv : (Int8.ofInt n).toInt32 = Int32.ofInt n) (k : GoT tp g d Y Q (pc + 2) L (vi n :: S) m) : GoT tp g d Y Q pc L S m := by
  intro l D cA ad A p e R s mth args below meth c Z hC hE ls H locs cells slots hR hL hc hs
  have k := (k l D cA ad A p e R s mth args below meth c Z hC hE ls H locs cells slots hR hL hc hs)
  exact lv_bipush hC.1 hC.2.1 hd hv k
theorem gt_getf {g d : Nat} {Y : MD} {tp : Nat} {Q : Mem → Prop} {pc : Nat} {L S : List AV} {m : Mem} {a ci fk idx : Nat} {v : AV} (hd : decode Y.2.1 pc = .ok (.getfield idx, 3)) (hf : FL Y.1.cls idx ci fk) (ho : ob a ci) (hv : ∀ ad, fval (cty ci fk) ad (m a (fk : Int)) (sp a fk) = toV ad v) (k : inTy (cty ci fk) (m a (fk : Int)) → GoT tp g d Y Q (pc + 3) L (v :: S) m) : GoT tp g d Y Q pc L (vr a :: S) m := by
  obtain ⟨C, T, N, h1, h2, h3, h4, h5, h6⟩ := hf
  intro l D cA ad A p e R s mth args below meth c Z hC hE ls H locs cells slots hR hL hc hs
  have hk : fk < sn a := by rw [ho.2.2.2 _ h1]; exact h2
  have k := (k (by have := (hR.2.2.2 a (fk : Int)).1; rw [tyOf_ob ho] at this; exact this) l D cA ad A p e R s mth args below meth c Z hC hE ls H locs cells slots hR hL hc hs)
  have he : (Wd cA ad m)[a]? = some (ad a, .inr (ci, objFs ad m a)) := by rw [Wd_at ho.1, cellE_ob ho]
  have hat : (objFs ad m a)[fk]? = some (toV ad v) := by rw [objFs_at hk, ho.2.1, hv ad]
  rcases h6 with h6 | ⟨host, h6⟩
  · exact va_get hC.1 hC.2.1 hC.2.2.2.2.1 h3 hC.2.2.2.1 hC.2.2.2.2.2.2.1 hR.1 a he h1 fk h2 (hC.2.2.2.2.1 _ h6) (fun _ h => h) hat hd k
  · exact va_getN hC.1 hC.2.1 hC.2.2.2.2.1 h3 hC.2.2.2.1 hC.2.2.2.2.2.2.1 hR.1 a he h1 fk h2 (va_Nw.use rfl (hC.2.2.2.2.2.1 _ h6)) (fun _ h => h) hat hd k
theorem gt_getf_p {g d : Nat} {Y : MD} {tp : Nat} {Q : Mem → Prop} {pc : Nat} {L S : List AV} {m : Mem} {a ci fk idx b : Nat} (hd : decode Y.2.1 pc = .ok (.getfield idx, 3)) (hf : FL Y.1.cls idx ci fk) (ho : ob a ci) (ht : isP (cty ci fk) = true) (hp : sp a fk = b) (k : GoT tp g d Y Q (pc + 3) L (vr b :: S) m) : GoT tp g d Y Q pc L (vr a :: S) m := by
  subst hp
  refine gt_getf hd hf ho (v := vr (sp a fk)) (fun ad => ?_) (fun _ => k)
  cases h : cty ci fk <;> rw [h] at ht <;> first | rfl | cases ht
theorem gt_getf_i {g d : Nat} {Y : MD} {tp : Nat} {Q : Mem → Prop} {pc : Nat} {L S : List AV} {m : Mem} {a ci fk idx : Nat} {ki : Int} (hd : decode Y.2.1 pc = .ok (.getfield idx, 3)) (hf : FL Y.1.cls idx ci fk) (ho : ob a ci) (ht : cty ci fk = .int) (hk : (fk : Int) = ki) (k : InR (m a ki) → GoT tp g d Y Q (pc + 3) L (vi (m a ki) :: S) m) : GoT tp g d Y Q pc L (vr a :: S) m := by
  subst hk
  exact gt_getf hd hf ho (v := vi (m a (fk : Int))) (fun ad => by rw [ht]; rfl) (fun h => k (by rw [ht] at h; exact h))
theorem gt_if_eq {g d : Nat} {Y : MD} {tp : Nat} {Q : Mem → Prop} {pc : Nat} {L S : List AV} {m : Mem} {x off : Int} {tgt : Nat} (hd : decode Y.2.1 pc = .ok (.ifCond .eq off, 3)) (ht : (pc : Int) + off = (tgt : Int)) (hx : InR x) (kt : x = 0 → GoT tp g d Y Q tgt L S m) (kf : ¬ x = 0 → GoT tp g d Y Q (pc + 3) L S m) : GoT tp g d Y Q pc L (vi x :: S) m := by
  intro l D cA ad A p e R s mth args below meth c Z hC hE ls H locs cells slots hR hL hc hs
  refine lv_if_eq hC.1 hC.2.1 hd ht (fun q => kt (by rw [← i32_0] at q; first | simpa [hx.eq InR.zero] using q | (simp only [hx.eq InR.zero, hx.lt InR.zero, hx.le InR.zero, InR.zero.lt hx, InR.zero.le hx, GE.ge, GT.gt, ne_eq] at q; omega)) l D cA ad A p e R s mth args below meth c Z hC hE ls H locs cells slots hR hL hc hs) (fun q => kf (by rw [← i32_0] at q; first | simpa [hx.eq InR.zero] using q | (simp only [hx.eq InR.zero, hx.lt InR.zero, hx.le InR.zero, InR.zero.lt hx, InR.zero.le hx, GE.ge, GT.gt, ne_eq] at q; omega)) l D cA ad A p e R s mth args below meth c Z hC hE ls H locs cells slots hR hL hc hs)
theorem gt_if_ne {g d : Nat} {Y : MD} {tp : Nat} {Q : Mem → Prop} {pc : Nat} {L S : List AV} {m : Mem} {x off : Int} {tgt : Nat} (hd : decode Y.2.1 pc = .ok (.ifCond .ne off, 3)) (ht : (pc : Int) + off = (tgt : Int)) (hx : InR x) (kt : ¬ x = 0 → GoT tp g d Y Q tgt L S m) (kf : x = 0 → GoT tp g d Y Q (pc + 3) L S m) : GoT tp g d Y Q pc L (vi x :: S) m := by
  intro l D cA ad A p e R s mth args below meth c Z hC hE ls H locs cells slots hR hL hc hs
  refine lv_if_ne hC.1 hC.2.1 hd ht (fun q => kt (by rw [← i32_0] at q; first | simpa [hx.eq InR.zero] using q | (simp only [hx.eq InR.zero, hx.lt InR.zero, hx.le InR.zero, InR.zero.lt hx, InR.zero.le hx, GE.ge, GT.gt, ne_eq] at q; omega)) l D cA ad A p e R s mth args below meth c Z hC hE ls H locs cells slots hR hL hc hs) (fun q => kf (by rw [← i32_0] at q; first | simpa [hx.eq InR.zero] using q | (simp only [hx.eq InR.zero, hx.lt InR.zero, hx.le InR.zero, InR.zero.lt hx, InR.zero.le hx, GE.ge, GT.gt, ne_eq] at q; omega)) l D cA ad A p e R s mth args below meth c Z hC hE ls H locs cells slots hR hL hc hs)
theorem gt_if_lt {g d : Nat} {Y : MD} {tp : Nat} {Q : Mem → Prop} {pc : Nat} {L S : List AV} {m : Mem} {x off : Int} {tgt : Nat} (hd : decode Y.2.1 pc = .ok (.ifCond .lt off, 3)) (ht : (pc : Int) + off = (tgt : Int)) (hx : InR x) (kt : x < 0 → GoT tp g d Y Q tgt L S m) (kf : 0 ≤ x → GoT tp g d Y Q (pc + 3) L S m) : GoT tp g d Y Q pc L (vi x :: S) m := by
  intro l D cA ad A p e R s mth args below meth c Z hC hE ls H locs cells slots hR hL hc hs
  refine lv_if_lt hC.1 hC.2.1 hd ht (fun q => kt (by rw [← i32_0] at q; first | simpa [hx.eq InR.zero] using q | (simp only [hx.eq InR.zero, hx.lt InR.zero, hx.le InR.zero, InR.zero.lt hx, InR.zero.le hx, GE.ge, GT.gt, ne_eq] at q; omega)) l D cA ad A p e R s mth args below meth c Z hC hE ls H locs cells slots hR hL hc hs) (fun q => kf (by rw [← i32_0] at q; first | simpa [hx.eq InR.zero] using q | (simp only [hx.eq InR.zero, hx.lt InR.zero, hx.le InR.zero, InR.zero.lt hx, InR.zero.le hx, GE.ge, GT.gt, ne_eq] at q; omega)) l D cA ad A p e R s mth args below meth c Z hC hE ls H locs cells slots hR hL hc hs)
theorem gt_icmp_lt {g d : Nat} {Y : MD} {tp : Nat} {Q : Mem → Prop} {pc : Nat} {L S : List AV} {m : Mem} {x y off : Int} {tgt : Nat} (hd : decode Y.2.1 pc = .ok (.if_icmp .lt off, 3)) (ht : (pc : Int) + off = (tgt : Int)) (hx : InR x) (hy : InR y) (kt : x < y → GoT tp g d Y Q tgt L S m) (kf : y ≤ x → GoT tp g d Y Q (pc + 3) L S m) : GoT tp g d Y Q pc L (vi y :: vi x :: S) m := by
  intro l D cA ad A p e R s mth args below meth c Z hC hE ls H locs cells slots hR hL hc hs
  refine lv_icmp_lt hC.1 hC.2.1 hd ht (fun q => kt (by first | simpa [hx.eq hy] using q | (simp only [hx.eq hy, hx.lt hy, hx.le hy, hy.lt hx, hy.le hx, GE.ge, GT.gt, ne_eq] at q; omega)) l D cA ad A p e R s mth args below meth c Z hC hE ls H locs cells slots hR hL hc hs) (fun q => kf (by first | simpa [hx.eq hy] using q | (simp only [hx.eq hy, hx.lt hy, hx.le hy, hy.lt hx, hy.le hx, GE.ge, GT.gt, ne_eq] at q; omega)) l D cA ad A p e R s mth args below meth c Z hC hE ls H locs cells slots hR hL hc hs)
theorem gt_icmp_le {g d : Nat} {Y : MD} {tp : Nat} {Q : Mem → Prop} {pc : Nat} {L S : List AV} {m : Mem} {x y off : Int} {tgt : Nat} (hd : decode Y.2.1 pc = .ok (.if_icmp .le off, 3)) (ht : (pc : Int) + off = (tgt : Int)) (hx : InR x) (hy : InR y) (kt : x ≤ y → GoT tp g d Y Q tgt L S m) (kf : y < x → GoT tp g d Y Q (pc + 3) L S m) : GoT tp g d Y Q pc L (vi y :: vi x :: S) m := by
  intro l D cA ad A p e R s mth args below meth c Z hC hE ls H locs cells slots hR hL hc hs
  refine lv_icmp_le hC.1 hC.2.1 hd ht (fun q => kt (by first | simpa [hx.eq hy] using q | (simp only [hx.eq hy, hx.lt hy, hx.le hy, hy.lt hx, hy.le hx, GE.ge, GT.gt, ne_eq] at q; omega)) l D cA ad A p e R s mth args below meth c Z hC hE ls H locs cells slots hR hL hc hs) (fun q => kf (by first | simpa [hx.eq hy] using q | (simp only [hx.eq hy, hx.lt hy, hx.le hy, hy.lt hx, hy.le hx, GE.ge, GT.gt, ne_eq] at q; omega)) l D cA ad A p e R s mth args below meth c Z hC hE ls H locs cells slots hR hL hc hs)
theorem gt_callV {g d : Nat} {Y : MD} {tp : Nat} {Q : Mem → Prop} {pc : Nat} {L S : List AV} {m : Mem} {d' idx n b ci : Nat} {Y' : MD} {as : List AV} {Q' : Int → Mem → Prop} {S0 : List AV} (hE : Ev 0 d' Y' (vr b :: as) m Q') (hd : decode Y.2.1 pc = .ok (.invokevirtual idx, 3)) (hcv : CV Y.1.cls idx Y' n) (hn : as.length = n) (hst : S0 = as.reverse ++ vr b :: S) (ho : ob b ci) (hci : (cls[ci]?).map (fun q => q.1) = some Y'.1.cls) (hdp : d' + 1 ≤ d) (hrm : scat S ≤ 8) (k : ∀ r m', Q' r m' → rOk Y'.2.2.2 r → GoT tp g d Y Q (pc + 3) L (rSt Y'.2.2.2 r ++ S) m') : GoT tp g d Y Q pc L S0 m := by
  subst hst
  intro l D cA ad A p e R s mth args below meth c Z hC hE0 ls H locs cells slots hR hL hc hs
  obtain ⟨⟨hlk, hini, hcode, hy1, hy2, hpd, hml⟩, hin, hsel⟩ := hcv
  obtain ⟨hx, hb, hmL, hown, hts, hnw, hK, hA, hStt, hfr, hlo, hfl⟩ := id hC
  obtain ⟨hP, hD, hS, hCan⟩ := id hR
  obtain ⟨q, hq, hqn⟩ : ∃ q, cls[ci]? = some q ∧ q.1 = Y'.1.cls := by
    cases h : cls[ci]? with
    | none => rw [h] at hci; cases hci
    | some q => rw [h] at hci; exact ⟨q, rfl, Option.some.inj hci⟩
  have he : (Wd cA ad m)[b]? = some (ad b, .inr (ci, objFs ad m b)) := by rw [Wd_at ho.1, cellE_ob ho]
  have hrecv := va_recv hK hP hq he
  rw [hqn] at hrecv
  have hF := freeY hD hS hA
  have hpre : PreV s H Y'.1.cls (ad b) (PcY cA D ad H.size (vr b :: as) m) (as.map (toV ad)) := ⟨PcY_blind, hrecv, fun U hU hW => ⟨rfl, by rw [hU], by rw [hU]; exact hP, va_K.moved hW.alike hK, hD.weaken (fun _ _ _ _ => trivial), hCan, nest_warm hW hnw, by rw [hU]; exact hStt.down hW hF (fun q h1 h2 => hS.2.1 q h1 h2)⟩⟩
  have hMet := hE l D cA ad H.size hfl
  have hroom : (rmY 0 d').frames + 1 ≤ R.frames ∧ 8 + (Y'.2.2.1 + 11) + (rmY 0 d').locals ≤ R.locals := ⟨by show d' + 1 ≤ _; omega, by show _ + 40 * d' ≤ _; omega⟩
  have hstk : (F0 mth pc ls ((as.reverse ++ vr b :: S).map (toV ad))).stack = (as.map (toV ad)).reverse ++ .ref (ad b) :: S.map (toV ad) := by simp [toV]
  have hWst : 2 * (F0 mth pc ls ((as.reverse ++ vr b :: S).map (toV ad))).monitorRoom + ((S.map (toV ad)).map fun v => v.category).sum ≤ 8 := lv_room (by rw [scat_eq]; exact hrm)
  have hrun : va_Run p l e R s mth args below meth c H locs cells slots 0 (20 * 0) (F0 mth pc ls ((as.reverse ++ vr b :: S).map (toV ad))) (S.map (toV ad)) (QcY Y'.2.2.2 Q' (BY cA D ad (va_A (Wd cA ad m) H.size)) (va_A (Wd cA ad m) H.size) (Value.ref (ad b) :: as.map (toV ad)).toArray) (va_A (Wd cA ad m) H.size) := by
    rcases hlk with hlk | ⟨host, hlk⟩
    · exact va_runV ⟨hx, hb, hmL, hown, hts⟩ hMet ⟨callB_of n hts (wsY_good hcode) rfl rfl rfl (hts _ hini) (hts _ hlk) ⟨hy1, hy2, hpd⟩ hroom, hts _ hin, hts _ hsel⟩ hpre rfl (by simpa using hn) hL.1 hstk hWst hd ⟨by omega, by omega⟩
    · exact va_runVN ⟨hx, hb, hmL, hown, hts⟩ hMet ⟨va_cnB n hts (wsY_good hcode) rfl rfl rfl (hnw _ hlk) (hts _ hini) ⟨hy1, hy2, hpd⟩ hroom, hts _ hin, hts _ hsel⟩ hpre rfl (by simpa using hn) hL.1 hstk hWst hd ⟨by omega, by omega⟩
  refine after_call (ad := ad) hrun hS (fun q _ h => hF q h) hF (fun r u t H1 locs1 h1 h2 h3 h4 h5 h6 h7 h8 => ?_)
  obtain ⟨b1, b2, b3⟩ := h5
  have k := k r u h3 h4 l D cA ad A p e R s mth args below meth c Z hC hE0 ls H1 locs1 (cells + 0) (slots + 20 * 0) ⟨by rw [← h1]; exact b1, b2.weaken (fun _ q _ h => hF q.1 h), h8, b3⟩ hL (by omega) (by omega)
  rw [List.map_append] at k
  exact k
theorem gt_callVp_z {g d : Nat} {Y : MD} {tp : Nat} {Q : Mem → Prop} {pc : Nat} {L S : List AV} {m : Mem} {d' idx n b ci : Nat} {Y' : MD} {as : List AV} {P : Int → Prop} {S0 : List AV} (hE : Ev 0 d' Y' (vr b :: as) m (fun r m' => m' = m ∧ P r)) (hrt : Y'.2.2.2 = some .boolean) (hd : decode Y.2.1 pc = .ok (.invokevirtual idx, 3)) (hcv : CV Y.1.cls idx Y' n) (hn : as.length = n) (hst : S0 = as.reverse ++ vr b :: S) (ho : ob b ci) (hci : (cls[ci]?).map (fun q => q.1) = some Y'.1.cls) (hdp : d' + 1 ≤ d) (hrm : scat S ≤ 8) (k : ∀ r, P r → (r = 0 ∨ r = 1) → GoT tp g d Y Q (pc + 3) L (vi r :: S) m) : GoT tp g d Y Q pc L S0 m :=
  gt_callV hE hd hcv hn hst ho hci hdp hrm (fun r m' h1 h2 => by
    rw [hrt] at h2 ⊢
    obtain ⟨rfl, h1⟩ := h1; exact k r h1 h2)
theorem gt_end {g d : Nat} {Y : MD} {tp : Nat} {Q : Mem → Prop} {L : List AV} {m : Mem} (hq : Q m) : GoT tp g d Y Q tp L [] m := by
  intro l D cA ad A p e R s mth args below meth c Z hC hE ls H locs cells slots hR hL hc hs
  exact hE m ls H locs cells slots hq hR hL.1 hc hs
/-! ===== a method that throws: its contract, and how it is come by ===== -/
def NSE : String := "java/util/NoSuchElementException"
def nmE : List String := ["java/lang/RuntimeException", "java/lang/Exception"]
def XcY (cA : Nat → ClassId) (D : va_G) (ad : Nat → Nat) (A : Nat → Prop) (m : Mem) : String → State → State → Prop :=
  vx_X (fun m' : Mem => m' = m) (fun E m' t => E = NSE ∧ BY cA D ad A m' t) A
def EvX (d : Nat) (Y : MD) (as : List AV) (m : Mem) : Prop :=
  ∀ (l : Launch) (D : va_G) (cA : Nat → ClassId) (ad : Nat → Nat) (sz : Nat), l.flags = flags0 → l.stackTraces = false →
    vx_Met l Y.1 (wsY Y) (rmY 1 d) (PcY cA D ad sz as m) (fun _ _ _ _ => False) (XcY cA D ad (va_A (Wd cA ad m) sz) m) 1 20 (va_A (Wd cA ad m) sz)
theorem at0_tbl : ∀ w ∈ (vx_at0 "CartTurns" 135 NSE nmE).filter goodWord, w ∈ tblG := by
  intro w hw
  have h : ((vx_at0 "CartTurns" 135 NSE nmE).filter goodWord).all (fun w => decide (w ∈ lw_tbl)) = true := by decide +kernel
  exact tblG_in (of_decide_eq_true (List.all_eq_true.mp h w hw)) (List.mem_filter.mp hw).2
theorem at0_ot : (Cond.classLink "CartTurns" 133 NSE :: Cond.initialized NSE :: vx_at0 "CartTurns" 135 NSE nmE).all vx_ot = true := by decide +kernel
theorem nse_l0 : (decide (Cond.classLink "CartTurns" 133 NSE ∈ lw_tbl) && decide (Cond.initialized NSE ∈ lw_tbl) && goodWord (Cond.classLink "CartTurns" 133 NSE) && goodWord (Cond.initialized NSE)) = true := by decide +kernel
theorem nse_lk : Cond.classLink "CartTurns" 133 NSE ∈ tblG ∧ Cond.initialized NSE ∈ tblG := by
  have h := nse_l0
  simp only [Bool.and_eq_true, decide_eq_true_eq] at h
  exact ⟨tblG_in h.1.1.1 h.1.2, tblG_in h.1.1.2 h.2⟩
theorem EvX.of {d : Nat} {Y : MD} {as L : List AV} {m : Mem} (hp : plainName Y.1.cls = true) (hu : as.all (fun v => !isUn v) = true) (hl : (enL as).length ≤ Y.2.2.1) (hL : L = enL as ++ List.replicate (Y.2.2.1 - (enL as).length) un) (hcl : Y.1.cls = "CartTurns") (hd6 : 6 ≤ d) {tp : Nat} (d0 : decode Y.2.1 tp = .ok (.new 133, 3)) (d3 : decode Y.2.1 (tp + 3) = .ok (.dup, 1)) (d4 : decode Y.2.1 (tp + 4) = .ok (.invokespecial 135, 3)) (d7 : decode Y.2.1 (tp + 7) = .ok (.athrow, 1)) (k : Can m → GoT tp 1 d Y (fun m' => m' = m) 0 L [] m) : EvX d Y as m := by
  intro l D cA ad sz hfl htr
  refine vx_ofW (cc := Y.2.1) (maxL := Y.2.2.1) (ret := Y.2.2.2) hp rfl ?_
  intro p e s mth args below meth c s₁ B hml hex hv
  obtain ⟨rfl, hsz, hP, hK, hD0, hCan, hnw, hStt⟩ := hv
  subst hsz
  have hts0 := atoms_spec (ws := wsY Y) B.pre
  have hts : ∀ w ∈ tblG, w.before (as.map (toV ad)).toArray s = true := fun w h => hts0 w (List.mem_cons_of_mem _ h)
  have hlen : (lg_sl (as.map (toV ad))).length = (enL as).length := by
    unfold lg_sl enL
    rw [List.length_flatMap, List.length_flatMap, List.map_map]
    congr 1
    apply List.map_congr_left
    intro v _
    by_cases h : isLg v = true
    · match v, h with
      | .inr (.inl x), _ => rfl
    · have := cat_lg (ad := ad) (v := v) (by simpa using h)
      simp [this, h]
  have hen := lv_entry (as.map (toV ad)) (n := Y.2.2.1) (by rw [hlen]; exact hl)
  rw [lg_entry_eq]
  generalize (lg_sl (as.map (toV ad)) ++ List.replicate (Y.2.2.1 - (lg_sl (as.map (toV ad))).length) Slot.unset).toArray = ls at hen ⊢
  have hLs : lv_has ls Y.2.2.1 (lvL ad L) := by
    refine ⟨hen.1, hen.2.1, fun q hq => hen.2.2 q (lvL_entry hu 0 q ?_)⟩
    unfold lvL at hq
    rw [hL, List.zipIdx_append, List.filterMap_append, List.mem_append] at hq
    rcases hq with hq | hq
    · exact hq
    · exfalso
      obtain ⟨⟨v, j⟩, h1, h2⟩ := List.mem_filterMap.mp hq
      have hv : v = un := by
        have := List.fst_mem_of_mem_zipIdx h1
        exact (List.mem_replicate.mp this).2
      subst hv
      simp [isUn] at h2
  have hA : ∀ q : Nat, s.heap.size ≤ q → va_A (Wd cA ad m) s.heap.size q := fun q h => Or.inr h
  have hD := hD0.self (sz := s.heap.size)
  refine k hCan l D cA ad (va_A (Wd cA ad m) s.heap.size) p e _ s mth _ below meth c _ ⟨B.exec, B.bytes, hml, findClass_of_methodNamed B.named, hts, hnw, hK, hA, hStt, Nat.le_refl _, Nat.le_refl _, hfl⟩ ?_ ls s.heap [] 0 0 ⟨hP, hD, va_S.rf, hCan⟩ hLs (by show 0 + 1 ≤ 1; omega) (by show 0 + 20 * 1 ≤ 20 * 1; omega)
  intro m' ls' H locs cells slots hQ hR hlz hc hs
  subst hQ
  have hown : s.vm.findClass "CartTurns" = some mth.cls := by rw [← hcl]; exact findClass_of_methodNamed B.named
  have hc : cells + 1 ≤ 1 := hc
  have hs : slots + 20 * 1 ≤ 20 * 1 := hs
  have hX := hStt.2.2.2.2.1.2.2.2
  have hT := hStt.2.2.2.2.2.2.2.2
  refine vx_throw0 (own := "CartTurns") (cls := NSE) (names := nmE) (ik := 133) (ic := 135) B.exec B.bytes htr hown (by decide +kernel) (by decide +kernel) (hts _ nse_lk.1) (hts _ nse_lk.2)
    (vx_hat (B := thrW) (fun w hw => hts w (at0_tbl w hw)) (fun w hw => hw) (fun w hw => va_Nw.use (th_onTables (List.all_eq_true.mp thrW_is w hw)) (hT w hw))) (fun w hw => List.all_eq_true.mp at0_ot w hw) hX.1 hX.2 hR.2.2.1 (hlz.trans hml.symm) d0 d3 d4 d7 (fun x hx => (hex x hx).elim)
    (by show 2 + 3 < d; omega) (by show 0 + (13 * (2 + 1) + 42) ≤ 40 * d; omega) (by show cells + 1 ≤ 1; omega) (by show slots + 6 ≤ 20 * 1; omega) B.notSynchronized ?_ hR.2.2.1.2.2 (by omega) (by omega)
  intro t hal hsz hq
  exact ⟨m', rfl, ⟨rfl, hR.1.kept (fun k q hk => hq q.1 (vx_lt hR.1 hk)), hR.2.1, hR.2.2.2⟩, ⟨Nat.le_trans hR.2.2.1.1 hsz, fun q h1 h2 => by rw [hq q (Nat.lt_of_lt_of_le h1 hR.2.2.1.1)]; exact hR.2.2.1.2.1 q h1 h2⟩⟩
