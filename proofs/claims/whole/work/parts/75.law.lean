/-! ===== person and mean where they throw ===== -/
theorem dX11_person_21 : decode mX11_person.2.1 21 = .ok (.new 133, 3) := by decide +kernel
theorem dX11_person_24 : decode mX11_person.2.1 24 = .ok (.dup, 1) := by decide +kernel
theorem dX11_person_25 : decode mX11_person.2.1 25 = .ok (.invokespecial 135, 3) := by decide +kernel
theorem dX11_person_28 : decode mX11_person.2.1 28 = .ok (.athrow, 1) := by decide +kernel
theorem dX11_mean_25 : decode mX11_mean.2.1 25 = .ok (.new 133, 3) := by decide +kernel
theorem dX11_mean_28 : decode mX11_mean.2.1 28 = .ok (.dup, 1) := by decide +kernel
theorem dX11_mean_29 : decode mX11_mean.2.1 29 = .ok (.invokespecial 135, 3) := by decide +kernel
theorem dX11_mean_32 : decode mX11_mean.2.1 32 = .ok (.athrow, 1) := by decide +kernel
theorem evx_X11_person {m : Mem} {p v : Int} (hdn : DnOk m 8) (hp : InR p) (hv : InR v) (hno : ¬ ((0 ≤ p ∧ p < m 8 3) ∧ 0 ≤ v ∧ v ≤ 6)) : EvX 6 mX11_person [vr 0, vi p, vi v] m := by
  refine EvX.of (L := [vr 0, vi p, vi v]) (by decide +kernel) rfl (Nat.le_of_ble_eq_true rfl) rfl rfl (Nat.le_refl _) dX11_person_21 dX11_person_24 dX11_person_25 dX11_person_28 (fun hcan => ?_)
  refine gt_aload_n dX11_person_0 rfl ?_
  refine gt_getf_p (b := 7) dX11_person_1 fl_11_24 ob_0 rfl pt_0_1 ?_
  refine gt_iload_n dX11_person_4 rfl ?_
  refine gt_callVp_z (as := [vi p]) (S := []) (b := 7) (ev_X10_hasPerson (m := m) (w := 7) (f := p) (d := 8) (st := 18) isWd_7 (by first | assumption | omega | exact ⟨by omega, by omega⟩ | (constructor <;> omega))) rfl dX11_person_5 cv_11_129 rfl rfl ob_7 rfl (by decide) (Nat.le_of_ble_eq_true rfl) (fun r_5 hr_5 ho_5 => ?_)
  refine gt_if_eq (tgt := 21) dX11_person_8 (by decide) ⟨by omega, by omega⟩ (fun h_8 => ?_) (fun h_8 => ?_)
  · exact gt_end rfl
  · refine gt_iload_n dX11_person_11 rfl ?_
    refine gt_if_lt (tgt := 21) dX11_person_12 (by decide) ⟨by omega, by omega⟩ (fun h_12 => ?_) (fun h_12 => ?_)
    · exact gt_end rfl
    · refine gt_iload_n dX11_person_15 rfl ?_
      refine gt_bipush dX11_person_16 (by decide) ?_
      refine gt_icmp_le (tgt := 29) dX11_person_18 (by decide) ⟨by omega, by omega⟩ ⟨by omega, by omega⟩ (fun h_18 => ?_) (fun h_18 => ?_)
      · exfalso; omega
      · exact gt_end rfl
theorem evx_X11_mean {m : Mem} {v : Int} (hdn : DnOk m 8) (hv : InR v) (hno : ¬ (m 8 3 ≠ 0 ∧ 0 ≤ v ∧ v ≤ 1)) : EvX 6 mX11_mean [vr 0, vi v] m := by
  refine EvX.of (L := [vr 0, vi v, un, un, un]) (by decide +kernel) rfl (Nat.le_of_ble_eq_true rfl) rfl rfl (Nat.le_refl _) dX11_mean_25 dX11_mean_28 dX11_mean_29 dX11_mean_32 (fun hcan => ?_)
  have h3 := hdn.2.2.2.1
  refine gt_aload_n dX11_mean_0 rfl ?_
  refine gt_getf_p (b := 7) dX11_mean_1 fl_11_24 ob_0 rfl pt_0_1 ?_
  refine gt_getf_p (b := 8) dX11_mean_4 fl_11_28 ob_7 rfl pt_7_0 ?_
  refine gt_getf_i (ki := 3) dX11_mean_7 fl_11_327 ob_8 rfl rfl (fun hf_7 => ?_)
  refine gt_istore_n (L' := [vr 0, vi v, vi (m 8 3), un, un]) dX11_mean_10 (by decide) rfl rfl ?_
  refine gt_iload_n dX11_mean_11 rfl ?_
  refine gt_iconst dX11_mean_12 ?_
  refine gt_icmp_lt (tgt := 25) dX11_mean_13 (by decide) ⟨by omega, by omega⟩ ⟨by omega, by omega⟩ (fun h_13 => ?_) (fun h_13 => ?_)
  · exact gt_end rfl
  · refine gt_iload_n dX11_mean_16 rfl ?_
    refine gt_if_lt (tgt := 25) dX11_mean_17 (by decide) ⟨by omega, by omega⟩ (fun h_17 => ?_) (fun h_17 => ?_)
    · exact gt_end rfl
    · refine gt_iload_n dX11_mean_20 rfl ?_
      refine gt_iconst dX11_mean_21 ?_
      refine gt_icmp_le (tgt := 33) dX11_mean_22 (by decide) ⟨by omega, by omega⟩ ⟨by omega, by omega⟩ (fun h_22 => ?_) (fun h_22 => ?_)
      · exfalso; omega
      · exact gt_end rfl
/-! ===== the judgement GoL ===== -/
abbrev CtxX : Type := (Nat → Nat) → (Nat → Prop) → Launch → State → Array Value → Code → Prop
def GoL (X : CtxX) (g d : Nat) (Y : MD) (Q : Int → Mem → Prop) (pc : Nat) (L S : List AV) (m : Mem) : Prop :=
  ∀ (l : Launch) (D : va_G) (cA : Nat → ClassId) (ad : Nat → Nat) (A : Nat → Prop) (p : Program) (e : Env) (R : Room) (s : State) (mth : MethodId) (args : Array Value) (below : List Frame) (meth : Method) (c : Code) (Z : State → Prop),
    Cx d Y D cA ad A l p R s mth args c → X ad A l s args c →
    (∀ (v : Int) (m' : Mem) (pc' : Nat) (ls : Array Slot) (H : Heap) (locs : List Loc) (cells slots : Nat), Q v m' → rOk Y.2.2.2 v → Rl cA D ad A s m' H locs → cells ≤ R.cells → slots ≤ R.slots → decode Y.2.1 pc' = .ok (rIn Y.2.2.2, 1) →
      W p l e R s mth args below meth c H locs cells slots Z (F0 mth pc' ls ((rSt Y.2.2.2 v).map (toV ad)))) →
    ∀ (ls : Array Slot) (H : Heap) (locs : List Loc) (cells slots : Nat), Rl cA D ad A s m H locs → lv_has ls Y.2.2.1 (lvL ad L) → cells + g ≤ R.cells → slots + 20 * g ≤ R.slots →
      W p l e R s mth args below meth c H locs cells slots Z (F0 mth pc ls (S.map (toV ad)))
theorem gl_iconst {g d : Nat} {X : CtxX} {Y : MD} {Q : Int → Mem → Prop} {pc : Nat} {L S : List AV} {m : Mem} {n : Int} (hd : decode Y.2.1 pc = .ok (.iconst n, 1))  (k : GoL X g d Y Q (pc + 1) L (vi n :: S) m) : GoL X g d Y Q pc L S m := by
  intro l D cA ad A p e R s mth args below meth c Z hC hX hE ls H locs cells slots hR hL hc hs
  have k := (k l D cA ad A p e R s mth args below meth c Z hC hX hE ls H locs cells slots hR hL hc hs)
  exact lv_iconst hC.1 hC.2.1 hd rfl k
theorem gl_bipush {g d : Nat} {X : CtxX} {Y : MD} {Q : Int → Mem → Prop} {pc : Nat} {L S : List AV} {m : Mem} {n : Int} (hd : decode Y.2.1 pc = .ok (.bipush n, 2)) (hv : (Int8.ofInt n).toInt32 = Int32.ofInt n) (k : GoL X g d Y Q (pc + 2) L (vi n :: S) m) : GoL X g d Y Q pc L S m := by
  intro l D cA ad A p e R s mth args below meth c Z hC hX hE ls H locs cells slots hR hL hc hs
  have k := (k l D cA ad A p e R s mth args below meth c Z hC hX hE ls H locs cells slots hR hL hc hs)
  exact lv_bipush hC.1 hC.2.1 hd hv k
theorem gl_iload_n {g d : Nat} {X : CtxX} {Y : MD} {Q : Int → Mem → Prop} {pc : Nat} {L S : List AV} {m : Mem} {j : Fin 4} {x : Int} (hd : decode Y.2.1 pc = .ok (.iload_n j, 1)) (hl : L[(j : Nat)]? = some (vi x)) (k : GoL X g d Y Q (pc + 1) L (vi x :: S) m) : GoL X g d Y Q pc L S m := by
  intro l D cA ad A p e R s mth args below meth c Z hC hX hE ls H locs cells slots hR hL hc hs
  have k := (k l D cA ad A p e R s mth args below meth c Z hC hX hE ls H locs cells slots hR hL hc hs)
  exact lv_iload_n hC.1 hC.2.1 hd rfl (lvL_at hL hl rfl) k
theorem gl_iload {g d : Nat} {X : CtxX} {Y : MD} {Q : Int → Mem → Prop} {pc : Nat} {L S : List AV} {m : Mem} {j : Nat} {x : Int} (hd : decode Y.2.1 pc = .ok (.iload j, 2)) (hl : L[j]? = some (vi x)) (k : GoL X g d Y Q (pc + 2) L (vi x :: S) m) : GoL X g d Y Q pc L S m := by
  intro l D cA ad A p e R s mth args below meth c Z hC hX hE ls H locs cells slots hR hL hc hs
  have k := (k l D cA ad A p e R s mth args below meth c Z hC hX hE ls H locs cells slots hR hL hc hs)
  exact lv_iload hC.1 hC.2.1 hd (lvL_at hL hl rfl) k
theorem gl_aload_n {g d : Nat} {X : CtxX} {Y : MD} {Q : Int → Mem → Prop} {pc : Nat} {L S : List AV} {m : Mem} {j : Fin 4} {a : Nat} (hd : decode Y.2.1 pc = .ok (.aload_n j, 1)) (hl : L[(j : Nat)]? = some (vr a)) (k : GoL X g d Y Q (pc + 1) L (vr a :: S) m) : GoL X g d Y Q pc L S m := by
  intro l D cA ad A p e R s mth args below meth c Z hC hX hE ls H locs cells slots hR hL hc hs
  have k := (k l D cA ad A p e R s mth args below meth c Z hC hX hE ls H locs cells slots hR hL hc hs)
  exact lv_aload_n hC.1 hC.2.1 hd rfl (lvL_at hL hl rfl) k
theorem gl_istore {g d : Nat} {X : CtxX} {Y : MD} {Q : Int → Mem → Prop} {pc : Nat} {L S : List AV} {m : Mem} {j : Nat} {x : Int} {L' : List AV} (hd : decode Y.2.1 pc = .ok (.istore j, 2)) (hn : j < Y.2.2.1) (hg : lgAt L j = false) (hl : L.set j (vi x) = L') (k : GoL X g d Y Q (pc + 2) L' S m) : GoL X g d Y Q pc L (vi x :: S) m := by
  intro l D cA ad A p e R s mth args below meth c Z hC hX hE ls H locs cells slots hR hL hc hs
  subst hl
  exact lv_istore hC.1 hC.2.1 hd hL hn rfl (fun ls' hl' => k l D cA ad A p e R s mth args below meth c Z hC hX hE ls' H locs cells slots hR (lvL_st1 hl' hg) hc hs)
theorem gl_iinc {g d : Nat} {X : CtxX} {Y : MD} {Q : Int → Mem → Prop} {pc : Nat} {L S : List AV} {m : Mem} {j : Nat} {n x : Int} {L' : List AV} (hd : decode Y.2.1 pc = .ok (.iinc j n, 3)) (hx : L[j]? = some (vi x)) (hn : j < Y.2.2.1) (hg : lgAt L j = false) (hl : L.set j (vi (x + n)) = L') (k : GoL X g d Y Q (pc + 3) L' S m) : GoL X g d Y Q pc L S m := by
  intro l D cA ad A p e R s mth args below meth c Z hC hX hE ls H locs cells slots hR hL hc hs
  subst hl
  obtain ⟨i0, hi0⟩ := List.getElem?_of_mem (lvL_mk (ad := ad) hx rfl)
  exact lv_iinc hC.1 hC.2.1 hd hL hi0 (Int32.ofInt_add x n).symm hn rfl (fun ls' hl' => k l D cA ad A p e R s mth args below meth c Z hC hX hE ls' H locs cells slots hR (lvL_st1 hl' hg) hc hs)
theorem gl_iadd {g d : Nat} {X : CtxX} {Y : MD} {Q : Int → Mem → Prop} {pc : Nat} {L S : List AV} {m : Mem} {x y : Int} (hd : decode Y.2.1 pc = .ok (.iadd, 1))  (k : GoL X g d Y Q (pc + 1) L (vi (x + y) :: S) m) : GoL X g d Y Q pc L (vi y :: vi x :: S) m := by
  intro l D cA ad A p e R s mth args below meth c Z hC hX hE ls H locs cells slots hR hL hc hs
  have k := (k l D cA ad A p e R s mth args below meth c Z hC hX hE ls H locs cells slots hR hL hc hs)
  refine lv_iadd hC.1 hC.2.1 hd ?_
  rw [← Int32.ofInt_add]
  exact k
theorem gl_isub {g d : Nat} {X : CtxX} {Y : MD} {Q : Int → Mem → Prop} {pc : Nat} {L S : List AV} {m : Mem} {x y : Int} (hd : decode Y.2.1 pc = .ok (.isub, 1))  (k : GoL X g d Y Q (pc + 1) L (vi (x - y) :: S) m) : GoL X g d Y Q pc L (vi y :: vi x :: S) m := by
  intro l D cA ad A p e R s mth args below meth c Z hC hX hE ls H locs cells slots hR hL hc hs
  have k := (k l D cA ad A p e R s mth args below meth c Z hC hX hE ls H locs cells slots hR hL hc hs)
  refine lv_isub hC.1 hC.2.1 hd ?_
  rw [← Int32.ofInt_sub]
  exact k
theorem gl_iand {g d : Nat} {X : CtxX} {Y : MD} {Q : Int → Mem → Prop} {pc : Nat} {L S : List AV} {m : Mem} {x y : Int} (hd : decode Y.2.1 pc = .ok (.iand, 1))  (k : GoL X g d Y Q (pc + 1) L (vi (iand x y) :: S) m) : GoL X g d Y Q pc L (vi y :: vi x :: S) m := by
  intro l D cA ad A p e R s mth args below meth c Z hC hX hE ls H locs cells slots hR hL hc hs
  have k := (k l D cA ad A p e R s mth args below meth c Z hC hX hE ls H locs cells slots hR hL hc hs)
  refine lv_iand hC.1 hC.2.1 hd ?_
  rw [show _ = Int32.ofInt (iand x y) from (Int32.ofInt_toInt _).symm]
  exact k
theorem gl_i2l {g d : Nat} {X : CtxX} {Y : MD} {Q : Int → Mem → Prop} {pc : Nat} {L S : List AV} {m : Mem} {x : Int} (hd : decode Y.2.1 pc = .ok (.i2l, 1)) (hx : InR x) (k : GoL X g d Y Q (pc + 1) L (vl x :: S) m) : GoL X g d Y Q pc L (vi x :: S) m := by
  intro l D cA ad A p e R s mth args below meth c Z hC hX hE ls H locs cells slots hR hL hc hs
  exact lv_i2l hC.1 hC.2.1 hd (by rw [← Int64.toInt_inj, Int32.toInt_toInt64, hx.i, InL.i ⟨by unfold InR at hx; omega, by unfold InR at hx; omega⟩]) (k l D cA ad A p e R s mth args below meth c Z hC hX hE ls H locs cells slots hR hL hc hs)
theorem gl_lcmp {g d : Nat} {X : CtxX} {Y : MD} {Q : Int → Mem → Prop} {pc : Nat} {L S : List AV} {m : Mem} {x y : Int} (hd : decode Y.2.1 pc = .ok (.lcmp, 1)) (hx : InL x) (hy : InL y) (k : GoL X g d Y Q (pc + 1) L (vi (lcmpI x y) :: S) m) : GoL X g d Y Q pc L (vl y :: vl x :: S) m := by
  intro l D cA ad A p e R s mth args below meth c Z hC hX hE ls H locs cells slots hR hL hc hs
  have k := (k l D cA ad A p e R s mth args below meth c Z hC hX hE ls H locs cells slots hR hL hc hs)
  refine W.lcmp hC.1 hC.2.1 hd ?_
  have e : lg_cmp (Int64.ofInt x) (Int64.ofInt y) = Int32.ofInt (lcmpI x y) := by
    have h1 : Int64.ofInt x > Int64.ofInt y ↔ y < x := by rw [gt_iff_lt, Int64.lt_iff_toInt_lt, hx.i, hy.i]
    have h2 : Int64.ofInt x = Int64.ofInt y ↔ x = y := by rw [← Int64.toInt_inj, hx.i, hy.i]
    unfold lcmpI lg_cmp
    simp only [h1, h2]
    by_cases a1 : y < x
    · rw [if_pos a1, if_neg (by omega), if_neg (by omega)]; rfl
    · rw [if_neg a1]
      by_cases a2 : x = y
      · rw [if_pos a2, if_neg (by omega), if_pos a2]; rfl
      · rw [if_neg a2, if_pos (by omega)]; rfl
  rw [e]
  exact k
theorem gl_goto {g d : Nat} {X : CtxX} {Y : MD} {Q : Int → Mem → Prop} {pc : Nat} {L S : List AV} {m : Mem} {off : Int} {tgt : Nat} (hd : decode Y.2.1 pc = .ok (.goto off, 3)) (ht : (pc : Int) + off = (tgt : Int)) (k : GoL X g d Y Q tgt L S m) : GoL X g d Y Q pc L S m := by
  intro l D cA ad A p e R s mth args below meth c Z hC hX hE ls H locs cells slots hR hL hc hs
  exact lv_goto hC.1 hC.2.1 hd ht (k l D cA ad A p e R s mth args below meth c Z hC hX hE ls H locs cells slots hR hL hc hs)
theorem gl_icmp_eq {g d : Nat} {X : CtxX} {Y : MD} {Q : Int → Mem → Prop} {pc : Nat} {L S : List AV} {m : Mem} {x y off : Int} {tgt : Nat} (hd : decode Y.2.1 pc = .ok (.if_icmp .eq off, 3)) (ht : (pc : Int) + off = (tgt : Int)) (hx : InR x) (hy : InR y) (kt : x = y → GoL X g d Y Q tgt L S m) (kf : ¬ x = y → GoL X g d Y Q (pc + 3) L S m) : GoL X g d Y Q pc L (vi y :: vi x :: S) m := by
  intro l D cA ad A p e R s mth args below meth c Z hC hX hE ls H locs cells slots hR hL hc hs
  refine lv_icmp_eq hC.1 hC.2.1 hd ht (fun q => kt (by first | simpa [hx.eq hy] using q | (simp only [hx.eq hy, hx.lt hy, hx.le hy, hy.lt hx, hy.le hx, GE.ge, GT.gt, ne_eq] at q; omega)) l D cA ad A p e R s mth args below meth c Z hC hX hE ls H locs cells slots hR hL hc hs) (fun q => kf (by first | simpa [hx.eq hy] using q | (simp only [hx.eq hy, hx.lt hy, hx.le hy, hy.lt hx, hy.le hx, GE.ge, GT.gt, ne_eq] at q; omega)) l D cA ad A p e R s mth args below meth c Z hC hX hE ls H locs cells slots hR hL hc hs)
theorem gl_icmp_gt {g d : Nat} {X : CtxX} {Y : MD} {Q : Int → Mem → Prop} {pc : Nat} {L S : List AV} {m : Mem} {x y off : Int} {tgt : Nat} (hd : decode Y.2.1 pc = .ok (.if_icmp .gt off, 3)) (ht : (pc : Int) + off = (tgt : Int)) (hx : InR x) (hy : InR y) (kt : y < x → GoL X g d Y Q tgt L S m) (kf : x ≤ y → GoL X g d Y Q (pc + 3) L S m) : GoL X g d Y Q pc L (vi y :: vi x :: S) m := by
  intro l D cA ad A p e R s mth args below meth c Z hC hX hE ls H locs cells slots hR hL hc hs
  refine lv_icmp_gt hC.1 hC.2.1 hd ht (fun q => kt (by first | simpa [hx.eq hy] using q | (simp only [hx.eq hy, hx.lt hy, hx.le hy, hy.lt hx, hy.le hx, GE.ge, GT.gt, ne_eq] at q; omega)) l D cA ad A p e R s mth args below meth c Z hC hX hE ls H locs cells slots hR hL hc hs) (fun q => kf (by first | simpa [hx.eq hy] using q | (simp only [hx.eq hy, hx.lt hy, hx.le hy, hy.lt hx, hy.le hx, GE.ge, GT.gt, ne_eq] at q; omega)) l D cA ad A p e R s mth args below meth c Z hC hX hE ls H locs cells slots hR hL hc hs)
theorem gl_if_eq {g d : Nat} {X : CtxX} {Y : MD} {Q : Int → Mem → Prop} {pc : Nat} {L S : List AV} {m : Mem} {x off : Int} {tgt : Nat} (hd : decode Y.2.1 pc = .ok (.ifCond .eq off, 3)) (ht : (pc : Int) + off = (tgt : Int)) (hx : InR x) (kt : x = 0 → GoL X g d Y Q tgt L S m) (kf : ¬ x = 0 → GoL X g d Y Q (pc + 3) L S m) : GoL X g d Y Q pc L (vi x :: S) m := by
  intro l D cA ad A p e R s mth args below meth c Z hC hX hE ls H locs cells slots hR hL hc hs
  refine lv_if_eq hC.1 hC.2.1 hd ht (fun q => kt (by rw [← i32_0] at q; first | simpa [hx.eq InR.zero] using q | (simp only [hx.eq InR.zero, hx.lt InR.zero, hx.le InR.zero, InR.zero.lt hx, InR.zero.le hx, GE.ge, GT.gt, ne_eq] at q; omega)) l D cA ad A p e R s mth args below meth c Z hC hX hE ls H locs cells slots hR hL hc hs) (fun q => kf (by rw [← i32_0] at q; first | simpa [hx.eq InR.zero] using q | (simp only [hx.eq InR.zero, hx.lt InR.zero, hx.le InR.zero, InR.zero.lt hx, InR.zero.le hx, GE.ge, GT.gt, ne_eq] at q; omega)) l D cA ad A p e R s mth args below meth c Z hC hX hE ls H locs cells slots hR hL hc hs)
theorem gl_if_ne {g d : Nat} {X : CtxX} {Y : MD} {Q : Int → Mem → Prop} {pc : Nat} {L S : List AV} {m : Mem} {x off : Int} {tgt : Nat} (hd : decode Y.2.1 pc = .ok (.ifCond .ne off, 3)) (ht : (pc : Int) + off = (tgt : Int)) (hx : InR x) (kt : ¬ x = 0 → GoL X g d Y Q tgt L S m) (kf : x = 0 → GoL X g d Y Q (pc + 3) L S m) : GoL X g d Y Q pc L (vi x :: S) m := by
  intro l D cA ad A p e R s mth args below meth c Z hC hX hE ls H locs cells slots hR hL hc hs
  refine lv_if_ne hC.1 hC.2.1 hd ht (fun q => kt (by rw [← i32_0] at q; first | simpa [hx.eq InR.zero] using q | (simp only [hx.eq InR.zero, hx.lt InR.zero, hx.le InR.zero, InR.zero.lt hx, InR.zero.le hx, GE.ge, GT.gt, ne_eq] at q; omega)) l D cA ad A p e R s mth args below meth c Z hC hX hE ls H locs cells slots hR hL hc hs) (fun q => kf (by rw [← i32_0] at q; first | simpa [hx.eq InR.zero] using q | (simp only [hx.eq InR.zero, hx.lt InR.zero, hx.le InR.zero, InR.zero.lt hx, InR.zero.le hx, GE.ge, GT.gt, ne_eq] at q; omega)) l D cA ad A p e R s mth args below meth c Z hC hX hE ls H locs cells slots hR hL hc hs)
theorem gl_tswitch {g d : Nat} {X : CtxX} {Y : MD} {Q : Int → Mem → Prop} {pc : Nat} {L S : List AV} {m : Mem} {x dflt lo hi : Int} {offs : Array Int} {len tgt : Nat} (hd : decode Y.2.1 pc = .ok (.tableswitch dflt lo hi offs, len)) (hx : InR x) (ht : (pc : Int) + dflt = (tgt : Int)) (ki : ∀ n : Nat, x = lo + n → x ≤ hi → ∃ (off : Int) (t : Nat), offs[n]? = some off ∧ (pc : Int) + off = (t : Int) ∧ GoL X g d Y Q t L S m) (kd : x < lo ∨ hi < x → GoL X g d Y Q tgt L S m) : GoL X g d Y Q pc L (vi x :: S) m := by
  intro l D cA ad A p e R s mth args below meth c Z hC hX hE ls H locs cells slots hR hL hc hs
  by_cases h : x < lo ∨ hi < x
  · exact lv_tableOut hC.1 hC.2.1 hd (by rw [hx.i]; exact h) ht (kd h l D cA ad A p e R s mth args below meth c Z hC hX hE ls H locs cells slots hR hL hc hs)
  · obtain ⟨off, t, h1, h2, k⟩ := ki (x - lo).toNat (by omega) (by omega)
    exact lv_tableIn hC.1 hC.2.1 hd (by rw [hx.i]; omega) (by rw [hx.i]; omega) (by rw [hx.i]; exact h1) h2 (k l D cA ad A p e R s mth args below meth c Z hC hX hE ls H locs cells slots hR hL hc hs)
theorem gl_laload {g d : Nat} {X : CtxX} {Y : MD} {Q : Int → Mem → Prop} {pc : Nat} {L S : List AV} {m : Mem} {a n : Nat} {i : Int} (hd : decode Y.2.1 pc = .ok (.laload, 1)) (ha : ar a 3 n) (h0 : 0 ≤ i) (h1 : i < n) (k : InL (m a i) → GoL X g d Y Q (pc + 1) L (vl (m a i) :: S) m) : GoL X g d Y Q pc L (vi i :: vr a :: S) m := by
  intro l D cA ad A p e R s mth args below meth c Z hC hX hE ls H locs cells slots hR hL hc hs
  have hi := ar_in ha h0 h1
  have k := (k (by have := (hR.2.2.2 a i).1; rw [tyOf_ar ha] at this; exact this) l D cA ad A p e R s mth args below meth c Z hC hX hE ls H locs cells slots hR hL hc hs)
  have he : (Wd cA ad m)[a]? = some (ad a, .inl (cA 3, n, .inr (.inl (fun j => Int64.ofInt (m a (j : Int)))))) := by rw [Wd_at ha.1, cellE_l ha]
  refine va_lald hC.1 hC.2.1 hC.2.2.2.2.2.2.1 hR.1 a 3 he (tys_at (by omega)) (hi.inn h0 h1) hd ?_
  rw [hi.cl, Int.toNat_of_nonneg h0]
  exact k
theorem gl_lastore {g d : Nat} {X : CtxX} {Y : MD} {Q : Int → Mem → Prop} {pc : Nat} {L S : List AV} {m : Mem} {a n : Nat} {i x : Int} (hd : decode Y.2.1 pc = .ok (.lastore, 1)) (ha : ar a 3 n) (h0 : 0 ≤ i) (h1 : i < n) (hx : InL x) (k : GoL X g d Y Q (pc + 1) L S (wr m a i x)) : GoL X g d Y Q pc L (vl x :: vi i :: vr a :: S) m := by
  intro l D cA ad A p e R s mth args below meth c Z hC hX hE ls H locs cells slots hR hL hc hs
  have hi := ar_in ha h0 h1
  have he : (Wd cA ad m)[a]? = some (ad a, .inl (cA 3, n, .inr (.inl (fun j => Int64.ofInt (m a (j : Int)))))) := by rw [Wd_at ha.1, cellE_l ha]
  have hcan : Can (wr m a i x) := can_wr hR.2.2.2 ha.1 h0 (by rw [ha.2.2.1]; exact h1) (by rw [tyOf_ar ha]; exact hx)
  refine va_last hC.1 hC.2.1 hC.2.2.2.2.2.2.1 hR.1 hR.2.1 hR.2.2.1 a 3 he (tys_at (by omega)) (hi.inn h0 h1) hd (fun H1 locs1 q1 q2 q3 => ?_)
  rw [hi.cl, upd_l h0, ← cellE_l (cA := cA) (ad := ad) ha, Wd_set (fun b hb => wr_row hb)] at q1 q2
  exact k l D cA ad A p e R s mth args below meth c Z hC hX hE ls H1 locs1 cells slots ⟨q1, q2, q3, hcan⟩ hL hc hs
theorem gl_ret {g d : Nat} {X : CtxX} {Y : MD} {Q : Int → Mem → Prop} {pc : Nat} {L S : List AV} {m : Mem} {v : Int} (hr : rSt Y.2.2.2 v = S) (hd : decode Y.2.1 pc = .ok (rIn Y.2.2.2, 1)) (hv : rOk Y.2.2.2 v) (hq : Q v m) : GoL X g d Y Q pc L S m := by
  subst hr
  intro l D cA ad A p e R s mth args below meth c Z hC hX hE ls H locs cells slots hR hL hc hs
  exact hE v m pc ls H locs cells slots hq hv hR (by omega) (by omega) hd
theorem gl_callV {g d : Nat} {X : CtxX} {Y : MD} {Q : Int → Mem → Prop} {pc : Nat} {L S : List AV} {m : Mem} {g' d' idx n b ci : Nat} {Y' : MD} {as : List AV} {Q' : Int → Mem → Prop} {S0 : List AV} (hE : Ev g' d' Y' (vr b :: as) m Q') (hd : decode Y.2.1 pc = .ok (.invokevirtual idx, 3)) (hcv : CV Y.1.cls idx Y' n) (hn : as.length = n) (hst : S0 = as.reverse ++ vr b :: S) (ho : ob b ci) (hci : (cls[ci]?).map (fun q => q.1) = some Y'.1.cls) (hdp : d' + 1 ≤ d) (hrm : scat S ≤ 8) (hg : g' ≤ g) (k : ∀ r m', Q' r m' → rOk Y'.2.2.2 r → GoL X (g - g') d Y Q (pc + 3) L (rSt Y'.2.2.2 r ++ S) m') : GoL X g d Y Q pc L S0 m := by
  subst hst
  intro l D cA ad A p e R s mth args below meth c Z hC hX hE0 ls H locs cells slots hR hL hc hs
  obtain ⟨⟨hlk, hini, hcode, hy1, hy2, hpd, hml⟩, hin, hsel⟩ := hcv
  obtain ⟨hx, hb, hmL, hown, hts, hnw, hK, hA, hStt, hfr, hlo, hfl⟩ := id hC
  obtain ⟨hP, hD, hS, hCan⟩ := id hR
  obtain ⟨q, hq, hqn⟩ : ∃ q, cls[ci]? = some q ∧ q.1 = Y'.1.cls := by
    cases h : cls[ci]? with
    | none => rw [h] at hci; cases hci
    | some q => rw [h] at hci; exact ⟨q, rfl, Option.some.inj hci⟩
  have he : (Wd cA ad m)[b]? = some (ad b, .inr (ci, objFs ad m b)) := by rw [Wd_at ho.1, cellE_ob ho]
  have hrecv := va_recv hK hP hq he
  rw [hqn] at hrecv
  have hF := freeY hD hS hA
  have hpre : PreV s H Y'.1.cls (ad b) (PcY cA D ad H.size (vr b :: as) m) (as.map (toV ad)) := ⟨PcY_blind, hrecv, fun U hU hW => ⟨rfl, by rw [hU], by rw [hU]; exact hP, va_K.moved hW.alike hK, hD.weaken (fun _ _ _ _ => trivial), hCan, nest_warm hW hnw, by rw [hU]; exact hStt.down hW hF (fun q h1 h2 => hS.2.1 q h1 h2)⟩⟩
  have hMet := hE l D cA ad H.size hfl
  have hroom : (rmY g' d').frames + 1 ≤ R.frames ∧ 8 + (Y'.2.2.1 + 11) + (rmY g' d').locals ≤ R.locals := ⟨by show d' + 1 ≤ _; omega, by show _ + 40 * d' ≤ _; omega⟩
  have hstk : (F0 mth pc ls ((as.reverse ++ vr b :: S).map (toV ad))).stack = (as.map (toV ad)).reverse ++ .ref (ad b) :: S.map (toV ad) := by simp [toV]
  have hWst : 2 * (F0 mth pc ls ((as.reverse ++ vr b :: S).map (toV ad))).monitorRoom + ((S.map (toV ad)).map fun v => v.category).sum ≤ 8 := lv_room (by rw [scat_eq]; exact hrm)
  have hrun : va_Run p l e R s mth args below meth c H locs cells slots g' (20 * g') (F0 mth pc ls ((as.reverse ++ vr b :: S).map (toV ad))) (S.map (toV ad)) (QcY Y'.2.2.2 Q' (BY cA D ad (va_A (Wd cA ad m) H.size)) (va_A (Wd cA ad m) H.size) (Value.ref (ad b) :: as.map (toV ad)).toArray) (va_A (Wd cA ad m) H.size) := by
    rcases hlk with hlk | ⟨host, hlk⟩
    · exact va_runV ⟨hx, hb, hmL, hown, hts⟩ hMet ⟨callB_of n hts (wsY_good hcode) rfl rfl rfl (hts _ hini) (hts _ hlk) ⟨hy1, hy2, hpd⟩ hroom, hts _ hin, hts _ hsel⟩ hpre rfl (by simpa using hn) hL.1 hstk hWst hd ⟨by omega, by omega⟩
    · exact va_runVN ⟨hx, hb, hmL, hown, hts⟩ hMet ⟨va_cnB n hts (wsY_good hcode) rfl rfl rfl (hnw _ hlk) (hts _ hini) ⟨hy1, hy2, hpd⟩ hroom, hts _ hin, hts _ hsel⟩ hpre rfl (by simpa using hn) hL.1 hstk hWst hd ⟨by omega, by omega⟩
  refine after_call (ad := ad) hrun hS (fun q _ h => hF q h) hF (fun r u t H1 locs1 h1 h2 h3 h4 h5 h6 h7 h8 => ?_)
  obtain ⟨b1, b2, b3⟩ := h5
  have k := k r u h3 h4 l D cA ad A p e R s mth args below meth c Z hC hX hE0 ls H1 locs1 (cells + g') (slots + 20 * g') ⟨by rw [← h1]; exact b1, b2.weaken (fun _ q _ h => hF q.1 h), h8, b3⟩ hL (by omega) (by omega)
  rw [List.map_append] at k
  exact k
theorem gl_can {g d : Nat} {X : CtxX} {Y : MD} {Q : Int → Mem → Prop} {pc : Nat} {L S : List AV} {m : Mem} (k : Can m → GoL X g d Y Q pc L S m) : GoL X g d Y Q pc L S m := by
  intro l D cA ad A p e R s mth args below meth c Z hC hX hE ls H locs cells slots hR hL hc hs
  exact k hR.2.2.2 l D cA ad A p e R s mth args below meth c Z hC hX hE ls H locs cells slots hR hL hc hs
theorem gl_weak {g g' d : Nat} {X : CtxX} {Y : MD} {Q : Int → Mem → Prop} {pc : Nat} {L S : List AV} {m : Mem} (h : g' ≤ g) (k : GoL X g' d Y Q pc L S m) : GoL X g d Y Q pc L S m := by
  intro l D cA ad A p e R s mth args below meth c Z hC hX hE ls H locs cells slots hR hL hc hs
  exact k l D cA ad A p e R s mth args below meth c Z hC hX hE ls H locs cells slots hR hL (by omega) (by omega)
/-- the script that the law reads -/
def XL (L : Nat) (xs : Nat → Int32) : CtxX := fun ad A l s _ _ => va_X (ad 1011) L xs s s.heap ∧ ad 1011 < s.heap.size ∧ ¬ A (ad 1011) ∧ l.stackTraces = false
theorem gl_sload {g d : Nat} {Y : MD} {Q : Int → Mem → Prop} {pc : Nat} {L S : List AV} {m : Mem} {n : Nat} {xs : Nat → Int32} {i : Int} (hd : decode Y.2.1 pc = .ok (.iaload, 1)) (h0 : 0 ≤ i) (h1 : i < n) (hn : n ≤ 3072) (k : GoL (XL n xs) g d Y Q (pc + 1) L (vi (xs i.toNat).toInt :: S) m) : GoL (XL n xs) g d Y Q pc L (vi i :: vr 1011 :: S) m := by
  intro l D cA ad A p e R s mth args below meth c Z hC hX hE ls H locs cells slots hR hL hc hs
  have hi : InR i := ⟨by omega, by omega⟩
  have k := k l D cA ad A p e R s mth args below meth c Z hC hX hE ls H locs cells slots hR hL hc hs
  refine va_sld hC.1 hC.2.1 hX.1 hX.2.1 hX.2.2.1 hR.2.2.1 (hi.inn h0 h1) hd ?_
  rw [hi.cl]
  simpa [toV, Int32.ofInt_toInt] using k
theorem gl_slen {g d : Nat} {Y : MD} {Q : Int → Mem → Prop} {pc : Nat} {L S : List AV} {m : Mem} {n : Nat} {xs : Nat → Int32} (hd : decode Y.2.1 pc = .ok (.arraylength, 1)) (k : GoL (XL n xs) g d Y Q (pc + 1) L (vi (n : Int) :: S) m) : GoL (XL n xs) g d Y Q pc L (vr 1011 :: S) m := by
  intro l D cA ad A p e R s mth args below meth c Z hC hX hE ls H locs cells slots hR hL hc hs
  have k := k l D cA ad A p e R s mth args below meth c Z hC hX hE ls H locs cells slots hR hL hc hs
  exact va_slen hC.1 hC.2.1 hX.1 hX.2.1 hX.2.2.1 hR.2.2.1 hd k
/-- the handlers of a frame -/
def XH (hh : List (Nat × Nat × Nat × Nat)) : CtxX := fun _ _ l s args c => c.exceptionTable.toList = tableOf hh ∧ l.stackTraces = false ∧ (Cond.castable NSE NSE).before args s = true
theorem lvL_un {ad : Nat → Nat} {L : List AV} {ls : Array Slot} {n i : Nat} {w : Value} (h : lv_has ls n ((i, w) :: (lvL ad L).filter (fun q => !(q.1 == i) && !(q.1 + 1 == i && q.2.category == 2)))) (hg : lgAt L i = false) : lv_has ls n (lvL ad (L.set i un)) := by
  refine ⟨h.1, h.2.1, fun q hq => ?_⟩
  obtain ⟨w, h1, h2, h3⟩ := lvL_mem hq
  rw [List.getElem?_set] at h1
  by_cases hi : i = q.1
  · rw [if_pos hi] at h1
    by_cases hl : i < L.length
    · rw [if_pos hl] at h1
      cases h1
      cases h2
    · rw [if_neg hl] at h1; cases h1
  · rw [if_neg hi] at h1
    refine h.2.2 q (List.mem_cons_of_mem _ (List.mem_filter.mpr ⟨?_, ?_⟩))
    · have := lvL_mk (ad := ad) h1 h2
      rw [← h3] at this
      exact this
    · have e1 : (q.1 == i) = false := by simp; exact fun e => hi e.symm
      by_cases e2 : q.1 + 1 = i
      · subst e2
        have e3 : isLg w = false := by simpa [lgAt, h1] using hg
        have e4 : q.2.category = 1 := by rw [h3]; exact cat_lg e3
        simp [e1, e4]
      · simp [e1, e2]
theorem gl_callX {g d : Nat} {Y : MD} {Q : Int → Mem → Prop} {pc : Nat} {L S : List AV} {m : Mem} {d' idx n b ci sp9 ep9 hp9 ct : Nat} {j : Nat} {Y' : MD} {as : List AV} {S0 L' : List AV} (hE : EvX d' Y' (vr b :: as) m) (hd : decode Y.2.1 pc = .ok (.invokevirtual idx, 3)) (hcv : CV Y.1.cls idx Y' n) (hn : as.length = n) (hst : S0 = as.reverse ++ vr b :: S) (ho : ob b ci) (hci : (cls[ci]?).map (fun q => q.1) = some Y'.1.cls) (hdp : d' + 1 ≤ d) (hrm : scat S ≤ 8) (hg : 1 ≤ g)
    (hcov : covers ({ startPc := sp9, endPc := ep9, handlerPc := hp9, catchType := ct } : ExceptionTableEntry) pc = true) (hct0 : ct ≠ 0) (hct : Cond.classLink Y.1.cls ct NSE ∈ tblG) (hda : decode Y.2.1 hp9 = .ok (.astore j, 2)) (hnj : j < Y.2.2.1) (hgj : lgAt L j = false) (hl' : L.set j un = L') (k : GoL (XH [(sp9, ep9, hp9, ct)]) (g - 1) d Y Q (hp9 + 2) L' [] m) : GoL (XH [(sp9, ep9, hp9, ct)]) g d Y Q pc L S0 m := by
  subst hst
  intro l D cA ad A p e R s mth args below meth c Z hC hX hE0 ls H locs cells slots hR hL hc hs
  obtain ⟨⟨hlk, hini, hcode, hy1, hy2, hpd, hml⟩, hin, hsel⟩ := hcv
  obtain ⟨hx, hb, hmL, hown, hts, hnw, hK, hA, hStt, hfr, hlo, hfl⟩ := id hC
  obtain ⟨hP, hD, hS, hCan⟩ := id hR
  obtain ⟨q, hq, hqn⟩ : ∃ q, cls[ci]? = some q ∧ q.1 = Y'.1.cls := by
    cases h : cls[ci]? with
    | none => rw [h] at hci; cases hci
    | some q => rw [h] at hci; exact ⟨q, rfl, Option.some.inj hci⟩
  have he : (Wd cA ad m)[b]? = some (ad b, .inr (ci, objFs ad m b)) := by rw [Wd_at ho.1, cellE_ob ho]
  have hrecv := va_recv hK hP hq he
  rw [hqn] at hrecv
  have hF := freeY hD hS hA
  have hpre : PreV s H Y'.1.cls (ad b) (PcY cA D ad H.size (vr b :: as) m) (as.map (toV ad)) := ⟨PcY_blind, hrecv, fun U hU hW => ⟨rfl, by rw [hU], by rw [hU]; exact hP, va_K.moved hW.alike hK, hD.weaken (fun _ _ _ _ => trivial), hCan, nest_warm hW hnw, by rw [hU]; exact hStt.down hW hF (fun q h1 h2 => hS.2.1 q h1 h2)⟩⟩
  have hMet := hE l D cA ad H.size hfl hX.2.1
  have hroom : (rmY 1 d').frames + 1 ≤ R.frames ∧ 8 + (Y'.2.2.1 + 11) + (rmY 1 d').locals ≤ R.locals := ⟨by show d' + 1 ≤ _; omega, by show _ + 40 * d' ≤ _; omega⟩
  have hstk : (F0 mth pc ls ((as.reverse ++ vr b :: S).map (toV ad))).stack = (as.map (toV ad)).reverse ++ .ref (ad b) :: S.map (toV ad) := by simp [toV]
  have hWst : 2 * (F0 mth pc ls ((as.reverse ++ vr b :: S).map (toV ad))).monitorRoom + ((S.map (toV ad)).map fun v => v.category).sum ≤ 8 := lv_room (by rw [scat_eq]; exact hrm)
  have hrun : vx_Run p l e R s mth args below meth c H locs cells slots 1 20 (F0 mth pc ls ((as.reverse ++ vr b :: S).map (toV ad))) (S.map (toV ad)) ((fun _ _ _ _ => False) (Value.ref (ad b) :: as.map (toV ad)).toArray) (XcY cA D ad (va_A (Wd cA ad m) H.size) m) (va_A (Wd cA ad m) H.size) := by
    rcases hlk with hlk | ⟨host, hlk⟩
    · exact vx_runV ⟨hx, hb, hmL, hown, hts⟩ hMet ⟨callB_of n hts (wsY_good hcode) rfl rfl rfl (hts _ hini) (hts _ hlk) ⟨hy1, hy2, hpd⟩ hroom, hts _ hin, hts _ hsel⟩ hpre rfl (by simpa using hn) hL.1 hstk hWst hd ⟨by omega, by omega⟩
    · exact vx_runVN ⟨hx, hb, hmL, hown, hts⟩ hMet ⟨va_cnB n hts (wsY_good hcode) rfl rfl rfl (hnw _ hlk) (hts _ hini) ⟨hy1, hy2, hpd⟩ hroom, hts _ hin, hts _ hsel⟩ hpre rfl (by simpa using hn) hL.1 hstk hWst hd ⟨by omega, by omega⟩
  intro T hT XX
  rcases hrun T hT XX with ⟨v, st₀, t, T', Lc, h0, X', hLc, e1, e2, hqq, stp9⟩ | ⟨q9, st₀, t, T', Lc, E, ce, h0, X', hLc, e1, e2, ⟨u, hu, ⟨hEE, b1, b2, b3⟩, hF9⟩, hce, hcv9, hcl, stp9⟩
  · exact hqq.elim
  · subst hu
    subst hEE
    obtain ⟨k1, k2, k3⟩ := vx_keep h0 e1 hS (fun q _ h => hF q h) hF hLc hF9
    have kw : vx_W p l e R s mth args below meth c T'.heap (locs ++ Lc) (cells + 1) (slots + 20) Z (F0 mth pc ls (S.map (toV ad))) q9 := by
      refine vx_catch (own := Y.1.cls) (name := NSE) (E := NSE) hown [] ({ startPc := sp9, endPc := ep9, handlerPc := hp9, catchType := ct } : ExceptionTableEntry) [] (by rw [hX.1]; rfl) (fun z hz => absurd hz List.not_mem_nil) hcov hct0 (hts _ hct) hX.2.2 (by rw [e1]; exact hce) hcv9 hcl ?_
      refine lv_astore hC.1 hC.2.1 hda hL hnj rfl (fun ls' hl9 => ?_)
      exact k l D cA ad A p e R s mth args below meth c Z hC hX hE0 ls' T'.heap (locs ++ Lc) (cells + 1) (slots + 20) ⟨by rw [e1]; exact b1, b2.weaken (fun _ q _ h => hF q.1 h), k3, b3⟩ (by rw [← hl']; exact lvL_un hl9 hgj) (by omega) (by omega)
    obtain ⟨t2, a1, b9⟩ := kw T' rfl X'
    exact ⟨t2, stp9.trans a1, b9⟩
theorem gl_callXn {g d : Nat} {Y : MD} {Q : Int → Mem → Prop} {pc : Nat} {L S : List AV} {m : Mem} {d' idx n b ci sp9 ep9 hp9 ct : Nat} {j : Fin 4} {Y' : MD} {as : List AV} {S0 L' : List AV} (hE : EvX d' Y' (vr b :: as) m) (hd : decode Y.2.1 pc = .ok (.invokevirtual idx, 3)) (hcv : CV Y.1.cls idx Y' n) (hn : as.length = n) (hst : S0 = as.reverse ++ vr b :: S) (ho : ob b ci) (hci : (cls[ci]?).map (fun q => q.1) = some Y'.1.cls) (hdp : d' + 1 ≤ d) (hrm : scat S ≤ 8) (hg : 1 ≤ g)
    (hcov : covers ({ startPc := sp9, endPc := ep9, handlerPc := hp9, catchType := ct } : ExceptionTableEntry) pc = true) (hct0 : ct ≠ 0) (hct : Cond.classLink Y.1.cls ct NSE ∈ tblG) (hda : decode Y.2.1 hp9 = .ok (.astore_n j, 1)) (hnj : (j : Nat) < Y.2.2.1) (hgj : lgAt L (j : Nat) = false) (hl' : L.set (j : Nat) un = L') (k : GoL (XH [(sp9, ep9, hp9, ct)]) (g - 1) d Y Q (hp9 + 1) L' [] m) : GoL (XH [(sp9, ep9, hp9, ct)]) g d Y Q pc L S0 m := by
  subst hst
  intro l D cA ad A p e R s mth args below meth c Z hC hX hE0 ls H locs cells slots hR hL hc hs
  obtain ⟨⟨hlk, hini, hcode, hy1, hy2, hpd, hml⟩, hin, hsel⟩ := hcv
  obtain ⟨hx, hb, hmL, hown, hts, hnw, hK, hA, hStt, hfr, hlo, hfl⟩ := id hC
  obtain ⟨hP, hD, hS, hCan⟩ := id hR
  obtain ⟨q, hq, hqn⟩ : ∃ q, cls[ci]? = some q ∧ q.1 = Y'.1.cls := by
    cases h : cls[ci]? with
    | none => rw [h] at hci; cases hci
    | some q => rw [h] at hci; exact ⟨q, rfl, Option.some.inj hci⟩
  have he : (Wd cA ad m)[b]? = some (ad b, .inr (ci, objFs ad m b)) := by rw [Wd_at ho.1, cellE_ob ho]
  have hrecv := va_recv hK hP hq he
  rw [hqn] at hrecv
  have hF := freeY hD hS hA
  have hpre : PreV s H Y'.1.cls (ad b) (PcY cA D ad H.size (vr b :: as) m) (as.map (toV ad)) := ⟨PcY_blind, hrecv, fun U hU hW => ⟨rfl, by rw [hU], by rw [hU]; exact hP, va_K.moved hW.alike hK, hD.weaken (fun _ _ _ _ => trivial), hCan, nest_warm hW hnw, by rw [hU]; exact hStt.down hW hF (fun q h1 h2 => hS.2.1 q h1 h2)⟩⟩
  have hMet := hE l D cA ad H.size hfl hX.2.1
  have hroom : (rmY 1 d').frames + 1 ≤ R.frames ∧ 8 + (Y'.2.2.1 + 11) + (rmY 1 d').locals ≤ R.locals := ⟨by show d' + 1 ≤ _; omega, by show _ + 40 * d' ≤ _; omega⟩
  have hstk : (F0 mth pc ls ((as.reverse ++ vr b :: S).map (toV ad))).stack = (as.map (toV ad)).reverse ++ .ref (ad b) :: S.map (toV ad) := by simp [toV]
  have hWst : 2 * (F0 mth pc ls ((as.reverse ++ vr b :: S).map (toV ad))).monitorRoom + ((S.map (toV ad)).map fun v => v.category).sum ≤ 8 := lv_room (by rw [scat_eq]; exact hrm)
  have hrun : vx_Run p l e R s mth args below meth c H locs cells slots 1 20 (F0 mth pc ls ((as.reverse ++ vr b :: S).map (toV ad))) (S.map (toV ad)) ((fun _ _ _ _ => False) (Value.ref (ad b) :: as.map (toV ad)).toArray) (XcY cA D ad (va_A (Wd cA ad m) H.size) m) (va_A (Wd cA ad m) H.size) := by
    rcases hlk with hlk | ⟨host, hlk⟩
    · exact vx_runV ⟨hx, hb, hmL, hown, hts⟩ hMet ⟨callB_of n hts (wsY_good hcode) rfl rfl rfl (hts _ hini) (hts _ hlk) ⟨hy1, hy2, hpd⟩ hroom, hts _ hin, hts _ hsel⟩ hpre rfl (by simpa using hn) hL.1 hstk hWst hd ⟨by omega, by omega⟩
    · exact vx_runVN ⟨hx, hb, hmL, hown, hts⟩ hMet ⟨va_cnB n hts (wsY_good hcode) rfl rfl rfl (hnw _ hlk) (hts _ hini) ⟨hy1, hy2, hpd⟩ hroom, hts _ hin, hts _ hsel⟩ hpre rfl (by simpa using hn) hL.1 hstk hWst hd ⟨by omega, by omega⟩
  intro T hT XX
  rcases hrun T hT XX with ⟨v, st₀, t, T', Lc, h0, X', hLc, e1, e2, hqq, stp9⟩ | ⟨q9, st₀, t, T', Lc, E, ce, h0, X', hLc, e1, e2, ⟨u, hu, ⟨hEE, b1, b2, b3⟩, hF9⟩, hce, hcv9, hcl, stp9⟩
  · exact hqq.elim
  · subst hu
    subst hEE
    obtain ⟨k1, k2, k3⟩ := vx_keep h0 e1 hS (fun q _ h => hF q h) hF hLc hF9
    have kw : vx_W p l e R s mth args below meth c T'.heap (locs ++ Lc) (cells + 1) (slots + 20) Z (F0 mth pc ls (S.map (toV ad))) q9 := by
      refine vx_catch (own := Y.1.cls) (name := NSE) (E := NSE) hown [] ({ startPc := sp9, endPc := ep9, handlerPc := hp9, catchType := ct } : ExceptionTableEntry) [] (by rw [hX.1]; rfl) (fun z hz => absurd hz List.not_mem_nil) hcov hct0 (hts _ hct) hX.2.2 (by rw [e1]; exact hce) hcv9 hcl ?_
      refine lv_astore_n hC.1 hC.2.1 hda rfl hL hnj rfl (fun ls' hl9 => ?_)
      exact k l D cA ad A p e R s mth args below meth c Z hC hX hE0 ls' T'.heap (locs ++ Lc) (cells + 1) (slots + 20) ⟨by rw [e1]; exact b1, b2.weaken (fun _ q _ h => hF q.1 h), k3, b3⟩ (by rw [← hl']; exact lvL_un hl9 hgj) (by omega) (by omega)
    obtain ⟨t2, a1, b9⟩ := kw T' rfl X'
    exact ⟨t2, stp9.trans a1, b9⟩
def wsH (Y : MD) (hh : List (Nat × Nat × Nat × Nat)) : List Cond := .codeWith Y.1 Y.2.1 Y.2.2.1 Y.2.2.2 hh :: tblG
def EvH (g d : Nat) (Y : MD) (hh : List (Nat × Nat × Nat × Nat)) (as : List AV) (m : Mem) (Q : Int → Mem → Prop) : Prop :=
  ∀ (l : Launch) (D : va_G) (cA : Nat → ClassId) (ad : Nat → Nat) (sz : Nat), l.flags = flags0 → l.stackTraces = false →
    vx_Met l Y.1 (wsH Y hh) (rmY g d) (PcY cA D ad sz as m) (QcY Y.2.2.2 Q (BY cA D ad (va_A (Wd cA ad m) sz)) (va_A (Wd cA ad m) sz)) (fun _ _ _ => False) g (20 * g) (va_A (Wd cA ad m) sz)
theorem nse_cast : Cond.castable NSE NSE ∈ thrW := by decide +kernel
theorem EvH.of {g d : Nat} {Y : MD} {hh : List (Nat × Nat × Nat × Nat)} {as L : List AV} {m : Mem} {Q : Int → Mem → Prop} (hp : plainName Y.1.cls = true) (hu : as.all (fun v => !isUn v) = true) (hl : (enL as).length ≤ Y.2.2.1) (hL : L = enL as ++ List.replicate (Y.2.2.1 - (enL as).length) un) (hret : ∀ t, Y.2.2.2 = some t → t = .int ∨ t = .boolean ∨ t = .long) (k : Can m → GoL (XH hh) g d Y Q 0 L [] m) : EvH g d Y hh as m Q := by
  intro l D cA ad sz hfl htr
  refine vx_ofWH (cc := Y.2.1) (maxL := Y.2.2.1) (ret := Y.2.2.2) (hh := hh) hp rfl ?_
  intro p e s mth args below meth c s₁ B hml hv
  obtain ⟨rfl, hsz, hP, hK, hD0, hCan, hnw, hStt⟩ := hv
  subst hsz
  have hts0 := atoms_spec (ws := wsH Y hh) B.pre
  have hts : ∀ w ∈ tblG, w.before (as.map (toV ad)).toArray s = true := fun w h => hts0 w (List.mem_cons_of_mem _ h)
  have hlen : (lg_sl (as.map (toV ad))).length = (enL as).length := by
    unfold lg_sl enL
    rw [List.length_flatMap, List.length_flatMap, List.map_map]
    congr 1
    apply List.map_congr_left
    intro v _
    by_cases h : isLg v = true
    · match v, h with
      | .inr (.inl x), _ => rfl
    · have := cat_lg (ad := ad) (v := v) (by simpa using h)
      simp [this, h]
  have hen := lv_entry (as.map (toV ad)) (n := Y.2.2.1) (by rw [hlen]; exact hl)
  rw [lg_entry_eq]
  generalize (lg_sl (as.map (toV ad)) ++ List.replicate (Y.2.2.1 - (lg_sl (as.map (toV ad))).length) Slot.unset).toArray = ls at hen ⊢
  have hLs : lv_has ls Y.2.2.1 (lvL ad L) := by
    refine ⟨hen.1, hen.2.1, fun q hq => hen.2.2 q (lvL_entry hu 0 q ?_)⟩
    unfold lvL at hq
    rw [hL, List.zipIdx_append, List.filterMap_append, List.mem_append] at hq
    rcases hq with hq | hq
    · exact hq
    · exfalso
      obtain ⟨⟨v, j⟩, h1, h2⟩ := List.mem_filterMap.mp hq
      have hv : v = un := by
        have := List.fst_mem_of_mem_zipIdx h1
        exact (List.mem_replicate.mp this).2
      subst hv
      simp [isUn] at h2
  have hA : ∀ q : Nat, s.heap.size ≤ q → va_A (Wd cA ad m) s.heap.size q := fun q h => Or.inr h
  have hD := hD0.self (sz := s.heap.size)
  refine k hCan l D cA ad (va_A (Wd cA ad m) s.heap.size) p e _ s mth _ below meth c _ ⟨B.exec, B.bytes, hml, findClass_of_methodNamed B.named, hts, hnw, hK, hA, hStt, Nat.le_refl _, Nat.le_refl _, hfl⟩ ⟨vx_table (x := Y.1) B (hts0 _ List.mem_cons_self), htr, va_Nw.use rfl (hStt.2.2.2.2.2.2.2.2 _ nse_cast)⟩ ?_ ls s.heap [] 0 0 ⟨hP, hD, va_S.rf, hCan⟩ hLs (by show 0 + g ≤ g; omega) (by show 0 + 20 * g ≤ 20 * g; omega)
  intro v m' pc' ls' H locs cells slots hQ hok hR hc hs hd
  refine vx_ret ?_
  refine W.widen (k := g) (n := 20 * g) hc hs ?_
  have hB : ∀ t : State, t.heap = H → BY cA D ad (va_A (Wd cA ad m) s.heap.size) m' t := fun t ht => ⟨by rw [ht]; exact hR.1, hR.2.1, hR.2.2.2⟩
  have hr := B.returns
  have hlocks := B.notSynchronized
  have key : ∀ t : FieldType, (t = .int ∨ t = .boolean) → Y.2.2.2 = some t → W p l e (headSpec (wsH Y hh) (rmY g d)).room s mth (as.map (toV ad)).toArray below meth c H locs g (20 * g) (MQ below (QcY Y.2.2.2 Q (BY cA D ad (va_A (Wd cA ad m) s.heap.size)) (va_A (Wd cA ad m) s.heap.size)) (as.map (toV ad)).toArray s g (20 * g) (va_A (Wd cA ad m) s.heap.size)) (F0 mth pc' ls' ((rSt Y.2.2.2 v).map (toV ad))) := by
    intro t ht hrt
    have e1 : QcY (some t) Q (BY cA D ad (va_A (Wd cA ad m) s.heap.size)) (va_A (Wd cA ad m) s.heap.size) = va_Qi (fun r m' => Q r.toInt m' ∧ inTy t r.toInt) (BY cA D ad (va_A (Wd cA ad m) s.heap.size)) (va_A (Wd cA ad m) s.heap.size) := by rcases ht with rfl | rfl <;> rfl
    have e2 : rSt (some t) v = [vi v] := by rcases ht with rfl | rfl <;> rfl
    have e3 : rIn (some t) = .ireturn := by rcases ht with rfl | rfl <;> rfl
    have e4 : InR v ∧ inTy t v ∧ narrow t (.int (Int32.ofInt v)) = .int (Int32.ofInt v) := by
      rw [hrt] at hok
      rcases ht with rfl | rfl
      · exact ⟨hok, hok, rfl⟩
      · refine ⟨?_, hok, ?_⟩
        · unfold InR; rcases hok with h | h <;> omega
        · rcases hok with rfl | rfl <;> rfl
    rw [hrt] at hr hd ⊢
    rw [e1, e2]
    rw [e3] at hd
    refine W.zret B.exec B.bytes hr e4.2.2 (fun t' ht' hW' => ?_) hR.2.2.1.2.2 hd hlocks
    exact ⟨⟨Int32.ofInt v, m', rfl, ⟨by rw [e4.1.i]; exact hQ, by rw [e4.1.i]; exact e4.2.1⟩, hB t' ht'⟩, hR.2.2.1.F ht'⟩
  match hrt : Y.2.2.2 with
  | none =>
    rw [hrt] at hr hd hok
    have hv0 : v = 0 := hok
    subst hv0
    exact W.vret B.exec B.bytes hr (fun t ht _ => ⟨⟨m', rfl, hQ, hB t ht⟩, hR.2.2.1.F ht⟩) hR.2.2.1.2.2 hd hlocks
  | some t =>
    rcases hret t hrt with h | h | h
    · have := key t (Or.inl h) hrt; rw [hrt] at this; exact this
    · have := key t (Or.inr h) hrt; rw [hrt] at this; exact this
    · subst h
      rw [hrt] at hr hd hok
      have hv1 : InL v := hok
      exact W.lret B.exec B.bytes hr (fun t ht _ => ⟨⟨Int64.ofInt v, m', rfl, ⟨by rw [hv1.i]; exact hQ, by rw [hv1.i]; exact hv1⟩, hB t ht⟩, hR.2.2.1.F ht⟩) hR.2.2.1.2.2 hd hlocks
def CSH (own : String) (idx : Nat) (Y' : MD) (hh : List (Nat × Nat × Nat × Nat)) (n : Nat) : Prop := Cond.methodLink own idx Y'.1 ∈ tblG ∧ Cond.initialized Y'.1.cls ∈ tblG ∧ Cond.codeWith Y'.1 Y'.2.1 Y'.2.2.1 Y'.2.2.2 hh ∈ tblG ∧ Y'.1.cls ≠ "java/lang/invoke/MethodHandle" ∧ Y'.1.cls ≠ "java/lang/invoke/VarHandle" ∧ (parseMethodDescriptor Y'.1.desc).map (fun d => d.parameters.length) = some n ∧ Y'.2.2.1 ≤ 21 ∧ Cond.static Y'.1 ∈ tblG
theorem gl_callSH {g d : Nat} {X : CtxX} {Y : MD} {Q : Int → Mem → Prop} {pc : Nat} {L S : List AV} {m : Mem} {g' d' idx n : Nat} {Y' : MD} {as : List AV} {Q' : Int → Mem → Prop} {S0 : List AV} {hh : List (Nat × Nat × Nat × Nat)} (hXs : ∀ ad A l s args c, X ad A l s args c → l.stackTraces = false) (hE : EvH g' d' Y' hh as m Q') (hd : decode Y.2.1 pc = .ok (.invokestatic idx, 3)) (hcv : CSH Y.1.cls idx Y' hh n) (hn : as.length = n) (hst : S0 = as.reverse ++ S) (hdp : d' + 1 ≤ d) (hrm : scat S ≤ 8) (hg : g' ≤ g) (k : ∀ r m', Q' r m' → rOk Y'.2.2.2 r → GoL X (g - g') d Y Q (pc + 3) L (rSt Y'.2.2.2 r ++ S) m') : GoL X g d Y Q pc L S0 m := by
  subst hst
  intro l D cA ad A p e R s mth args below meth c Z hC hX hE0 ls H locs cells slots hR hL hc hs
  obtain ⟨hlk, hini, hcode, hy1, hy2, hpd, hml, hin⟩ := hcv
  obtain ⟨hx, hb, hmL, hown, hts, hnw, hK, hA, hStt, hfr, hlo, hfl⟩ := id hC
  obtain ⟨hP, hD, hS, hCan⟩ := id hR
  have hF := freeY hD hS hA
  have hpre : PreS s H (PcY cA D ad H.size as m) (as.map (toV ad)) := ⟨PcY_blind, fun U hU hW => ⟨rfl, by rw [hU], by rw [hU]; exact hP, va_K.moved hW.alike hK, hD.weaken (fun _ _ _ _ => trivial), hCan, nest_warm hW hnw, by rw [hU]; exact hStt.down hW hF (fun q h1 h2 => hS.2.1 q h1 h2)⟩⟩
  have hMet := hE l D cA ad H.size hfl (hXs _ _ _ _ _ _ hX)
  have hroom : (rmY g' d').frames + 1 ≤ R.frames ∧ 8 + (Y'.2.2.1 + 11) + (rmY g' d').locals ≤ R.locals := ⟨by show d' + 1 ≤ _; omega, by show _ + 40 * d' ≤ _; omega⟩
  have hstk : (F0 mth pc ls ((as.reverse ++ S).map (toV ad))).stack = (as.map (toV ad)).reverse ++ S.map (toV ad) := by simp
  have hWst : 2 * (F0 mth pc ls ((as.reverse ++ S).map (toV ad))).monitorRoom + ((S.map (toV ad)).map fun v => v.category).sum ≤ 8 := lv_room (by rw [scat_eq]; exact hrm)
  have hrun : va_Run p l e R s mth args below meth c H locs cells slots g' (20 * g') (F0 mth pc ls ((as.reverse ++ S).map (toV ad))) (S.map (toV ad)) (QcY Y'.2.2.2 Q' (BY cA D ad (va_A (Wd cA ad m) H.size)) (va_A (Wd cA ad m) H.size) (as.map (toV ad)).toArray) (va_A (Wd cA ad m) H.size) := by
    have hrx := vx_runSX (hh := hh) (p := p) (e := e) (below := below) (meth := meth) (locs := locs) (cells := cells) (slots := slots) ⟨hx, hb, hmL, hown, hts⟩ hMet (vx_cwSW n hts (tblG_good (fun w hw => by
      unfold va_wsS at hw
      rcases List.mem_append.mp hw with hw | hw
      · simp only [List.mem_cons, List.not_mem_nil, or_false] at hw
        rcases hw with rfl | rfl | rfl
        · exact hlk
        · exact hin
        · exact hini
      · rcases List.mem_cons.mp hw with rfl | hw
        · exact hcode
        · exact hw)) rfl rfl rfl ⟨hy1, hy2, hpd⟩ hroom) hpre rfl (by simpa using hn) hL.1 hstk hWst hd ⟨by omega, by omega⟩
    intro T hT XX
    rcases hrx T hT XX with h | ⟨_, _, _, _, _, _, _, _, _, _, _, _, h, _⟩
    · exact h
    · exact h.elim
  refine after_call (ad := ad) hrun hS (fun q _ h => hF q h) hF (fun r u t H1 locs1 h1 h2 h3 h4 h5 h6 h7 h8 => ?_)
  obtain ⟨b1, b2, b3⟩ := h5
  have k := k r u h3 h4 l D cA ad A p e R s mth args below meth c Z hC hX hE0 ls H1 locs1 (cells + g') (slots + 20 * g') ⟨by rw [← h1]; exact b1, b2.weaken (fun _ q _ h => hF q.1 h), h8, b3⟩ hL (by omega) (by omega)
  rw [List.map_append] at k
  exact k
