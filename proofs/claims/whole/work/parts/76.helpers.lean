/-! ===== the law's two helpers ===== -/
def mL_person : MD := (⟨"CartTurnsLaw", "person", "(LCartTurns;II[J)I"⟩, method_3_code, 5, some .int)
def mL_mean : MD := (⟨"CartTurnsLaw", "mean", "(LCartTurns;I[J)I"⟩, method_4_code, 4, some .int)
def mL_law : MD := (⟨"CartTurnsLaw", "law", "([I)Z"⟩, code, 7, some .boolean)
abbrev hhP : List (Nat × Nat × Nat × Nat) := [(0, 10, 13, 13)]
abbrev hhM : List (Nat × Nat × Nat × Nat) := [(0, 9, 12, 13)]
set_option maxRecDepth 20000 in
theorem lk_L13 : Cond.classLink "CartTurnsLaw" 13 NSE ∈ tblG := (tblG_in (List.mem_append_right _ (List.mem_append_right _ (List.mem_append_right _ (List.mem_append_right _ (List.mem_append_right _ (List.mem_append_right _ (List.mem_append_left _ (List.mem_of_getElem? (l := tables_1_6) (i := 84) rfl)))))))) rfl)
set_option maxRecDepth 20000 in
theorem csh_person : CSH "CartTurnsLaw" 42 mL_person hhP 4 := ⟨(tblG_in (List.mem_append_right _ (List.mem_append_right _ (List.mem_append_right _ (List.mem_append_right _ (List.mem_append_right _ (List.mem_append_right _ (List.mem_append_left _ (List.mem_of_getElem? (l := tables_1_6) (i := 81) rfl)))))))) rfl), (tblG_in (List.mem_append_right _ (List.mem_append_left _ (List.mem_of_getElem? (l := tables_1_1) (i := 0) rfl))) rfl), (tblG_in (List.mem_append_right _ (List.mem_append_right _ (List.mem_append_right _ (List.mem_append_right _ (List.mem_append_right _ (List.mem_append_right _ (List.mem_append_left _ (List.mem_of_getElem? (l := tables_1_6) (i := 83) rfl)))))))) rfl), by decide +kernel, by decide +kernel, by decide +kernel, by decide, (tblG_in (List.mem_append_right _ (List.mem_append_right _ (List.mem_append_right _ (List.mem_append_right _ (List.mem_append_right _ (List.mem_append_right _ (List.mem_append_left _ (List.mem_of_getElem? (l := tables_1_6) (i := 82) rfl)))))))) rfl)⟩
set_option maxRecDepth 20000 in
theorem csh_mean : CSH "CartTurnsLaw" 132 mL_mean hhM 3 := ⟨(tblG_in (List.mem_append_right _ (List.mem_append_right _ (List.mem_append_right _ (List.mem_append_right _ (List.mem_append_right _ (List.mem_append_right _ (List.mem_append_left _ (List.mem_of_getElem? (l := tables_1_6) (i := 150) rfl)))))))) rfl), (tblG_in (List.mem_append_right _ (List.mem_append_left _ (List.mem_of_getElem? (l := tables_1_1) (i := 0) rfl))) rfl), (tblG_in (List.mem_append_right _ (List.mem_append_right _ (List.mem_append_right _ (List.mem_append_right _ (List.mem_append_right _ (List.mem_append_right _ (List.mem_append_left _ (List.mem_of_getElem? (l := tables_1_6) (i := 152) rfl)))))))) rfl), by decide +kernel, by decide +kernel, by decide +kernel, by decide, (tblG_in (List.mem_append_right _ (List.mem_append_right _ (List.mem_append_right _ (List.mem_append_right _ (List.mem_append_right _ (List.mem_append_right _ (List.mem_append_left _ (List.mem_of_getElem? (l := tables_1_6) (i := 151) rfl)))))))) rfl)⟩
theorem dLp_0 : decode mL_person.2.1 0 = .ok (.aload_n 3, 1) := by decide +kernel
theorem dLp_1 : decode mL_person.2.1 1 = .ok (.iconst 0, 1) := by decide +kernel
theorem dLp_2 : decode mL_person.2.1 2 = .ok (.aload_n 0, 1) := by decide +kernel
theorem dLp_3 : decode mL_person.2.1 3 = .ok (.iload_n 1, 1) := by decide +kernel
theorem dLp_4 : decode mL_person.2.1 4 = .ok (.iload_n 2, 1) := by decide +kernel
theorem dLp_5 : decode mL_person.2.1 5 = .ok (.invokevirtual 7, 3) := by decide +kernel
theorem dLp_8 : decode mL_person.2.1 8 = .ok (.i2l, 1) := by decide +kernel
theorem dLp_9 : decode mL_person.2.1 9 = .ok (.lastore, 1) := by decide +kernel
theorem dLp_10 : decode mL_person.2.1 10 = .ok (.goto 7, 3) := by decide +kernel
theorem dLp_13 : decode mL_person.2.1 13 = .ok (.astore 4, 2) := by decide +kernel
theorem dLp_15 : decode mL_person.2.1 15 = .ok (.iconst 1, 1) := by decide +kernel
theorem dLp_16 : decode mL_person.2.1 16 = .ok (.ireturn, 1) := by decide +kernel
theorem dLp_17 : decode mL_person.2.1 17 = .ok (.iconst 0, 1) := by decide +kernel
theorem dLp_18 : decode mL_person.2.1 18 = .ok (.ireturn, 1) := by decide +kernel
theorem dLm_0 : decode mL_mean.2.1 0 = .ok (.aload_n 2, 1) := by decide +kernel
theorem dLm_1 : decode mL_mean.2.1 1 = .ok (.iconst 0, 1) := by decide +kernel
theorem dLm_2 : decode mL_mean.2.1 2 = .ok (.aload_n 0, 1) := by decide +kernel
theorem dLm_3 : decode mL_mean.2.1 3 = .ok (.iload_n 1, 1) := by decide +kernel
theorem dLm_4 : decode mL_mean.2.1 4 = .ok (.invokevirtual 15, 3) := by decide +kernel
theorem dLm_7 : decode mL_mean.2.1 7 = .ok (.i2l, 1) := by decide +kernel
theorem dLm_8 : decode mL_mean.2.1 8 = .ok (.lastore, 1) := by decide +kernel
theorem dLm_9 : decode mL_mean.2.1 9 = .ok (.goto 6, 3) := by decide +kernel
theorem dLm_12 : decode mL_mean.2.1 12 = .ok (.astore_n 3, 1) := by decide +kernel
theorem dLm_13 : decode mL_mean.2.1 13 = .ok (.iconst 1, 1) := by decide +kernel
theorem dLm_14 : decode mL_mean.2.1 14 = .ok (.ireturn, 1) := by decide +kernel
theorem dLm_15 : decode mL_mean.2.1 15 = .ok (.iconst 0, 1) := by decide +kernel
theorem dLm_16 : decode mL_mean.2.1 16 = .ok (.ireturn, 1) := by decide +kernel
theorem gl_callR {g d : Nat} {X : CtxX} {Y : MD} {Q : Int → Mem → Prop} {pc : Nat} {L S : List AV} {m : Mem} {d' idx n b ci : Nat} {Y' : MD} {as : List AV} {Q' : Int → Mem → Prop} {S0 : List AV} (hE : Ev 0 d' Y' (vr b :: as) m Q') (hrt : Y'.2.2.2 = some .int ∨ Y'.2.2.2 = some .boolean) (hd : decode Y.2.1 pc = .ok (.invokevirtual idx, 3)) (hcv : CV Y.1.cls idx Y' n) (hn : as.length = n) (hst : S0 = as.reverse ++ vr b :: S) (ho : ob b ci) (hci : (cls[ci]?).map (fun q => q.1) = some Y'.1.cls) (hdp : d' + 1 ≤ d) (hrm : scat S ≤ 8) (k : ∀ r m', Q' r m' → InR r → GoL X g d Y Q (pc + 3) L (vi r :: S) m') : GoL X g d Y Q pc L S0 m :=
  gl_callV hE hd hcv hn hst ho hci hdp hrm (Nat.zero_le _) (fun r m' h1 h2 => by
    rcases hrt with h | h
    · rw [h] at h2 ⊢; exact k r m' h1 h2
    · rw [h] at h2 ⊢
      exact k r m' h1 (by have h2 : r = 0 ∨ r = 1 := h2; unfold InR; omega))
theorem gl_un {g d : Nat} {X : CtxX} {Y : MD} {Q : Int → Mem → Prop} {pc : Nat} {L1 : List AV} {v w : AV} {S : List AV} {m : Mem} (k : GoL X g d Y Q pc (L1 ++ [un, un]) S m) : GoL X g d Y Q pc (L1 ++ [v, w]) S m := by
  intro l D cA ad A p e R s mth args below meth c Z hC hX hE ls H locs cells slots hR hL hc hs
  refine k l D cA ad A p e R s mth args below meth c Z hC hX hE ls H locs cells slots hR ⟨hL.1, hL.2.1, fun q hq => hL.2.2 q ?_⟩ hc hs
  obtain ⟨u, h1, h2, h3⟩ := lvL_mem hq
  have hlt : q.1 < L1.length := by
    apply Classical.byContradiction
    intro z
    rw [List.getElem?_append_right (by omega)] at h1
    have : q.1 - L1.length = 0 ∨ q.1 - L1.length = 1 ∨ 2 ≤ q.1 - L1.length := by omega
    rcases this with e | e | e
    · rw [e] at h1; cases h1; cases h2
    · rw [e] at h1; cases h1; cases h2
    · rw [List.getElem?_eq_none (by simpa using e)] at h1; cases h1
  have := lvL_mk (ad := ad) (L := L1 ++ [v, w]) (k := q.1) (v := u) (by rw [List.getElem?_append_left hlt]; rw [List.getElem?_append_left hlt] at h1; exact h1) h2
  rw [← h3] at this
  exact this
theorem lcmp_eq {x y : Int} (h : x = y) : lcmpI x y = 0 := by subst h; unfold lcmpI; simp
theorem ev_L_person {m : Mem} {p v B : Int} (hdn : DnOk m 8) (hst : StOk m 8 18 B) (hB : B ≤ 1900000000) (hp : InR p) (hv : InR v) : EvH 1 7 mL_person hhP [vr 0, vi p, vi v, vr 235] m (fun r m' => (((0 ≤ p ∧ p < m 8 3) ∧ 0 ≤ v ∧ v ≤ 6) ∧ r = 0 ∧ m' = wr m 235 0 (perF m 8 18 p v)) ∨ (¬ ((0 ≤ p ∧ p < m 8 3) ∧ 0 ≤ v ∧ v ≤ 6) ∧ r = 1 ∧ m' = m)) := by
  refine EvH.of (L := [vr 0, vi p, vi v, vr 235, un]) (by decide +kernel) rfl (Nat.le_of_ble_eq_true rfl) rfl (fun t ht => by cases ht; exact Or.inl rfl) (fun hcan => ?_)
  refine gl_aload_n dLp_0 rfl ?_
  refine gl_iconst dLp_1 ?_
  refine gl_aload_n dLp_2 rfl ?_
  refine gl_iload_n dLp_3 rfl ?_
  refine gl_iload_n dLp_4 rfl ?_
  by_cases ok : (0 ≤ p ∧ p < m 8 3) ∧ 0 ≤ v ∧ v ≤ 6
  · refine gl_callR (as := [vi p, vi v]) (S := [vi 0, vr 235]) (b := 0) (ev_X11_person hdn hst hB ok.1 ok.2) (Or.inl rfl) dLp_5 cv_L_7 rfl rfl ob_0 rfl (by decide) (by decide) (fun r m1 hq hr => ?_)
    obtain ⟨rfl, rfl⟩ := hq
    refine gl_i2l dLp_8 hr ?_
    refine gl_lastore dLp_9 ar_235 (by omega) (by omega) (by unfold InR at hr; unfold InL; omega) ?_
    refine gl_goto (tgt := 17) dLp_10 (by decide) ?_
    refine gl_iconst dLp_17 ?_
    exact gl_ret (v := 0) rfl dLp_18 (okI ⟨by omega, by omega⟩) (Or.inl ⟨ok, rfl, rfl⟩)
  · refine gl_callX (as := [vi p, vi v]) (S := [vi 0, vr 235]) (b := 0) (j := 4) (L' := [vr 0, vi p, vi v, vr 235, un]) (evx_X11_person hdn hp hv ok) dLp_5 cv_L_7 rfl rfl ob_0 rfl (by decide) (by decide) (by decide) (by decide) (by decide) lk_L13 dLp_13 (by decide) rfl rfl ?_
    refine gl_iconst dLp_15 ?_
    exact gl_ret (v := 1) rfl dLp_16 (okI ⟨by omega, by omega⟩) (Or.inr ⟨ok, rfl, rfl⟩)
theorem ev_L_mean {m : Mem} {v B : Int} (hdn : DnOk m 8) (hst : StOk m 8 18 B) (hv : InR v) : EvH 1 7 mL_mean hhM [vr 0, vi v, vr 235] m (fun r m' => ((m 8 3 ≠ 0 ∧ 0 ≤ v ∧ v ≤ 1) ∧ r = 0 ∧ m' = wr m 235 0 ((if v = 0 then sumI (m (18 + 5)) (m 8 3) else m 8 3) / gcdI (sumI (m (18 + 5)) (m 8 3)) (m 8 3))) ∨ (¬ (m 8 3 ≠ 0 ∧ 0 ≤ v ∧ v ≤ 1) ∧ r = 1 ∧ m' = m)) := by
  refine EvH.of (L := [vr 0, vi v, vr 235, un]) (by decide +kernel) rfl (Nat.le_of_ble_eq_true rfl) rfl (fun t ht => by cases ht; exact Or.inl rfl) (fun hcan => ?_)
  have h3 := hdn.2.2.2.1
  refine gl_aload_n dLm_0 rfl ?_
  refine gl_iconst dLm_1 ?_
  refine gl_aload_n dLm_2 rfl ?_
  refine gl_iload_n dLm_3 rfl ?_
  by_cases ok : m 8 3 ≠ 0 ∧ 0 ≤ v ∧ v ≤ 1
  · refine gl_callR (as := [vi v]) (S := [vi 0, vr 235]) (b := 0) (ev_X11_mean hdn hst (by omega) ok.2) (Or.inl rfl) dLm_4 cv_L_15 rfl rfl ob_0 rfl (by decide) (by decide) (fun r m1 hq hr => ?_)
    obtain ⟨rfl, rfl⟩ := hq
    refine gl_i2l dLm_7 hr ?_
    refine gl_lastore dLm_8 ar_235 (by omega) (by omega) (by unfold InR at hr; unfold InL; omega) ?_
    refine gl_goto (tgt := 15) dLm_9 (by decide) ?_
    refine gl_iconst dLm_15 ?_
    exact gl_ret (v := 0) rfl dLm_16 (okI ⟨by omega, by omega⟩) (Or.inl ⟨ok, rfl, rfl⟩)
  · refine gl_callXn (as := [vi v]) (S := [vi 0, vr 235]) (b := 0) (j := 3) (L' := [vr 0, vi v, vr 235, un]) (evx_X11_mean hdn hv ok) dLm_4 cv_L_15 rfl rfl ob_0 rfl (by decide) (by decide) (by decide) (by decide) (by decide) lk_L13 dLm_12 (by decide) rfl rfl ?_
    refine gl_iconst dLm_13 ?_
    exact gl_ret (v := 1) rfl dLm_14 (okI ⟨by omega, by omega⟩) (Or.inr ⟨ok, rfl, rfl⟩)
abbrev LL (i : Int) : List AV := [vr 1011, vr 0, vr 214, vr 235, vi i, un, un]
abbrev sc (xs : Nat → Int32) (i : Int) : Int := (xs i.toNat).toInt
