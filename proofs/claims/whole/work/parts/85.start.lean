/-! ===== behind both constructors: the world is whole, and the invariant holds ===== -/
def pF : Nat → Nat → Nat := pMo (pCt (fun _ _ => 0))
def mF : Mem := mMo (mCt (fun _ _ => 0))
def fullB : Bool := (List.range 236).all (fun a => if sk a < 100 then (List.range (sn a)).all (fun k => !(isP (cty (sk a) k)) || (pF a k == sp a k + 1)) else if sk a < 104 then true else (List.range (sn a)).all (fun k => pF a k == sp a k + 1))
theorem full_ok : fullB = true := by decide +kernel
theorem full_o {a k : Nat} (ha : a < NC) (hs : sk a < 100) (hk : k < sn a) (hp : isP (cty (sk a) k) = true) : pF a k = sp a k + 1 := by
  have h := List.all_eq_true.mp full_ok a (List.mem_range.mpr ha)
  rw [if_pos hs] at h
  have h2 := List.all_eq_true.mp h k (List.mem_range.mpr hk)
  rw [hp] at h2
  simpa using h2
theorem full_q {a k : Nat} (ha : a < NC) (hs : 104 ≤ sk a) (hk : k < sn a) : pF a k = sp a k + 1 := by
  have h := List.all_eq_true.mp full_ok a (List.mem_range.mpr ha)
  rw [if_neg (by omega), if_neg (by omega)] at h
  have h2 := List.all_eq_true.mp h k (List.mem_range.mpr hk)
  simpa using h2
theorem fs_full {ad : Nat → Nat} {m : Mem} {a : Nat} (ha : a < NC) (hs : sk a < 100) : fsC ad (NC, pF, m) a = objFs ad m a := by
  unfold fsC objFs
  apply List.map_congr_left
  intro k hk
  have hk : k < sn a := List.mem_range.mp hk
  show fvC (cty (sk a) k) ad (m a (k : Int)) (pF a k) = fval (cty (sk a) k) ad (m a (k : Int)) (sp a k)
  by_cases hp : isP (cty (sk a) k) = true
  · rw [full_o ha hs hk hp, fvC_p hp]
    cases h : cty (sk a) k <;> rw [h] at hp <;> first | rfl | cases hp
  · cases h : cty (sk a) k <;> rw [h] at hp <;> first | rfl | exact absurd rfl hp
theorem arrV_c {c : ClassId} {n : Nat} {f g : Nat → Value} (h : ∀ j, j < n → f j = g j) : arrV c n f = arrV c n g := by
  unfold arrV
  congr 1
  congr 1
  funext j
  exact h j.val j.isLt
theorem full_at {D : va_G} {cA : Nat → ClassId} {ad : Nat → Nat} {m : Mem} {H : Heap} {k : Nat} (hl : k < NC) : va_at D cls (ad k, ceC cA ad (NC, pF, m) k) H ↔ va_at D cls (ad k, cellE cA ad m k) H := by
  by_cases h1 : sk k < 100
  · have e : ceC cA ad (NC, pF, m) k = cellE cA ad m k := by
      unfold ceC cellE
      rw [if_pos h1, if_pos h1, fs_full hl h1]
    rw [e]
  · by_cases h2 : sk k < 103
    · have e : ceC cA ad (NC, pF, m) k = cellE cA ad m k := by
        unfold ceC cellE
        rw [if_neg h1, if_neg h1, if_pos h2, if_pos h2]
      rw [e]
    · by_cases h3 : sk k = 103
      · have e : ceC cA ad (NC, pF, m) k = cellE cA ad m k := by
          unfold ceC cellE
          rw [if_neg h1, if_neg h1, if_neg h2, if_neg h2, if_pos h3, if_pos h3]
        rw [e]
      · have e1 : ceC cA ad (NC, pF, m) k = .inl (cA (sk k - 100), sn k, .inr (.inr (.inr (.inr (fun j => if pF k j = 0 then none else some (ad (pF k j - 1))))))) := by
          unfold ceC
          rw [if_neg h1, if_neg h2, if_neg h3]
        have e2 : cellE cA ad m k = .inl (cA (sk k - 100), sn k, .inr (.inr (.inr (.inr (fun j => some (ad (sp k j))))))) := by
          unfold cellE
          rw [if_neg h1, if_neg h2, if_neg h3]
        rw [e1, e2]
        have e3 : vp_cell (cA (sk k - 100)) (sn k, .inr (.inr (.inr (.inr (fun j => if pF k j = 0 then none else some (ad (pF k j - 1))))))) = vp_cell (cA (sk k - 100)) (sn k, .inr (.inr (.inr (.inr (fun j => some (ad (sp k j))))))) := by
          rw [vp_cell_q, vp_cell_q]
          apply arrV_c
          intro j hj
          have hf := full_q (k := j) hl (by omega) hj
          rw [hf, if_neg (by omega)]
          rfl
        show H[ad k]? = some (vp_cell (cA (sk k - 100)) (sn k, .inr (.inr (.inr (.inr (fun j => if pF k j = 0 then none else some (ad (pF k j - 1)))))))) ↔ H[ad k]? = some (vp_cell (cA (sk k - 100)) (sn k, .inr (.inr (.inr (.inr (fun j => some (ad (sp k j))))))))
        rw [e3]
theorem Wd_in {cA : Nat → ClassId} {ad : Nat → Nat} {m : Mem} {k : Nat} {q : Nat × va_E} (hk : (Wd cA ad m)[k]? = some q) : k < NC ∧ q = (ad k, cellE cA ad m k) := by
  by_cases hl : k < NC
  · rw [Wd_at hl] at hk; cases hk; exact ⟨hl, rfl⟩
  · exfalso
    have : (Wd cA ad m)[k]? = none := by simp [Wd, hl]
    rw [this] at hk
    cases hk
theorem Wc_in {cA : Nat → ClassId} {ad : Nat → Nat} {w : CW} {k : Nat} {q : Nat × va_E} (hk : (Wc cA ad w)[k]? = some q) : k < w.1 ∧ q = (ad k, ceC cA ad w k) := by
  by_cases hl : k < w.1
  · rw [Wc_at hl] at hk; cases hk; exact ⟨hl, rfl⟩
  · exfalso
    have : (Wc cA ad w)[k]? = none := by simp [Wc, hl]
    rw [this] at hk
    cases hk
theorem full_P {D : va_G} {cA : Nat → ClassId} {ad : Nat → Nat} {m : Mem} {H : Heap} (h : va_P D cls (Wc cA ad (NC, pF, m)) H) : va_P D cls (Wd cA ad m) H := by
  intro k q hk
  obtain ⟨hl, rfl⟩ := Wd_in hk
  exact (full_at hl).mp (h k _ (Wc_at (w := (NC, pF, m)) hl))
theorem full_P2 {D : va_G} {cA : Nat → ClassId} {ad : Nat → Nat} {m : Mem} {H : Heap} (h : va_P D cls (Wd cA ad m) H) : va_P D cls (Wc cA ad (NC, pF, m)) H := by
  intro k q hk
  obtain ⟨hl, rfl⟩ := Wc_in hk
  exact (full_at hl).mpr (h k _ (Wd_at hl))
theorem full_D {A : Nat → Prop} {cA : Nat → ClassId} {ad : Nat → Nat} {m : Mem} (h : va_D A (Wc cA ad (NC, pF, m))) : va_D A (Wd cA ad m) := by
  refine ⟨fun i j p q hi hj e => ?_, fun k q hk => ?_⟩
  · obtain ⟨li, rfl⟩ := Wd_in hi
    obtain ⟨lj, rfl⟩ := Wd_in hj
    exact h.1 i j _ _ (Wc_at (w := (NC, pF, m)) li) (Wc_at (w := (NC, pF, m)) lj) e
  · obtain ⟨lk, rfl⟩ := Wd_in hk
    show A (ad k)
    exact h.2 k (ad k, ceC cA ad (NC, pF, m) k) (Wc_at (w := (NC, pF, m)) lk)
theorem full_D2 {A : Nat → Prop} {cA : Nat → ClassId} {ad : Nat → Nat} {m : Mem} (h : va_D A (Wd cA ad m)) : va_D A (Wc cA ad (NC, pF, m)) := by
  refine ⟨fun i j p q hi hj e => ?_, fun k q hk => ?_⟩
  · obtain ⟨li, rfl⟩ := Wc_in hi
    obtain ⟨lj, rfl⟩ := Wc_in hj
    exact h.1 i j _ _ (Wd_at li) (Wd_at lj) e
  · obtain ⟨lk, rfl⟩ := Wc_in hk
    show A (ad k)
    exact h.2 k (ad k, cellE cA ad m k) (Wd_at lk)
theorem mF_val (b : Nat) (j : Int) (h3 : b ≠ 3) : mF b j = if (b = 8 ∨ b = 47 ∨ b = 165 ∨ b = 189 ∨ b = 216) ∧ (j = 0 ∨ j = 1) then 6 else if b = 214 ∧ j = 35 then -1 else 0 := by
  unfold mF mMo mCt mDt mTp mDn
  unfold wr pkM
  repeat' split
  all_goals first | rfl | omega
theorem mF_3 (k : Int) (h0 : 0 ≤ k) (h1 : k < 25) : mF 3 k = kwC k := by
  have e : mF 3 k = rowN 137 k := by
    unfold mF mMo mCt mDt mTp mDn
    unfold wr pkM
    repeat' split
    all_goals first | rfl | omega
  rw [e]
  have := row_kw k.toNat (by omega)
  rw [show ((k.toNat : Nat) : Int) = k by omega] at this
  exact this
theorem mF_0 {b : Nat} {j : Int} (h3 : b ≠ 3) (h : ¬ ((b = 8 ∨ b = 47 ∨ b = 165 ∨ b = 189 ∨ b = 216) ∧ (j = 0 ∨ j = 1))) (h5 : ¬ (b = 214 ∧ j = 35)) : mF b j = 0 := by
  rw [mF_val b j h3, if_neg h, if_neg h5]
theorem mF_6 {b : Nat} {j : Int} (h : (b = 8 ∨ b = 216) ∧ (j = 0 ∨ j = 1)) : mF b j = 6 := by
  rw [mF_val b j (by omega), if_pos (by omega)]
theorem inv_0 : Inv mF 0 := by
  have z : ∀ (b : Nat) (j : Int), b ≠ 3 → ¬ ((b = 8 ∨ b = 47 ∨ b = 165 ∨ b = 189 ∨ b = 216) ∧ (j = 0 ∨ j = 1)) → ¬ (b = 214 ∧ j = 35) → mF b j = 0 := fun b j h1 h2 h3 => mF_0 h1 h2 h3
  have e80 : mF 8 0 = 6 := mF_6 (by omega)
  have e81 : mF 8 1 = 6 := mF_6 (by omega)
  have e82 : mF 8 2 = 0 := z _ _ (by omega) (by omega) (by omega)
  have e83 : mF 8 3 = 0 := z _ _ (by omega) (by omega) (by omega)
  have e84 : mF 8 4 = 0 := z _ _ (by omega) (by omega) (by omega)
  have n0 : mF 216 0 = 6 := mF_6 (by omega)
  have n1 : mF 216 1 = 6 := mF_6 (by omega)
  have n : ∀ j : Int, 2 ≤ j → mF 216 j = 0 := fun j hj => z _ _ (by omega) (by omega) (by omega)
  have q : ∀ j : Int, j ≠ 35 → mF 214 j = 0 := fun j hj => z _ _ (by omega) (by omega) (by omega)
  refine ⟨⟨?_, ?_, ?_, ?_, ?_⟩, ?_, ?_, ?_, ?_, ?_, ?_, ?_, ?_, ?_, ?_⟩
  · unfold DnOk
    rw [e80, e81, e82, e83, e84]
    exact ⟨by omega, by omega, by omega, by omega, by omega, fun f a b => by omega, fun f a b => by omega, fun f a b => by omega⟩
  · unfold StOk
    rw [e83, z 18 0 (by omega) (by omega) (by omega), z 18 1 (by omega) (by omega) (by omega)]
    exact ⟨by omega, by omega, fun c => by rw [z (18 + 1) c (by omega) (by omega) (by omega)]; omega, fun f a b => by omega, fun f g a b => by omega, fun f a b => by omega⟩
  · unfold Bg BgD BgS
    rw [e80, e81, e82, e83, e84, n0, n1, n 2 (by omega), n 3 (by omega), n 4 (by omega), n 123 (by omega), n 124 (by omega), n 125 (by omega), z 18 0 (by omega) (by omega) (by omega), z 18 1 (by omega) (by omega) (by omega)]
    refine ⟨⟨⟨rfl, rfl, rfl, rfl, rfl⟩, fun f a b => by omega, fun f a b => by omega, fun f a b => by omega⟩, ⟨rfl, rfl, rfl⟩, fun f a b => by omega, fun p a b => n _ (by omega), fun c a b => ?_⟩
    rw [n _ (by omega), z (18 + 1) c (by omega) (by omega) (by omega)]
  · unfold NmR
    rw [e82, e83, e84]
    exact ⟨fun f a b => by omega, fun f a b => by omega, fun f a b => by omega⟩
  · refine ⟨⟨fun _ => n 232 (by omega), fun _ => z _ _ (by omega) (by omega) (by omega)⟩, fun h => absurd (n 232 (by omega)) h⟩
  · refine ⟨⟨by rw [z 97 1 (by omega) (by omega) (by omega)]; omega, by rw [z 97 2 (by omega) (by omega) (by omega)]; omega⟩, by rw [q 25 (by omega), z 97 2 (by omega) (by omega) (by omega)], fun k a b => ?_⟩
    rw [z 97 2 (by omega) (by omega) (by omega)] at b
    omega
  · intro k a b
    have e1 : mF 212 k = 0 := z _ _ (by omega) (by omega) (by omega)
    refine ⟨by rw [e1, z 224 k (by omega) (by omega) (by omega)], fun h => ?_⟩
    rw [e1] at h
    omega
  · exact TpX.zero (z _ _ (by omega) (by omega) (by omega)) (q 2 (by omega))
  · exact fun k a b => mF_3 k a b
  · show mF 1 6 = mF 214 10
    rw [q 10 (by omega), z 1 6 (by omega) (by omega) (by omega)]
  · unfold WyR
    rw [z 81 2 (by omega) (by omega) (by omega), q 29 (by omega)]
    exact ⟨rfl, by omega, fun k a b => by omega⟩
  · unfold UdR
    rw [z 89 1 (by omega) (by omega) (by omega), q 31 (by omega)]
    exact ⟨rfl, by omega, fun k a b => by omega⟩
  · unfold TrR
    rw [z 92 1 (by omega) (by omega) (by omega), q 34 (by omega), mF_val 214 35 (by omega), if_neg (by omega), if_pos ⟨rfl, rfl⟩, if_pos rfl]
    exact ⟨rfl, by omega, fun k a b => by omega, rfl⟩
  · unfold ToR
    rw [z 70 0 (by omega) (by omega) (by omega), q 42 (by omega)]
    exact ⟨rfl, fun h => absurd rfl h⟩
  · unfold SlR
    rw [z 0 13 (by omega) (by omega) (by omega), q 37 (by omega)]
    exact ⟨rfl, by omega, fun k a b => by omega⟩
/-! ===== the law from its first instruction to its loop ===== -/
theorem dL_0 : decode mL_law.2.1 0 = .ok (.new 8, 3) := by decide +kernel
theorem dL_3 : decode mL_law.2.1 3 = .ok (.dup, 1) := by decide +kernel
theorem dL_4 : decode mL_law.2.1 4 = .ok (.invokespecial 19, 3) := by decide +kernel
theorem dL_7 : decode mL_law.2.1 7 = .ok (.astore_n 1, 1) := by decide +kernel
theorem dL_8 : decode mL_law.2.1 8 = .ok (.new 20, 3) := by decide +kernel
theorem dL_11 : decode mL_law.2.1 11 = .ok (.dup, 1) := by decide +kernel
theorem dL_12 : decode mL_law.2.1 12 = .ok (.invokespecial 22, 3) := by decide +kernel
theorem dL_15 : decode mL_law.2.1 15 = .ok (.astore_n 2, 1) := by decide +kernel
theorem dL_16 : decode mL_law.2.1 16 = .ok (.iconst 1, 1) := by decide +kernel
theorem dL_17 : decode mL_law.2.1 17 = .ok (.newarray .long, 2) := by decide +kernel
theorem dL_19 : decode mL_law.2.1 19 = .ok (.astore_n 3, 1) := by decide +kernel
theorem dL_20 : decode mL_law.2.1 20 = .ok (.iconst 0, 1) := by decide +kernel
theorem dL_21 : decode mL_law.2.1 21 = .ok (.istore 4, 2) := by decide +kernel
theorem law_main : Gc 1000 72 mL_law (fun v _ => v = 1) 20 [vr 1011, vr 0, vr 214, vr 235, un, un, un] [] (236, pF, mF) := by
  intro l D cA ad A p e R s mth args below meth c Z hC hX hE ls H locs cells slots hR hL hc hs
  obtain ⟨n, xs, hn, hx1, hx2, hx3, hx4⟩ := hX.2.2 rfl
  have hloop := law_loop (xs := xs) hn 600 1000 0 0 mF (by omega) (by omega) (by omega) (by omega) inv_0 (by omega) (by omega)
  have h20 : GoL (XL n xs) 1000 72 mL_law (fun v _ => v = 1) 20 [vr 1011, vr 0, vr 214, vr 235, un, un, un] [] mF := by
    refine gl_iconst dL_20 ?_
    refine gl_istore (x := 0) (L' := LL 0) dL_21 (by decide) rfl rfl ?_
    exact hloop
  have hR2 : Rl cA D ad A s mF H locs := ⟨full_P hR.1, full_D hR.2.1, hR.2.2.1, hR.2.2.2.1⟩
  refine h20 l D cA ad A p e R s mth args below meth c Z hC ⟨hx1, hx2, hx3, hx4⟩ (fun v m' pc' ls H locs cells slots hv hok hR9 hc9 hs9 hd9 => ?_) ls H locs cells slots hR2 hL (by omega) (by omega)
  exact hE v (236, pF, m') ad pc' ls H locs cells slots Agr.rf hv hok ⟨full_P2 hR9.1, full_D2 hR9.2.1, hR9.2.2.1, hR9.2.2.2, Nat.le_refl _, fun a ha => ⟨(hR.2.2.2.2.2.1 a ha).1, fun i => (hR9.2.2.2 a i).2 (Or.inr (Or.inr ha))⟩, hR.2.2.2.2.2.2⟩ hc9 hs9 hd9
theorem law_all : Gc 1236 72 mL_law (fun v _ => v = 1) 0 [vr 1011, un, un, un, un, un, un] [] (0, (fun _ _ => 0), (fun _ _ => 0)) := by
  refine gc_new dL_0 nw_L_8 (fun j _ => tg_11 j) ob_0 rfl rfl (fun hz1 => ?_)
  show Gc 1235 72 mL_law _ 3 [vr 1011, un, un, un, un, un, un] [vr 0] (1, (fun _ _ => 0), (fun _ _ => 0))
  refine gc_dup_r dL_3 ?_
  refine gc_callI (as := []) (S := [vr 0]) (b := 0) (evc_X11 (m := (fun _ _ => 0)) (fun i => rfl)) dL_4 ci_L_19 rfl rfl (by decide) (Nat.le_of_ble_eq_true rfl) (by decide) (fun _ _ h => by rw [h]; show 1 ≤ 214; omega) rfl rfl (fun r9 w9 hq9 _ => ?_)
  subst hq9
  show Gc 1022 72 mL_law _ 7 [vr 1011, un, un, un, un, un, un] [vr 0] (214, pCt (fun _ _ => 0), mCt (fun _ _ => 0))
  refine gc_astore_n (a := 0) (L' := [vr 1011, vr 0, un, un, un, un, un]) dL_7 (by decide) rfl rfl ?_
  refine gc_new dL_8 nw_L_20 (fun j _ => tg_12 j) ob_214 rfl rfl (fun hz2 => ?_)
  show Gc 1021 72 mL_law _ 11 [vr 1011, vr 0, un, un, un, un, un] [vr 214] (215, pCt (fun _ _ => 0), mCt (fun _ _ => 0))
  refine gc_dup_r dL_11 ?_
  refine gc_callI (as := []) (S := [vr 214]) (b := 214) (evc_X12 (m := mCt (fun _ _ => 0)) (fun i => hz2 i)) dL_12 ci_L_22 rfl rfl (by decide) (Nat.le_of_ble_eq_true rfl) (by decide) (fun _ _ h => by rw [h]; show 215 ≤ 235; omega) rfl rfl (fun r9 w9 hq9 _ => ?_)
  subst hq9
  show Gc 1001 72 mL_law _ 15 [vr 1011, vr 0, un, un, un, un, un] [vr 214] (235, pF, mF)
  refine gc_astore_n (a := 214) (L' := [vr 1011, vr 0, vr 214, un, un, un, un]) dL_15 (by decide) rfl rfl ?_
  refine gc_iconst dL_16 ?_
  refine gc_newJ (kd := 3) (N := 1) dL_17 rfl rfl aw_3 ar_235 (by decide) rfl rfl rfl (fun hz3 => ?_)
  refine gc_astore_n (a := 235) (L' := [vr 1011, vr 0, vr 214, vr 235, un, un, un]) dL_19 (by decide) rfl rfl ?_
  exact law_main
