/-! ===== constructors: the text of the keywords ===== -/
theorem okIc {v : Int} (h : InR v) : rOkC (some .int) v := h
theorem chK_k : ∀ j : Nat, j < 137 → ((0 ≤ chK j ∧ chK j < 128) ∧ iand (chK j) 255 = chK j) ∧ (chK j = 32 ∨ (97 ≤ chK j ∧ chK j ≤ 122)) := by decide +kernel
theorem chK_b {j : Int} (h : 0 ≤ j ∧ j < 137) : (0 ≤ chK j ∧ chK j < 128) ∧ iand (chK j) 255 = chK j := by
  have := (chK_k j.toNat (by omega)).1
  rw [show ((j.toNat : Nat) : Int) = j by omega] at this
  exact this
theorem gc_callSp_i {g d : Nat} {Y : MD} {Q : Int → CW → Prop} {pc : Nat} {L S : List AV} {m : CW} {d' idx n : Nat} {Y' : MD} {as : List AV} {P : Int → Prop} {S0 : List AV} (hE : EvC 0 d' Y' as m (fun r m' => m' = m ∧ P r)) (hrt : Y'.2.2.2 = some .int) (hd : decode Y.2.1 pc = .ok (.invokestatic idx, 3)) (hcv : CS Y.1.cls idx Y' n) (hn : as.length = n) (hst : S0 = as.reverse ++ S) (hdp : d' + 1 ≤ d) (hrm : scat S ≤ 8) (hLn : okA m.1 L = true) (hSn : okA m.1 S = true) (k : ∀ r, P r → InR r → Gc g d Y Q (pc + 3) L (vi r :: S) m) : Gc g d Y Q pc L S0 m :=
  gc_callS hE hd hcv hn hst hdp hrm (Nat.zero_le _) (fun _ _ h => by rw [h.1]; exact Nat.le_refl _) hLn hSn (fun r m' h1 h2 => by
    rw [hrt] at h2 ⊢
    obtain ⟨rfl, h1⟩ := h1; exact k r h1 h2)
theorem gc_callS_v {g d : Nat} {Y : MD} {Q : Int → CW → Prop} {pc : Nat} {L S : List AV} {m : CW} {d' idx n : Nat} {Y' : MD} {as : List AV} {Q' : Int → CW → Prop} {S0 : List AV} (hE : EvC 0 d' Y' as m Q') (hrt : Y'.2.2.2 = none) (hd : decode Y.2.1 pc = .ok (.invokestatic idx, 3)) (hcv : CS Y.1.cls idx Y' n) (hn : as.length = n) (hst : S0 = as.reverse ++ S) (hdp : d' + 1 ≤ d) (hrm : scat S ≤ 8) (hmono : ∀ r m', Q' r m' → m.1 ≤ m'.1) (hLn : okA m.1 L = true) (hSn : okA m.1 S = true) (k : ∀ m', Q' 0 m' → Gc g d Y Q (pc + 3) L S m') : Gc g d Y Q pc L S0 m :=
  gc_callS hE hd hcv hn hst hdp hrm (Nat.zero_le _) hmono hLn hSn (fun r m' h1 h2 => by
    rw [hrt] at h2 ⊢
    have h2 : r = 0 := h2
    subst h2; exact k m' h1)
theorem evc_J0_coder_7d493 {m : CW} : EvC 0 1 mJ0_coder_7d493 [vr 1008] m (fun r m' => m' = m ∧ r = 0) := by
  refine EvC.of (L := [vr 1008]) (by decide +kernel) (Nat.le_of_ble_eq_true rfl) rfl (fun t ht => by cases ht; first | exact Or.inl rfl | exact Or.inr (Or.inl rfl) | exact Or.inr (Or.inr (Or.inr (Or.inl rfl))) | exact Or.inr (Or.inr (Or.inr (Or.inr (Or.inl rfl))))) (fun t ht z v m' hq => by obtain ⟨_, h⟩ := hq; subst h; exact ⟨by decide, by decide⟩) (fun hcan => ?_)
  refine gc_getsC dJ0_coder_7d493_0 fj_38 ?_
  refine gc_if_eq (tgt := 13) dJ0_coder_7d493_3 (by decide) ⟨by omega, by omega⟩ (fun h => absurd h (by decide)) (fun _ => ?_)
  refine gc_aload_n dJ0_coder_7d493_6 rfl ?_
  refine gc_getfC dJ0_coder_7d493_7 fj_15 ?_
  refine gc_goto (tgt := 14) dJ0_coder_7d493_10 (by decide) ?_
  exact gc_ret (v := 0) rfl dJ0_coder_7d493_14 ⟨by decide, by decide⟩ ⟨rfl, rfl⟩
theorem evc_J0_isLatin1_aae02 {m : CW} : EvC 0 1 mJ0_isLatin1_aae02 [vr 1008] m (fun r m' => m' = m ∧ r = 1) := by
  refine EvC.of (L := [vr 1008]) (by decide +kernel) (Nat.le_of_ble_eq_true rfl) rfl (fun t ht => by cases ht; first | exact Or.inl rfl | exact Or.inr (Or.inl rfl) | exact Or.inr (Or.inr (Or.inr (Or.inl rfl))) | exact Or.inr (Or.inr (Or.inr (Or.inr (Or.inl rfl))))) (fun t ht z => by cases ht; rcases z with z | z <;> cases z) (fun hcan => ?_)
  refine gc_getsC dJ0_isLatin1_aae02_0 fj_38 ?_
  refine gc_if_eq (tgt := 17) dJ0_isLatin1_aae02_3 (by decide) ⟨by omega, by omega⟩ (fun h => absurd h (by decide)) (fun _ => ?_)
  refine gc_aload_n dJ0_isLatin1_aae02_6 rfl ?_
  refine gc_getfC dJ0_isLatin1_aae02_7 fj_15 ?_
  refine gc_if_ne (tgt := 17) dJ0_isLatin1_aae02_10 (by decide) ⟨by omega, by omega⟩ (fun h => absurd rfl h) (fun _ => ?_)
  refine gc_iconst dJ0_isLatin1_aae02_13 ?_
  refine gc_goto (tgt := 18) dJ0_isLatin1_aae02_14 (by decide) ?_
  exact gc_ret (v := 1) rfl dJ0_isLatin1_aae02_18 (Or.inr rfl) ⟨rfl, rfl⟩
theorem evc_J0_length_8abf5 {m : CW} : EvC 0 2 mJ0_length_8abf5 [vr 1008] m (fun r m' => m' = m ∧ r = 137) := by
  refine EvC.of (L := [vr 1008]) (by decide +kernel) (Nat.le_of_ble_eq_true rfl) rfl (fun t ht => by cases ht; first | exact Or.inl rfl | exact Or.inr (Or.inl rfl) | exact Or.inr (Or.inr (Or.inr (Or.inl rfl))) | exact Or.inr (Or.inr (Or.inr (Or.inr (Or.inl rfl))))) (fun t ht z => by cases ht; rcases z with z | z <;> cases z) (fun hcan => ?_)
  refine gc_aload_n dJ0_length_8abf5_0 rfl ?_
  refine gc_getfV dJ0_length_8abf5_1 fj_9 ?_
  refine gc_alenS dJ0_length_8abf5_4 ?_
  refine gc_aload_n dJ0_length_8abf5_5 rfl ?_
  refine gc_callVS (as := []) (S := [vi 137]) (evc_J0_coder_7d493) dJ0_length_8abf5_6 cj_335 rfl rfl rfl (by decide) (Nat.le_of_ble_eq_true rfl) (Nat.zero_le _) (fun _ _ h => by rw [h.1]; exact Nat.le_refl _) (by simp [okA, NC]) (by simp [okA, NC]) (fun r m' h1 h2 => ?_)
  obtain ⟨rfl, rfl⟩ := h1
  refine gc_ishr dJ0_length_8abf5_9 ?_
  rw [show ishr 137 0 = 137 by decide +kernel]
  exact gc_ret (v := 137) rfl dJ0_length_8abf5_10 (okIc ⟨by omega, by omega⟩) ⟨rfl, rfl⟩
theorem evc_J3_checkIndex_8e157n {m : CW} {x n : Int} (h : 0 ≤ x ∧ x < n) (hn : n ≤ 1000) : EvC 0 1 mJ3_checkIndex_8e157 [vi x, vi n, un] m (fun r m' => m' = m ∧ r = x) := by
  refine EvC.of (L := [vi x, vi n, un]) (by decide +kernel) (Nat.le_of_ble_eq_true rfl) rfl (fun t ht => by cases ht; first | exact Or.inl rfl | exact Or.inr (Or.inl rfl) | exact Or.inr (Or.inr (Or.inr (Or.inl rfl))) | exact Or.inr (Or.inr (Or.inr (Or.inr (Or.inl rfl))))) (fun t ht z => by cases ht; rcases z with z | z <;> cases z) (fun hcan => ?_)
  refine gc_iload_n dJ3_checkIndex_8e157_0 rfl ?_
  refine gc_if_lt (tgt := 9) dJ3_checkIndex_8e157_1 (by decide) ⟨by omega, by omega⟩ (fun h => by omega) (fun _ => ?_)
  refine gc_iload_n dJ3_checkIndex_8e157_4 rfl ?_
  refine gc_iload_n dJ3_checkIndex_8e157_5 rfl ?_
  refine gc_icmp_lt (tgt := 16) dJ3_checkIndex_8e157_6 (by decide) ⟨by omega, by omega⟩ ⟨by omega, by omega⟩ (fun _ => ?_) (fun h => by omega)
  refine gc_iload_n dJ3_checkIndex_8e157_16 rfl ?_
  exact gc_ret (v := x) rfl dJ3_checkIndex_8e157_17 (okIc ⟨by omega, by omega⟩) ⟨rfl, rfl⟩
theorem evc_J3_checkIndex_8e157r {m : CW} {x n : Int} (h : 0 ≤ x ∧ x < n) (hn : n ≤ 1000) : EvC 0 1 mJ3_checkIndex_8e157 [vi x, vi n, vr 1010] m (fun r m' => m' = m ∧ r = x) := by
  refine EvC.of (L := [vi x, vi n, vr 1010]) (by decide +kernel) (Nat.le_of_ble_eq_true rfl) rfl (fun t ht => by cases ht; first | exact Or.inl rfl | exact Or.inr (Or.inl rfl) | exact Or.inr (Or.inr (Or.inr (Or.inl rfl))) | exact Or.inr (Or.inr (Or.inr (Or.inr (Or.inl rfl))))) (fun t ht z => by cases ht; rcases z with z | z <;> cases z) (fun hcan => ?_)
  refine gc_iload_n dJ3_checkIndex_8e157_0 rfl ?_
  refine gc_if_lt (tgt := 9) dJ3_checkIndex_8e157_1 (by decide) ⟨by omega, by omega⟩ (fun h => by omega) (fun _ => ?_)
  refine gc_iload_n dJ3_checkIndex_8e157_4 rfl ?_
  refine gc_iload_n dJ3_checkIndex_8e157_5 rfl ?_
  refine gc_icmp_lt (tgt := 16) dJ3_checkIndex_8e157_6 (by decide) ⟨by omega, by omega⟩ ⟨by omega, by omega⟩ (fun _ => ?_) (fun h => by omega)
  refine gc_iload_n dJ3_checkIndex_8e157_16 rfl ?_
  exact gc_ret (v := x) rfl dJ3_checkIndex_8e157_17 (okIc ⟨by omega, by omega⟩) ⟨rfl, rfl⟩
theorem evc_J0_checkIndex_df160 {m : CW} {x n : Int} (h : 0 ≤ x ∧ x < n) (hn : n ≤ 1000) : EvC 0 2 mJ0_checkIndex_df160 [vi x, vi n] m (fun r m' => m' = m ∧ True) := by
  refine EvC.of (L := [vi x, vi n]) (by decide +kernel) (Nat.le_of_ble_eq_true rfl) rfl (fun t ht => by cases ht) (fun t ht => by cases ht) (fun hcan => ?_)
  refine gc_iload_n dJ0_checkIndex_df160_0 rfl ?_
  refine gc_iload_n dJ0_checkIndex_df160_1 rfl ?_
  refine gc_getsF dJ0_checkIndex_df160_2 fj_1053 ?_ ?_
  · refine gc_callSp_i (as := [vi x, vi n, un]) (S := []) (evc_J3_checkIndex_8e157n h hn) rfl dJ0_checkIndex_df160_5 cj_1059 rfl rfl (by decide) (Nat.le_of_ble_eq_true rfl) (by simp [okA, NC]) (by simp [okA, NC]) (fun r _ _ => ?_)
    refine gc_pop_i dJ0_checkIndex_df160_8 ?_
    exact gc_ret (v := 0) rfl dJ0_checkIndex_df160_9 rfl ⟨rfl, trivial⟩
  · refine gc_callSp_i (as := [vi x, vi n, vr 1010]) (S := []) (evc_J3_checkIndex_8e157r h hn) rfl dJ0_checkIndex_df160_5 cj_1059 rfl rfl (by decide) (Nat.le_of_ble_eq_true rfl) (by simp [okA, NC]) (by simp [okA, NC]) (fun r _ _ => ?_)
    refine gc_pop_i dJ0_checkIndex_df160_8 ?_
    exact gc_ret (v := 0) rfl dJ0_checkIndex_df160_9 rfl ⟨rfl, trivial⟩
theorem evc_J1_charAt_3b067 {m : CW} {j : Int} (h0 : 0 ≤ j ∧ j < 137) : EvC 0 3 mJ1_charAt_3b067 [vr 1009, vi j] m (fun r m' => m' = m ∧ r = chK j) := by
  refine EvC.of (L := [vr 1009, vi j]) (by decide +kernel) (Nat.le_of_ble_eq_true rfl) rfl (fun t ht => by cases ht; first | exact Or.inl rfl | exact Or.inr (Or.inl rfl) | exact Or.inr (Or.inr (Or.inr (Or.inl rfl))) | exact Or.inr (Or.inr (Or.inr (Or.inr (Or.inl rfl))))) (fun t ht z v m' hq => by obtain ⟨_, h⟩ := hq; rw [h]; exact (chK_b h0).1) (fun hcan => ?_)
  have hcb := chK_b h0
  refine gc_iload_n dJ1_charAt_3b067_0 rfl ?_
  refine gc_aload_n dJ1_charAt_3b067_1 rfl ?_
  refine gc_alenS dJ1_charAt_3b067_2 ?_
  refine gc_callS_v (as := [vi j, vi 137]) (S := []) (evc_J0_checkIndex_df160 h0 (by omega)) rfl dJ1_charAt_3b067_3 cj1_9 rfl rfl (by decide) (Nat.le_of_ble_eq_true rfl) (fun _ _ h => by rw [h.1]; exact Nat.le_refl _) (by simp [okA, NC]) (by simp [okA, NC]) (fun m' h1 => ?_)
  obtain ⟨rfl, -⟩ := h1
  refine gc_aload_n dJ1_charAt_3b067_6 rfl ?_
  refine gc_iload_n dJ1_charAt_3b067_7 rfl ?_
  refine gc_baloadS dJ1_charAt_3b067_8 h0.1 h0.2 ?_
  refine gc_sipush dJ1_charAt_3b067_9 (by decide) ?_
  refine gc_iand dJ1_charAt_3b067_12 ?_
  rw [hcb.2]
  refine gc_i2c dJ1_charAt_3b067_13 hcb.1 ?_
  exact gc_ret (v := chK j) rfl dJ1_charAt_3b067_14 ⟨by omega, by omega⟩ ⟨rfl, rfl⟩
theorem evc_J0_charAt_5068e {m : CW} {j : Int} (h0 : 0 ≤ j ∧ j < 137) : EvC 0 4 mJ0_charAt_5068e [vr 1008, vi j] m (fun r m' => m' = m ∧ r = chK j) := by
  refine EvC.of (L := [vr 1008, vi j]) (by decide +kernel) (Nat.le_of_ble_eq_true rfl) rfl (fun t ht => by cases ht; first | exact Or.inl rfl | exact Or.inr (Or.inl rfl) | exact Or.inr (Or.inr (Or.inr (Or.inl rfl))) | exact Or.inr (Or.inr (Or.inr (Or.inr (Or.inl rfl))))) (fun t ht z v m' hq => by obtain ⟨_, h⟩ := hq; rw [h]; exact (chK_b h0).1) (fun hcan => ?_)
  have hcb := chK_b h0
  refine gc_aload_n dJ0_charAt_5068e_0 rfl ?_
  refine gc_callVS (as := []) (S := []) (evc_J0_isLatin1_aae02) dJ0_charAt_5068e_1 cj_492 rfl rfl rfl (by decide) (Nat.le_of_ble_eq_true rfl) (Nat.zero_le _) (fun _ _ h => by rw [h.1]; exact Nat.le_refl _) (by simp [okA, NC]) (by simp [okA, NC]) (fun r m' h1 h2 => ?_)
  obtain ⟨rfl, rfl⟩ := h1
  refine gc_if_eq (tgt := 16) dJ0_charAt_5068e_4 (by decide) ⟨by omega, by omega⟩ (fun h => absurd h (by decide)) (fun _ => ?_)
  refine gc_aload_n dJ0_charAt_5068e_7 rfl ?_
  refine gc_getfV dJ0_charAt_5068e_8 fj_9 ?_
  refine gc_iload_n dJ0_charAt_5068e_11 rfl ?_
  refine gc_callS (as := [vr 1009, vi j]) (S := []) (evc_J1_charAt_3b067 h0) dJ0_charAt_5068e_12 cj_495 rfl rfl (by decide) (Nat.le_of_ble_eq_true rfl) (Nat.zero_le _) (fun _ _ h => by rw [h.1]; exact Nat.le_refl _) (by simp [okA, NC]) (by simp [okA, NC]) (fun r m' h1 h2 => ?_)
  obtain ⟨rfl, rfl⟩ := h1
  exact gc_ret (v := chK j) rfl dJ0_charAt_5068e_15 ⟨by omega, by omega⟩ ⟨rfl, rfl⟩
theorem gc_wrapL {g d : Nat} {Y : MD} {Q : Int → CW → Prop} {pc : Nat} {L S : List AV} {m : CW} {x : Int} (k : Gc g d Y Q pc L (vl (w64 x) :: S) m) : Gc g d Y Q pc L (vl x :: S) m := by
  intro l D cA ad A p e R s mth args below meth c Z hC hX hE ls H locs cells slots hR hL hc hs
  have k := (k l D cA ad A p e R s mth args below meth c Z hC hX hE ls H locs cells slots hR hL hc hs)
  have e : toV ad (vl (w64 x)) = toV ad (vl x) := by show Value.long _ = Value.long _; rw [w64, Int64.ofInt_toInt]
  rw [List.map_cons, e] at k
  exact k
theorem evc_X11_packLetter {m : CW} {v : Int} {c : Int} (hv : InL v) (hc : 0 ≤ c ∧ c ≤ 255) : EvC 0 1 mX11_packLetter [vl v, vi c] m (fun r m' => m' = m ∧ (r = w64 (32 * v + (c - 97 + 1)))) := by
  refine EvC.of (L := [vl v, un, vi c]) (by decide +kernel) (Nat.le_of_ble_eq_true rfl) rfl (fun t ht => by cases ht; exact Or.inr (Or.inr (Or.inl rfl))) (fun t ht z => by cases ht; rcases z with z | z <;> cases z) (fun hcan => ?_)
  refine gc_ldc2 (x := 32) dX11_packLetter_0 k_11_415 ?_
  refine gc_lload_n dX11_packLetter_3 rfl ?_
  refine gc_lmul dX11_packLetter_4 ?_
  refine gc_iload_n dX11_packLetter_5 rfl ?_
  refine gc_bipush dX11_packLetter_6 (by decide) ?_
  refine gc_isub dX11_packLetter_8 ?_
  refine gc_iconst dX11_packLetter_9 ?_
  refine gc_iadd dX11_packLetter_10 ?_
  refine gc_i2l dX11_packLetter_11 ⟨by omega, by omega⟩ ?_
  refine gc_ladd dX11_packLetter_12 ?_
  refine gc_wrapL ?_
  exact gc_ret (v := (w64 ((32 * v) + ((c - 97) + 1)))) rfl dX11_packLetter_13 (w64_R _) ⟨rfl, (by first | assumption | rfl | omega)⟩
theorem dX7_packKeywords_0 : decode mX7_packKeywords.2.1 0 = .ok (.bipush 25, 2) := by decide +kernel
theorem dX7_packKeywords_2 : decode mX7_packKeywords.2.1 2 = .ok (.newarray .long, 2) := by decide +kernel
theorem dX7_packKeywords_4 : decode mX7_packKeywords.2.1 4 = .ok (.astore_n 0, 1) := by decide +kernel
theorem dX7_packKeywords_5 : decode mX7_packKeywords.2.1 5 = .ok (.iconst 0, 1) := by decide +kernel
theorem dX7_packKeywords_6 : decode mX7_packKeywords.2.1 6 = .ok (.istore_n 1, 1) := by decide +kernel
theorem dX7_packKeywords_7 : decode mX7_packKeywords.2.1 7 = .ok (.iconst 0, 1) := by decide +kernel
theorem dX7_packKeywords_8 : decode mX7_packKeywords.2.1 8 = .ok (.istore_n 2, 1) := by decide +kernel
theorem dX7_packKeywords_9 : decode mX7_packKeywords.2.1 9 = .ok (.iload_n 2, 1) := by decide +kernel
theorem dX7_packKeywords_10 : decode mX7_packKeywords.2.1 10 = .ok (.ldc 113, 2) := by decide +kernel
theorem dX7_packKeywords_12 : decode mX7_packKeywords.2.1 12 = .ok (.invokevirtual 115, 3) := by decide +kernel
theorem dX7_packKeywords_15 : decode mX7_packKeywords.2.1 15 = .ok (.if_icmp .ge 47, 3) := by decide +kernel
theorem dX7_packKeywords_18 : decode mX7_packKeywords.2.1 18 = .ok (.iload_n 1, 1) := by decide +kernel
theorem dX7_packKeywords_19 : decode mX7_packKeywords.2.1 19 = .ok (.bipush 25, 2) := by decide +kernel
theorem dX7_packKeywords_21 : decode mX7_packKeywords.2.1 21 = .ok (.if_icmp .ge 41, 3) := by decide +kernel
theorem dX7_packKeywords_24 : decode mX7_packKeywords.2.1 24 = .ok (.ldc 113, 2) := by decide +kernel
theorem dX7_packKeywords_26 : decode mX7_packKeywords.2.1 26 = .ok (.iload_n 2, 1) := by decide +kernel
theorem dX7_packKeywords_27 : decode mX7_packKeywords.2.1 27 = .ok (.invokevirtual 120, 3) := by decide +kernel
theorem dX7_packKeywords_30 : decode mX7_packKeywords.2.1 30 = .ok (.bipush 32, 2) := by decide +kernel
theorem dX7_packKeywords_32 : decode mX7_packKeywords.2.1 32 = .ok (.if_icmp .ne 9, 3) := by decide +kernel
theorem dX7_packKeywords_35 : decode mX7_packKeywords.2.1 35 = .ok (.iinc 1 1, 3) := by decide +kernel
theorem dX7_packKeywords_38 : decode mX7_packKeywords.2.1 38 = .ok (.goto 18, 3) := by decide +kernel
theorem dX7_packKeywords_41 : decode mX7_packKeywords.2.1 41 = .ok (.aload_n 0, 1) := by decide +kernel
theorem dX7_packKeywords_42 : decode mX7_packKeywords.2.1 42 = .ok (.iload_n 1, 1) := by decide +kernel
theorem dX7_packKeywords_43 : decode mX7_packKeywords.2.1 43 = .ok (.aload_n 0, 1) := by decide +kernel
theorem dX7_packKeywords_44 : decode mX7_packKeywords.2.1 44 = .ok (.iload_n 1, 1) := by decide +kernel
theorem dX7_packKeywords_45 : decode mX7_packKeywords.2.1 45 = .ok (.laload, 1) := by decide +kernel
theorem dX7_packKeywords_46 : decode mX7_packKeywords.2.1 46 = .ok (.ldc 113, 2) := by decide +kernel
theorem dX7_packKeywords_48 : decode mX7_packKeywords.2.1 48 = .ok (.iload_n 2, 1) := by decide +kernel
theorem dX7_packKeywords_49 : decode mX7_packKeywords.2.1 49 = .ok (.invokevirtual 120, 3) := by decide +kernel
theorem dX7_packKeywords_52 : decode mX7_packKeywords.2.1 52 = .ok (.invokestatic 105, 3) := by decide +kernel
theorem dX7_packKeywords_55 : decode mX7_packKeywords.2.1 55 = .ok (.lastore, 1) := by decide +kernel
theorem dX7_packKeywords_56 : decode mX7_packKeywords.2.1 56 = .ok (.iinc 2 1, 3) := by decide +kernel
theorem dX7_packKeywords_59 : decode mX7_packKeywords.2.1 59 = .ok (.goto (-50), 3) := by decide +kernel
theorem dX7_packKeywords_62 : decode mX7_packKeywords.2.1 62 = .ok (.aload_n 0, 1) := by decide +kernel
theorem dX7_packKeywords_63 : decode mX7_packKeywords.2.1 63 = .ok (.areturn, 1) := by decide +kernel
set_option maxRecDepth 20000 in
theorem ck_len : CV RX7 115 mJ0_length_8abf5 0 := ⟨⟨Or.inl (tblG_in (List.mem_append_right _ (List.mem_append_left _ (List.mem_of_getElem? (l := tables_1_1) (i := 43) rfl))) rfl), ini_J0, co_J0_length_8abf5, by decide +kernel, by decide +kernel, by decide +kernel, by decide⟩, im_J0_length_8abf5, se_J0_length_8abf5⟩
set_option maxRecDepth 20000 in
theorem ck_chr : CV RX7 120 mJ0_charAt_5068e 1 := ⟨⟨Or.inl (tblG_in (List.mem_append_right _ (List.mem_append_left _ (List.mem_of_getElem? (l := tables_1_1) (i := 53) rfl))) rfl), ini_J0, co_J0_charAt_5068e, by decide +kernel, by decide +kernel, by decide +kernel, by decide⟩, im_J0_charAt_5068e, se_J0_charAt_5068e⟩
def kN : Nat → Nat
  | 0 => 0
  | i + 1 => if chK (i : Int) = 32 then kN i + 1 else kN i
def rowN : Nat → Int → Int
  | 0, _ => 0
  | i + 1, j => if chK (i : Int) ≠ 32 ∧ j = (kN i : Int) then 32 * rowN i j + (chK (i : Int) - 97 + 1) else rowN i j
def pkM (m : Mem) (i : Nat) : Mem := fun b j => if b = 3 then rowN i j else m b j
theorem kN_b : ∀ i : Nat, i < 137 → kN i < 25 ∧ 0 ≤ rowN i (kN i : Int) ∧ rowN i (kN i : Int) < 1000000000000 := by decide +kernel
theorem pkM_s {m : Mem} {i : Nat} (h : chK (i : Int) ≠ 32) : wr (pkM m i) 3 (kN i : Int) (32 * rowN i (kN i : Int) + (chK (i : Int) - 97 + 1)) = pkM m (i + 1) := by
  funext b j
  unfold wr pkM
  by_cases hb : b = 3
  · by_cases hj : j = (kN i : Int)
    · rw [if_pos ⟨hb, hj⟩, if_pos hb, hj]
      show _ = (if chK (i : Int) ≠ 32 ∧ (kN i : Int) = (kN i : Int) then 32 * rowN i (kN i : Int) + (chK (i : Int) - 97 + 1) else rowN i (kN i : Int))
      rw [if_pos ⟨h, rfl⟩]
    · rw [if_neg (fun z => hj z.2), if_pos hb, if_pos hb]
      show _ = (if chK (i : Int) ≠ 32 ∧ j = (kN i : Int) then 32 * rowN i j + (chK (i : Int) - 97 + 1) else rowN i j)
      rw [if_neg (fun z => hj z.2)]
  · rw [if_neg (fun z => hb z.1), if_neg hb, if_neg hb]
theorem pkM_n {m : Mem} {i : Nat} (h : chK (i : Int) = 32) : pkM m (i + 1) = pkM m i := by
  funext b j
  unfold pkM
  by_cases hb : b = 3
  · rw [if_pos hb, if_pos hb]
    show (if chK (i : Int) ≠ 32 ∧ j = (kN i : Int) then 32 * rowN i j + (chK (i : Int) - 97 + 1) else rowN i j) = _
    rw [if_neg (fun z => z.1 h)]
  · rw [if_neg hb, if_neg hb]
theorem gc_callVS_i {g d : Nat} {Y : MD} {Q : Int → CW → Prop} {pc : Nat} {L S : List AV} {m : CW} {d' idx n : Nat} {Y' : MD} {as : List AV} {v : Int} {S0 : List AV} (hE : EvC 0 d' Y' (vr 1008 :: as) m (fun r m' => m' = m ∧ r = v)) (hrt : Y'.2.2.2 = some .int ∨ Y'.2.2.2 = some .char) (hd : decode Y.2.1 pc = .ok (.invokevirtual idx, 3)) (hcv : CV Y.1.cls idx Y' n) (hn : as.length = n) (hst : S0 = as.reverse ++ vr 1008 :: S) (hci : Y'.1.cls = "java/lang/String") (hdp : d' + 1 ≤ d) (hrm : scat S ≤ 8) (hLn : okA m.1 L = true) (hSn : okA m.1 S = true) (k : Gc g d Y Q (pc + 3) L (vi v :: S) m) : Gc g d Y Q pc L S0 m :=
  gc_callVS hE hd hcv hn hst hci hdp hrm (Nat.zero_le _) (fun _ _ h => by rw [h.1]; exact Nat.le_refl _) hLn hSn (fun r m' h1 h2 => by
    obtain ⟨rfl, rfl⟩ := h1
    rcases hrt with h | h <;> (rw [h]; exact k))
set_option maxRecDepth 4000 in
theorem evc_pack {π : Nat → Nat → Nat} {m : Mem} (hz : ∀ i : Int, m 3 i = 0) : EvC 1 6 mX7_packKeywords [] (3, π, m) (fun r w' => r = 3 ∧ w' = (4, π, pkM m 137)) := by
  refine EvC.of (L := [un, un, un]) (by decide +kernel) (Nat.le_of_ble_eq_true rfl) rfl (fun t ht => by cases ht; exact Or.inr (Or.inr (Or.inr (Or.inr (Or.inr rfl))))) (fun t ht z => by cases ht; rcases z with z | z <;> cases z) (fun hcan => ?_)
  refine gc_bipush dX7_packKeywords_0 (by decide) ?_
  refine gc_newJ (kd := 3) (N := 25) dX7_packKeywords_2 rfl rfl aw_3 ar_3 (by decide) rfl rfl rfl (fun _ => ?_)
  refine gc_astore_n (a := 3) (L' := [vr 3, un, un]) dX7_packKeywords_4 (by decide) rfl rfl ?_
  refine gc_iconst dX7_packKeywords_5 ?_
  refine gc_istore_n (x := 0) (L' := [vr 3, vi 0, un]) dX7_packKeywords_6 (by decide) rfl rfl ?_
  refine gc_iconst dX7_packKeywords_7 ?_
  refine gc_istore_n (x := 0) (L' := [vr 3, vi 0, vi 0]) dX7_packKeywords_8 (by decide) rfl rfl ?_
  have e0 : pkM m 0 = m := by
    funext b j
    unfold pkM
    by_cases hb : b = 3
    · rw [if_pos hb, hb, hz]; rfl
    · rw [if_neg hb]
  have lp : ∀ (f i : Nat), i + f = 137 → Gc 0 6 mX7_packKeywords (fun r w' => r = 3 ∧ w' = (4, π, pkM m 137)) 9 [vr 3, vi (kN i : Int), vi (i : Int)] [] (4, π, pkM m i) := by
    intro f
    induction f with
    | zero =>
      intro i hi
      have hi : i = 137 := by omega
      subst hi
      refine gc_iload_n dX7_packKeywords_9 rfl ?_
      refine gc_ldcK dX7_packKeywords_10 rfl ?_
      refine gc_callVS_i (as := []) (S := [vi ((137 : Nat) : Int)]) evc_J0_length_8abf5 (Or.inl rfl) dX7_packKeywords_12 ck_len rfl rfl rfl (by decide) (by decide) rfl rfl ?_
      refine gc_icmp_ge (tgt := 62) dX7_packKeywords_15 (by decide) ⟨by omega, by omega⟩ ⟨by omega, by omega⟩ (fun _ => ?_) (fun h => by omega)
      refine gc_aload_n dX7_packKeywords_62 rfl ?_
      exact gc_ret (v := 3) rfl dX7_packKeywords_63 (show (0 : Int) ≤ 3 by decide) ⟨rfl, rfl⟩
    | succ f ih =>
      intro i hi
      have hb := kN_b i (by omega)
      have hk := chK_k i (by omega)
      have hc := chK_b (j := (i : Int)) ⟨by omega, by omega⟩
      refine gc_iload_n dX7_packKeywords_9 rfl ?_
      refine gc_ldcK dX7_packKeywords_10 rfl ?_
      refine gc_callVS_i (as := []) (S := [vi (i : Int)]) evc_J0_length_8abf5 (Or.inl rfl) dX7_packKeywords_12 ck_len rfl rfl rfl (by decide) (Nat.le_of_ble_eq_true rfl) rfl rfl ?_
      refine gc_icmp_ge (tgt := 62) dX7_packKeywords_15 (by decide) ⟨by omega, by omega⟩ ⟨by omega, by omega⟩ (fun h => by omega) (fun _ => ?_)
      refine gc_iload_n dX7_packKeywords_18 rfl ?_
      refine gc_bipush dX7_packKeywords_19 (by decide) ?_
      refine gc_icmp_ge (tgt := 62) dX7_packKeywords_21 (by decide) ⟨by omega, by omega⟩ ⟨by omega, by omega⟩ (fun h => by omega) (fun _ => ?_)
      refine gc_ldcK dX7_packKeywords_24 rfl ?_
      refine gc_iload_n dX7_packKeywords_26 rfl ?_
      refine gc_callVS_i (as := [vi (i : Int)]) (S := []) (evc_J0_charAt_5068e ⟨by omega, by omega⟩) (Or.inr rfl) dX7_packKeywords_27 ck_chr rfl rfl rfl (by decide) (by decide) rfl rfl ?_
      refine gc_bipush dX7_packKeywords_30 (by decide) ?_
      refine gc_icmp_ne (tgt := 41) dX7_packKeywords_32 (by decide) ⟨by omega, by omega⟩ ⟨by omega, by omega⟩ (fun h32 => ?_) (fun h32 => ?_)
      · have ek : kN (i + 1) = kN i := if_neg h32
        refine gc_aload_n dX7_packKeywords_41 rfl ?_
        refine gc_iload_n dX7_packKeywords_42 rfl ?_
        refine gc_aload_n dX7_packKeywords_43 rfl ?_
        refine gc_iload_n dX7_packKeywords_44 rfl ?_
        refine gc_laload dX7_packKeywords_45 ar_3 (show 3 < 4 by decide) (by omega) (by omega) (fun hl => ?_)
        have er : pkM m i 3 (kN i : Int) = rowN i (kN i : Int) := if_pos rfl
        rw [show ((4, π, pkM m i) : CW).2.2 3 (kN i : Int) = rowN i (kN i : Int) from er] at hl ⊢
        refine gc_ldcK dX7_packKeywords_46 rfl ?_
        refine gc_iload_n dX7_packKeywords_48 rfl ?_
        refine gc_callVS_i (as := [vi (i : Int)]) (S := [vl (rowN i (kN i : Int)), vi (kN i : Int), vr 3]) (evc_J0_charAt_5068e ⟨by omega, by omega⟩) (Or.inr rfl) dX7_packKeywords_49 ck_chr rfl rfl rfl (by decide) (Nat.le_of_ble_eq_true rfl) rfl rfl ?_
        refine gc_callS (as := [vl (rowN i (kN i : Int)), vi (chK (i : Int))]) (S := [vi (kN i : Int), vr 3]) (evc_X11_packLetter hl ⟨by omega, by omega⟩) dX7_packKeywords_52 cs_7_105 rfl rfl (by decide) (Nat.le_of_ble_eq_true rfl) (Nat.zero_le _) (fun _ _ h => by rw [h.1]; exact Nat.le_refl _) rfl rfl (fun r w9 hq9 _ => ?_)
        obtain ⟨rfl, rfl⟩ := hq9
        rw [show w64 (32 * rowN i (kN i : Int) + (chK (i : Int) - 97 + 1)) = 32 * rowN i (kN i : Int) + (chK (i : Int) - 97 + 1) from InL.i ⟨by omega, by omega⟩]
        refine gc_lastore dX7_packKeywords_55 ar_3 (show 3 < 4 by decide) (by omega) (by omega) ⟨by omega, by omega⟩ ?_
        refine gc_iinc (L' := [vr 3, vi (kN i : Int), vi ((i + 1 : Nat) : Int)]) dX7_packKeywords_56 rfl (by decide) rfl rfl ?_
        refine gc_goto (tgt := 9) dX7_packKeywords_59 (by decide) ?_
        have := ih (i + 1) (by omega)
        rw [ek, ← pkM_s h32] at this
        exact this
      · have h32 : chK (i : Int) = 32 := h32
        have ek : kN (i + 1) = kN i + 1 := if_pos h32
        refine gc_iinc (L' := [vr 3, vi ((kN i + 1 : Nat) : Int), vi (i : Int)]) dX7_packKeywords_35 rfl (by decide) rfl rfl ?_
        refine gc_goto (tgt := 56) dX7_packKeywords_38 (by decide) ?_
        refine gc_iinc (L' := [vr 3, vi ((kN i + 1 : Nat) : Int), vi ((i + 1 : Nat) : Int)]) dX7_packKeywords_56 rfl (by decide) rfl rfl ?_
        refine gc_goto (tgt := 9) dX7_packKeywords_59 (by decide) ?_
        have := ih (i + 1) (by omega)
        rw [ek, pkM_n h32] at this
        exact this
  have h0 := lp 137 0 (by omega)
  rw [e0] at h0
  exact h0
theorem row_kw : ∀ k : Nat, k < 25 → rowN 137 (k : Int) = kwC (k : Int) := by decide +kernel
