/-! ===== the law's loop ===== -/
theorem dL_23 : decode mL_law.2.1 23 = .ok (.iload 4, 2) := by decide +kernel
theorem dL_25 : decode mL_law.2.1 25 = .ok (.aload_n 0, 1) := by decide +kernel
theorem dL_26 : decode mL_law.2.1 26 = .ok (.arraylength, 1) := by decide +kernel
theorem dL_27 : decode mL_law.2.1 27 = .ok (.bipush 6, 2) := by decide +kernel
theorem dL_29 : decode mL_law.2.1 29 = .ok (.isub, 1) := by decide +kernel
theorem dL_30 : decode mL_law.2.1 30 = .ok (.if_icmp .gt 1323, 3) := by decide +kernel
theorem dL_33 : decode mL_law.2.1 33 = .ok (.aload_n 0, 1) := by decide +kernel
theorem dL_34 : decode mL_law.2.1 34 = .ok (.iload 4, 2) := by decide +kernel
theorem dL_36 : decode mL_law.2.1 36 = .ok (.iaload, 1) := by decide +kernel
theorem dL_37 : decode mL_law.2.1 37 = .ok (.bipush 63, 2) := by decide +kernel
theorem dL_39 : decode mL_law.2.1 39 = .ok (.iand, 1) := by decide +kernel
theorem dL_40 : decode mL_law.2.1 40 = .ok (.tableswitch 1307 0 36 #[164, 237, 262, 275, 288, 356, 393, 430, 479, 504, 553, 590, 615, 640, 653, 690, 727, 752, 801, 826, 851, 876, 889, 914, 927, 940, 996, 1021, 1046, 1083, 1144, 1169, 1194, 1207, 1232, 1257, 1282], 164) := by decide +kernel
theorem dL_1347 : decode mL_law.2.1 1347 = .ok (.iinc 4 6, 3) := by decide +kernel
theorem dL_1350 : decode mL_law.2.1 1350 = .ok (.goto (-1327), 3) := by decide +kernel
theorem dL_1353 : decode mL_law.2.1 1353 = .ok (.iconst 1, 1) := by decide +kernel
theorem dL_1354 : decode mL_law.2.1 1354 = .ok (.ireturn, 1) := by decide +kernel
theorem law_loop {n : Nat} {xs : Nat → Int32} (hn : n ≤ 3072) : ∀ (f : Nat) (g : Nat) (i B : Int) (m : Mem), f ≤ g → 0 ≤ i → i ≤ 4000 → (n : Int) - i < 6 * f → Inv m B → 0 ≤ B → B + 300 * f ≤ 100000000 → GoL (XL n xs) g 72 mL_law (fun v _ => v = 1) 23 (LL i) [] m := by
  intro f
  induction f with
  | zero =>
    intro g i B m hg h0 h4 hm hI hB0 hB1
    refine gl_iload dL_23 rfl ?_
    refine gl_aload_n dL_25 rfl ?_
    refine gl_slen dL_26 ?_
    refine gl_bipush dL_27 (by decide) ?_
    refine gl_isub dL_29 ?_
    refine gl_icmp_gt (tgt := 1353) dL_30 (by decide) ⟨by omega, by omega⟩ ⟨by omega, by omega⟩ (fun e => ?_) (fun e => ?_)
    · refine gl_iconst dL_1353 ?_
      exact gl_ret (v := 1) rfl dL_1354 (okZ (Or.inr rfl)) rfl
    · exfalso; omega
  | succ f ih =>
    intro g i B m hg h0 h4 hm hI hB0 hB1
    refine gl_iload dL_23 rfl ?_
    refine gl_aload_n dL_25 rfl ?_
    refine gl_slen dL_26 ?_
    refine gl_bipush dL_27 (by decide) ?_
    refine gl_isub dL_29 ?_
    refine gl_icmp_gt (tgt := 1353) dL_30 (by decide) ⟨by omega, by omega⟩ ⟨by omega, by omega⟩ (fun e => ?_) (fun e => ?_)
    · refine gl_iconst dL_1353 ?_
      exact gl_ret (v := 1) rfl dL_1354 (okZ (Or.inr rfl)) rfl
    · have h1 : i + 6 ≤ n := by omega
      have hB : 0 ≤ B ∧ B ≤ 100000000 := by omega
      have hg1 : 1 ≤ g := by omega
      have k : ∀ m2 : Mem, Inv m2 (B + 300) → GoL (XL n xs) (g - 1) 72 mL_law (fun v _ => v = 1) 1347 (LL i) [] m2 := fun m2 hI2 => by
        refine gl_iinc (L' := LL (i + 6)) dL_1347 rfl (by decide) rfl rfl ?_
        refine gl_goto (tgt := 23) dL_1350 (by decide) ?_
        exact ih (g - 1) (i + 6) (B + 300) m2 (by omega) (by omega) (by omega) (by omega) hI2 (by omega) (by omega)
      refine gl_aload_n dL_33 rfl ?_
      refine gl_iload dL_34 rfl ?_
      refine gl_sload dL_36 (by omega) (by omega) hn ?_
      refine gl_bipush dL_37 (by decide) ?_
      refine gl_iand dL_39 ?_
      refine gl_tswitch (tgt := 1347) dL_40 (iand_R _ _) (by decide) (fun n9 hn9 hn8 => ?_) (fun _ => gl_weak (by omega) (k m (hI.all (by omega) (fun _ _ _ => rfl))))
      have hlt : n9 < 37 := by omega
      match n9, hlt with
      | 0, _ => exact ⟨164, 204, rfl, by decide, lc_feed hn hg1 h0 h1 hI hB k⟩
      | 1, _ => exact ⟨237, 277, rfl, by decide, lc_end hn hg1 h0 h1 hI hB k⟩
      | 2, _ => exact ⟨262, 302, rfl, by decide, lc_downs hn hg1 h0 h1 hI hB k⟩
      | 3, _ => exact ⟨275, 315, rfl, by decide, lc_fault hn hg1 h0 h1 hI hB k⟩
      | 4, _ => exact ⟨288, 328, rfl, by decide, lc_person hn hg1 h0 h1 hI hB k⟩
      | 5, _ => exact ⟨356, 396, rfl, by decide, lc_figure hn hg1 h0 h1 hI hB k⟩
      | 6, _ => exact ⟨393, 433, rfl, by decide, lc_point hn hg1 h0 h1 hI hB k⟩
      | 7, _ => exact ⟨430, 470, rfl, by decide, lc_cell hn hg1 h0 h1 hI hB k⟩
      | 8, _ => exact ⟨479, 519, rfl, by decide, lc_now hn hg1 h0 h1 hI hB k⟩
      | 9, _ => exact ⟨504, 544, rfl, by decide, lc_say hn hg1 h0 h1 hI hB k⟩
      | 10, _ => exact ⟨553, 593, rfl, by decide, lc_kick hn hg1 h0 h1 hI hB k⟩
      | 11, _ => exact ⟨590, 630, rfl, by decide, lc_rest hn hg1 h0 h1 hI hB k⟩
      | 12, _ => exact ⟨615, 655, rfl, by decide, lc_hours hn hg1 h0 h1 hI hB k⟩
      | 13, _ => exact ⟨640, 680, rfl, by decide, lc_undo hn hg1 h0 h1 hI hB k⟩
      | 14, _ => exact ⟨653, 693, rfl, by decide, lc_could hn hg1 h0 h1 hI hB k⟩
      | 15, _ => exact ⟨690, 730, rfl, by decide, lc_way hn hg1 h0 h1 hI hB k⟩
      | 16, _ => exact ⟨727, 767, rfl, by decide, lc_wayAt hn hg1 h0 h1 hI hB k⟩
      | 17, _ => exact ⟨752, 792, rfl, by decide, lc_both hn hg1 h0 h1 hI hB k⟩
      | 18, _ => exact ⟨801, 841, rfl, by decide, lc_sees hn hg1 h0 h1 hI hB k⟩
      | 19, _ => exact ⟨826, 866, rfl, by decide, lc_undoes hn hg1 h0 h1 hI hB k⟩
      | 20, _ => exact ⟨851, 891, rfl, by decide, lc_undoesAt hn hg1 h0 h1 hI hB k⟩
      | 21, _ => exact ⟨876, 916, rfl, by decide, lc_tracks hn hg1 h0 h1 hI hB k⟩
      | 22, _ => exact ⟨889, 929, rfl, by decide, lc_tracksAt hn hg1 h0 h1 hI hB k⟩
      | 23, _ => exact ⟨914, 954, rfl, by decide, lc_tells hn hg1 h0 h1 hI hB k⟩
      | 24, _ => exact ⟨927, 967, rfl, by decide, lc_least hn hg1 h0 h1 hI hB k⟩
      | 25, _ => exact ⟨940, 980, rfl, by decide, lc_mean hn hg1 h0 h1 hI hB k⟩
      | 26, _ => exact ⟨996, 1036, rfl, by decide, lc_slip hn hg1 h0 h1 hI hB k⟩
      | 27, _ => exact ⟨1021, 1061, rfl, by decide, lc_byteAt hn hg1 h0 h1 hI hB k⟩
      | 28, _ => exact ⟨1046, 1086, rfl, by decide, lc_drawn hn hg1 h0 h1 hI hB k⟩
      | 29, _ => exact ⟨1083, 1123, rfl, by decide, lc_odds hn hg1 h0 h1 hI hB k⟩
      | 30, _ => exact ⟨1144, 1184, rfl, by decide, lc_book hn hg1 h0 h1 hI hB k⟩
      | 31, _ => exact ⟨1169, 1209, rfl, by decide, lc_told hn hg1 h0 h1 hI hB k⟩
      | 32, _ => exact ⟨1194, 1234, rfl, by decide, lc_sentence hn hg1 h0 h1 hI hB k⟩
      | 33, _ => exact ⟨1207, 1247, rfl, by decide, lc_said hn hg1 h0 h1 hI hB k⟩
      | 34, _ => exact ⟨1232, 1272, rfl, by decide, lc_image hn hg1 h0 h1 hI hB k⟩
      | 35, _ => exact ⟨1257, 1297, rfl, by decide, lc_restore hn hg1 h0 h1 hI hB k⟩
      | 36, _ => exact ⟨1282, 1322, rfl, by decide, lc_count hn hg1 h0 h1 hI hB k⟩
      | n9 + 37, h9 => exact absurd h9 (by omega)
