/-! ===== the law, case by case ===== -/
theorem dL_929 : decode mL_law.2.1 929 = .ok (.aload_n 1, 1) := by decide +kernel
theorem dL_930 : decode mL_law.2.1 930 = .ok (.aload_n 0, 1) := by decide +kernel
theorem dL_931 : decode mL_law.2.1 931 = .ok (.iload 4, 2) := by decide +kernel
theorem dL_933 : decode mL_law.2.1 933 = .ok (.iconst 1, 1) := by decide +kernel
theorem dL_934 : decode mL_law.2.1 934 = .ok (.iadd, 1) := by decide +kernel
theorem dL_935 : decode mL_law.2.1 935 = .ok (.iaload, 1) := by decide +kernel
theorem dL_936 : decode mL_law.2.1 936 = .ok (.invokevirtual 120, 3) := by decide +kernel
theorem dL_939 : decode mL_law.2.1 939 = .ok (.aload_n 2, 1) := by decide +kernel
theorem dL_940 : decode mL_law.2.1 940 = .ok (.aload_n 0, 1) := by decide +kernel
theorem dL_941 : decode mL_law.2.1 941 = .ok (.iload 4, 2) := by decide +kernel
theorem dL_943 : decode mL_law.2.1 943 = .ok (.iconst 1, 1) := by decide +kernel
theorem dL_944 : decode mL_law.2.1 944 = .ok (.iadd, 1) := by decide +kernel
theorem dL_945 : decode mL_law.2.1 945 = .ok (.iaload, 1) := by decide +kernel
theorem dL_946 : decode mL_law.2.1 946 = .ok (.invokevirtual 123, 3) := by decide +kernel
theorem dL_949 : decode mL_law.2.1 949 = .ok (.if_icmp .eq 398, 3) := by decide +kernel
theorem dL_952 : decode mL_law.2.1 952 = .ok (.iconst 0, 1) := by decide +kernel
theorem dL_953 : decode mL_law.2.1 953 = .ok (.ireturn, 1) := by decide +kernel
theorem lc_tracksAt {n : Nat} {xs : Nat → Int32} {g : Nat} {i B : Int} {m : Mem} {Q : Int → Mem → Prop} (hn : n ≤ 3072) (hg : 1 ≤ g) (h0 : 0 ≤ i) (h1 : i + 6 ≤ n) (h : Inv m B) (hB : 0 ≤ B ∧ B ≤ 100000000) (k : ∀ m2 : Mem, Inv m2 (B + 300) → GoL (XL n xs) (g - 1) 72 mL_law Q 1347 (LL i) [] m2) : GoL (XL n xs) g 72 mL_law Q 929 (LL i) [] m := by
  have K0 : Duo mX11_tracksAt mX12_tracksAt [vi (sc xs (i + 1))] m (fun m2 => Inv m2 B) := c_tracksAt h (InR.r _)
  obtain ⟨d1, Q1, hd1, E1, K1⟩ := K0
  refine gl_aload_n dL_929 rfl ?_
  refine gl_aload_n dL_930 rfl ?_
  refine gl_iload dL_931 rfl ?_
  refine gl_iconst dL_933 ?_
  refine gl_iadd dL_934 ?_
  refine gl_sload dL_935 (by omega) (by omega) hn ?_
  refine gl_callR (as := [vi (sc xs (i + 1))]) (S := []) (b := 0) E1 (Or.inl rfl) dL_936 cv_L_120 rfl rfl ob_0 rfl (by omega) (by decide) (fun r1 m1 hq1 hr1 => ?_)
  obtain ⟨d2, Q2, hd2, E2, K2⟩ := K1 r1 m1 hq1
  refine gl_aload_n dL_939 rfl ?_
  refine gl_aload_n dL_940 rfl ?_
  refine gl_iload dL_941 rfl ?_
  refine gl_iconst dL_943 ?_
  refine gl_iadd dL_944 ?_
  refine gl_sload dL_945 (by omega) (by omega) hn ?_
  refine gl_callR (as := [vi (sc xs (i + 1))]) (S := [vi r1]) (b := 214) E2 (Or.inl rfl) dL_946 cv_L_123 rfl rfl ob_214 rfl (by omega) (Nat.le_of_ble_eq_true rfl) (fun r2 m2 hq2 hr2 => ?_)
  obtain ⟨hrr, hI⟩ := K2 r2 m2 hq2
  refine gl_icmp_eq (tgt := 1347) dL_949 (by decide) hr1 hr2 (fun e => gl_weak (by omega) (k m2 (hI.all (by omega) (fun _ _ _ => rfl)))) (fun e => absurd hrr.symm e)
theorem dL_954 : decode mL_law.2.1 954 = .ok (.aload_n 1, 1) := by decide +kernel
theorem dL_955 : decode mL_law.2.1 955 = .ok (.invokevirtual 124, 3) := by decide +kernel
theorem dL_958 : decode mL_law.2.1 958 = .ok (.aload_n 2, 1) := by decide +kernel
theorem dL_959 : decode mL_law.2.1 959 = .ok (.invokevirtual 127, 3) := by decide +kernel
theorem dL_962 : decode mL_law.2.1 962 = .ok (.if_icmp .eq 385, 3) := by decide +kernel
theorem dL_965 : decode mL_law.2.1 965 = .ok (.iconst 0, 1) := by decide +kernel
theorem dL_966 : decode mL_law.2.1 966 = .ok (.ireturn, 1) := by decide +kernel
theorem lc_tells {n : Nat} {xs : Nat → Int32} {g : Nat} {i B : Int} {m : Mem} {Q : Int → Mem → Prop} (hn : n ≤ 3072) (hg : 1 ≤ g) (h0 : 0 ≤ i) (h1 : i + 6 ≤ n) (h : Inv m B) (hB : 0 ≤ B ∧ B ≤ 100000000) (k : ∀ m2 : Mem, Inv m2 (B + 300) → GoL (XL n xs) (g - 1) 72 mL_law Q 1347 (LL i) [] m2) : GoL (XL n xs) g 72 mL_law Q 954 (LL i) [] m := by
  have K0 : Duo mX11_tells mX12_tells [] m (fun m2 => Inv m2 B) := c_tells h
  obtain ⟨d1, Q1, hd1, E1, K1⟩ := K0
  refine gl_aload_n dL_954 rfl ?_
  refine gl_callR (as := []) (S := []) (b := 0) E1 (Or.inl rfl) dL_955 cv_L_124 rfl rfl ob_0 rfl (by omega) (by decide) (fun r1 m1 hq1 hr1 => ?_)
  obtain ⟨d2, Q2, hd2, E2, K2⟩ := K1 r1 m1 hq1
  refine gl_aload_n dL_958 rfl ?_
  refine gl_callR (as := []) (S := [vi r1]) (b := 214) E2 (Or.inl rfl) dL_959 cv_L_127 rfl rfl ob_214 rfl (by omega) (Nat.le_of_ble_eq_true rfl) (fun r2 m2 hq2 hr2 => ?_)
  obtain ⟨hrr, hI⟩ := K2 r2 m2 hq2
  refine gl_icmp_eq (tgt := 1347) dL_962 (by decide) hr1 hr2 (fun e => gl_weak (by omega) (k m2 (hI.all (by omega) (fun _ _ _ => rfl)))) (fun e => absurd hrr.symm e)
theorem dL_967 : decode mL_law.2.1 967 = .ok (.aload_n 1, 1) := by decide +kernel
theorem dL_968 : decode mL_law.2.1 968 = .ok (.invokevirtual 128, 3) := by decide +kernel
theorem dL_971 : decode mL_law.2.1 971 = .ok (.aload_n 2, 1) := by decide +kernel
theorem dL_972 : decode mL_law.2.1 972 = .ok (.invokevirtual 131, 3) := by decide +kernel
theorem dL_975 : decode mL_law.2.1 975 = .ok (.if_icmp .eq 372, 3) := by decide +kernel
theorem dL_978 : decode mL_law.2.1 978 = .ok (.iconst 0, 1) := by decide +kernel
theorem dL_979 : decode mL_law.2.1 979 = .ok (.ireturn, 1) := by decide +kernel
theorem lc_least {n : Nat} {xs : Nat → Int32} {g : Nat} {i B : Int} {m : Mem} {Q : Int → Mem → Prop} (hn : n ≤ 3072) (hg : 1 ≤ g) (h0 : 0 ≤ i) (h1 : i + 6 ≤ n) (h : Inv m B) (hB : 0 ≤ B ∧ B ≤ 100000000) (k : ∀ m2 : Mem, Inv m2 (B + 300) → GoL (XL n xs) (g - 1) 72 mL_law Q 1347 (LL i) [] m2) : GoL (XL n xs) g 72 mL_law Q 967 (LL i) [] m := by
  have K0 : Duo mX11_least mX12_least [] m (fun m2 => Inv m2 B) := c_least h
  obtain ⟨d1, Q1, hd1, E1, K1⟩ := K0
  refine gl_aload_n dL_967 rfl ?_
  refine gl_callR (as := []) (S := []) (b := 0) E1 (Or.inl rfl) dL_968 cv_L_128 rfl rfl ob_0 rfl (by omega) (by decide) (fun r1 m1 hq1 hr1 => ?_)
  obtain ⟨d2, Q2, hd2, E2, K2⟩ := K1 r1 m1 hq1
  refine gl_aload_n dL_971 rfl ?_
  refine gl_callR (as := []) (S := [vi r1]) (b := 214) E2 (Or.inl rfl) dL_972 cv_L_131 rfl rfl ob_214 rfl (by omega) (Nat.le_of_ble_eq_true rfl) (fun r2 m2 hq2 hr2 => ?_)
  obtain ⟨hrr, hI⟩ := K2 r2 m2 hq2
  refine gl_icmp_eq (tgt := 1347) dL_975 (by decide) hr1 hr2 (fun e => gl_weak (by omega) (k m2 (hI.all (by omega) (fun _ _ _ => rfl)))) (fun e => absurd hrr.symm e)
theorem dL_980 : decode mL_law.2.1 980 = .ok (.aload_n 1, 1) := by decide +kernel
theorem dL_981 : decode mL_law.2.1 981 = .ok (.aload_n 0, 1) := by decide +kernel
theorem dL_982 : decode mL_law.2.1 982 = .ok (.iload 4, 2) := by decide +kernel
theorem dL_984 : decode mL_law.2.1 984 = .ok (.iconst 1, 1) := by decide +kernel
theorem dL_985 : decode mL_law.2.1 985 = .ok (.iadd, 1) := by decide +kernel
theorem dL_986 : decode mL_law.2.1 986 = .ok (.iaload, 1) := by decide +kernel
theorem dL_987 : decode mL_law.2.1 987 = .ok (.aload_n 3, 1) := by decide +kernel
theorem dL_988 : decode mL_law.2.1 988 = .ok (.invokestatic 132, 3) := by decide +kernel
theorem dL_991 : decode mL_law.2.1 991 = .ok (.istore 5, 2) := by decide +kernel
theorem dL_993 : decode mL_law.2.1 993 = .ok (.aload_n 2, 1) := by decide +kernel
theorem dL_994 : decode mL_law.2.1 994 = .ok (.aload_n 0, 1) := by decide +kernel
theorem dL_995 : decode mL_law.2.1 995 = .ok (.iload 4, 2) := by decide +kernel
theorem dL_997 : decode mL_law.2.1 997 = .ok (.iconst 1, 1) := by decide +kernel
theorem dL_998 : decode mL_law.2.1 998 = .ok (.iadd, 1) := by decide +kernel
theorem dL_999 : decode mL_law.2.1 999 = .ok (.iaload, 1) := by decide +kernel
theorem dL_1000 : decode mL_law.2.1 1000 = .ok (.invokevirtual 135, 3) := by decide +kernel
theorem dL_1003 : decode mL_law.2.1 1003 = .ok (.istore 6, 2) := by decide +kernel
theorem dL_1005 : decode mL_law.2.1 1005 = .ok (.aload_n 2, 1) := by decide +kernel
theorem dL_1006 : decode mL_law.2.1 1006 = .ok (.invokevirtual 48, 3) := by decide +kernel
theorem dL_1009 : decode mL_law.2.1 1009 = .ok (.iload 5, 2) := by decide +kernel
theorem dL_1011 : decode mL_law.2.1 1011 = .ok (.if_icmp .eq 5, 3) := by decide +kernel
theorem dL_1014 : decode mL_law.2.1 1014 = .ok (.iconst 0, 1) := by decide +kernel
theorem dL_1015 : decode mL_law.2.1 1015 = .ok (.ireturn, 1) := by decide +kernel
theorem dL_1016 : decode mL_law.2.1 1016 = .ok (.iload 5, 2) := by decide +kernel
theorem dL_1018 : decode mL_law.2.1 1018 = .ok (.ifCond .ne 15, 3) := by decide +kernel
theorem dL_1021 : decode mL_law.2.1 1021 = .ok (.aload_n 3, 1) := by decide +kernel
theorem dL_1022 : decode mL_law.2.1 1022 = .ok (.iconst 0, 1) := by decide +kernel
theorem dL_1023 : decode mL_law.2.1 1023 = .ok (.laload, 1) := by decide +kernel
theorem dL_1024 : decode mL_law.2.1 1024 = .ok (.iload 6, 2) := by decide +kernel
theorem dL_1026 : decode mL_law.2.1 1026 = .ok (.i2l, 1) := by decide +kernel
theorem dL_1027 : decode mL_law.2.1 1027 = .ok (.lcmp, 1) := by decide +kernel
theorem dL_1028 : decode mL_law.2.1 1028 = .ok (.ifCond .eq 5, 3) := by decide +kernel
theorem dL_1031 : decode mL_law.2.1 1031 = .ok (.iconst 0, 1) := by decide +kernel
theorem dL_1032 : decode mL_law.2.1 1032 = .ok (.ireturn, 1) := by decide +kernel
theorem dL_1033 : decode mL_law.2.1 1033 = .ok (.goto 314, 3) := by decide +kernel
theorem lc_mean {n : Nat} {xs : Nat → Int32} {g : Nat} {i B : Int} {m : Mem} {Q : Int → Mem → Prop} (hn : n ≤ 3072) (hg : 1 ≤ g) (h0 : 0 ≤ i) (h1 : i + 6 ≤ n) (h : Inv m B) (hB : 0 ≤ B ∧ B ≤ 100000000) (k : ∀ m2 : Mem, Inv m2 (B + 300) → GoL (XL n xs) (g - 1) 72 mL_law Q 1347 (LL i) [] m2) : GoL (XL n xs) g 72 mL_law Q 980 (LL i) [] m := by
  refine gl_aload_n dL_980 rfl ?_
  refine gl_aload_n dL_981 rfl ?_
  refine gl_iload dL_982 rfl ?_
  refine gl_iconst dL_984 ?_
  refine gl_iadd dL_985 ?_
  refine gl_sload dL_986 (by omega) (by omega) hn ?_
  refine gl_aload_n dL_987 rfl ?_
  refine gl_callSH (as := [vr 0, vi (sc xs (i + 1)), vr 235]) (S := []) (fun _ _ _ _ _ _ hx => hx.2.2.2) (ev_L_mean h.dn h.st (InR.r _)) dL_988 csh_mean rfl rfl (by decide) (by decide) hg (fun r1 m1 hq1 hr1 => ?_)
  have hr1 : InR r1 := hr1
  have hI1 : Inv m1 B := by
    rcases hq1 with ⟨-, -, hm⟩ | ⟨-, -, hm⟩
    · rw [hm]; exact h.all (Int.le_refl _) (fun b j z => by unfold wr; rw [if_neg (by omega)])
    · rw [hm]; exact h
  have e6 : m1 216 = m 216 := by
    rcases hq1 with ⟨-, -, hm⟩ | ⟨-, -, hm⟩
    · rw [hm, wr_row (by omega)]
    · rw [hm]
  refine gl_istore (x := r1) (L' := [vr 1011, vr 0, vr 214, vr 235, vi i, vi r1, un]) dL_991 (by decide) rfl rfl ?_
  refine gl_aload_n dL_993 rfl ?_
  refine gl_aload_n dL_994 rfl ?_
  refine gl_iload dL_995 rfl ?_
  refine gl_iconst dL_997 ?_
  refine gl_iadd dL_998 ?_
  refine gl_sload dL_999 (by omega) (by omega) hn ?_
  refine gl_callR (as := [vi (sc xs (i + 1))]) (S := []) (b := 214) (ev_X12_mean (G := m) (d := 8) (st := 18) (B := B) (by rw [e6]; exact h.bg) h.dn h.st (InR.r _)) (Or.inl rfl) dL_1000 cv_L_135 rfl rfl ob_214 rfl (by decide) (by decide) (fun r2 m2 hq2 hr2 => ?_)
  obtain ⟨hm2, hv2⟩ := hq2
  refine gl_istore (x := r2) (L' := [vr 1011, vr 0, vr 214, vr 235, vi i, vi r1, vi r2]) dL_1003 (by decide) rfl rfl ?_
  refine gl_aload_n dL_1005 rfl ?_
  refine gl_callR (as := []) (S := []) (b := 214) ev_X12_thrown (Or.inl rfl) dL_1006 cv_L_48 rfl rfl ob_214 rfl (by decide) (by decide) (fun r3 m3 hq3 hr3 => ?_)
  obtain ⟨rfl, hv3⟩ := hq3
  have e3 : r3 = if (m 8 3 ≠ 0 ∧ 0 ≤ sc xs (i + 1) ∧ sc xs (i + 1) ≤ 1) then 0 else 1 := by rw [hv3, hm2, wr_self]
  have hI2 : Inv m3 (B + 300) := by rw [hm2]; exact hI1.t0.all (by omega) (fun _ _ _ => rfl)
  refine gl_iload dL_1009 rfl ?_
  refine gl_icmp_eq (tgt := 1016) dL_1011 (by decide) hr3 hr1 (fun e => ?_) (fun e => ?_)
  · refine gl_iload dL_1016 rfl ?_
    refine gl_if_ne (tgt := 1033) dL_1018 (by decide) hr1 (fun e2 => ?_) (fun e2 => ?_)
    · refine gl_goto (tgt := 1347) dL_1033 (by decide) ?_
      exact gl_un (L1 := [vr 1011, vr 0, vr 214, vr 235, vi i]) (k m3 hI2)
    · refine gl_aload_n dL_1021 rfl ?_
      refine gl_iconst dL_1022 ?_
      refine gl_laload dL_1023 ar_235 (by omega) (by omega) (fun hlr => ?_)
      refine gl_iload dL_1024 rfl ?_
      refine gl_i2l dL_1026 hr2 ?_
      refine gl_lcmp dL_1027 hlr (by unfold InR at hr2; unfold InL; omega) ?_
      have e4 : m3 235 0 = r2 := by
        rcases hq1 with ⟨ok, -, hm⟩ | ⟨-, z, -⟩
        · rw [hm2, wr_row (by omega), hm, wr_self, hv2 ok]
        · omega
      rw [lcmp_eq e4]
      refine gl_if_eq (tgt := 1033) dL_1028 (by decide) ⟨by omega, by omega⟩ (fun e5 => ?_) (fun e5 => absurd rfl e5)
      refine gl_goto (tgt := 1347) dL_1033 (by decide) ?_
      exact gl_un (L1 := [vr 1011, vr 0, vr 214, vr 235, vi i]) (k m3 hI2)
  · exfalso
    rcases hq1 with ⟨ok, z, -⟩ | ⟨ok, z, -⟩
    · rw [if_pos ok] at e3; exact e (e3.trans z.symm)
    · rw [if_neg ok] at e3; exact e (e3.trans z.symm)
theorem dL_1036 : decode mL_law.2.1 1036 = .ok (.aload_n 1, 1) := by decide +kernel
theorem dL_1037 : decode mL_law.2.1 1037 = .ok (.aload_n 0, 1) := by decide +kernel
theorem dL_1038 : decode mL_law.2.1 1038 = .ok (.iload 4, 2) := by decide +kernel
theorem dL_1040 : decode mL_law.2.1 1040 = .ok (.iconst 1, 1) := by decide +kernel
theorem dL_1041 : decode mL_law.2.1 1041 = .ok (.iadd, 1) := by decide +kernel
theorem dL_1042 : decode mL_law.2.1 1042 = .ok (.iaload, 1) := by decide +kernel
theorem dL_1043 : decode mL_law.2.1 1043 = .ok (.invokevirtual 136, 3) := by decide +kernel
theorem dL_1046 : decode mL_law.2.1 1046 = .ok (.aload_n 2, 1) := by decide +kernel
theorem dL_1047 : decode mL_law.2.1 1047 = .ok (.aload_n 0, 1) := by decide +kernel
theorem dL_1048 : decode mL_law.2.1 1048 = .ok (.iload 4, 2) := by decide +kernel
theorem dL_1050 : decode mL_law.2.1 1050 = .ok (.iconst 1, 1) := by decide +kernel
theorem dL_1051 : decode mL_law.2.1 1051 = .ok (.iadd, 1) := by decide +kernel
theorem dL_1052 : decode mL_law.2.1 1052 = .ok (.iaload, 1) := by decide +kernel
theorem dL_1053 : decode mL_law.2.1 1053 = .ok (.invokevirtual 139, 3) := by decide +kernel
theorem dL_1056 : decode mL_law.2.1 1056 = .ok (.if_icmp .eq 291, 3) := by decide +kernel
theorem dL_1059 : decode mL_law.2.1 1059 = .ok (.iconst 0, 1) := by decide +kernel
theorem dL_1060 : decode mL_law.2.1 1060 = .ok (.ireturn, 1) := by decide +kernel
theorem lc_slip {n : Nat} {xs : Nat → Int32} {g : Nat} {i B : Int} {m : Mem} {Q : Int → Mem → Prop} (hn : n ≤ 3072) (hg : 1 ≤ g) (h0 : 0 ≤ i) (h1 : i + 6 ≤ n) (h : Inv m B) (hB : 0 ≤ B ∧ B ≤ 100000000) (k : ∀ m2 : Mem, Inv m2 (B + 300) → GoL (XL n xs) (g - 1) 72 mL_law Q 1347 (LL i) [] m2) : GoL (XL n xs) g 72 mL_law Q 1036 (LL i) [] m := by
  have K0 : Duo mX11_slip mX12_slip [vi (sc xs (i + 1))] m (fun m2 => Inv m2 B) := c_slip h (InR.r _)
  obtain ⟨d1, Q1, hd1, E1, K1⟩ := K0
  refine gl_aload_n dL_1036 rfl ?_
  refine gl_aload_n dL_1037 rfl ?_
  refine gl_iload dL_1038 rfl ?_
  refine gl_iconst dL_1040 ?_
  refine gl_iadd dL_1041 ?_
  refine gl_sload dL_1042 (by omega) (by omega) hn ?_
  refine gl_callR (as := [vi (sc xs (i + 1))]) (S := []) (b := 0) E1 (Or.inl rfl) dL_1043 cv_L_136 rfl rfl ob_0 rfl (by omega) (by decide) (fun r1 m1 hq1 hr1 => ?_)
  obtain ⟨d2, Q2, hd2, E2, K2⟩ := K1 r1 m1 hq1
  refine gl_aload_n dL_1046 rfl ?_
  refine gl_aload_n dL_1047 rfl ?_
  refine gl_iload dL_1048 rfl ?_
  refine gl_iconst dL_1050 ?_
  refine gl_iadd dL_1051 ?_
  refine gl_sload dL_1052 (by omega) (by omega) hn ?_
  refine gl_callR (as := [vi (sc xs (i + 1))]) (S := [vi r1]) (b := 214) E2 (Or.inl rfl) dL_1053 cv_L_139 rfl rfl ob_214 rfl (by omega) (Nat.le_of_ble_eq_true rfl) (fun r2 m2 hq2 hr2 => ?_)
  obtain ⟨hrr, hI⟩ := K2 r2 m2 hq2
  refine gl_icmp_eq (tgt := 1347) dL_1056 (by decide) hr1 hr2 (fun e => gl_weak (by omega) (k m2 (hI.all (by omega) (fun _ _ _ => rfl)))) (fun e => absurd hrr.symm e)
theorem dL_1061 : decode mL_law.2.1 1061 = .ok (.aload_n 1, 1) := by decide +kernel
theorem dL_1062 : decode mL_law.2.1 1062 = .ok (.aload_n 0, 1) := by decide +kernel
theorem dL_1063 : decode mL_law.2.1 1063 = .ok (.iload 4, 2) := by decide +kernel
theorem dL_1065 : decode mL_law.2.1 1065 = .ok (.iconst 1, 1) := by decide +kernel
theorem dL_1066 : decode mL_law.2.1 1066 = .ok (.iadd, 1) := by decide +kernel
theorem dL_1067 : decode mL_law.2.1 1067 = .ok (.iaload, 1) := by decide +kernel
theorem dL_1068 : decode mL_law.2.1 1068 = .ok (.invokevirtual 140, 3) := by decide +kernel
theorem dL_1071 : decode mL_law.2.1 1071 = .ok (.aload_n 2, 1) := by decide +kernel
theorem dL_1072 : decode mL_law.2.1 1072 = .ok (.aload_n 0, 1) := by decide +kernel
theorem dL_1073 : decode mL_law.2.1 1073 = .ok (.iload 4, 2) := by decide +kernel
theorem dL_1075 : decode mL_law.2.1 1075 = .ok (.iconst 1, 1) := by decide +kernel
theorem dL_1076 : decode mL_law.2.1 1076 = .ok (.iadd, 1) := by decide +kernel
theorem dL_1077 : decode mL_law.2.1 1077 = .ok (.iaload, 1) := by decide +kernel
theorem dL_1078 : decode mL_law.2.1 1078 = .ok (.invokevirtual 143, 3) := by decide +kernel
theorem dL_1081 : decode mL_law.2.1 1081 = .ok (.if_icmp .eq 266, 3) := by decide +kernel
theorem dL_1084 : decode mL_law.2.1 1084 = .ok (.iconst 0, 1) := by decide +kernel
theorem dL_1085 : decode mL_law.2.1 1085 = .ok (.ireturn, 1) := by decide +kernel
theorem lc_byteAt {n : Nat} {xs : Nat → Int32} {g : Nat} {i B : Int} {m : Mem} {Q : Int → Mem → Prop} (hn : n ≤ 3072) (hg : 1 ≤ g) (h0 : 0 ≤ i) (h1 : i + 6 ≤ n) (h : Inv m B) (hB : 0 ≤ B ∧ B ≤ 100000000) (k : ∀ m2 : Mem, Inv m2 (B + 300) → GoL (XL n xs) (g - 1) 72 mL_law Q 1347 (LL i) [] m2) : GoL (XL n xs) g 72 mL_law Q 1061 (LL i) [] m := by
  have K0 : Duo mX11_byteAt mX12_byteAt [vi (sc xs (i + 1))] m (fun m2 => Inv m2 B) := c_byteAt h (InR.r _)
  obtain ⟨d1, Q1, hd1, E1, K1⟩ := K0
  refine gl_aload_n dL_1061 rfl ?_
  refine gl_aload_n dL_1062 rfl ?_
  refine gl_iload dL_1063 rfl ?_
  refine gl_iconst dL_1065 ?_
  refine gl_iadd dL_1066 ?_
  refine gl_sload dL_1067 (by omega) (by omega) hn ?_
  refine gl_callR (as := [vi (sc xs (i + 1))]) (S := []) (b := 0) E1 (Or.inl rfl) dL_1068 cv_L_140 rfl rfl ob_0 rfl (by omega) (by decide) (fun r1 m1 hq1 hr1 => ?_)
  obtain ⟨d2, Q2, hd2, E2, K2⟩ := K1 r1 m1 hq1
  refine gl_aload_n dL_1071 rfl ?_
  refine gl_aload_n dL_1072 rfl ?_
  refine gl_iload dL_1073 rfl ?_
  refine gl_iconst dL_1075 ?_
  refine gl_iadd dL_1076 ?_
  refine gl_sload dL_1077 (by omega) (by omega) hn ?_
  refine gl_callR (as := [vi (sc xs (i + 1))]) (S := [vi r1]) (b := 214) E2 (Or.inl rfl) dL_1078 cv_L_143 rfl rfl ob_214 rfl (by omega) (Nat.le_of_ble_eq_true rfl) (fun r2 m2 hq2 hr2 => ?_)
  obtain ⟨hrr, hI⟩ := K2 r2 m2 hq2
  refine gl_icmp_eq (tgt := 1347) dL_1081 (by decide) hr1 hr2 (fun e => gl_weak (by omega) (k m2 (hI.all (by omega) (fun _ _ _ => rfl)))) (fun e => absurd hrr.symm e)
theorem dL_1086 : decode mL_law.2.1 1086 = .ok (.aload_n 1, 1) := by decide +kernel
theorem dL_1087 : decode mL_law.2.1 1087 = .ok (.aload_n 0, 1) := by decide +kernel
theorem dL_1088 : decode mL_law.2.1 1088 = .ok (.iload 4, 2) := by decide +kernel
theorem dL_1090 : decode mL_law.2.1 1090 = .ok (.iconst 1, 1) := by decide +kernel
theorem dL_1091 : decode mL_law.2.1 1091 = .ok (.iadd, 1) := by decide +kernel
theorem dL_1092 : decode mL_law.2.1 1092 = .ok (.iaload, 1) := by decide +kernel
theorem dL_1093 : decode mL_law.2.1 1093 = .ok (.aload_n 0, 1) := by decide +kernel
theorem dL_1094 : decode mL_law.2.1 1094 = .ok (.iload 4, 2) := by decide +kernel
theorem dL_1096 : decode mL_law.2.1 1096 = .ok (.iconst 2, 1) := by decide +kernel
theorem dL_1097 : decode mL_law.2.1 1097 = .ok (.iadd, 1) := by decide +kernel
theorem dL_1098 : decode mL_law.2.1 1098 = .ok (.iaload, 1) := by decide +kernel
theorem dL_1099 : decode mL_law.2.1 1099 = .ok (.invokevirtual 144, 3) := by decide +kernel
theorem dL_1102 : decode mL_law.2.1 1102 = .ok (.aload_n 2, 1) := by decide +kernel
theorem dL_1103 : decode mL_law.2.1 1103 = .ok (.aload_n 0, 1) := by decide +kernel
theorem dL_1104 : decode mL_law.2.1 1104 = .ok (.iload 4, 2) := by decide +kernel
theorem dL_1106 : decode mL_law.2.1 1106 = .ok (.iconst 1, 1) := by decide +kernel
theorem dL_1107 : decode mL_law.2.1 1107 = .ok (.iadd, 1) := by decide +kernel
theorem dL_1108 : decode mL_law.2.1 1108 = .ok (.iaload, 1) := by decide +kernel
theorem dL_1109 : decode mL_law.2.1 1109 = .ok (.aload_n 0, 1) := by decide +kernel
theorem dL_1110 : decode mL_law.2.1 1110 = .ok (.iload 4, 2) := by decide +kernel
theorem dL_1112 : decode mL_law.2.1 1112 = .ok (.iconst 2, 1) := by decide +kernel
theorem dL_1113 : decode mL_law.2.1 1113 = .ok (.iadd, 1) := by decide +kernel
theorem dL_1114 : decode mL_law.2.1 1114 = .ok (.iaload, 1) := by decide +kernel
theorem dL_1115 : decode mL_law.2.1 1115 = .ok (.invokevirtual 147, 3) := by decide +kernel
theorem dL_1118 : decode mL_law.2.1 1118 = .ok (.if_icmp .eq 229, 3) := by decide +kernel
theorem dL_1121 : decode mL_law.2.1 1121 = .ok (.iconst 0, 1) := by decide +kernel
theorem dL_1122 : decode mL_law.2.1 1122 = .ok (.ireturn, 1) := by decide +kernel
theorem lc_drawn {n : Nat} {xs : Nat → Int32} {g : Nat} {i B : Int} {m : Mem} {Q : Int → Mem → Prop} (hn : n ≤ 3072) (hg : 1 ≤ g) (h0 : 0 ≤ i) (h1 : i + 6 ≤ n) (h : Inv m B) (hB : 0 ≤ B ∧ B ≤ 100000000) (k : ∀ m2 : Mem, Inv m2 (B + 300) → GoL (XL n xs) (g - 1) 72 mL_law Q 1347 (LL i) [] m2) : GoL (XL n xs) g 72 mL_law Q 1086 (LL i) [] m := by
  have K0 : Duo mX11_drawn mX12_drawn [vi (sc xs (i + 1)), vi (sc xs (i + 2))] m (fun m2 => Inv m2 (B + 300)) := c_drawn h hB (InR.r _) (InR.r _)
  obtain ⟨d1, Q1, hd1, E1, K1⟩ := K0
  refine gl_aload_n dL_1086 rfl ?_
  refine gl_aload_n dL_1087 rfl ?_
  refine gl_iload dL_1088 rfl ?_
  refine gl_iconst dL_1090 ?_
  refine gl_iadd dL_1091 ?_
  refine gl_sload dL_1092 (by omega) (by omega) hn ?_
  refine gl_aload_n dL_1093 rfl ?_
  refine gl_iload dL_1094 rfl ?_
  refine gl_iconst dL_1096 ?_
  refine gl_iadd dL_1097 ?_
  refine gl_sload dL_1098 (by omega) (by omega) hn ?_
  refine gl_callR (as := [vi (sc xs (i + 1)), vi (sc xs (i + 2))]) (S := []) (b := 0) E1 (Or.inl rfl) dL_1099 cv_L_144 rfl rfl ob_0 rfl (by omega) (by decide) (fun r1 m1 hq1 hr1 => ?_)
  obtain ⟨d2, Q2, hd2, E2, K2⟩ := K1 r1 m1 hq1
  refine gl_aload_n dL_1102 rfl ?_
  refine gl_aload_n dL_1103 rfl ?_
  refine gl_iload dL_1104 rfl ?_
  refine gl_iconst dL_1106 ?_
  refine gl_iadd dL_1107 ?_
  refine gl_sload dL_1108 (by omega) (by omega) hn ?_
  refine gl_aload_n dL_1109 rfl ?_
  refine gl_iload dL_1110 rfl ?_
  refine gl_iconst dL_1112 ?_
  refine gl_iadd dL_1113 ?_
  refine gl_sload dL_1114 (by omega) (by omega) hn ?_
  refine gl_callR (as := [vi (sc xs (i + 1)), vi (sc xs (i + 2))]) (S := [vi r1]) (b := 214) E2 (Or.inl rfl) dL_1115 cv_L_147 rfl rfl ob_214 rfl (by omega) (Nat.le_of_ble_eq_true rfl) (fun r2 m2 hq2 hr2 => ?_)
  obtain ⟨hrr, hI⟩ := K2 r2 m2 hq2
  refine gl_icmp_eq (tgt := 1347) dL_1118 (by decide) hr1 hr2 (fun e => gl_weak (by omega) (k m2 hI)) (fun e => absurd hrr.symm e)
