theorem comeN_t {c : Int} {P : Int → Bool} {q : Int} (h : 0 ≤ q) (hp : P q = true) : comeN c P (q + 1).toNat = ior (comeN c P q.toNat) (ishl 1 q) := by rw [comeN_s h, if_pos hp]
theorem comeN_f {c : Int} {P : Int → Bool} {q : Int} (h : 0 ≤ q) (hp : P q = false) : comeN c P (q + 1).toNat = comeN c P q.toNat := by rw [comeN_s h, hp]; rfl
theorem ior_0 {x : Int} (h : InR x) : ior x 0 = x := by
  unfold ior
  rw [show Int32.ofInt x ||| Int32.ofInt 0 = Int32.ofInt x from Int32.or_zero, h.i]
theorem ishl_0s : ∀ n : Nat, n < 6 → ishl 0 (n : Int) = 0 := by decide +kernel
theorem ishl_0 {n : Int} (h0 : 0 ≤ n) (h1 : n < 6) : ishl 0 n = 0 := by
  have := ishl_0s n.toNat (by omega)
  rw [Int.toNat_of_nonneg h0] at this
  exact this
theorem bits_come {P : Int → Bool} : ∀ n : Nat, n < 7 → bits P n = comeN 0 P n := by
  intro n
  induction n with
  | zero => intro _; rfl
  | succ n ih =>
    intro h
    have hb := bits_bnd P (n := (n : Int)) (by omega)
    rw [show ((n + 1 : Nat) : Int) = (n : Int) + 1 from rfl, bits_s P (by omega), ih (by omega)]
    rw [ih (by omega)] at hb
    show _ = if P (n : Int) then ior _ _ else _
    split
    · rw [ior_bit (by omega) (by omega) hb.1 hb.2]
    · omega
theorem sumR_bnd {m : Mem} {a n C i : Int} (h : ∀ j : Int, 0 ≤ j → j < n → 0 ≤ m 216 (a + j) ∧ m 216 (a + j) ≤ C) (h0 : 0 ≤ i) (h1 : i ≤ n) : 0 ≤ sumI (fun k => m 216 (a + k)) i ∧ sumI (fun k => m 216 (a + k)) i ≤ i * C := by
  have := sumI_bnd (f := fun k => m 216 (a + k)) (lo := 0) (hi := C) h0 (fun j p q => h j p (by omega))
  omega

theorem dX12_sum_0 : decode mX12_sum.2.1 0 = .ok (.iconst 0, 1) := by decide +kernel
theorem dX12_sum_1 : decode mX12_sum.2.1 1 = .ok (.istore_n 3, 1) := by decide +kernel
theorem dX12_sum_2 : decode mX12_sum.2.1 2 = .ok (.iconst 0, 1) := by decide +kernel
theorem dX12_sum_3 : decode mX12_sum.2.1 3 = .ok (.istore 4, 2) := by decide +kernel
theorem dX12_sum_5 : decode mX12_sum.2.1 5 = .ok (.iload 4, 2) := by decide +kernel
theorem dX12_sum_7 : decode mX12_sum.2.1 7 = .ok (.iload_n 2, 1) := by decide +kernel
theorem dX12_sum_8 : decode mX12_sum.2.1 8 = .ok (.if_icmp .ge 21, 3) := by decide +kernel
theorem dX12_sum_11 : decode mX12_sum.2.1 11 = .ok (.iload_n 3, 1) := by decide +kernel
theorem dX12_sum_12 : decode mX12_sum.2.1 12 = .ok (.aload_n 0, 1) := by decide +kernel
theorem dX12_sum_13 : decode mX12_sum.2.1 13 = .ok (.getfield 98, 3) := by decide +kernel
theorem dX12_sum_16 : decode mX12_sum.2.1 16 = .ok (.iload_n 1, 1) := by decide +kernel
theorem dX12_sum_17 : decode mX12_sum.2.1 17 = .ok (.iload 4, 2) := by decide +kernel
theorem dX12_sum_19 : decode mX12_sum.2.1 19 = .ok (.iadd, 1) := by decide +kernel
theorem dX12_sum_20 : decode mX12_sum.2.1 20 = .ok (.iaload, 1) := by decide +kernel
theorem dX12_sum_21 : decode mX12_sum.2.1 21 = .ok (.iadd, 1) := by decide +kernel
theorem dX12_sum_22 : decode mX12_sum.2.1 22 = .ok (.istore_n 3, 1) := by decide +kernel
theorem dX12_sum_23 : decode mX12_sum.2.1 23 = .ok (.iinc 4 1, 3) := by decide +kernel
theorem dX12_sum_26 : decode mX12_sum.2.1 26 = .ok (.goto (-21), 3) := by decide +kernel
theorem dX12_sum_29 : decode mX12_sum.2.1 29 = .ok (.iload_n 3, 1) := by decide +kernel
theorem dX12_sum_30 : decode mX12_sum.2.1 30 = .ok (.ireturn, 1) := by decide +kernel
set_option maxRecDepth 4000 in
theorem ev_X12_sum {m : Mem} {a : Int} {n : Int} (ha : 0 ≤ a) (hn : 0 ≤ n ∧ n ≤ 81 ∧ a + n ≤ 474) (hbd : ∀ j : Int, 0 ≤ j → j < n → 0 ≤ m 216 (a + j) ∧ m 216 (a + j) ≤ 60) : Ev 0 1 mX12_sum [vr 214, vi a, vi n] m (fun r m' => m' = m ∧ (r = sumI (fun k => m 216 (a + k)) n)) := by
  refine Ev.of (L := [vr 214, vi a, vi n, un, un]) (by decide +kernel) rfl (Nat.le_of_ble_eq_true rfl) rfl (fun t ht => by cases ht; first | exact Or.inl rfl | exact Or.inr (Or.inl rfl) | exact Or.inr (Or.inr rfl)) (fun hcan => ?_)
  refine go_iconst dX12_sum_0 ?_
  refine go_istore_n (L' := [vr 214, vi a, vi n, vi 0, un]) dX12_sum_1 (by decide) rfl rfl ?_
  refine go_iconst dX12_sum_2 ?_
  refine go_istore (L' := [vr 214, vi a, vi n, vi 0, vi 0]) dX12_sum_3 (by decide) rfl rfl ?_
  have lp_5 : ∀ (n_5 : Nat) (t : Int) (i : Int) , (0 ≤ i) → (i ≤ n) → (t = sumI (fun k => m 216 (a + k)) i) → (n - i).toNat < n_5 → Go 0 1 mX12_sum (fun r m' => m' = m ∧ (r = sumI (fun k => m 216 (a + k)) n)) 5 [vr 214, vi a, vi n, vi t, vi i] [] m := by
    intro n_5
    induction n_5 with
    | zero => intro t i hi0 hi1 ht hmu; exact absurd hmu (Nat.not_lt_zero _)
    | succ n_5 ih_5 =>
      intro t i hi0 hi1 ht hmu
      have htb := sumR_bnd hbd hi0 hi1
      rw [← ht] at htb
      refine go_iload dX12_sum_5 rfl ?_
      refine go_iload_n dX12_sum_7 rfl ?_
      refine go_icmp_ge (tgt := 29) dX12_sum_8 (by decide) ⟨by omega, by omega⟩ ⟨by omega, by omega⟩ (fun h_8 => ?_) (fun h_8 => ?_)
      · refine go_iload_n dX12_sum_29 rfl ?_
        exact go_ret (v := t) rfl dX12_sum_30 (okI ⟨by omega, by omega⟩) ⟨rfl, (by rw [ht, show i = n by omega])⟩
      · refine go_iload_n dX12_sum_11 rfl ?_
        refine go_aload_n dX12_sum_12 rfl ?_
        refine go_getf_p (b := 216) dX12_sum_13 fl_12_98 ob_214 rfl pt_214_14 ?_
        refine go_iload_n dX12_sum_16 rfl ?_
        refine go_iload dX12_sum_17 rfl ?_
        refine go_iadd dX12_sum_19 ?_
        have hbx := hbd i hi0 (by omega)
        refine go_iaload dX12_sum_20 ar_216 (by omega) (by omega) (fun he_20 => ?_)
        refine go_iadd dX12_sum_21 ?_
        refine go_istore_n (L' := [vr 214, vi a, vi n, vi (t + (m 216 (a + i))), vi i]) dX12_sum_22 (by decide) rfl rfl ?_
        refine go_iinc (L' := [vr 214, vi a, vi n, vi (t + (m 216 (a + i))), vi (i + 1)]) dX12_sum_23 rfl (by decide) rfl rfl ?_
        refine go_goto (tgt := 5) dX12_sum_26 (by decide) ?_
        exact ih_5 (t + (m 216 (a + i))) (i + 1) (by first | assumption | omega | rfl) (by first | assumption | omega | rfl) (by rw [sumI_succ _ hi0, ← ht]) (by omega)
  exact lp_5 _ 0 0 (by first | assumption | omega | rfl) (by first | assumption | omega | rfl) (sumI_0 _).symm (Nat.lt_succ_self _)
theorem dX12_who_0 : decode mX12_who.2.1 0 = .ok (.iconst 0, 1) := by decide +kernel
theorem dX12_who_1 : decode mX12_who.2.1 1 = .ok (.istore_n 2, 1) := by decide +kernel
theorem dX12_who_2 : decode mX12_who.2.1 2 = .ok (.iconst 0, 1) := by decide +kernel
theorem dX12_who_3 : decode mX12_who.2.1 3 = .ok (.istore_n 3, 1) := by decide +kernel
theorem dX12_who_4 : decode mX12_who.2.1 4 = .ok (.iload_n 3, 1) := by decide +kernel
theorem dX12_who_5 : decode mX12_who.2.1 5 = .ok (.aload_n 0, 1) := by decide +kernel
theorem dX12_who_6 : decode mX12_who.2.1 6 = .ok (.getfield 98, 3) := by decide +kernel
theorem dX12_who_9 : decode mX12_who.2.1 9 = .ok (.iconst 3, 1) := by decide +kernel
theorem dX12_who_10 : decode mX12_who.2.1 10 = .ok (.iaload, 1) := by decide +kernel
theorem dX12_who_11 : decode mX12_who.2.1 11 = .ok (.if_icmp .ge 64, 3) := by decide +kernel
theorem dX12_who_14 : decode mX12_who.2.1 14 = .ok (.iload_n 1, 1) := by decide +kernel
theorem dX12_who_15 : decode mX12_who.2.1 15 = .ok (.ifCond .ne 19, 3) := by decide +kernel
theorem dX12_who_18 : decode mX12_who.2.1 18 = .ok (.aload_n 0, 1) := by decide +kernel
theorem dX12_who_19 : decode mX12_who.2.1 19 = .ok (.getfield 98, 3) := by decide +kernel
theorem dX12_who_22 : decode mX12_who.2.1 22 = .ok (.sipush 136, 3) := by decide +kernel
theorem dX12_who_25 : decode mX12_who.2.1 25 = .ok (.iload_n 3, 1) := by decide +kernel
theorem dX12_who_26 : decode mX12_who.2.1 26 = .ok (.iadd, 1) := by decide +kernel
theorem dX12_who_27 : decode mX12_who.2.1 27 = .ok (.iaload, 1) := by decide +kernel
theorem dX12_who_28 : decode mX12_who.2.1 28 = .ok (.ifCond .ne 41, 3) := by decide +kernel
theorem dX12_who_31 : decode mX12_who.2.1 31 = .ok (.goto 32, 3) := by decide +kernel
theorem dX12_who_34 : decode mX12_who.2.1 34 = .ok (.iload_n 1, 1) := by decide +kernel
theorem dX12_who_35 : decode mX12_who.2.1 35 = .ok (.iconst 1, 1) := by decide +kernel
theorem dX12_who_36 : decode mX12_who.2.1 36 = .ok (.if_icmp .ne 14, 3) := by decide +kernel
theorem dX12_who_39 : decode mX12_who.2.1 39 = .ok (.aload_n 0, 1) := by decide +kernel
theorem dX12_who_40 : decode mX12_who.2.1 40 = .ok (.iload_n 3, 1) := by decide +kernel
theorem dX12_who_41 : decode mX12_who.2.1 41 = .ok (.invokevirtual 260, 3) := by decide +kernel
theorem dX12_who_44 : decode mX12_who.2.1 44 = .ok (.ifCond .eq 25, 3) := by decide +kernel
theorem dX12_who_47 : decode mX12_who.2.1 47 = .ok (.goto 16, 3) := by decide +kernel
theorem dX12_who_50 : decode mX12_who.2.1 50 = .ok (.aload_n 0, 1) := by decide +kernel
theorem dX12_who_51 : decode mX12_who.2.1 51 = .ok (.getfield 98, 3) := by decide +kernel
theorem dX12_who_54 : decode mX12_who.2.1 54 = .ok (.sipush 131, 3) := by decide +kernel
theorem dX12_who_57 : decode mX12_who.2.1 57 = .ok (.iload_n 3, 1) := by decide +kernel
theorem dX12_who_58 : decode mX12_who.2.1 58 = .ok (.iadd, 1) := by decide +kernel
theorem dX12_who_59 : decode mX12_who.2.1 59 = .ok (.iaload, 1) := by decide +kernel
theorem dX12_who_60 : decode mX12_who.2.1 60 = .ok (.ifCond .ne 9, 3) := by decide +kernel
theorem dX12_who_63 : decode mX12_who.2.1 63 = .ok (.iload_n 2, 1) := by decide +kernel
theorem dX12_who_64 : decode mX12_who.2.1 64 = .ok (.iconst 1, 1) := by decide +kernel
theorem dX12_who_65 : decode mX12_who.2.1 65 = .ok (.iload_n 3, 1) := by decide +kernel
theorem dX12_who_66 : decode mX12_who.2.1 66 = .ok (.ishl, 1) := by decide +kernel
theorem dX12_who_67 : decode mX12_who.2.1 67 = .ok (.ior, 1) := by decide +kernel
theorem dX12_who_68 : decode mX12_who.2.1 68 = .ok (.istore_n 2, 1) := by decide +kernel
theorem dX12_who_69 : decode mX12_who.2.1 69 = .ok (.iinc 3 1, 3) := by decide +kernel
theorem dX12_who_72 : decode mX12_who.2.1 72 = .ok (.goto (-68), 3) := by decide +kernel
theorem dX12_who_75 : decode mX12_who.2.1 75 = .ok (.iload_n 2, 1) := by decide +kernel
theorem dX12_who_76 : decode mX12_who.2.1 76 = .ok (.ireturn, 1) := by decide +kernel
set_option maxRecDepth 4000 in
theorem ev_X12_who {m : Mem} {G : Mem} {d : Nat} {st : Nat} {v : Int} (hb : Bg G d st (m 216)) (hdn : DnOk G d) (hv : InR v) : Ev 0 2 mX12_who [vr 214, vi v] m (fun r m' => m' = m ∧ (r = comeN 0 (whP G d st v) (G d 3).toNat)) := by
  refine Ev.of (L := [vr 214, vi v, un, un]) (by decide +kernel) rfl (Nat.le_of_ble_eq_true rfl) rfl (fun t ht => by cases ht; first | exact Or.inl rfl | exact Or.inr (Or.inl rfl) | exact Or.inr (Or.inr rfl)) (fun hcan => ?_)
  obtain ⟨⟨hd0, hd1⟩, ⟨hd2, hd3⟩, ⟨hd4, hd5⟩, ⟨hd6, hd7⟩, ⟨hd8, hd9⟩, hdf, hdp, hdq⟩ := id hdn
  refine go_iconst dX12_who_0 ?_
  refine go_istore_n (L' := [vr 214, vi v, vi 0, un]) dX12_who_1 (by decide) rfl rfl ?_
  refine go_iconst dX12_who_2 ?_
  refine go_istore_n (L' := [vr 214, vi v, vi 0, vi 0]) dX12_who_3 (by decide) rfl rfl ?_
  have lp_4 : ∀ (n_4 : Nat) (c : Int) (p : Int) , (0 ≤ p) → (p ≤ G d 3) → (c = comeN 0 (whP G d st v) p.toNat) → (G d 3 - p).toNat < n_4 → Go 0 2 mX12_who (fun r m' => m' = m ∧ (r = comeN 0 (whP G d st v) (G d 3).toNat)) 4 [vr 214, vi v, vi c, vi p] [] m := by
    intro n_4
    induction n_4 with
    | zero => intro c p hp0 hp1 hc hmu; exact absurd hmu (Nat.not_lt_zero _)
    | succ n_4 ih_4 =>
      intro c p hp0 hp1 hc hmu
      have hbR := comeN_R (P := whP G d st v) p.toNat
      rw [← hc] at hbR
      have w0 : v = 0 → whP G d st v p = decide (G (st + 5) p = 0) := fun e => by unfold whP; rw [if_pos e]
      have w1 : v = 1 → whP G d st v p = setlC G d st p := fun e => by unfold whP; rw [if_neg (by omega), if_pos e]
      have w2 : v ≠ 0 → v ≠ 1 → whP G d st v p = decide (G (st + 4) p = 0) := fun e e1 => by unfold whP; rw [if_neg e, if_neg e1]
      refine go_iload_n dX12_who_4 rfl ?_
      refine go_aload_n dX12_who_5 rfl ?_
      refine go_getf_p (b := 216) dX12_who_6 fl_12_98 ob_214 rfl pt_214_14 ?_
      refine go_iconst dX12_who_9 ?_
      refine go_iaload dX12_who_10 ar_216 (by omega) (by omega) (fun he_10 => ?_)
      rw [show (m 216 3 : Int) = (G d 3) from hb.n3] at he_10 ⊢
      refine go_icmp_ge (tgt := 75) dX12_who_11 (by decide) ⟨by omega, by omega⟩ ⟨by omega, by omega⟩ (fun h_11 => ?_) (fun h_11 => ?_)
      · refine go_iload_n dX12_who_75 rfl ?_
        exact go_ret (v := c) rfl dX12_who_76 (okI ⟨by omega, by omega⟩) ⟨rfl, (by rw [hc, show p = G d 3 by omega])⟩
      · refine go_iload_n dX12_who_14 rfl ?_
        refine go_if_ne (tgt := 34) dX12_who_15 (by decide) ⟨by omega, by omega⟩ (fun h_15 => ?_) (fun h_15 => ?_)
        · refine go_iload_n dX12_who_34 rfl ?_
          refine go_iconst dX12_who_35 ?_
          refine go_icmp_ne (tgt := 50) dX12_who_36 (by decide) ⟨by omega, by omega⟩ ⟨by omega, by omega⟩ (fun h_36 => ?_) (fun h_36 => ?_)
          · refine go_aload_n dX12_who_50 rfl ?_
            refine go_getf_p (b := 216) dX12_who_51 fl_12_98 ob_214 rfl pt_214_14 ?_
            refine go_sipush dX12_who_54 (by decide) ?_
            refine go_iload_n dX12_who_57 rfl ?_
            refine go_iadd dX12_who_58 ?_
            refine go_iaload dX12_who_59 ar_216 (by omega) (by omega) (fun he_59 => ?_)
            rw [show (m 216 (131 + p) : Int) = (G (st + 4) p) from (hb.up (p := p) (by omega) (by omega))] at he_59 ⊢
            refine go_if_ne (tgt := 69) dX12_who_60 (by decide) ⟨by omega, by omega⟩ (fun h_60 => ?_) (fun h_60 => ?_)
            · refine go_iinc (L' := [vr 214, vi v, vi c, vi (p + 1)]) dX12_who_69 rfl (by decide) rfl rfl ?_
              refine go_goto (tgt := 4) dX12_who_72 (by decide) ?_
              exact ih_4 c (p + 1) (by first | assumption | omega | rfl) (by first | assumption | omega | rfl) (by
                    first
                    | (rw [comeN_t hp0 (by rw [w0 (by omega)]; exact decide_eq_true (by omega)), ← hc])
                    | (rw [comeN_f hp0 (by rw [w0 (by omega)]; exact decide_eq_false (by omega)), ← hc])
                    | (rw [comeN_t hp0 (by rw [w2 (by omega) (by omega)]; exact decide_eq_true (by omega)), ← hc])
                    | (rw [comeN_f hp0 (by rw [w2 (by omega) (by omega)]; exact decide_eq_false (by omega)), ← hc])
                    | (rw [comeN_t hp0 (by rw [w1 (by omega)]; exact (hr_41.resolve_right (fun h => by omega)).2), ← hc])
                    | (rw [comeN_f hp0 (by rw [w1 (by omega)]; exact (hr_41.resolve_left (fun h => by omega)).2), ← hc])) (by omega)
            · refine go_iload_n dX12_who_63 rfl ?_
              refine go_iconst dX12_who_64 ?_
              refine go_iload_n dX12_who_65 rfl ?_
              refine go_ishl dX12_who_66 ?_
              refine go_ior dX12_who_67 ?_
              refine go_istore_n (L' := [vr 214, vi v, vi (ior c (ishl 1 p)), vi p]) dX12_who_68 (by decide) rfl rfl ?_
              refine go_iinc (L' := [vr 214, vi v, vi (ior c (ishl 1 p)), vi (p + 1)]) dX12_who_69 rfl (by decide) rfl rfl ?_
              refine go_goto (tgt := 4) dX12_who_72 (by decide) ?_
              exact ih_4 (ior c (ishl 1 p)) (p + 1) (by first | assumption | omega | rfl) (by first | assumption | omega | rfl) (by
                    first
                    | (rw [comeN_t hp0 (by rw [w0 (by omega)]; exact decide_eq_true (by omega)), ← hc])
                    | (rw [comeN_f hp0 (by rw [w0 (by omega)]; exact decide_eq_false (by omega)), ← hc])
                    | (rw [comeN_t hp0 (by rw [w2 (by omega) (by omega)]; exact decide_eq_true (by omega)), ← hc])
                    | (rw [comeN_f hp0 (by rw [w2 (by omega) (by omega)]; exact decide_eq_false (by omega)), ← hc])
                    | (rw [comeN_t hp0 (by rw [w1 (by omega)]; exact (hr_41.resolve_right (fun h => by omega)).2), ← hc])
                    | (rw [comeN_f hp0 (by rw [w1 (by omega)]; exact (hr_41.resolve_left (fun h => by omega)).2), ← hc])) (by omega)
          · refine go_aload_n dX12_who_39 rfl ?_
            refine go_iload_n dX12_who_40 rfl ?_
            refine go_callVp_z (as := [vi p]) (S := []) (b := 214) (ev_X12_isSettled (m := m) (p := p) (G := G) (d := d) (st := st) (by first | exact hb | exact hb.w (by decide) | exact (hb.w (by decide)).w (by decide)) (by first | assumption | omega | exact ⟨by omega, by omega⟩ | (constructor <;> omega)) (by first | assumption | omega | exact ⟨by omega, by omega⟩ | (constructor <;> omega))) rfl dX12_who_41 cv_12_260 rfl rfl ob_214 rfl (by decide) (Nat.le_of_ble_eq_true rfl) (fun r_41 hr_41 ho_41 => ?_)
            refine go_if_eq (tgt := 69) dX12_who_44 (by decide) ⟨by omega, by omega⟩ (fun h_44 => ?_) (fun h_44 => ?_)
            · refine go_iinc (L' := [vr 214, vi v, vi c, vi (p + 1)]) dX12_who_69 rfl (by decide) rfl rfl ?_
              refine go_goto (tgt := 4) dX12_who_72 (by decide) ?_
              exact ih_4 c (p + 1) (by first | assumption | omega | rfl) (by first | assumption | omega | rfl) (by
                    first
                    | (rw [comeN_t hp0 (by rw [w0 (by omega)]; exact decide_eq_true (by omega)), ← hc])
                    | (rw [comeN_f hp0 (by rw [w0 (by omega)]; exact decide_eq_false (by omega)), ← hc])
                    | (rw [comeN_t hp0 (by rw [w2 (by omega) (by omega)]; exact decide_eq_true (by omega)), ← hc])
                    | (rw [comeN_f hp0 (by rw [w2 (by omega) (by omega)]; exact decide_eq_false (by omega)), ← hc])
                    | (rw [comeN_t hp0 (by rw [w1 (by omega)]; exact (hr_41.resolve_right (fun h => by omega)).2), ← hc])
                    | (rw [comeN_f hp0 (by rw [w1 (by omega)]; exact (hr_41.resolve_left (fun h => by omega)).2), ← hc])) (by omega)
            · refine go_goto (tgt := 63) dX12_who_47 (by decide) ?_
              refine go_iload_n dX12_who_63 rfl ?_
              refine go_iconst dX12_who_64 ?_
              refine go_iload_n dX12_who_65 rfl ?_
              refine go_ishl dX12_who_66 ?_
              refine go_ior dX12_who_67 ?_
              refine go_istore_n (L' := [vr 214, vi v, vi (ior c (ishl 1 p)), vi p]) dX12_who_68 (by decide) rfl rfl ?_
              refine go_iinc (L' := [vr 214, vi v, vi (ior c (ishl 1 p)), vi (p + 1)]) dX12_who_69 rfl (by decide) rfl rfl ?_
              refine go_goto (tgt := 4) dX12_who_72 (by decide) ?_
              exact ih_4 (ior c (ishl 1 p)) (p + 1) (by first | assumption | omega | rfl) (by first | assumption | omega | rfl) (by
                    first
                    | (rw [comeN_t hp0 (by rw [w0 (by omega)]; exact decide_eq_true (by omega)), ← hc])
                    | (rw [comeN_f hp0 (by rw [w0 (by omega)]; exact decide_eq_false (by omega)), ← hc])
                    | (rw [comeN_t hp0 (by rw [w2 (by omega) (by omega)]; exact decide_eq_true (by omega)), ← hc])
                    | (rw [comeN_f hp0 (by rw [w2 (by omega) (by omega)]; exact decide_eq_false (by omega)), ← hc])
                    | (rw [comeN_t hp0 (by rw [w1 (by omega)]; exact (hr_41.resolve_right (fun h => by omega)).2), ← hc])
                    | (rw [comeN_f hp0 (by rw [w1 (by omega)]; exact (hr_41.resolve_left (fun h => by omega)).2), ← hc])) (by omega)
        · refine go_aload_n dX12_who_18 rfl ?_
          refine go_getf_p (b := 216) dX12_who_19 fl_12_98 ob_214 rfl pt_214_14 ?_
          refine go_sipush dX12_who_22 (by decide) ?_
          refine go_iload_n dX12_who_25 rfl ?_
          refine go_iadd dX12_who_26 ?_
          refine go_iaload dX12_who_27 ar_216 (by omega) (by omega) (fun he_27 => ?_)
          rw [show (m 216 (136 + p) : Int) = (G (st + 5) p) from (hb.br (p := p) (by omega) (by omega))] at he_27 ⊢
          refine go_if_ne (tgt := 69) dX12_who_28 (by decide) ⟨by omega, by omega⟩ (fun h_28 => ?_) (fun h_28 => ?_)
          · refine go_iinc (L' := [vr 214, vi v, vi c, vi (p + 1)]) dX12_who_69 rfl (by decide) rfl rfl ?_
            refine go_goto (tgt := 4) dX12_who_72 (by decide) ?_
            exact ih_4 c (p + 1) (by first | assumption | omega | rfl) (by first | assumption | omega | rfl) (by
                  first
                  | (rw [comeN_t hp0 (by rw [w0 (by omega)]; exact decide_eq_true (by omega)), ← hc])
                  | (rw [comeN_f hp0 (by rw [w0 (by omega)]; exact decide_eq_false (by omega)), ← hc])
                  | (rw [comeN_t hp0 (by rw [w2 (by omega) (by omega)]; exact decide_eq_true (by omega)), ← hc])
                  | (rw [comeN_f hp0 (by rw [w2 (by omega) (by omega)]; exact decide_eq_false (by omega)), ← hc])
                  | (rw [comeN_t hp0 (by rw [w1 (by omega)]; exact (hr_41.resolve_right (fun h => by omega)).2), ← hc])
                  | (rw [comeN_f hp0 (by rw [w1 (by omega)]; exact (hr_41.resolve_left (fun h => by omega)).2), ← hc])) (by omega)
          · refine go_goto (tgt := 63) dX12_who_31 (by decide) ?_
            refine go_iload_n dX12_who_63 rfl ?_
            refine go_iconst dX12_who_64 ?_
            refine go_iload_n dX12_who_65 rfl ?_
            refine go_ishl dX12_who_66 ?_
            refine go_ior dX12_who_67 ?_
            refine go_istore_n (L' := [vr 214, vi v, vi (ior c (ishl 1 p)), vi p]) dX12_who_68 (by decide) rfl rfl ?_
            refine go_iinc (L' := [vr 214, vi v, vi (ior c (ishl 1 p)), vi (p + 1)]) dX12_who_69 rfl (by decide) rfl rfl ?_
            refine go_goto (tgt := 4) dX12_who_72 (by decide) ?_
            exact ih_4 (ior c (ishl 1 p)) (p + 1) (by first | assumption | omega | rfl) (by first | assumption | omega | rfl) (by
                  first
                  | (rw [comeN_t hp0 (by rw [w0 (by omega)]; exact decide_eq_true (by omega)), ← hc])
                  | (rw [comeN_f hp0 (by rw [w0 (by omega)]; exact decide_eq_false (by omega)), ← hc])
                  | (rw [comeN_t hp0 (by rw [w2 (by omega) (by omega)]; exact decide_eq_true (by omega)), ← hc])
                  | (rw [comeN_f hp0 (by rw [w2 (by omega) (by omega)]; exact decide_eq_false (by omega)), ← hc])
                  | (rw [comeN_t hp0 (by rw [w1 (by omega)]; exact (hr_41.resolve_right (fun h => by omega)).2), ← hc])
                  | (rw [comeN_f hp0 (by rw [w1 (by omega)]; exact (hr_41.resolve_left (fun h => by omega)).2), ← hc])) (by omega)
  exact lp_4 _ 0 0 (by first | assumption | omega | rfl) (by first | assumption | omega | rfl) rfl (Nat.lt_succ_self _)
theorem dX12_person_0 : decode mX12_person.2.1 0 = .ok (.aload_n 0, 1) := by decide +kernel
theorem dX12_person_1 : decode mX12_person.2.1 1 = .ok (.iconst 0, 1) := by decide +kernel
theorem dX12_person_2 : decode mX12_person.2.1 2 = .ok (.putfield 1, 3) := by decide +kernel
theorem dX12_person_5 : decode mX12_person.2.1 5 = .ok (.aload_n 0, 1) := by decide +kernel
theorem dX12_person_6 : decode mX12_person.2.1 6 = .ok (.iload_n 1, 1) := by decide +kernel
theorem dX12_person_7 : decode mX12_person.2.1 7 = .ok (.invokevirtual 245, 3) := by decide +kernel
theorem dX12_person_10 : decode mX12_person.2.1 10 = .ok (.ifCond .ne 8, 3) := by decide +kernel
theorem dX12_person_13 : decode mX12_person.2.1 13 = .ok (.aload_n 0, 1) := by decide +kernel
theorem dX12_person_14 : decode mX12_person.2.1 14 = .ok (.invokevirtual 248, 3) := by decide +kernel
theorem dX12_person_17 : decode mX12_person.2.1 17 = .ok (.ireturn, 1) := by decide +kernel
theorem dX12_person_18 : decode mX12_person.2.1 18 = .ok (.iload_n 2, 1) := by decide +kernel
theorem dX12_person_19 : decode mX12_person.2.1 19 = .ok (.tableswitch 121 0 6 #[41, 54, 67, 78, 89, 99, 110], 41) := by decide +kernel
theorem dX12_person_60 : decode mX12_person.2.1 60 = .ok (.aload_n 0, 1) := by decide +kernel
theorem dX12_person_61 : decode mX12_person.2.1 61 = .ok (.getfield 98, 3) := by decide +kernel
theorem dX12_person_64 : decode mX12_person.2.1 64 = .ok (.bipush 126, 2) := by decide +kernel
theorem dX12_person_66 : decode mX12_person.2.1 66 = .ok (.iload_n 1, 1) := by decide +kernel
theorem dX12_person_67 : decode mX12_person.2.1 67 = .ok (.iadd, 1) := by decide +kernel
theorem dX12_person_68 : decode mX12_person.2.1 68 = .ok (.iaload, 1) := by decide +kernel
theorem dX12_person_69 : decode mX12_person.2.1 69 = .ok (.bipush 9, 2) := by decide +kernel
theorem dX12_person_71 : decode mX12_person.2.1 71 = .ok (.irem, 1) := by decide +kernel
theorem dX12_person_72 : decode mX12_person.2.1 72 = .ok (.ireturn, 1) := by decide +kernel
theorem dX12_person_73 : decode mX12_person.2.1 73 = .ok (.aload_n 0, 1) := by decide +kernel
theorem dX12_person_74 : decode mX12_person.2.1 74 = .ok (.getfield 98, 3) := by decide +kernel
theorem dX12_person_77 : decode mX12_person.2.1 77 = .ok (.bipush 126, 2) := by decide +kernel
theorem dX12_person_79 : decode mX12_person.2.1 79 = .ok (.iload_n 1, 1) := by decide +kernel
theorem dX12_person_80 : decode mX12_person.2.1 80 = .ok (.iadd, 1) := by decide +kernel
theorem dX12_person_81 : decode mX12_person.2.1 81 = .ok (.iaload, 1) := by decide +kernel
theorem dX12_person_82 : decode mX12_person.2.1 82 = .ok (.bipush 9, 2) := by decide +kernel
theorem dX12_person_84 : decode mX12_person.2.1 84 = .ok (.idiv, 1) := by decide +kernel
theorem dX12_person_85 : decode mX12_person.2.1 85 = .ok (.ireturn, 1) := by decide +kernel
theorem dX12_person_86 : decode mX12_person.2.1 86 = .ok (.aload_n 0, 1) := by decide +kernel
theorem dX12_person_87 : decode mX12_person.2.1 87 = .ok (.getfield 98, 3) := by decide +kernel
theorem dX12_person_90 : decode mX12_person.2.1 90 = .ok (.sipush 131, 3) := by decide +kernel
theorem dX12_person_93 : decode mX12_person.2.1 93 = .ok (.iload_n 1, 1) := by decide +kernel
theorem dX12_person_94 : decode mX12_person.2.1 94 = .ok (.iadd, 1) := by decide +kernel
theorem dX12_person_95 : decode mX12_person.2.1 95 = .ok (.iaload, 1) := by decide +kernel
theorem dX12_person_96 : decode mX12_person.2.1 96 = .ok (.ireturn, 1) := by decide +kernel
theorem dX12_person_97 : decode mX12_person.2.1 97 = .ok (.aload_n 0, 1) := by decide +kernel
theorem dX12_person_98 : decode mX12_person.2.1 98 = .ok (.getfield 98, 3) := by decide +kernel
theorem dX12_person_101 : decode mX12_person.2.1 101 = .ok (.sipush 136, 3) := by decide +kernel
theorem dX12_person_104 : decode mX12_person.2.1 104 = .ok (.iload_n 1, 1) := by decide +kernel
theorem dX12_person_105 : decode mX12_person.2.1 105 = .ok (.iadd, 1) := by decide +kernel
theorem dX12_person_106 : decode mX12_person.2.1 106 = .ok (.iaload, 1) := by decide +kernel
theorem dX12_person_107 : decode mX12_person.2.1 107 = .ok (.ireturn, 1) := by decide +kernel
theorem dX12_person_108 : decode mX12_person.2.1 108 = .ok (.aload_n 0, 1) := by decide +kernel
theorem dX12_person_109 : decode mX12_person.2.1 109 = .ok (.getfield 98, 3) := by decide +kernel
theorem dX12_person_112 : decode mX12_person.2.1 112 = .ok (.bipush 27, 2) := by decide +kernel
theorem dX12_person_114 : decode mX12_person.2.1 114 = .ok (.iload_n 1, 1) := by decide +kernel
theorem dX12_person_115 : decode mX12_person.2.1 115 = .ok (.iadd, 1) := by decide +kernel
theorem dX12_person_116 : decode mX12_person.2.1 116 = .ok (.iaload, 1) := by decide +kernel
theorem dX12_person_117 : decode mX12_person.2.1 117 = .ok (.ireturn, 1) := by decide +kernel
theorem dX12_person_118 : decode mX12_person.2.1 118 = .ok (.aload_n 0, 1) := by decide +kernel
theorem dX12_person_119 : decode mX12_person.2.1 119 = .ok (.getfield 98, 3) := by decide +kernel
theorem dX12_person_122 : decode mX12_person.2.1 122 = .ok (.sipush 141, 3) := by decide +kernel
theorem dX12_person_125 : decode mX12_person.2.1 125 = .ok (.iload_n 1, 1) := by decide +kernel
theorem dX12_person_126 : decode mX12_person.2.1 126 = .ok (.iadd, 1) := by decide +kernel
theorem dX12_person_127 : decode mX12_person.2.1 127 = .ok (.iaload, 1) := by decide +kernel
theorem dX12_person_128 : decode mX12_person.2.1 128 = .ok (.ireturn, 1) := by decide +kernel
theorem dX12_person_129 : decode mX12_person.2.1 129 = .ok (.aload_n 0, 1) := by decide +kernel
theorem dX12_person_130 : decode mX12_person.2.1 130 = .ok (.getfield 98, 3) := by decide +kernel
theorem dX12_person_133 : decode mX12_person.2.1 133 = .ok (.sipush 146, 3) := by decide +kernel
theorem dX12_person_136 : decode mX12_person.2.1 136 = .ok (.iload_n 1, 1) := by decide +kernel
theorem dX12_person_137 : decode mX12_person.2.1 137 = .ok (.iadd, 1) := by decide +kernel
theorem dX12_person_138 : decode mX12_person.2.1 138 = .ok (.iaload, 1) := by decide +kernel
theorem dX12_person_139 : decode mX12_person.2.1 139 = .ok (.ireturn, 1) := by decide +kernel
theorem dX12_person_140 : decode mX12_person.2.1 140 = .ok (.aload_n 0, 1) := by decide +kernel
theorem dX12_person_141 : decode mX12_person.2.1 141 = .ok (.invokevirtual 248, 3) := by decide +kernel
theorem dX12_person_144 : decode mX12_person.2.1 144 = .ok (.ireturn, 1) := by decide +kernel
set_option maxRecDepth 4000 in
theorem ev_X12_person {m : Mem} {G : Mem} {d : Nat} {st : Nat} {B : Int} {p : Int} {v : Int} (hb : Bg G d st (m 216)) (hdn : DnOk G d) (hst : StOk G d st B) (hB : B ≤ 1900000000) (hp : InR p) (hv : InR v) : Ev 0 3 mX12_person [vr 214, vi p, vi v] m (fun r m' => m' = wr m 214 0 (if ((0 ≤ p ∧ p < G d 3) ∧ 0 ≤ v ∧ v ≤ 6) then 0 else 1) ∧ (((0 ≤ p ∧ p < G d 3) ∧ 0 ≤ v ∧ v ≤ 6) → r = perF G d st p v)) := by
  refine Ev.of (L := [vr 214, vi p, vi v]) (by decide +kernel) rfl (Nat.le_of_ble_eq_true rfl) rfl (fun t ht => by cases ht; first | exact Or.inl rfl | exact Or.inr (Or.inl rfl) | exact Or.inr (Or.inr rfl)) (fun hcan => ?_)
  obtain ⟨⟨hd0, hd1⟩, ⟨hd2, hd3⟩, ⟨hd4, hd5⟩, ⟨hd6, hd7⟩, ⟨hd8, hd9⟩, hdf, hdp, hdq⟩ := id hdn
  obtain ⟨⟨hs0, hs1⟩, ⟨hs2, hs3⟩, hsw, hsp, hsd, hsz⟩ := id hst
  refine go_aload_n dX12_person_0 rfl ?_
  refine go_iconst dX12_person_1 ?_
  refine go_putf_i (ki := 0) dX12_person_2 fw_12_1 ob_214 rfl rfl ⟨by omega, by omega⟩ ?_
  refine go_aload_n dX12_person_5 rfl ?_
  refine go_iload_n dX12_person_6 rfl ?_
  refine go_callVp_z (as := [vi p]) (S := []) (b := 214) (ev_X12_isPerson (m := (wr m 214 0 0)) (f := p) (G := G) (d := d) (st := st) (by first | exact hb | exact hb.w (by decide) | exact (hb.w (by decide)).w (by decide)) (by first | assumption | omega | exact ⟨by omega, by omega⟩ | (constructor <;> omega)) (by first | assumption | omega | exact ⟨by omega, by omega⟩ | (constructor <;> omega))) rfl dX12_person_7 cv_12_245 rfl rfl ob_214 rfl (by decide) (Nat.le_of_ble_eq_true rfl) (fun r_7 hr_7 ho_7 => ?_)
  refine go_if_ne (tgt := 18) dX12_person_10 (by decide) ⟨by omega, by omega⟩ (fun h_10 => ?_) (fun h_10 => ?_)
  · have hpp := hsp p (by omega) (by omega)
    have hpd := hdp p (by omega) (by omega)
    refine go_iload_n dX12_person_18 rfl ?_
    refine go_tswitch (tgt := 140) dX12_person_19 ⟨by omega, by omega⟩ (by decide) (fun n_19 h_19 hb_19 => ?_) (fun h_19 => ?_)
    · match n_19, h_19, hb_19 with
      | 0, h_19, hb_19 =>
        refine ⟨41, 60, rfl, by decide, ?_⟩
        refine go_aload_n dX12_person_60 rfl ?_
        refine go_getf_p (b := 216) dX12_person_61 fl_12_98 ob_214 rfl pt_214_14 ?_
        refine go_bipush dX12_person_64 (by decide) ?_
        refine go_iload_n dX12_person_66 rfl ?_
        refine go_iadd dX12_person_67 ?_
        refine go_iaload dX12_person_68 ar_216 (by omega) (by omega) (fun he_68 => ?_)
        rw [show ((wr m 214 0 0) 216 (126 + p) : Int) = (9 * G (st + 3) p + G (st + 2) p) from by rw [wr_na (by omega)]; exact (hb.at (p := p) (by omega) (by omega))] at he_68 ⊢
        refine go_bipush dX12_person_69 (by decide) ?_
        refine go_irem dX12_person_71 ⟨by omega, by omega⟩ ⟨by omega, by omega⟩ (by omega) (by omega) ?_
        exact go_ret (v := ((9 * G (st + 3) p + G (st + 2) p) % 9)) rfl dX12_person_72 (okI ⟨by omega, by omega⟩) ⟨by rw [if_pos (by omega)], fun _ => by unfold perF; rw [if_pos (by omega)] <;> first | rfl | omega⟩
      | 1, h_19, hb_19 =>
        refine ⟨54, 73, rfl, by decide, ?_⟩
        refine go_aload_n dX12_person_73 rfl ?_
        refine go_getf_p (b := 216) dX12_person_74 fl_12_98 ob_214 rfl pt_214_14 ?_
        refine go_bipush dX12_person_77 (by decide) ?_
        refine go_iload_n dX12_person_79 rfl ?_
        refine go_iadd dX12_person_80 ?_
        refine go_iaload dX12_person_81 ar_216 (by omega) (by omega) (fun he_81 => ?_)
        rw [show ((wr m 214 0 0) 216 (126 + p) : Int) = (9 * G (st + 3) p + G (st + 2) p) from by rw [wr_na (by omega)]; exact (hb.at (p := p) (by omega) (by omega))] at he_81 ⊢
        refine go_bipush dX12_person_82 (by decide) ?_
        refine go_idiv dX12_person_84 ⟨by omega, by omega⟩ ⟨by omega, by omega⟩ (by omega) (by omega) ?_
        exact go_ret (v := ((9 * G (st + 3) p + G (st + 2) p) / 9)) rfl dX12_person_85 (okI ⟨by omega, by omega⟩) ⟨by rw [if_pos (by omega)], fun _ => by unfold perF; rw [if_neg (by omega), if_pos (by omega)] <;> first | rfl | omega⟩
      | 2, h_19, hb_19 =>
        refine ⟨67, 86, rfl, by decide, ?_⟩
        refine go_aload_n dX12_person_86 rfl ?_
        refine go_getf_p (b := 216) dX12_person_87 fl_12_98 ob_214 rfl pt_214_14 ?_
        refine go_sipush dX12_person_90 (by decide) ?_
        refine go_iload_n dX12_person_93 rfl ?_
        refine go_iadd dX12_person_94 ?_
        refine go_iaload dX12_person_95 ar_216 (by omega) (by omega) (fun he_95 => ?_)
        rw [show ((wr m 214 0 0) 216 (131 + p) : Int) = (G (st + 4) p) from by rw [wr_na (by omega)]; exact (hb.up (p := p) (by omega) (by omega))] at he_95 ⊢
        exact go_ret (v := (G (st + 4) p)) rfl dX12_person_96 (okI ⟨by omega, by omega⟩) ⟨by rw [if_pos (by omega)], fun _ => by unfold perF; rw [if_neg (by omega), if_neg (by omega), if_pos (by omega)] <;> first | rfl | omega⟩
      | 3, h_19, hb_19 =>
        refine ⟨78, 97, rfl, by decide, ?_⟩
        refine go_aload_n dX12_person_97 rfl ?_
        refine go_getf_p (b := 216) dX12_person_98 fl_12_98 ob_214 rfl pt_214_14 ?_
        refine go_sipush dX12_person_101 (by decide) ?_
        refine go_iload_n dX12_person_104 rfl ?_
        refine go_iadd dX12_person_105 ?_
        refine go_iaload dX12_person_106 ar_216 (by omega) (by omega) (fun he_106 => ?_)
        rw [show ((wr m 214 0 0) 216 (136 + p) : Int) = (G (st + 5) p) from by rw [wr_na (by omega)]; exact (hb.br (p := p) (by omega) (by omega))] at he_106 ⊢
        exact go_ret (v := (G (st + 5) p)) rfl dX12_person_107 (okI ⟨by omega, by omega⟩) ⟨by rw [if_pos (by omega)], fun _ => by unfold perF; rw [if_neg (by omega), if_neg (by omega), if_neg (by omega), if_pos (by omega)] <;> first | rfl | omega⟩
      | 4, h_19, hb_19 =>
        refine ⟨89, 108, rfl, by decide, ?_⟩
        refine go_aload_n dX12_person_108 rfl ?_
        refine go_getf_p (b := 216) dX12_person_109 fl_12_98 ob_214 rfl pt_214_14 ?_
        refine go_bipush dX12_person_112 (by decide) ?_
        refine go_iload_n dX12_person_114 rfl ?_
        refine go_iadd dX12_person_115 ?_
        refine go_iaload dX12_person_116 ar_216 (by omega) (by omega) (fun he_116 => ?_)
        rw [show ((wr m 214 0 0) 216 (27 + p) : Int) = (G (d + 5) p) from by rw [wr_na (by omega)]; exact (hb.mo (p := p) (by omega) (by omega))] at he_116 ⊢
        exact go_ret (v := (G (d + 5) p)) rfl dX12_person_117 (okI ⟨by omega, by omega⟩) ⟨by rw [if_pos (by omega)], fun _ => by unfold perF; rw [if_neg (by omega), if_neg (by omega), if_neg (by omega), if_neg (by omega), if_pos (by omega)] <;> first | rfl | omega⟩
      | 5, h_19, hb_19 =>
        refine ⟨99, 118, rfl, by decide, ?_⟩
        refine go_aload_n dX12_person_118 rfl ?_
        refine go_getf_p (b := 216) dX12_person_119 fl_12_98 ob_214 rfl pt_214_14 ?_
        refine go_sipush dX12_person_122 (by decide) ?_
        refine go_iload_n dX12_person_125 rfl ?_
        refine go_iadd dX12_person_126 ?_
        refine go_iaload dX12_person_127 ar_216 (by omega) (by omega) (fun he_127 => ?_)
        rw [show ((wr m 214 0 0) 216 (141 + p) : Int) = (G (st + 6) p) from by rw [wr_na (by omega)]; exact (hb.ca (p := p) (by omega) (by omega))] at he_127 ⊢
        exact go_ret (v := (G (st + 6) p)) rfl dX12_person_128 (okI ⟨by omega, by omega⟩) ⟨by rw [if_pos (by omega)], fun _ => by unfold perF; rw [if_neg (by omega), if_neg (by omega), if_neg (by omega), if_neg (by omega), if_neg (by omega), if_pos (by omega)] <;> first | rfl | omega⟩
      | 6, h_19, hb_19 =>
        refine ⟨110, 129, rfl, by decide, ?_⟩
        refine go_aload_n dX12_person_129 rfl ?_
        refine go_getf_p (b := 216) dX12_person_130 fl_12_98 ob_214 rfl pt_214_14 ?_
        refine go_sipush dX12_person_133 (by decide) ?_
        refine go_iload_n dX12_person_136 rfl ?_
        refine go_iadd dX12_person_137 ?_
        refine go_iaload dX12_person_138 ar_216 (by omega) (by omega) (fun he_138 => ?_)
        rw [show ((wr m 214 0 0) 216 (146 + p) : Int) = (G (st + 7) p) from by rw [wr_na (by omega)]; exact (hb.sa (p := p) (by omega) (by omega))] at he_138 ⊢
        exact go_ret (v := (G (st + 7) p)) rfl dX12_person_139 (okI ⟨by omega, by omega⟩) ⟨by rw [if_pos (by omega)], fun _ => by unfold perF; rw [if_neg (by omega), if_neg (by omega), if_neg (by omega), if_neg (by omega), if_neg (by omega), if_neg (by omega)] <;> first | rfl | omega⟩
      | k + 7, h_19, hb_19 => exfalso; omega
    · refine go_aload_n dX12_person_140 rfl ?_
      refine go_callV_i (as := []) (S := []) (b := 214) (ev_X12_refuse (m := (wr m 214 0 0))  ) rfl dX12_person_141 cv_12_248 rfl rfl ob_214 rfl (by decide) (Nat.le_of_ble_eq_true rfl) (fun r_141 m_141 hr_141 ho_141 => ?_)
      exact go_ret (v := r_141) rfl dX12_person_144 (okI ⟨by omega, by omega⟩) ⟨by rw [if_neg (by omega), hr_141.2]; exact wr_wr, fun h => by omega⟩
  · refine go_aload_n dX12_person_13 rfl ?_
    refine go_callV_i (as := []) (S := []) (b := 214) (ev_X12_refuse (m := (wr m 214 0 0))  ) rfl dX12_person_14 cv_12_248 rfl rfl ob_214 rfl (by decide) (Nat.le_of_ble_eq_true rfl) (fun r_14 m_14 hr_14 ho_14 => ?_)
    exact go_ret (v := r_14) rfl dX12_person_17 (okI ⟨by omega, by omega⟩) ⟨by rw [if_neg (by omega), hr_14.2]; exact wr_wr, fun h => by omega⟩
theorem dX12_figure_0 : decode mX12_figure.2.1 0 = .ok (.aload_n 0, 1) := by decide +kernel
theorem dX12_figure_1 : decode mX12_figure.2.1 1 = .ok (.iconst 0, 1) := by decide +kernel
theorem dX12_figure_2 : decode mX12_figure.2.1 2 = .ok (.putfield 1, 3) := by decide +kernel
theorem dX12_figure_5 : decode mX12_figure.2.1 5 = .ok (.aload_n 0, 1) := by decide +kernel
theorem dX12_figure_6 : decode mX12_figure.2.1 6 = .ok (.iload_n 1, 1) := by decide +kernel
theorem dX12_figure_7 : decode mX12_figure.2.1 7 = .ok (.invokevirtual 251, 3) := by decide +kernel
theorem dX12_figure_10 : decode mX12_figure.2.1 10 = .ok (.ifCond .ne 5, 3) := by decide +kernel
theorem dX12_figure_13 : decode mX12_figure.2.1 13 = .ok (.iconst (-1), 1) := by decide +kernel
theorem dX12_figure_14 : decode mX12_figure.2.1 14 = .ok (.ireturn, 1) := by decide +kernel
theorem dX12_figure_15 : decode mX12_figure.2.1 15 = .ok (.iload_n 2, 1) := by decide +kernel
theorem dX12_figure_16 : decode mX12_figure.2.1 16 = .ok (.tableswitch 53 0 2 #[28, 37, 47], 28) := by decide +kernel
theorem dX12_figure_44 : decode mX12_figure.2.1 44 = .ok (.aload_n 0, 1) := by decide +kernel
theorem dX12_figure_45 : decode mX12_figure.2.1 45 = .ok (.getfield 98, 3) := by decide +kernel
theorem dX12_figure_48 : decode mX12_figure.2.1 48 = .ok (.iconst 5, 1) := by decide +kernel
theorem dX12_figure_49 : decode mX12_figure.2.1 49 = .ok (.iload_n 1, 1) := by decide +kernel
theorem dX12_figure_50 : decode mX12_figure.2.1 50 = .ok (.iadd, 1) := by decide +kernel
theorem dX12_figure_51 : decode mX12_figure.2.1 51 = .ok (.iaload, 1) := by decide +kernel
theorem dX12_figure_52 : decode mX12_figure.2.1 52 = .ok (.ireturn, 1) := by decide +kernel
theorem dX12_figure_53 : decode mX12_figure.2.1 53 = .ok (.aload_n 0, 1) := by decide +kernel
theorem dX12_figure_54 : decode mX12_figure.2.1 54 = .ok (.getfield 98, 3) := by decide +kernel
theorem dX12_figure_57 : decode mX12_figure.2.1 57 = .ok (.bipush 11, 2) := by decide +kernel
theorem dX12_figure_59 : decode mX12_figure.2.1 59 = .ok (.iload_n 1, 1) := by decide +kernel
theorem dX12_figure_60 : decode mX12_figure.2.1 60 = .ok (.iadd, 1) := by decide +kernel
theorem dX12_figure_61 : decode mX12_figure.2.1 61 = .ok (.iaload, 1) := by decide +kernel
theorem dX12_figure_62 : decode mX12_figure.2.1 62 = .ok (.ireturn, 1) := by decide +kernel
theorem dX12_figure_63 : decode mX12_figure.2.1 63 = .ok (.aload_n 0, 1) := by decide +kernel
theorem dX12_figure_64 : decode mX12_figure.2.1 64 = .ok (.iload_n 1, 1) := by decide +kernel
theorem dX12_figure_65 : decode mX12_figure.2.1 65 = .ok (.invokevirtual 254, 3) := by decide +kernel
theorem dX12_figure_68 : decode mX12_figure.2.1 68 = .ok (.ireturn, 1) := by decide +kernel
theorem dX12_figure_69 : decode mX12_figure.2.1 69 = .ok (.iconst (-1), 1) := by decide +kernel
theorem dX12_figure_70 : decode mX12_figure.2.1 70 = .ok (.ireturn, 1) := by decide +kernel
set_option maxRecDepth 4000 in
theorem ev_X12_figure {m : Mem} {G : Mem} {d : Nat} {st : Nat} {f : Int} {v : Int} (hb : Bg G d st (m 216)) (hdn : DnOk G d) (hf : InR f) (hv : InR v) : Ev 0 3 mX12_figure [vr 214, vi f, vi v] m (fun r m' => m' = wr m 214 0 0 ∧ r = if 0 ≤ f ∧ f < G d 2 then (if v = 0 then G (d + 2) f else if v = 1 then G (d + 3) f else if v = 2 then costC G d f else -1) else -1) := by
  refine Ev.of (L := [vr 214, vi f, vi v]) (by decide +kernel) rfl (Nat.le_of_ble_eq_true rfl) rfl (fun t ht => by cases ht; first | exact Or.inl rfl | exact Or.inr (Or.inl rfl) | exact Or.inr (Or.inr rfl)) (fun hcan => ?_)
  obtain ⟨⟨hd0, hd1⟩, ⟨hd2, hd3⟩, ⟨hd4, hd5⟩, ⟨hd6, hd7⟩, ⟨hd8, hd9⟩, hdf, hdp, hdq⟩ := id hdn
  refine go_aload_n dX12_figure_0 rfl ?_
  refine go_iconst dX12_figure_1 ?_
  refine go_putf_i (ki := 0) dX12_figure_2 fw_12_1 ob_214 rfl rfl ⟨by omega, by omega⟩ ?_
  refine go_aload_n dX12_figure_5 rfl ?_
  refine go_iload_n dX12_figure_6 rfl ?_
  refine go_callVp_z (as := [vi f]) (S := []) (b := 214) (ev_X12_isFigure (m := (wr m 214 0 0)) (f := f) (G := G) (d := d) (st := st) (by first | exact hb | exact hb.w (by decide) | exact (hb.w (by decide)).w (by decide)) (by first | assumption | omega | exact ⟨by omega, by omega⟩ | (constructor <;> omega)) (by first | assumption | omega | exact ⟨by omega, by omega⟩ | (constructor <;> omega))) rfl dX12_figure_7 cv_12_251 rfl rfl ob_214 rfl (by decide) (Nat.le_of_ble_eq_true rfl) (fun r_7 hr_7 ho_7 => ?_)
  refine go_if_ne (tgt := 15) dX12_figure_10 (by decide) ⟨by omega, by omega⟩ (fun h_10 => ?_) (fun h_10 => ?_)
  · refine go_iload_n dX12_figure_15 rfl ?_
    refine go_tswitch (tgt := 69) dX12_figure_16 ⟨by omega, by omega⟩ (by decide) (fun n_16 h_16 hb_16 => ?_) (fun h_16 => ?_)
    · match n_16, h_16, hb_16 with
      | 0, h_16, hb_16 =>
        refine ⟨28, 44, rfl, by decide, ?_⟩
        refine go_aload_n dX12_figure_44 rfl ?_
        refine go_getf_p (b := 216) dX12_figure_45 fl_12_98 ob_214 rfl pt_214_14 ?_
        refine go_iconst dX12_figure_48 ?_
        refine go_iload_n dX12_figure_49 rfl ?_
        refine go_iadd dX12_figure_50 ?_
        refine go_iaload dX12_figure_51 ar_216 (by omega) (by omega) (fun he_51 => ?_)
        rw [show ((wr m 214 0 0) 216 (5 + f) : Int) = (G (d + 2) f) from by rw [wr_na (by omega)]; exact (hb.qu (f := f) (by omega) (by omega))] at he_51 ⊢
        exact go_ret (v := (G (d + 2) f)) rfl dX12_figure_52 (okI ⟨by omega, by omega⟩) ⟨rfl, by omega⟩
      | 1, h_16, hb_16 =>
        refine ⟨37, 53, rfl, by decide, ?_⟩
        refine go_aload_n dX12_figure_53 rfl ?_
        refine go_getf_p (b := 216) dX12_figure_54 fl_12_98 ob_214 rfl pt_214_14 ?_
        refine go_bipush dX12_figure_57 (by decide) ?_
        refine go_iload_n dX12_figure_59 rfl ?_
        refine go_iadd dX12_figure_60 ?_
        refine go_iaload dX12_figure_61 ar_216 (by omega) (by omega) (fun he_61 => ?_)
        rw [show ((wr m 214 0 0) 216 (11 + f) : Int) = (G (d + 3) f) from by rw [wr_na (by omega)]; exact (hb.go (f := f) (by omega) (by omega))] at he_61 ⊢
        exact go_ret (v := (G (d + 3) f)) rfl dX12_figure_62 (okI ⟨by omega, by omega⟩) ⟨rfl, by omega⟩
      | 2, h_16, hb_16 =>
        refine ⟨47, 63, rfl, by decide, ?_⟩
        refine go_aload_n dX12_figure_63 rfl ?_
        refine go_iload_n dX12_figure_64 rfl ?_
        refine go_callVp_i (as := [vi f]) (S := []) (b := 214) (ev_X12_costOf (m := (wr m 214 0 0)) (f := f) (G := G) (d := d) (st := st) (by first | exact hb | exact hb.w (by decide) | exact (hb.w (by decide)).w (by decide)) (by first | assumption | omega | exact ⟨by omega, by omega⟩ | (constructor <;> omega)) (by first | assumption | omega | exact ⟨by omega, by omega⟩ | (constructor <;> omega))) rfl dX12_figure_65 cv_12_254 rfl rfl ob_214 rfl (by decide) (Nat.le_of_ble_eq_true rfl) (fun r_65 hr_65 ho_65 => ?_)
        exact go_ret (v := r_65) rfl dX12_figure_68 (okI ⟨by omega, by omega⟩) ⟨rfl, by rw [hr_65]; omega⟩
      | k + 3, h_16, hb_16 => exfalso; omega
    · refine go_iconst dX12_figure_69 ?_
      exact go_ret (v := (-1)) rfl dX12_figure_70 (okI ⟨by omega, by omega⟩) ⟨rfl, by omega⟩
  · refine go_iconst dX12_figure_13 ?_
    exact go_ret (v := (-1)) rfl dX12_figure_14 (okI ⟨by omega, by omega⟩) ⟨rfl, by omega⟩
theorem dX12_point_0 : decode mX12_point.2.1 0 = .ok (.aload_n 0, 1) := by decide +kernel
theorem dX12_point_1 : decode mX12_point.2.1 1 = .ok (.iconst 0, 1) := by decide +kernel
theorem dX12_point_2 : decode mX12_point.2.1 2 = .ok (.putfield 1, 3) := by decide +kernel
theorem dX12_point_5 : decode mX12_point.2.1 5 = .ok (.aload_n 0, 1) := by decide +kernel
theorem dX12_point_6 : decode mX12_point.2.1 6 = .ok (.iload_n 1, 1) := by decide +kernel
theorem dX12_point_7 : decode mX12_point.2.1 7 = .ok (.invokevirtual 257, 3) := by decide +kernel
theorem dX12_point_10 : decode mX12_point.2.1 10 = .ok (.ifCond .ne 5, 3) := by decide +kernel
theorem dX12_point_13 : decode mX12_point.2.1 13 = .ok (.iconst (-1), 1) := by decide +kernel
theorem dX12_point_14 : decode mX12_point.2.1 14 = .ok (.ireturn, 1) := by decide +kernel
theorem dX12_point_15 : decode mX12_point.2.1 15 = .ok (.iload_n 2, 1) := by decide +kernel
theorem dX12_point_16 : decode mX12_point.2.1 16 = .ok (.tableswitch 117 0 3 #[32, 45, 58, 68], 32) := by decide +kernel
theorem dX12_point_48 : decode mX12_point.2.1 48 = .ok (.aload_n 0, 1) := by decide +kernel
theorem dX12_point_49 : decode mX12_point.2.1 49 = .ok (.getfield 98, 3) := by decide +kernel
theorem dX12_point_52 : decode mX12_point.2.1 52 = .ok (.bipush 32, 2) := by decide +kernel
theorem dX12_point_54 : decode mX12_point.2.1 54 = .ok (.iload_n 1, 1) := by decide +kernel
theorem dX12_point_55 : decode mX12_point.2.1 55 = .ok (.iadd, 1) := by decide +kernel
theorem dX12_point_56 : decode mX12_point.2.1 56 = .ok (.iaload, 1) := by decide +kernel
theorem dX12_point_57 : decode mX12_point.2.1 57 = .ok (.bipush 9, 2) := by decide +kernel
theorem dX12_point_59 : decode mX12_point.2.1 59 = .ok (.irem, 1) := by decide +kernel
theorem dX12_point_60 : decode mX12_point.2.1 60 = .ok (.ireturn, 1) := by decide +kernel
theorem dX12_point_61 : decode mX12_point.2.1 61 = .ok (.aload_n 0, 1) := by decide +kernel
theorem dX12_point_62 : decode mX12_point.2.1 62 = .ok (.getfield 98, 3) := by decide +kernel
theorem dX12_point_65 : decode mX12_point.2.1 65 = .ok (.bipush 32, 2) := by decide +kernel
theorem dX12_point_67 : decode mX12_point.2.1 67 = .ok (.iload_n 1, 1) := by decide +kernel
theorem dX12_point_68 : decode mX12_point.2.1 68 = .ok (.iadd, 1) := by decide +kernel
theorem dX12_point_69 : decode mX12_point.2.1 69 = .ok (.iaload, 1) := by decide +kernel
theorem dX12_point_70 : decode mX12_point.2.1 70 = .ok (.bipush 9, 2) := by decide +kernel
theorem dX12_point_72 : decode mX12_point.2.1 72 = .ok (.idiv, 1) := by decide +kernel
theorem dX12_point_73 : decode mX12_point.2.1 73 = .ok (.ireturn, 1) := by decide +kernel
theorem dX12_point_74 : decode mX12_point.2.1 74 = .ok (.aload_n 0, 1) := by decide +kernel
theorem dX12_point_75 : decode mX12_point.2.1 75 = .ok (.getfield 98, 3) := by decide +kernel
theorem dX12_point_78 : decode mX12_point.2.1 78 = .ok (.bipush 37, 2) := by decide +kernel
theorem dX12_point_80 : decode mX12_point.2.1 80 = .ok (.iload_n 1, 1) := by decide +kernel
theorem dX12_point_81 : decode mX12_point.2.1 81 = .ok (.iadd, 1) := by decide +kernel
theorem dX12_point_82 : decode mX12_point.2.1 82 = .ok (.iaload, 1) := by decide +kernel
theorem dX12_point_83 : decode mX12_point.2.1 83 = .ok (.ireturn, 1) := by decide +kernel
theorem dX12_point_84 : decode mX12_point.2.1 84 = .ok (.iconst 0, 1) := by decide +kernel
theorem dX12_point_85 : decode mX12_point.2.1 85 = .ok (.istore_n 3, 1) := by decide +kernel
theorem dX12_point_86 : decode mX12_point.2.1 86 = .ok (.iconst 0, 1) := by decide +kernel
theorem dX12_point_87 : decode mX12_point.2.1 87 = .ok (.istore 4, 2) := by decide +kernel
theorem dX12_point_89 : decode mX12_point.2.1 89 = .ok (.iload 4, 2) := by decide +kernel
theorem dX12_point_91 : decode mX12_point.2.1 91 = .ok (.aload_n 0, 1) := by decide +kernel
theorem dX12_point_92 : decode mX12_point.2.1 92 = .ok (.getfield 98, 3) := by decide +kernel
theorem dX12_point_95 : decode mX12_point.2.1 95 = .ok (.iconst 3, 1) := by decide +kernel
theorem dX12_point_96 : decode mX12_point.2.1 96 = .ok (.iaload, 1) := by decide +kernel
theorem dX12_point_97 : decode mX12_point.2.1 97 = .ok (.if_icmp .ge 34, 3) := by decide +kernel
theorem dX12_point_100 : decode mX12_point.2.1 100 = .ok (.aload_n 0, 1) := by decide +kernel
theorem dX12_point_101 : decode mX12_point.2.1 101 = .ok (.getfield 98, 3) := by decide +kernel
theorem dX12_point_104 : decode mX12_point.2.1 104 = .ok (.sipush 141, 3) := by decide +kernel
theorem dX12_point_107 : decode mX12_point.2.1 107 = .ok (.iload 4, 2) := by decide +kernel
theorem dX12_point_109 : decode mX12_point.2.1 109 = .ok (.iadd, 1) := by decide +kernel
theorem dX12_point_110 : decode mX12_point.2.1 110 = .ok (.iaload, 1) := by decide +kernel
theorem dX12_point_111 : decode mX12_point.2.1 111 = .ok (.iload_n 1, 1) := by decide +kernel
theorem dX12_point_112 : decode mX12_point.2.1 112 = .ok (.invokestatic 242, 3) := by decide +kernel
theorem dX12_point_115 : decode mX12_point.2.1 115 = .ok (.ifCond .eq 10, 3) := by decide +kernel
theorem dX12_point_118 : decode mX12_point.2.1 118 = .ok (.iload_n 3, 1) := by decide +kernel
theorem dX12_point_119 : decode mX12_point.2.1 119 = .ok (.iconst 1, 1) := by decide +kernel
theorem dX12_point_120 : decode mX12_point.2.1 120 = .ok (.iload 4, 2) := by decide +kernel
theorem dX12_point_122 : decode mX12_point.2.1 122 = .ok (.ishl, 1) := by decide +kernel
theorem dX12_point_123 : decode mX12_point.2.1 123 = .ok (.ior, 1) := by decide +kernel
theorem dX12_point_124 : decode mX12_point.2.1 124 = .ok (.istore_n 3, 1) := by decide +kernel
theorem dX12_point_125 : decode mX12_point.2.1 125 = .ok (.iinc 4 1, 3) := by decide +kernel
theorem dX12_point_128 : decode mX12_point.2.1 128 = .ok (.goto (-39), 3) := by decide +kernel
theorem dX12_point_131 : decode mX12_point.2.1 131 = .ok (.iload_n 3, 1) := by decide +kernel
theorem dX12_point_132 : decode mX12_point.2.1 132 = .ok (.ireturn, 1) := by decide +kernel
theorem dX12_point_133 : decode mX12_point.2.1 133 = .ok (.iconst (-1), 1) := by decide +kernel
theorem dX12_point_134 : decode mX12_point.2.1 134 = .ok (.ireturn, 1) := by decide +kernel
set_option maxRecDepth 4000 in
theorem ev_X12_point {m : Mem} {G : Mem} {d : Nat} {st : Nat} {B : Int} {f : Int} {v : Int} (hb : Bg G d st (m 216)) (hdn : DnOk G d) (hst : StOk G d st B) (hf : InR f) (hv : InR v) : Ev 0 3 mX12_point [vr 214, vi f, vi v] m (fun r m' => m' = wr m 214 0 0 ∧ r = if 0 ≤ f ∧ f < G d 4 then (if v = 0 then G (d + 7) f else if v = 1 then G (d + 8) f else if v = 2 then G (d + 9) f else if v = 3 then fwN G st f (G d 3).toNat else -1) else -1) := by
  refine Ev.of (L := [vr 214, vi f, vi v, un, un]) (by decide +kernel) rfl (Nat.le_of_ble_eq_true rfl) rfl (fun t ht => by cases ht; first | exact Or.inl rfl | exact Or.inr (Or.inl rfl) | exact Or.inr (Or.inr rfl)) (fun hcan => ?_)
  obtain ⟨⟨hd0, hd1⟩, ⟨hd2, hd3⟩, ⟨hd4, hd5⟩, ⟨hd6, hd7⟩, ⟨hd8, hd9⟩, hdf, hdp, hdq⟩ := id hdn
  obtain ⟨⟨hs0, hs1⟩, ⟨hs2, hs3⟩, hsw, hsp, hsd, hsz⟩ := id hst
  refine go_aload_n dX12_point_0 rfl ?_
  refine go_iconst dX12_point_1 ?_
  refine go_putf_i (ki := 0) dX12_point_2 fw_12_1 ob_214 rfl rfl ⟨by omega, by omega⟩ ?_
  refine go_aload_n dX12_point_5 rfl ?_
  refine go_iload_n dX12_point_6 rfl ?_
  refine go_callVp_z (as := [vi f]) (S := []) (b := 214) (ev_X12_isPoint (m := (wr m 214 0 0)) (f := f) (G := G) (d := d) (st := st) (by first | exact hb | exact hb.w (by decide) | exact (hb.w (by decide)).w (by decide)) (by first | assumption | omega | exact ⟨by omega, by omega⟩ | (constructor <;> omega)) (by first | assumption | omega | exact ⟨by omega, by omega⟩ | (constructor <;> omega))) rfl dX12_point_7 cv_12_257 rfl rfl ob_214 rfl (by decide) (Nat.le_of_ble_eq_true rfl) (fun r_7 hr_7 ho_7 => ?_)
  refine go_if_ne (tgt := 15) dX12_point_10 (by decide) ⟨by omega, by omega⟩ (fun h_10 => ?_) (fun h_10 => ?_)
  · have hqq := hdq f (by omega) (by omega)
    refine go_iload_n dX12_point_15 rfl ?_
    refine go_tswitch (tgt := 133) dX12_point_16 ⟨by omega, by omega⟩ (by decide) (fun n_16 h_16 hb_16 => ?_) (fun h_16 => ?_)
    · match n_16, h_16, hb_16 with
      | 0, h_16, hb_16 =>
        refine ⟨32, 48, rfl, by decide, ?_⟩
        refine go_aload_n dX12_point_48 rfl ?_
        refine go_getf_p (b := 216) dX12_point_49 fl_12_98 ob_214 rfl pt_214_14 ?_
        refine go_bipush dX12_point_52 (by decide) ?_
        refine go_iload_n dX12_point_54 rfl ?_
        refine go_iadd dX12_point_55 ?_
        refine go_iaload dX12_point_56 ar_216 (by omega) (by omega) (fun he_56 => ?_)
        rw [show ((wr m 214 0 0) 216 (32 + f) : Int) = (9 * G (d + 8) f + G (d + 7) f) from by rw [wr_na (by omega)]; exact (hb.sp (q := f) (by omega) (by omega))] at he_56 ⊢
        refine go_bipush dX12_point_57 (by decide) ?_
        refine go_irem dX12_point_59 ⟨by omega, by omega⟩ ⟨by omega, by omega⟩ (by omega) (by omega) ?_
        exact go_ret (v := ((9 * G (d + 8) f + G (d + 7) f) % 9)) rfl dX12_point_60 (okI ⟨by omega, by omega⟩) ⟨rfl, by omega⟩
      | 1, h_16, hb_16 =>
        refine ⟨45, 61, rfl, by decide, ?_⟩
        refine go_aload_n dX12_point_61 rfl ?_
        refine go_getf_p (b := 216) dX12_point_62 fl_12_98 ob_214 rfl pt_214_14 ?_
        refine go_bipush dX12_point_65 (by decide) ?_
        refine go_iload_n dX12_point_67 rfl ?_
        refine go_iadd dX12_point_68 ?_
        refine go_iaload dX12_point_69 ar_216 (by omega) (by omega) (fun he_69 => ?_)
        rw [show ((wr m 214 0 0) 216 (32 + f) : Int) = (9 * G (d + 8) f + G (d + 7) f) from by rw [wr_na (by omega)]; exact (hb.sp (q := f) (by omega) (by omega))] at he_69 ⊢
        refine go_bipush dX12_point_70 (by decide) ?_
        refine go_idiv dX12_point_72 ⟨by omega, by omega⟩ ⟨by omega, by omega⟩ (by omega) (by omega) ?_
        exact go_ret (v := ((9 * G (d + 8) f + G (d + 7) f) / 9)) rfl dX12_point_73 (okI ⟨by omega, by omega⟩) ⟨rfl, by omega⟩
      | 2, h_16, hb_16 =>
        refine ⟨58, 74, rfl, by decide, ?_⟩
        refine go_aload_n dX12_point_74 rfl ?_
        refine go_getf_p (b := 216) dX12_point_75 fl_12_98 ob_214 rfl pt_214_14 ?_
        refine go_bipush dX12_point_78 (by decide) ?_
        refine go_iload_n dX12_point_80 rfl ?_
        refine go_iadd dX12_point_81 ?_
        refine go_iaload dX12_point_82 ar_216 (by omega) (by omega) (fun he_82 => ?_)
        rw [show ((wr m 214 0 0) 216 (37 + f) : Int) = (G (d + 9) f) from by rw [wr_na (by omega)]; exact (hb.su (q := f) (by omega) (by omega))] at he_82 ⊢
        exact go_ret (v := (G (d + 9) f)) rfl dX12_point_83 (okI ⟨by omega, by omega⟩) ⟨rfl, by omega⟩
      | 3, h_16, hb_16 =>
        refine ⟨68, 84, rfl, by decide, ?_⟩
        refine go_iconst dX12_point_84 ?_
        refine go_istore_n (L' := [vr 214, vi f, vi v, vi 0, un]) dX12_point_85 (by decide) rfl rfl ?_
        refine go_iconst dX12_point_86 ?_
        refine go_istore (L' := [vr 214, vi f, vi v, vi 0, vi 0]) dX12_point_87 (by decide) rfl rfl ?_
        refine go_drop (j := 2) (L' := [vr 214, vi f, un, vi 0, vi 0]) rfl ?_
        have lp_89 : ∀ (n_89 : Nat) (c : Int) (p : Int) , (0 ≤ p) → (p ≤ G d 3) → (c = fwN G st f p.toNat) → (G d 3 - p).toNat < n_89 → Go 0 3 mX12_point (fun r m' => m' = wr m 214 0 0 ∧ r = if 0 ≤ f ∧ f < G d 4 then (if v = 0 then G (d + 7) f else if v = 1 then G (d + 8) f else if v = 2 then G (d + 9) f else if v = 3 then fwN G st f (G d 3).toNat else -1) else -1) 89 [vr 214, vi f, un, vi c, vi p] [] (wr m 214 0 0) := by
          intro n_89
          induction n_89 with
          | zero => intro c p hp0 hp1 hc hmu; exact absurd hmu (Nat.not_lt_zero _)
          | succ n_89 ih_89 =>
            intro c p hp0 hp1 hc hmu
            have hbR := fwN_R (m := G) (st := st) (q := f) p.toNat
            rw [← hc] at hbR
            have hfs := fwN_s (m := G) (st := st) (q := f) hp0
            rw [← hc] at hfs
            have hia := iand1_R (ishr (G (st + 6) p) f)
            refine go_iload dX12_point_89 rfl ?_
            refine go_aload_n dX12_point_91 rfl ?_
            refine go_getf_p (b := 216) dX12_point_92 fl_12_98 ob_214 rfl pt_214_14 ?_
            refine go_iconst dX12_point_95 ?_
            refine go_iaload dX12_point_96 ar_216 (by omega) (by omega) (fun he_96 => ?_)
            rw [show ((wr m 214 0 0) 216 3 : Int) = (G d 3) from by rw [wr_na (by omega)]; exact hb.n3] at he_96 ⊢
            refine go_icmp_ge (tgt := 131) dX12_point_97 (by decide) ⟨by omega, by omega⟩ ⟨by omega, by omega⟩ (fun h_97 => ?_) (fun h_97 => ?_)
            · refine go_iload_n dX12_point_131 rfl ?_
              exact go_ret (v := c) rfl dX12_point_132 (okI ⟨by omega, by omega⟩) ⟨rfl, by rw [hc, show p = G d 3 by omega]; omega⟩
            · refine go_aload_n dX12_point_100 rfl ?_
              refine go_getf_p (b := 216) dX12_point_101 fl_12_98 ob_214 rfl pt_214_14 ?_
              refine go_sipush dX12_point_104 (by decide) ?_
              refine go_iload dX12_point_107 rfl ?_
              refine go_iadd dX12_point_109 ?_
              refine go_iaload dX12_point_110 ar_216 (by omega) (by omega) (fun he_110 => ?_)
              rw [show ((wr m 214 0 0) 216 (141 + p) : Int) = (G (st + 6) p) from by rw [wr_na (by omega)]; exact (hb.ca (p := p) (by omega) (by omega))] at he_110 ⊢
              refine go_iload_n dX12_point_111 rfl ?_
              refine go_callSp_z (as := [vi (G (st + 6) p), vi f]) (S := []) (ev_X12_has (m := (wr m 214 0 0)) (a := (G (st + 6) p)) (k := f) ) rfl dX12_point_112 cs_12_242 rfl rfl (by decide) (Nat.le_of_ble_eq_true rfl) (fun r_112 hr_112 ho_112 => ?_)
              refine go_if_eq (tgt := 125) dX12_point_115 (by decide) ⟨by omega, by omega⟩ (fun h_115 => ?_) (fun h_115 => ?_)
              · refine go_iinc (L' := [vr 214, vi f, un, vi c, vi (p + 1)]) dX12_point_125 rfl (by decide) rfl rfl ?_
                refine go_goto (tgt := 89) dX12_point_128 (by decide) ?_
                exact ih_89 c (p + 1) (by first | assumption | omega | rfl) (by first | assumption | omega | rfl) (by rw [hfs]; first | (rw [show iand (ishr (G (st + 6) p) f) 1 = 1 from (hr_112.resolve_right (fun h => by omega)).2]) | (rw [show iand (ishr (G (st + 6) p) f) 1 = 0 from (by have h := (hr_112.resolve_left (fun h => by omega)).2; unfold hasP at h; omega), ishl_0 hp0 (by omega), ior_0 hbR])) (by omega)
              · refine go_iload_n dX12_point_118 rfl ?_
                refine go_iconst dX12_point_119 ?_
                refine go_iload dX12_point_120 rfl ?_
                refine go_ishl dX12_point_122 ?_
                refine go_ior dX12_point_123 ?_
                refine go_istore_n (L' := [vr 214, vi f, un, vi (ior c (ishl 1 p)), vi p]) dX12_point_124 (by decide) rfl rfl ?_
                refine go_iinc (L' := [vr 214, vi f, un, vi (ior c (ishl 1 p)), vi (p + 1)]) dX12_point_125 rfl (by decide) rfl rfl ?_
                refine go_goto (tgt := 89) dX12_point_128 (by decide) ?_
                exact ih_89 (ior c (ishl 1 p)) (p + 1) (by first | assumption | omega | rfl) (by first | assumption | omega | rfl) (by rw [hfs]; first | (rw [show iand (ishr (G (st + 6) p) f) 1 = 1 from (hr_112.resolve_right (fun h => by omega)).2]) | (rw [show iand (ishr (G (st + 6) p) f) 1 = 0 from (by have h := (hr_112.resolve_left (fun h => by omega)).2; unfold hasP at h; omega), ishl_0 hp0 (by omega), ior_0 hbR])) (by omega)
        exact lp_89 _ 0 0 (by first | assumption | omega | rfl) (by first | assumption | omega | rfl) rfl (Nat.lt_succ_self _)
      | k + 4, h_16, hb_16 => exfalso; omega
    · refine go_iconst dX12_point_133 ?_
      exact go_ret (v := (-1)) rfl dX12_point_134 (okI ⟨by omega, by omega⟩) ⟨rfl, by omega⟩
  · refine go_iconst dX12_point_13 ?_
    exact go_ret (v := (-1)) rfl dX12_point_14 (okI ⟨by omega, by omega⟩) ⟨rfl, by omega⟩
theorem dX12_cell_0 : decode mX12_cell.2.1 0 = .ok (.aload_n 0, 1) := by decide +kernel
theorem dX12_cell_1 : decode mX12_cell.2.1 1 = .ok (.iconst 0, 1) := by decide +kernel
theorem dX12_cell_2 : decode mX12_cell.2.1 2 = .ok (.putfield 1, 3) := by decide +kernel
theorem dX12_cell_5 : decode mX12_cell.2.1 5 = .ok (.aload_n 0, 1) := by decide +kernel
theorem dX12_cell_6 : decode mX12_cell.2.1 6 = .ok (.iload_n 1, 1) := by decide +kernel
theorem dX12_cell_7 : decode mX12_cell.2.1 7 = .ok (.iload_n 2, 1) := by decide +kernel
theorem dX12_cell_8 : decode mX12_cell.2.1 8 = .ok (.invokevirtual 232, 3) := by decide +kernel
theorem dX12_cell_11 : decode mX12_cell.2.1 11 = .ok (.ifCond .ne 5, 3) := by decide +kernel
theorem dX12_cell_14 : decode mX12_cell.2.1 14 = .ok (.iconst (-1), 1) := by decide +kernel
theorem dX12_cell_15 : decode mX12_cell.2.1 15 = .ok (.ireturn, 1) := by decide +kernel
theorem dX12_cell_16 : decode mX12_cell.2.1 16 = .ok (.bipush 9, 2) := by decide +kernel
theorem dX12_cell_18 : decode mX12_cell.2.1 18 = .ok (.iload_n 2, 1) := by decide +kernel
theorem dX12_cell_19 : decode mX12_cell.2.1 19 = .ok (.imul, 1) := by decide +kernel
theorem dX12_cell_20 : decode mX12_cell.2.1 20 = .ok (.iload_n 1, 1) := by decide +kernel
theorem dX12_cell_21 : decode mX12_cell.2.1 21 = .ok (.iadd, 1) := by decide +kernel
theorem dX12_cell_22 : decode mX12_cell.2.1 22 = .ok (.istore 4, 2) := by decide +kernel
theorem dX12_cell_24 : decode mX12_cell.2.1 24 = .ok (.iload_n 3, 1) := by decide +kernel
theorem dX12_cell_25 : decode mX12_cell.2.1 25 = .ok (.tableswitch 96 0 2 #[27, 39, 46], 27) := by decide +kernel
theorem dX12_cell_52 : decode mX12_cell.2.1 52 = .ok (.aload_n 0, 1) := by decide +kernel
theorem dX12_cell_53 : decode mX12_cell.2.1 53 = .ok (.getfield 98, 3) := by decide +kernel
theorem dX12_cell_56 : decode mX12_cell.2.1 56 = .ok (.sipush 151, 3) := by decide +kernel
theorem dX12_cell_59 : decode mX12_cell.2.1 59 = .ok (.iload 4, 2) := by decide +kernel
theorem dX12_cell_61 : decode mX12_cell.2.1 61 = .ok (.iadd, 1) := by decide +kernel
theorem dX12_cell_62 : decode mX12_cell.2.1 62 = .ok (.iaload, 1) := by decide +kernel
theorem dX12_cell_63 : decode mX12_cell.2.1 63 = .ok (.ireturn, 1) := by decide +kernel
theorem dX12_cell_64 : decode mX12_cell.2.1 64 = .ok (.aload_n 0, 1) := by decide +kernel
theorem dX12_cell_65 : decode mX12_cell.2.1 65 = .ok (.iload 4, 2) := by decide +kernel
theorem dX12_cell_67 : decode mX12_cell.2.1 67 = .ok (.invokevirtual 239, 3) := by decide +kernel
theorem dX12_cell_70 : decode mX12_cell.2.1 70 = .ok (.ireturn, 1) := by decide +kernel
theorem dX12_cell_71 : decode mX12_cell.2.1 71 = .ok (.iconst 0, 1) := by decide +kernel
theorem dX12_cell_72 : decode mX12_cell.2.1 72 = .ok (.istore 5, 2) := by decide +kernel
theorem dX12_cell_74 : decode mX12_cell.2.1 74 = .ok (.iconst 0, 1) := by decide +kernel
theorem dX12_cell_75 : decode mX12_cell.2.1 75 = .ok (.istore 6, 2) := by decide +kernel
theorem dX12_cell_77 : decode mX12_cell.2.1 77 = .ok (.iload 6, 2) := by decide +kernel
theorem dX12_cell_79 : decode mX12_cell.2.1 79 = .ok (.aload_n 0, 1) := by decide +kernel
theorem dX12_cell_80 : decode mX12_cell.2.1 80 = .ok (.getfield 98, 3) := by decide +kernel
theorem dX12_cell_83 : decode mX12_cell.2.1 83 = .ok (.iconst 4, 1) := by decide +kernel
theorem dX12_cell_84 : decode mX12_cell.2.1 84 = .ok (.iaload, 1) := by decide +kernel
theorem dX12_cell_85 : decode mX12_cell.2.1 85 = .ok (.if_icmp .ge 33, 3) := by decide +kernel
theorem dX12_cell_88 : decode mX12_cell.2.1 88 = .ok (.aload_n 0, 1) := by decide +kernel
theorem dX12_cell_89 : decode mX12_cell.2.1 89 = .ok (.getfield 98, 3) := by decide +kernel
theorem dX12_cell_92 : decode mX12_cell.2.1 92 = .ok (.bipush 32, 2) := by decide +kernel
theorem dX12_cell_94 : decode mX12_cell.2.1 94 = .ok (.iload 6, 2) := by decide +kernel
theorem dX12_cell_96 : decode mX12_cell.2.1 96 = .ok (.iadd, 1) := by decide +kernel
theorem dX12_cell_97 : decode mX12_cell.2.1 97 = .ok (.iaload, 1) := by decide +kernel
theorem dX12_cell_98 : decode mX12_cell.2.1 98 = .ok (.iload 4, 2) := by decide +kernel
theorem dX12_cell_100 : decode mX12_cell.2.1 100 = .ok (.if_icmp .ne 12, 3) := by decide +kernel
theorem dX12_cell_103 : decode mX12_cell.2.1 103 = .ok (.iload 5, 2) := by decide +kernel
theorem dX12_cell_105 : decode mX12_cell.2.1 105 = .ok (.iconst 1, 1) := by decide +kernel
theorem dX12_cell_106 : decode mX12_cell.2.1 106 = .ok (.iload 6, 2) := by decide +kernel
theorem dX12_cell_108 : decode mX12_cell.2.1 108 = .ok (.ishl, 1) := by decide +kernel
theorem dX12_cell_109 : decode mX12_cell.2.1 109 = .ok (.ior, 1) := by decide +kernel
theorem dX12_cell_110 : decode mX12_cell.2.1 110 = .ok (.istore 5, 2) := by decide +kernel
theorem dX12_cell_112 : decode mX12_cell.2.1 112 = .ok (.iinc 6 1, 3) := by decide +kernel
theorem dX12_cell_115 : decode mX12_cell.2.1 115 = .ok (.goto (-38), 3) := by decide +kernel
theorem dX12_cell_118 : decode mX12_cell.2.1 118 = .ok (.iload 5, 2) := by decide +kernel
theorem dX12_cell_120 : decode mX12_cell.2.1 120 = .ok (.ireturn, 1) := by decide +kernel
theorem dX12_cell_121 : decode mX12_cell.2.1 121 = .ok (.iconst (-1), 1) := by decide +kernel
theorem dX12_cell_122 : decode mX12_cell.2.1 122 = .ok (.ireturn, 1) := by decide +kernel
set_option maxRecDepth 4000 in
theorem ev_X12_cell {m : Mem} {G : Mem} {d : Nat} {st : Nat} {B : Int} {x : Int} {y : Int} {v : Int} (hb : Bg G d st (m 216)) (hdn : DnOk G d) (hst : StOk G d st B) (hx : InR x) (hy : InR y) (hv : InR v) : Ev 0 3 mX12_cell [vr 214, vi x, vi y, vi v] m (fun r m' => m' = wr m 214 0 0 ∧ r = if insC G d x y then (if v = 0 then G (st + 1) (9 * y + x) else if v = 1 then whoC G d st x y else if v = 2 then ptsAt G d x y else -1) else -1) := by
  refine Ev.of (L := [vr 214, vi x, vi y, vi v, un, un, un]) (by decide +kernel) rfl (Nat.le_of_ble_eq_true rfl) rfl (fun t ht => by cases ht; first | exact Or.inl rfl | exact Or.inr (Or.inl rfl) | exact Or.inr (Or.inr rfl)) (fun hcan => ?_)
  obtain ⟨⟨hd0, hd1⟩, ⟨hd2, hd3⟩, ⟨hd4, hd5⟩, ⟨hd6, hd7⟩, ⟨hd8, hd9⟩, hdf, hdp, hdq⟩ := id hdn
  obtain ⟨⟨hs0, hs1⟩, ⟨hs2, hs3⟩, hsw, hsp, hsd, hsz⟩ := id hst
  refine go_aload_n dX12_cell_0 rfl ?_
  refine go_iconst dX12_cell_1 ?_
  refine go_putf_i (ki := 0) dX12_cell_2 fw_12_1 ob_214 rfl rfl ⟨by omega, by omega⟩ ?_
  refine go_aload_n dX12_cell_5 rfl ?_
  refine go_iload_n dX12_cell_6 rfl ?_
  refine go_iload_n dX12_cell_7 rfl ?_
  refine go_callVp_z (as := [vi x, vi y]) (S := []) (b := 214) (ev_X12_isCell (m := (wr m 214 0 0)) (x := x) (y := y) (G := G) (d := d) (st := st) (by first | exact hb | exact hb.w (by decide) | exact (hb.w (by decide)).w (by decide)) (by first | assumption | omega | exact ⟨by omega, by omega⟩ | (constructor <;> omega)) (by first | assumption | omega | exact ⟨by omega, by omega⟩ | (constructor <;> omega)) (by first | assumption | omega | exact ⟨by omega, by omega⟩ | (constructor <;> omega))) rfl dX12_cell_8 cv_12_232 rfl rfl ob_214 rfl (by decide) (Nat.le_of_ble_eq_true rfl) (fun r_8 hr_8 ho_8 => ?_)
  refine go_if_ne (tgt := 16) dX12_cell_11 (by decide) ⟨by omega, by omega⟩ (fun h_11 => ?_) (fun h_11 => ?_)
  · refine go_bipush dX12_cell_16 (by decide) ?_
    refine go_iload_n dX12_cell_18 rfl ?_
    refine go_imul dX12_cell_19 ?_
    refine go_iload_n dX12_cell_20 rfl ?_
    refine go_iadd dX12_cell_21 ?_
    refine go_istore (L' := [vr 214, vi x, vi y, vi v, vi ((9 * y) + x), un, un]) dX12_cell_22 (by decide) rfl rfl ?_
    refine go_iload_n dX12_cell_24 rfl ?_
    refine go_tswitch (tgt := 121) dX12_cell_25 ⟨by omega, by omega⟩ (by decide) (fun n_25 h_25 hb_25 => ?_) (fun h_25 => ?_)
    · match n_25, h_25, hb_25 with
      | 0, h_25, hb_25 =>
        refine ⟨27, 52, rfl, by decide, ?_⟩
        refine go_aload_n dX12_cell_52 rfl ?_
        refine go_getf_p (b := 216) dX12_cell_53 fl_12_98 ob_214 rfl pt_214_14 ?_
        refine go_sipush dX12_cell_56 (by decide) ?_
        refine go_iload dX12_cell_59 rfl ?_
        refine go_iadd dX12_cell_61 ?_
        refine go_iaload dX12_cell_62 ar_216 (by omega) (by omega) (fun he_62 => ?_)
        rw [show ((wr m 214 0 0) 216 (151 + ((9 * y) + x)) : Int) = (G (st + 1) ((9 * y) + x)) from by rw [wr_na (by omega)]; exact (hb.wl (c := ((9 * y) + x)) (by omega) (by omega))] at he_62 ⊢
        exact go_ret (v := (G (st + 1) ((9 * y) + x))) rfl dX12_cell_63 (okI ⟨by omega, by omega⟩) ⟨rfl, by omega⟩
      | 1, h_25, hb_25 =>
        refine ⟨39, 64, rfl, by decide, ?_⟩
        refine go_aload_n dX12_cell_64 rfl ?_
        refine go_iload dX12_cell_65 rfl ?_
        refine go_callVp_i (as := [vi ((9 * y) + x)]) (S := []) (b := 214) (ev_X12_whoIsAt (m := (wr m 214 0 0)) (c := ((9 * y) + x)) (G := G) (d := d) (st := st) (B := B) (x := x) (y := y) (by first | exact hb | exact hb.w (by decide) | exact (hb.w (by decide)).w (by decide)) (by first | assumption | omega | exact ⟨by omega, by omega⟩ | (constructor <;> omega)) (by first | assumption | omega | exact ⟨by omega, by omega⟩ | (constructor <;> omega)) rfl (by omega)) rfl dX12_cell_67 cv_12_239 rfl rfl ob_214 rfl (by decide) (Nat.le_of_ble_eq_true rfl) (fun r_67 hr_67 ho_67 => ?_)
        exact go_ret (v := r_67) rfl dX12_cell_70 (okI ⟨by omega, by omega⟩) ⟨rfl, by rw [hr_67]; omega⟩
      | 2, h_25, hb_25 =>
        refine ⟨46, 71, rfl, by decide, ?_⟩
        refine go_iconst dX12_cell_71 ?_
        refine go_istore (L' := [vr 214, vi x, vi y, vi v, vi ((9 * y) + x), vi 0, un]) dX12_cell_72 (by decide) rfl rfl ?_
        refine go_iconst dX12_cell_74 ?_
        refine go_istore (L' := [vr 214, vi x, vi y, vi v, vi ((9 * y) + x), vi 0, vi 0]) dX12_cell_75 (by decide) rfl rfl ?_
        refine go_drop (j := 1) (L' := [vr 214, un, vi y, vi v, vi ((9 * y) + x), vi 0, vi 0]) rfl ?_
        refine go_drop (j := 2) (L' := [vr 214, un, un, vi v, vi ((9 * y) + x), vi 0, vi 0]) rfl ?_
        refine go_drop (j := 3) (L' := [vr 214, un, un, un, vi ((9 * y) + x), vi 0, vi 0]) rfl ?_
        have lp_77 : ∀ (n_77 : Nat) (c : Int) (q : Int) , (0 ≤ q) → (q ≤ G d 4) → (c = comeN 0 (fun q => decide (G (d + 7) q = x ∧ G (d + 8) q = y)) q.toNat) → (G d 4 - q).toNat < n_77 → Go 0 3 mX12_cell (fun r m' => m' = wr m 214 0 0 ∧ r = if insC G d x y then (if v = 0 then G (st + 1) (9 * y + x) else if v = 1 then whoC G d st x y else if v = 2 then ptsAt G d x y else -1) else -1) 77 [vr 214, un, un, un, vi ((9 * y) + x), vi c, vi q] [] (wr m 214 0 0) := by
          intro n_77
          induction n_77 with
          | zero => intro c q hq0 hq1 hc hmu; exact absurd hmu (Nat.not_lt_zero _)
          | succ n_77 ih_77 =>
            intro c q hq0 hq1 hc hmu
            have hbR := comeN_R (P := (fun q => decide (G (d + 7) q = x ∧ G (d + 8) q = y))) q.toNat
            rw [← hc] at hbR
            refine go_iload dX12_cell_77 rfl ?_
            refine go_aload_n dX12_cell_79 rfl ?_
            refine go_getf_p (b := 216) dX12_cell_80 fl_12_98 ob_214 rfl pt_214_14 ?_
            refine go_iconst dX12_cell_83 ?_
            refine go_iaload dX12_cell_84 ar_216 (by omega) (by omega) (fun he_84 => ?_)
            rw [show ((wr m 214 0 0) 216 4 : Int) = (G d 4) from by rw [wr_na (by omega)]; exact hb.n4] at he_84 ⊢
            refine go_icmp_ge (tgt := 118) dX12_cell_85 (by decide) ⟨by omega, by omega⟩ ⟨by omega, by omega⟩ (fun h_85 => ?_) (fun h_85 => ?_)
            · refine go_iload dX12_cell_118 rfl ?_
              exact go_ret (v := c) rfl dX12_cell_120 (okI ⟨by omega, by omega⟩) ⟨rfl, by rw [if_pos (by omega), if_neg (by omega), if_neg (by omega), if_pos (by omega), hc, show q = G d 4 by omega]; unfold ptsAt; have h := bits_come (P := (fun q => decide (G (d + 7) q = x ∧ G (d + 8) q = y))) (G d 4).toNat (by omega); rw [Int.toNat_of_nonneg hd8] at h; exact h.symm⟩
            · refine go_aload_n dX12_cell_88 rfl ?_
              refine go_getf_p (b := 216) dX12_cell_89 fl_12_98 ob_214 rfl pt_214_14 ?_
              refine go_bipush dX12_cell_92 (by decide) ?_
              refine go_iload dX12_cell_94 rfl ?_
              refine go_iadd dX12_cell_96 ?_
              refine go_iaload dX12_cell_97 ar_216 (by omega) (by omega) (fun he_97 => ?_)
              rw [show ((wr m 214 0 0) 216 (32 + q) : Int) = (9 * G (d + 8) q + G (d + 7) q) from by rw [wr_na (by omega)]; exact (hb.sp (q := q) (by omega) (by omega))] at he_97 ⊢
              refine go_iload dX12_cell_98 rfl ?_
              refine go_icmp_ne (tgt := 112) dX12_cell_100 (by decide) ⟨by omega, by omega⟩ ⟨by omega, by omega⟩ (fun h_100 => ?_) (fun h_100 => ?_)
              · have hqq := hdq q hq0 (by omega)
                refine go_iinc (L' := [vr 214, un, un, un, vi ((9 * y) + x), vi c, vi (q + 1)]) dX12_cell_112 rfl (by decide) rfl rfl ?_
                refine go_goto (tgt := 77) dX12_cell_115 (by decide) ?_
                exact ih_77 c (q + 1) (by first | assumption | omega | rfl) (by first | assumption | omega | rfl) (by first | (rw [comeN_t hq0 (decide_eq_true (by omega)), ← hc]) | (rw [comeN_f hq0 (decide_eq_false (by omega)), ← hc])) (by omega)
              · have hqq := hdq q hq0 (by omega)
                refine go_iload dX12_cell_103 rfl ?_
                refine go_iconst dX12_cell_105 ?_
                refine go_iload dX12_cell_106 rfl ?_
                refine go_ishl dX12_cell_108 ?_
                refine go_ior dX12_cell_109 ?_
                refine go_istore (L' := [vr 214, un, un, un, vi ((9 * y) + x), vi (ior c (ishl 1 q)), vi q]) dX12_cell_110 (by decide) rfl rfl ?_
                have hqq := hdq q hq0 (by omega)
                refine go_iinc (L' := [vr 214, un, un, un, vi ((9 * y) + x), vi (ior c (ishl 1 q)), vi (q + 1)]) dX12_cell_112 rfl (by decide) rfl rfl ?_
                refine go_goto (tgt := 77) dX12_cell_115 (by decide) ?_
                exact ih_77 (ior c (ishl 1 q)) (q + 1) (by first | assumption | omega | rfl) (by first | assumption | omega | rfl) (by first | (rw [comeN_t hq0 (decide_eq_true (by omega)), ← hc]) | (rw [comeN_f hq0 (decide_eq_false (by omega)), ← hc])) (by omega)
        exact lp_77 _ 0 0 (by first | assumption | omega | rfl) (by first | assumption | omega | rfl) rfl (Nat.lt_succ_self _)
      | k + 3, h_25, hb_25 => exfalso; omega
    · refine go_iconst dX12_cell_121 ?_
      exact go_ret (v := (-1)) rfl dX12_cell_122 (okI ⟨by omega, by omega⟩) ⟨rfl, by omega⟩
  · refine go_iconst dX12_cell_14 ?_
    exact go_ret (v := (-1)) rfl dX12_cell_15 (okI ⟨by omega, by omega⟩) ⟨rfl, by omega⟩
theorem dX12_now_0 : decode mX12_now.2.1 0 = .ok (.aload_n 0, 1) := by decide +kernel
theorem dX12_now_1 : decode mX12_now.2.1 1 = .ok (.iconst 0, 1) := by decide +kernel
theorem dX12_now_2 : decode mX12_now.2.1 2 = .ok (.putfield 1, 3) := by decide +kernel
theorem dX12_now_5 : decode mX12_now.2.1 5 = .ok (.iload_n 1, 1) := by decide +kernel
theorem dX12_now_6 : decode mX12_now.2.1 6 = .ok (.tableswitch 107 0 7 #[46, 54, 64, 72, 80, 86, 92, 98], 46) := by decide +kernel
theorem dX12_now_52 : decode mX12_now.2.1 52 = .ok (.aload_n 0, 1) := by decide +kernel
theorem dX12_now_53 : decode mX12_now.2.1 53 = .ok (.getfield 98, 3) := by decide +kernel
theorem dX12_now_56 : decode mX12_now.2.1 56 = .ok (.bipush 123, 2) := by decide +kernel
theorem dX12_now_58 : decode mX12_now.2.1 58 = .ok (.iaload, 1) := by decide +kernel
theorem dX12_now_59 : decode mX12_now.2.1 59 = .ok (.ireturn, 1) := by decide +kernel
theorem dX12_now_60 : decode mX12_now.2.1 60 = .ok (.aload_n 0, 1) := by decide +kernel
theorem dX12_now_61 : decode mX12_now.2.1 61 = .ok (.sipush 151, 3) := by decide +kernel
theorem dX12_now_64 : decode mX12_now.2.1 64 = .ok (.bipush 81, 2) := by decide +kernel
theorem dX12_now_66 : decode mX12_now.2.1 66 = .ok (.invokevirtual 263, 3) := by decide +kernel
theorem dX12_now_69 : decode mX12_now.2.1 69 = .ok (.ireturn, 1) := by decide +kernel
theorem dX12_now_70 : decode mX12_now.2.1 70 = .ok (.aload_n 0, 1) := by decide +kernel
theorem dX12_now_71 : decode mX12_now.2.1 71 = .ok (.getfield 98, 3) := by decide +kernel
theorem dX12_now_74 : decode mX12_now.2.1 74 = .ok (.bipush 124, 2) := by decide +kernel
theorem dX12_now_76 : decode mX12_now.2.1 76 = .ok (.iaload, 1) := by decide +kernel
theorem dX12_now_77 : decode mX12_now.2.1 77 = .ok (.ireturn, 1) := by decide +kernel
theorem dX12_now_78 : decode mX12_now.2.1 78 = .ok (.aload_n 0, 1) := by decide +kernel
theorem dX12_now_79 : decode mX12_now.2.1 79 = .ok (.getfield 98, 3) := by decide +kernel
theorem dX12_now_82 : decode mX12_now.2.1 82 = .ok (.bipush 125, 2) := by decide +kernel
theorem dX12_now_84 : decode mX12_now.2.1 84 = .ok (.iaload, 1) := by decide +kernel
theorem dX12_now_85 : decode mX12_now.2.1 85 = .ok (.ireturn, 1) := by decide +kernel
theorem dX12_now_86 : decode mX12_now.2.1 86 = .ok (.aload_n 0, 1) := by decide +kernel
theorem dX12_now_87 : decode mX12_now.2.1 87 = .ok (.iconst 0, 1) := by decide +kernel
theorem dX12_now_88 : decode mX12_now.2.1 88 = .ok (.invokevirtual 267, 3) := by decide +kernel
theorem dX12_now_91 : decode mX12_now.2.1 91 = .ok (.ireturn, 1) := by decide +kernel
theorem dX12_now_92 : decode mX12_now.2.1 92 = .ok (.aload_n 0, 1) := by decide +kernel
theorem dX12_now_93 : decode mX12_now.2.1 93 = .ok (.iconst 1, 1) := by decide +kernel
theorem dX12_now_94 : decode mX12_now.2.1 94 = .ok (.invokevirtual 267, 3) := by decide +kernel
theorem dX12_now_97 : decode mX12_now.2.1 97 = .ok (.ireturn, 1) := by decide +kernel
theorem dX12_now_98 : decode mX12_now.2.1 98 = .ok (.aload_n 0, 1) := by decide +kernel
theorem dX12_now_99 : decode mX12_now.2.1 99 = .ok (.iconst 2, 1) := by decide +kernel
theorem dX12_now_100 : decode mX12_now.2.1 100 = .ok (.invokevirtual 267, 3) := by decide +kernel
theorem dX12_now_103 : decode mX12_now.2.1 103 = .ok (.ireturn, 1) := by decide +kernel
theorem dX12_now_104 : decode mX12_now.2.1 104 = .ok (.aload_n 0, 1) := by decide +kernel
theorem dX12_now_105 : decode mX12_now.2.1 105 = .ok (.sipush 136, 3) := by decide +kernel
theorem dX12_now_108 : decode mX12_now.2.1 108 = .ok (.iconst 5, 1) := by decide +kernel
theorem dX12_now_109 : decode mX12_now.2.1 109 = .ok (.invokevirtual 263, 3) := by decide +kernel
theorem dX12_now_112 : decode mX12_now.2.1 112 = .ok (.ireturn, 1) := by decide +kernel
theorem dX12_now_113 : decode mX12_now.2.1 113 = .ok (.iconst (-1), 1) := by decide +kernel
theorem dX12_now_114 : decode mX12_now.2.1 114 = .ok (.ireturn, 1) := by decide +kernel
set_option maxRecDepth 4000 in
theorem ev_X12_now {m : Mem} {G : Mem} {d : Nat} {st : Nat} {B : Int} {v : Int} (hb : Bg G d st (m 216)) (hdn : DnOk G d) (hst : StOk G d st B) (hB : 0 ≤ B ∧ B ≤ 300000000) (hv : InR v) : Ev 0 3 mX12_now [vr 214, vi v] m (fun r m' => m' = wr m 214 0 0 ∧ r = if v = 0 then G st 0 else if v = 1 then sumI (G (st + 1)) 81 else if v = 2 then sumI (G (st + 7)) (G d 3) else if v = 3 then G st 1 else if v = 4 then comeN 0 (fun p => decide (G (st + 5) p = 0)) (G d 3).toNat else if v = 5 then comeN 0 (setlC G d st) (G d 3).toNat else if v = 6 then comeN 0 (fun p => decide (G (st + 4) p = 0)) (G d 3).toNat else if v = 7 then sumI (G (st + 5)) (G d 3) else -1) := by
  refine Ev.of (L := [vr 214, vi v]) (by decide +kernel) rfl (Nat.le_of_ble_eq_true rfl) rfl (fun t ht => by cases ht; first | exact Or.inl rfl | exact Or.inr (Or.inl rfl) | exact Or.inr (Or.inr rfl)) (fun hcan => ?_)
  obtain ⟨⟨hd0, hd1⟩, ⟨hd2, hd3⟩, ⟨hd4, hd5⟩, ⟨hd6, hd7⟩, ⟨hd8, hd9⟩, hdf, hdp, hdq⟩ := id hdn
  obtain ⟨⟨hs0, hs1⟩, ⟨hs2, hs3⟩, hsw, hsp, hsd, hsz⟩ := id hst
  have e216 : ∀ j, wr m 214 0 0 216 j = m 216 j := fun j => wr_na (by decide)
  have s1 : sumI (fun k => wr m 214 0 0 216 (151 + k)) 81 = sumI (G (st + 1)) 81 := sumI_congr (fun j a b => by rw [e216, hb.wl a b])
  have s7 : sumI (fun k => wr m 214 0 0 216 (136 + k)) 5 = sumI (G (st + 5)) (G d 3) := by
    rw [sumI_add hd6 hd7 (fun j a b => by rw [e216, hb.zr a b])]
    exact sumI_congr (fun j a b => by rw [e216, hb.br a b])
  refine go_aload_n dX12_now_0 rfl ?_
  refine go_iconst dX12_now_1 ?_
  refine go_putf_i (ki := 0) dX12_now_2 fw_12_1 ob_214 rfl rfl ⟨by omega, by omega⟩ ?_
  refine go_iload_n dX12_now_5 rfl ?_
  refine go_tswitch (tgt := 113) dX12_now_6 ⟨by omega, by omega⟩ (by decide) (fun n_6 h_6 hb_6 => ?_) (fun h_6 => ?_)
  · match n_6, h_6, hb_6 with
    | 0, h_6, hb_6 =>
      refine ⟨46, 52, rfl, by decide, ?_⟩
      refine go_aload_n dX12_now_52 rfl ?_
      refine go_getf_p (b := 216) dX12_now_53 fl_12_98 ob_214 rfl pt_214_14 ?_
      refine go_bipush dX12_now_56 (by decide) ?_
      refine go_iaload dX12_now_58 ar_216 (by omega) (by omega) (fun he_58 => ?_)
      rw [show ((wr m 214 0 0) 216 123 : Int) = (G st 0) from by rw [wr_na (by omega)]; exact hb.hr] at he_58 ⊢
      exact go_ret (v := (G st 0)) rfl dX12_now_59 (okI ⟨by omega, by omega⟩) ⟨rfl, by rw [if_pos (by omega)] <;> first | rfl | omega⟩
    | 1, h_6, hb_6 =>
      refine ⟨54, 60, rfl, by decide, ?_⟩
      refine go_aload_n dX12_now_60 rfl ?_
      refine go_sipush dX12_now_61 (by decide) ?_
      refine go_bipush dX12_now_64 (by decide) ?_
      refine go_callVp_i (as := [vi 151, vi 81]) (S := []) (b := 214) (ev_X12_sum (m := (wr m 214 0 0)) (a := 151) (n := 81) (by first | assumption | omega | exact ⟨by omega, by omega⟩ | (constructor <;> omega)) (by first | assumption | omega | exact ⟨by omega, by omega⟩ | (constructor <;> omega)) (fun j a b => by rw [e216, hb.wl a b]; have := hsw j; omega)) rfl dX12_now_66 cv_12_263 rfl rfl ob_214 rfl (by decide) (Nat.le_of_ble_eq_true rfl) (fun r_66 hr_66 ho_66 => ?_)
      exact go_ret (v := r_66) rfl dX12_now_69 (okI ⟨by omega, by omega⟩) ⟨rfl, by rw [if_neg (by omega), if_pos (by omega), hr_66]; exact s1⟩
    | 2, h_6, hb_6 =>
      refine ⟨64, 70, rfl, by decide, ?_⟩
      refine go_aload_n dX12_now_70 rfl ?_
      refine go_getf_p (b := 216) dX12_now_71 fl_12_98 ob_214 rfl pt_214_14 ?_
      refine go_bipush dX12_now_74 (by decide) ?_
      refine go_iaload dX12_now_76 ar_216 (by omega) (by omega) (fun he_76 => ?_)
      rw [show ((wr m 214 0 0) 216 124 : Int) = (sumI (G (st + 7)) (G d 3)) from by rw [wr_na (by omega)]; exact hb.sy] at he_76 ⊢
      exact go_ret (v := (sumI (G (st + 7)) (G d 3))) rfl dX12_now_77 (okI ⟨by omega, by omega⟩) ⟨rfl, by rw [if_neg (by omega), if_neg (by omega), if_pos (by omega)] <;> first | rfl | omega⟩
    | 3, h_6, hb_6 =>
      refine ⟨72, 78, rfl, by decide, ?_⟩
      refine go_aload_n dX12_now_78 rfl ?_
      refine go_getf_p (b := 216) dX12_now_79 fl_12_98 ob_214 rfl pt_214_14 ?_
      refine go_bipush dX12_now_82 (by decide) ?_
      refine go_iaload dX12_now_84 ar_216 (by omega) (by omega) (fun he_84 => ?_)
      rw [show ((wr m 214 0 0) 216 125 : Int) = (G st 1) from by rw [wr_na (by omega)]; exact hb.ki] at he_84 ⊢
      exact go_ret (v := (G st 1)) rfl dX12_now_85 (okI ⟨by omega, by omega⟩) ⟨rfl, by rw [if_neg (by omega), if_neg (by omega), if_neg (by omega), if_pos (by omega)] <;> first | rfl | omega⟩
    | 4, h_6, hb_6 =>
      refine ⟨80, 86, rfl, by decide, ?_⟩
      refine go_aload_n dX12_now_86 rfl ?_
      refine go_iconst dX12_now_87 ?_
      refine go_callVp_i (as := [vi 0]) (S := []) (b := 214) (ev_X12_who (m := (wr m 214 0 0)) (v := 0) (G := G) (d := d) (st := st) (by first | exact hb | exact hb.w (by decide) | exact (hb.w (by decide)).w (by decide)) (by first | assumption | omega | exact ⟨by omega, by omega⟩ | (constructor <;> omega)) (by first | assumption | omega | exact ⟨by omega, by omega⟩ | (constructor <;> omega))) rfl dX12_now_88 cv_12_267 rfl rfl ob_214 rfl (by decide) (Nat.le_of_ble_eq_true rfl) (fun r_88 hr_88 ho_88 => ?_)
      exact go_ret (v := r_88) rfl dX12_now_91 (okI ⟨by omega, by omega⟩) ⟨rfl, by rw [if_neg (by omega), if_neg (by omega), if_neg (by omega), if_neg (by omega), if_pos (by omega), hr_88]; exact congrFun (congrArg (comeN 0) (by funext p; unfold whP; first | (rw [if_pos rfl]; done) | (rw [if_neg (by decide), if_pos rfl]; done) | (rw [if_neg (by decide), if_neg (by decide)]; done))) _⟩
    | 5, h_6, hb_6 =>
      refine ⟨86, 92, rfl, by decide, ?_⟩
      refine go_aload_n dX12_now_92 rfl ?_
      refine go_iconst dX12_now_93 ?_
      refine go_callVp_i (as := [vi 1]) (S := []) (b := 214) (ev_X12_who (m := (wr m 214 0 0)) (v := 1) (G := G) (d := d) (st := st) (by first | exact hb | exact hb.w (by decide) | exact (hb.w (by decide)).w (by decide)) (by first | assumption | omega | exact ⟨by omega, by omega⟩ | (constructor <;> omega)) (by first | assumption | omega | exact ⟨by omega, by omega⟩ | (constructor <;> omega))) rfl dX12_now_94 cv_12_267 rfl rfl ob_214 rfl (by decide) (Nat.le_of_ble_eq_true rfl) (fun r_94 hr_94 ho_94 => ?_)
      exact go_ret (v := r_94) rfl dX12_now_97 (okI ⟨by omega, by omega⟩) ⟨rfl, by rw [if_neg (by omega), if_neg (by omega), if_neg (by omega), if_neg (by omega), if_neg (by omega), if_pos (by omega), hr_94]; exact congrFun (congrArg (comeN 0) (by funext p; unfold whP; first | (rw [if_pos rfl]; done) | (rw [if_neg (by decide), if_pos rfl]; done) | (rw [if_neg (by decide), if_neg (by decide)]; done))) _⟩
    | 6, h_6, hb_6 =>
      refine ⟨92, 98, rfl, by decide, ?_⟩
      refine go_aload_n dX12_now_98 rfl ?_
      refine go_iconst dX12_now_99 ?_
      refine go_callVp_i (as := [vi 2]) (S := []) (b := 214) (ev_X12_who (m := (wr m 214 0 0)) (v := 2) (G := G) (d := d) (st := st) (by first | exact hb | exact hb.w (by decide) | exact (hb.w (by decide)).w (by decide)) (by first | assumption | omega | exact ⟨by omega, by omega⟩ | (constructor <;> omega)) (by first | assumption | omega | exact ⟨by omega, by omega⟩ | (constructor <;> omega))) rfl dX12_now_100 cv_12_267 rfl rfl ob_214 rfl (by decide) (Nat.le_of_ble_eq_true rfl) (fun r_100 hr_100 ho_100 => ?_)
      exact go_ret (v := r_100) rfl dX12_now_103 (okI ⟨by omega, by omega⟩) ⟨rfl, by rw [if_neg (by omega), if_neg (by omega), if_neg (by omega), if_neg (by omega), if_neg (by omega), if_neg (by omega), if_pos (by omega), hr_100]; exact congrFun (congrArg (comeN 0) (by funext p; unfold whP; first | (rw [if_pos rfl]; done) | (rw [if_neg (by decide), if_pos rfl]; done) | (rw [if_neg (by decide), if_neg (by decide)]; done))) _⟩
    | 7, h_6, hb_6 =>
      refine ⟨98, 104, rfl, by decide, ?_⟩
      refine go_aload_n dX12_now_104 rfl ?_
      refine go_sipush dX12_now_105 (by decide) ?_
      refine go_iconst dX12_now_108 ?_
      refine go_callVp_i (as := [vi 136, vi 5]) (S := []) (b := 214) (ev_X12_sum (m := (wr m 214 0 0)) (a := 136) (n := 5) (by first | assumption | omega | exact ⟨by omega, by omega⟩ | (constructor <;> omega)) (by first | assumption | omega | exact ⟨by omega, by omega⟩ | (constructor <;> omega)) (fun j a b => by rw [e216]; by_cases q : j < G d 3; (rw [hb.br a q]; have := hsp j a q; have := hdp j a q; omega); (rw [hb.zr (by omega) b]; omega))) rfl dX12_now_109 cv_12_263 rfl rfl ob_214 rfl (by decide) (Nat.le_of_ble_eq_true rfl) (fun r_109 hr_109 ho_109 => ?_)
      exact go_ret (v := r_109) rfl dX12_now_112 (okI ⟨by omega, by omega⟩) ⟨rfl, by rw [if_neg (by omega), if_neg (by omega), if_neg (by omega), if_neg (by omega), if_neg (by omega), if_neg (by omega), if_neg (by omega), if_pos (by omega), hr_109]; exact s7⟩
    | k + 8, h_6, hb_6 => exfalso; omega
  · refine go_iconst dX12_now_113 ?_
    exact go_ret (v := (-1)) rfl dX12_now_114 (okI ⟨by omega, by omega⟩) ⟨rfl, by rw [if_neg (by omega), if_neg (by omega), if_neg (by omega), if_neg (by omega), if_neg (by omega), if_neg (by omega), if_neg (by omega), if_neg (by omega)] <;> first | rfl | omega⟩
