def imW (k : Int) : Nat := 164 + 24 * k.toNat
theorem isWd_im {k : Int} (h0 : 0 ≤ k) (h1 : k < 2) : isWd (imW k) (imW k + 1) (imW k + 11) := by
  have : k = 0 ∨ k = 1 := by omega
  rcases this with rfl | rfl
  · exact isWd_164
  · exact isWd_188
theorem sp163 : ∀ k : Nat, k < 2 → sp 163 k = 164 + 24 * k := by decide +kernel
theorem sp163i {k : Int} (h0 : 0 ≤ k) (h1 : k < 2) : sp 163 k.toNat = imW k := sp163 _ (by omega)
theorem imW_b {k : Int} (h0 : 0 ≤ k) (h1 : k < 2) : 164 ≤ imW k ∧ imW k + 24 ≤ 212 := by unfold imW; omega
def cpW (m : Mem) (d od st os : Nat) : Mem := rows (rows (rows m d od 10) st os 8) (st + 8) (os + 8) 4
theorem iand1_R (x : Int) : 0 ≤ iand x 1 ∧ iand x 1 ≤ 1 := by
  unfold iand
  generalize Int32.ofInt x = y
  have h : (y &&& (1 : Int32)).toInt = (y.toBitVec &&& 1#32).toInt := rfl
  have h2 : (y.toBitVec &&& 1#32).toNat = y.toBitVec.toNat % 2 := by
    rw [BitVec.toNat_and]
    exact Nat.and_one_is_mod _
  have h3 : (y.toBitVec &&& 1#32).toInt = ((y.toBitVec &&& 1#32).toNat : Int) := BitVec.toInt_eq_toNat_of_lt (by rw [h2]; omega)
  rw [show Int32.ofInt 1 = (1 : Int32) from rfl, h, h3, h2]
  omega
def tr20 (m : Mem) (x : Int) : Mem := hoursC (wr (rows m 32 18 8) 31 3 x) 31 8 32 (min 20 (400 - m 18 0)).toNat
def oddsN (m : Mem) (p q seed : Int) : Nat → Int
  | 0 => 0
  | k + 1 => oddsN m p q seed k + iand (ishr (tr20 m (w32 (seed + (k : Int))) 38 p) q) 1
theorem oddsN_s {m : Mem} {p q seed k : Int} (h : 0 ≤ k) : oddsN m p q seed (k + 1).toNat = oddsN m p q seed k.toNat + iand (ishr (tr20 m (w32 (seed + k)) 38 p) q) 1 := by
  rw [show (k + 1).toNat = k.toNat + 1 by omega]
  show _ + iand (ishr (tr20 m (w32 (seed + (k.toNat : Int))) 38 p) q) 1 = _
  rw [Int.toNat_of_nonneg h]
theorem oddsN_b (m : Mem) (p q seed : Int) (n : Nat) : 0 ≤ oddsN m p q seed n ∧ oddsN m p q seed n ≤ n := by
  induction n with
  | zero => simp [oddsN]
  | succ n ih =>
    have := iand1_R (ishr (tr20 m (w32 (seed + (n : Int))) 38 p) q)
    show 0 ≤ oddsN m p q seed n + _ ∧ oddsN m p q seed n + _ ≤ _
    omega
/-- memories that differ in the trial alone -/
def TrEq (m m' : Mem) : Prop := FrW m m' 31 32 ∧ ∀ j : Int, j ≠ 3 → m' 31 j = m 31 j
theorem TrEq.rf {m : Mem} : TrEq m m := ⟨FrW.rf, fun _ _ => rfl⟩
theorem TrEq.cp {m m' : Mem} (h : TrEq m m') (x : Int) : wr (rows m' 32 18 8) 31 3 x = wr (rows m 32 18 8) 31 3 x := by
  funext b j
  by_cases hb : b = 31
  · subst hb
    by_cases hj : j = 3
    · subst hj; rw [wr_self, wr_self]
    · rw [wr_ni hj, wr_ni hj, rows_out (by omega), rows_out (by omega), h.2 j hj]
  · rw [wr_na hb, wr_na hb]
    by_cases h2 : 32 ≤ b ∧ b < 40
    · obtain ⟨k, rfl⟩ : ∃ k : Nat, b = 32 + k := ⟨b - 32, by omega⟩
      rw [rows_in (by omega), rows_in (by omega), h.1 _ (by omega) (by omega)]
    · rw [rows_out (by omega), rows_out (by omega), h.1 _ hb (by omega)]
theorem hoursC_31 {m : Mem} {w d st : Nat} (hw : w < st) (n : Nat) : ∀ j : Int, j ≠ 3 → hoursC m w d st n w j = m w j := by
  have a1 : ∀ (X : Mem) (p : Int) (j : Int), j ≠ 3 → actC X w d st p w j = X w j := by
    intro X p j hj
    have d0 : ∀ Z : Mem, drw Z w w j = Z w j := fun Z => wr_ni hj
    unfold actC
    repeat' split
    · rw [sayIf_fr w (by omega), d0, d0]
    · rw [d0]
    · rw [kickIf_fr w (by omega), d0, d0]
    · rw [restIf_fr w (by omega), d0]
    · rw [d0]
  have a2 : ∀ (k : Nat) (X : Mem) (j : Int), j ≠ 3 → actsC X w d st k w j = X w j := by
    intro k
    induction k with
    | zero => intro X j _; rfl
    | succ k ih => intro X j hj; show actC _ w d st _ w j = _; rw [a1 _ _ j hj, ih X j hj]
  induction n with
  | zero => intro j _; rfl
  | succ n ih =>
    intro j hj
    show passC _ d st 1 w j = _
    rw [passC_fr w (by omega), a2 _ _ j hj, ih j hj]
theorem tr20_eq (m : Mem) (x : Int) : TrEq m (tr20 m x) := by
  refine ⟨fun b h1 h2 => ?_, fun j hj => ?_⟩
  · unfold tr20
    rw [hoursC_fr _ b h1 h2, wr_row h1, rows_out (by omega)]
  · unfold tr20
    rw [hoursC_31 (by omega) _ j hj, wr_ni hj, rows_out (by omega)]
def putC (m : Mem) (x : Int) : Mem := fun b j => if b = 1 ∧ j = 1 then m 1 1 + 4 else if b = 2 ∧ m 1 1 ≤ j ∧ j < m 1 1 + 4 then Int.bmod (iushr x (24 - 8 * (j - m 1 1))) 256 else m b j
theorem bm256 (x : Int) : -128 ≤ Int.bmod x 256 ∧ Int.bmod x 256 < 128 := by
  have h1 := @Int.bmod_lt x 256 (by decide)
  have h2 := @Int.le_bmod x 256 (by decide)
  omega
def mstN (c : Int → Int) : Nat → Int
  | 0 => 0
  | n + 1 => if c (mstN c n) < c ((n : Int) + 1) then (n : Int) + 1 else mstN c n
theorem mstN_b (c : Int → Int) (n : Nat) : 0 ≤ mstN c n ∧ mstN c n ≤ n := by
  induction n with
  | zero => simp [mstN]
  | succ n ih => simp only [mstN]; split <;> omega
theorem mstN_s {c : Int → Int} {p : Int} (h : 1 ≤ p) : mstN c p.toNat = if c (mstN c (p - 1).toNat) < c p then p else mstN c (p - 1).toNat := by
  obtain ⟨n, rfl⟩ : ∃ n : Nat, p = (n : Int) + 1 := ⟨(p - 1).toNat, by omega⟩
  rw [show ((n : Int) + 1).toNat = n + 1 by omega, show ((n : Int) + 1 - 1).toNat = n by omega]
  rfl

theorem dX7_put_0 : decode mX7_put.2.1 0 = .ok (.bipush 24, 2) := by decide +kernel
theorem dX7_put_2 : decode mX7_put.2.1 2 = .ok (.istore_n 2, 1) := by decide +kernel
theorem dX7_put_3 : decode mX7_put.2.1 3 = .ok (.iload_n 2, 1) := by decide +kernel
theorem dX7_put_4 : decode mX7_put.2.1 4 = .ok (.ifCond .lt 44, 3) := by decide +kernel
theorem dX7_put_7 : decode mX7_put.2.1 7 = .ok (.aload_n 0, 1) := by decide +kernel
theorem dX7_put_8 : decode mX7_put.2.1 8 = .ok (.getfield 15, 3) := by decide +kernel
theorem dX7_put_11 : decode mX7_put.2.1 11 = .ok (.aload_n 0, 1) := by decide +kernel
theorem dX7_put_12 : decode mX7_put.2.1 12 = .ok (.getfield 9, 3) := by decide +kernel
theorem dX7_put_15 : decode mX7_put.2.1 15 = .ok (.arraylength, 1) := by decide +kernel
theorem dX7_put_16 : decode mX7_put.2.1 16 = .ok (.if_icmp .ge 26, 3) := by decide +kernel
theorem dX7_put_19 : decode mX7_put.2.1 19 = .ok (.aload_n 0, 1) := by decide +kernel
theorem dX7_put_20 : decode mX7_put.2.1 20 = .ok (.getfield 9, 3) := by decide +kernel
theorem dX7_put_23 : decode mX7_put.2.1 23 = .ok (.aload_n 0, 1) := by decide +kernel
theorem dX7_put_24 : decode mX7_put.2.1 24 = .ok (.getfield 15, 3) := by decide +kernel
theorem dX7_put_27 : decode mX7_put.2.1 27 = .ok (.iload_n 1, 1) := by decide +kernel
theorem dX7_put_28 : decode mX7_put.2.1 28 = .ok (.iload_n 2, 1) := by decide +kernel
theorem dX7_put_29 : decode mX7_put.2.1 29 = .ok (.iushr, 1) := by decide +kernel
theorem dX7_put_30 : decode mX7_put.2.1 30 = .ok (.i2b, 1) := by decide +kernel
theorem dX7_put_31 : decode mX7_put.2.1 31 = .ok (.bastore, 1) := by decide +kernel
theorem dX7_put_32 : decode mX7_put.2.1 32 = .ok (.aload_n 0, 1) := by decide +kernel
theorem dX7_put_33 : decode mX7_put.2.1 33 = .ok (.dup, 1) := by decide +kernel
theorem dX7_put_34 : decode mX7_put.2.1 34 = .ok (.getfield 15, 3) := by decide +kernel
theorem dX7_put_37 : decode mX7_put.2.1 37 = .ok (.iconst 1, 1) := by decide +kernel
theorem dX7_put_38 : decode mX7_put.2.1 38 = .ok (.iadd, 1) := by decide +kernel
theorem dX7_put_39 : decode mX7_put.2.1 39 = .ok (.putfield 15, 3) := by decide +kernel
theorem dX7_put_42 : decode mX7_put.2.1 42 = .ok (.iinc 2 (-8), 3) := by decide +kernel
theorem dX7_put_45 : decode mX7_put.2.1 45 = .ok (.goto (-42), 3) := by decide +kernel
theorem dX7_put_48 : decode mX7_put.2.1 48 = .ok (.return_, 1) := by decide +kernel
set_option maxRecDepth 4000 in
theorem ev_X7_put {m : Mem} {x : Int} (hx : InR x) (hn : 0 ≤ m 1 1 ∧ m 1 1 + 4 ≤ 940) : Ev 0 1 mX7_put [vr 1, vi x] m (fun r m' => m' = putC m x) := by
  refine Ev.of (L := [vr 1, vi x, un]) (by decide +kernel) rfl (Nat.le_of_ble_eq_true rfl) rfl (fun t ht => by cases ht) (fun hcan => ?_)
  refine go_bipush dX7_put_0 (by decide) ?_
  refine go_istore_n (L' := [vr 1, vi x, vi 24]) dX7_put_2 (by decide) rfl rfl ?_
  refine go_iload_n dX7_put_3 rfl ?_
  refine go_if_lt (tgt := 48) dX7_put_4 (by decide) ⟨by omega, by omega⟩ (fun h_4 => ?_) (fun h_4 => ?_)
  · exfalso; omega
  · refine go_aload_n dX7_put_7 rfl ?_
    refine go_getf_i (ki := 1) dX7_put_8 fl_7_15 ob_1 rfl rfl (fun hf_8 => ?_)
    refine go_aload_n dX7_put_11 rfl ?_
    refine go_getf_p (b := 2) dX7_put_12 fl_7_9 ob_1 rfl pt_1_0 ?_
    refine go_alen (x := 940) dX7_put_15 ar_2 (by decide) rfl ?_
    refine go_icmp_ge (tgt := 42) dX7_put_16 (by decide) ⟨by omega, by omega⟩ ⟨by omega, by omega⟩ (fun h_16 => ?_) (fun h_16 => ?_)
    · exfalso; omega
    · refine go_aload_n dX7_put_19 rfl ?_
      refine go_getf_p (b := 2) dX7_put_20 fl_7_9 ob_1 rfl pt_1_0 ?_
      refine go_aload_n dX7_put_23 rfl ?_
      refine go_getf_i (ki := 1) dX7_put_24 fl_7_15 ob_1 rfl rfl (fun hf_24 => ?_)
      refine go_iload_n dX7_put_27 rfl ?_
      refine go_iload_n dX7_put_28 rfl ?_
      refine go_iushr dX7_put_29 ?_
      refine go_i2b dX7_put_30 ?_
      refine go_bastore dX7_put_31 ar_2 (by omega) (by omega) (bm256 _) ?_
      refine go_aload_n dX7_put_32 rfl ?_
      refine go_dup_r dX7_put_33 ?_
      refine go_getf_i (ki := 1) dX7_put_34 fl_7_15 ob_1 rfl rfl (fun hf_34 => ?_)
      rw [show ((wr m 2 (m 1 1) (Int.bmod (iushr x 24) 256)) 1 1 : Int) = (m 1 1) from by rw [wr_na (by omega)]] at hf_34 ⊢
      refine go_iconst dX7_put_37 ?_
      refine go_iadd dX7_put_38 ?_
      refine go_putf_i (ki := 1) dX7_put_39 fw_7_15 ob_1 rfl rfl ⟨by omega, by omega⟩ ?_
      refine go_iinc (L' := [vr 1, vi x, vi 16]) dX7_put_42 rfl (by decide) rfl rfl ?_
      refine go_goto (tgt := 3) dX7_put_45 (by decide) ?_
      refine go_iload_n dX7_put_3 rfl ?_
      refine go_if_lt (tgt := 48) dX7_put_4 (by decide) ⟨by omega, by omega⟩ (fun h_4 => ?_) (fun h_4 => ?_)
      · exfalso; omega
      · refine go_aload_n dX7_put_7 rfl ?_
        refine go_getf_i (ki := 1) dX7_put_8 fl_7_15 ob_1 rfl rfl (fun hf_8 => ?_)
        rw [show ((wr (wr m 2 (m 1 1) (Int.bmod (iushr x 24) 256)) 1 1 ((m 1 1) + 1)) 1 1 : Int) = ((m 1 1) + 1) from by rw [wr_self]] at hf_8 ⊢
        refine go_aload_n dX7_put_11 rfl ?_
        refine go_getf_p (b := 2) dX7_put_12 fl_7_9 ob_1 rfl pt_1_0 ?_
        refine go_alen (x := 940) dX7_put_15 ar_2 (by decide) rfl ?_
        refine go_icmp_ge (tgt := 42) dX7_put_16 (by decide) ⟨by omega, by omega⟩ ⟨by omega, by omega⟩ (fun h_16 => ?_) (fun h_16 => ?_)
        · exfalso; omega
        · refine go_aload_n dX7_put_19 rfl ?_
          refine go_getf_p (b := 2) dX7_put_20 fl_7_9 ob_1 rfl pt_1_0 ?_
          refine go_aload_n dX7_put_23 rfl ?_
          refine go_getf_i (ki := 1) dX7_put_24 fl_7_15 ob_1 rfl rfl (fun hf_24 => ?_)
          rw [show ((wr (wr m 2 (m 1 1) (Int.bmod (iushr x 24) 256)) 1 1 ((m 1 1) + 1)) 1 1 : Int) = ((m 1 1) + 1) from by rw [wr_self]] at hf_24 ⊢
          refine go_iload_n dX7_put_27 rfl ?_
          refine go_iload_n dX7_put_28 rfl ?_
          refine go_iushr dX7_put_29 ?_
          refine go_i2b dX7_put_30 ?_
          refine go_bastore dX7_put_31 ar_2 (by omega) (by omega) (bm256 _) ?_
          refine go_aload_n dX7_put_32 rfl ?_
          refine go_dup_r dX7_put_33 ?_
          refine go_getf_i (ki := 1) dX7_put_34 fl_7_15 ob_1 rfl rfl (fun hf_34 => ?_)
          rw [show ((wr (wr (wr m 2 (m 1 1) (Int.bmod (iushr x 24) 256)) 1 1 ((m 1 1) + 1)) 2 ((m 1 1) + 1) (Int.bmod (iushr x 16) 256)) 1 1 : Int) = ((m 1 1) + 1) from by rw [wr_na (by omega), wr_self]] at hf_34 ⊢
          refine go_iconst dX7_put_37 ?_
          refine go_iadd dX7_put_38 ?_
          refine go_putf_i (ki := 1) dX7_put_39 fw_7_15 ob_1 rfl rfl ⟨by omega, by omega⟩ ?_
          refine go_iinc (L' := [vr 1, vi x, vi 8]) dX7_put_42 rfl (by decide) rfl rfl ?_
          refine go_goto (tgt := 3) dX7_put_45 (by decide) ?_
          refine go_iload_n dX7_put_3 rfl ?_
          refine go_if_lt (tgt := 48) dX7_put_4 (by decide) ⟨by omega, by omega⟩ (fun h_4 => ?_) (fun h_4 => ?_)
          · exfalso; omega
          · refine go_aload_n dX7_put_7 rfl ?_
            refine go_getf_i (ki := 1) dX7_put_8 fl_7_15 ob_1 rfl rfl (fun hf_8 => ?_)
            rw [show ((wr (wr (wr (wr m 2 (m 1 1) (Int.bmod (iushr x 24) 256)) 1 1 ((m 1 1) + 1)) 2 ((m 1 1) + 1) (Int.bmod (iushr x 16) 256)) 1 1 (((m 1 1) + 1) + 1)) 1 1 : Int) = (((m 1 1) + 1) + 1) from by rw [wr_self]] at hf_8 ⊢
            refine go_aload_n dX7_put_11 rfl ?_
            refine go_getf_p (b := 2) dX7_put_12 fl_7_9 ob_1 rfl pt_1_0 ?_
            refine go_alen (x := 940) dX7_put_15 ar_2 (by decide) rfl ?_
            refine go_icmp_ge (tgt := 42) dX7_put_16 (by decide) ⟨by omega, by omega⟩ ⟨by omega, by omega⟩ (fun h_16 => ?_) (fun h_16 => ?_)
            · exfalso; omega
            · refine go_aload_n dX7_put_19 rfl ?_
              refine go_getf_p (b := 2) dX7_put_20 fl_7_9 ob_1 rfl pt_1_0 ?_
              refine go_aload_n dX7_put_23 rfl ?_
              refine go_getf_i (ki := 1) dX7_put_24 fl_7_15 ob_1 rfl rfl (fun hf_24 => ?_)
              rw [show ((wr (wr (wr (wr m 2 (m 1 1) (Int.bmod (iushr x 24) 256)) 1 1 ((m 1 1) + 1)) 2 ((m 1 1) + 1) (Int.bmod (iushr x 16) 256)) 1 1 (((m 1 1) + 1) + 1)) 1 1 : Int) = (((m 1 1) + 1) + 1) from by rw [wr_self]] at hf_24 ⊢
              refine go_iload_n dX7_put_27 rfl ?_
              refine go_iload_n dX7_put_28 rfl ?_
              refine go_iushr dX7_put_29 ?_
              refine go_i2b dX7_put_30 ?_
              refine go_bastore dX7_put_31 ar_2 (by omega) (by omega) (bm256 _) ?_
              refine go_aload_n dX7_put_32 rfl ?_
              refine go_dup_r dX7_put_33 ?_
              refine go_getf_i (ki := 1) dX7_put_34 fl_7_15 ob_1 rfl rfl (fun hf_34 => ?_)
              rw [show ((wr (wr (wr (wr (wr m 2 (m 1 1) (Int.bmod (iushr x 24) 256)) 1 1 ((m 1 1) + 1)) 2 ((m 1 1) + 1) (Int.bmod (iushr x 16) 256)) 1 1 (((m 1 1) + 1) + 1)) 2 (((m 1 1) + 1) + 1) (Int.bmod (iushr x 8) 256)) 1 1 : Int) = (((m 1 1) + 1) + 1) from by rw [wr_na (by omega), wr_self]] at hf_34 ⊢
              refine go_iconst dX7_put_37 ?_
              refine go_iadd dX7_put_38 ?_
              refine go_putf_i (ki := 1) dX7_put_39 fw_7_15 ob_1 rfl rfl ⟨by omega, by omega⟩ ?_
              refine go_iinc (L' := [vr 1, vi x, vi 0]) dX7_put_42 rfl (by decide) rfl rfl ?_
              refine go_goto (tgt := 3) dX7_put_45 (by decide) ?_
              refine go_iload_n dX7_put_3 rfl ?_
              refine go_if_lt (tgt := 48) dX7_put_4 (by decide) ⟨by omega, by omega⟩ (fun h_4 => ?_) (fun h_4 => ?_)
              · exfalso; omega
              · refine go_aload_n dX7_put_7 rfl ?_
                refine go_getf_i (ki := 1) dX7_put_8 fl_7_15 ob_1 rfl rfl (fun hf_8 => ?_)
                rw [show ((wr (wr (wr (wr (wr (wr m 2 (m 1 1) (Int.bmod (iushr x 24) 256)) 1 1 ((m 1 1) + 1)) 2 ((m 1 1) + 1) (Int.bmod (iushr x 16) 256)) 1 1 (((m 1 1) + 1) + 1)) 2 (((m 1 1) + 1) + 1) (Int.bmod (iushr x 8) 256)) 1 1 ((((m 1 1) + 1) + 1) + 1)) 1 1 : Int) = ((((m 1 1) + 1) + 1) + 1) from by rw [wr_self]] at hf_8 ⊢
                refine go_aload_n dX7_put_11 rfl ?_
                refine go_getf_p (b := 2) dX7_put_12 fl_7_9 ob_1 rfl pt_1_0 ?_
                refine go_alen (x := 940) dX7_put_15 ar_2 (by decide) rfl ?_
                refine go_icmp_ge (tgt := 42) dX7_put_16 (by decide) ⟨by omega, by omega⟩ ⟨by omega, by omega⟩ (fun h_16 => ?_) (fun h_16 => ?_)
                · exfalso; omega
                · refine go_aload_n dX7_put_19 rfl ?_
                  refine go_getf_p (b := 2) dX7_put_20 fl_7_9 ob_1 rfl pt_1_0 ?_
                  refine go_aload_n dX7_put_23 rfl ?_
                  refine go_getf_i (ki := 1) dX7_put_24 fl_7_15 ob_1 rfl rfl (fun hf_24 => ?_)
                  rw [show ((wr (wr (wr (wr (wr (wr m 2 (m 1 1) (Int.bmod (iushr x 24) 256)) 1 1 ((m 1 1) + 1)) 2 ((m 1 1) + 1) (Int.bmod (iushr x 16) 256)) 1 1 (((m 1 1) + 1) + 1)) 2 (((m 1 1) + 1) + 1) (Int.bmod (iushr x 8) 256)) 1 1 ((((m 1 1) + 1) + 1) + 1)) 1 1 : Int) = ((((m 1 1) + 1) + 1) + 1) from by rw [wr_self]] at hf_24 ⊢
                  refine go_iload_n dX7_put_27 rfl ?_
                  refine go_iload_n dX7_put_28 rfl ?_
                  refine go_iushr dX7_put_29 ?_
                  refine go_i2b dX7_put_30 ?_
                  refine go_bastore dX7_put_31 ar_2 (by omega) (by omega) (bm256 _) ?_
                  refine go_aload_n dX7_put_32 rfl ?_
                  refine go_dup_r dX7_put_33 ?_
                  refine go_getf_i (ki := 1) dX7_put_34 fl_7_15 ob_1 rfl rfl (fun hf_34 => ?_)
                  rw [show ((wr (wr (wr (wr (wr (wr (wr m 2 (m 1 1) (Int.bmod (iushr x 24) 256)) 1 1 ((m 1 1) + 1)) 2 ((m 1 1) + 1) (Int.bmod (iushr x 16) 256)) 1 1 (((m 1 1) + 1) + 1)) 2 (((m 1 1) + 1) + 1) (Int.bmod (iushr x 8) 256)) 1 1 ((((m 1 1) + 1) + 1) + 1)) 2 ((((m 1 1) + 1) + 1) + 1) (Int.bmod (iushr x 0) 256)) 1 1 : Int) = ((((m 1 1) + 1) + 1) + 1) from by rw [wr_na (by omega), wr_self]] at hf_34 ⊢
                  refine go_iconst dX7_put_37 ?_
                  refine go_iadd dX7_put_38 ?_
                  refine go_putf_i (ki := 1) dX7_put_39 fw_7_15 ob_1 rfl rfl ⟨by omega, by omega⟩ ?_
                  refine go_iinc (L' := [vr 1, vi x, vi (-8)]) dX7_put_42 rfl (by decide) rfl rfl ?_
                  refine go_goto (tgt := 3) dX7_put_45 (by decide) ?_
                  refine go_iload_n dX7_put_3 rfl ?_
                  refine go_if_lt (tgt := 48) dX7_put_4 (by decide) ⟨by omega, by omega⟩ (fun h_4 => ?_) (fun h_4 => ?_)
                  · refine go_ret (v := 0) rfl dX7_put_48 rfl ?_
                    funext b j
                    unfold putC
                    by_cases h1 : b = 1 ∧ j = 1
                    · rw [if_pos h1, h1.1, h1.2, wr_self]; omega
                    · rw [if_neg h1]
                      by_cases h2 : b = 2 ∧ m 1 1 ≤ j ∧ j < m 1 1 + 4
                      · rw [if_pos h2]
                        obtain ⟨rfl, h3, h4⟩ := h2
                        have hj : j = m 1 1 ∨ j = m 1 1 + 1 ∨ j = m 1 1 + 2 ∨ j = m 1 1 + 3 := by omega
                        rcases hj with rfl | rfl | rfl | rfl
                        · rw [show 24 - 8 * (m 1 1 - m 1 1) = 24 by omega]; simp (disch := omega) only [wr_na, wr_ni, wr_self]
                        · rw [show 24 - 8 * (m 1 1 + 1 - m 1 1) = 16 by omega]; simp (disch := omega) only [wr_na, wr_ni, wr_self]
                        · rw [show 24 - 8 * (m 1 1 + 2 - m 1 1) = 8 by omega, show m 1 1 + 2 = m 1 1 + 1 + 1 by omega]; simp (disch := omega) only [wr_na, wr_ni, wr_self]
                        · rw [show 24 - 8 * (m 1 1 + 3 - m 1 1) = 0 by omega, show m 1 1 + 3 = m 1 1 + 1 + 1 + 1 by omega]; simp (disch := omega) only [wr_na, wr_ni, wr_self]
                      · rw [if_neg h2]
                        by_cases hb1 : b = 1
                        · subst hb1
                          simp (disch := omega) only [wr_na, wr_ni]
                        · by_cases hb2 : b = 2
                          · subst hb2
                            simp (disch := omega) only [wr_na, wr_ni]
                          · simp (disch := omega) only [wr_na]
                  · exfalso; omega
theorem dX11_feed_0 : decode mX11_feed.2.1 0 = .ok (.aload_n 0, 1) := by decide +kernel
theorem dX11_feed_1 : decode mX11_feed.2.1 1 = .ok (.getfield 12, 3) := by decide +kernel
theorem dX11_feed_4 : decode mX11_feed.2.1 4 = .ok (.getfield 102, 3) := by decide +kernel
theorem dX11_feed_7 : decode mX11_feed.2.1 7 = .ok (.bipush 20, 2) := by decide +kernel
theorem dX11_feed_9 : decode mX11_feed.2.1 9 = .ok (.iadd, 1) := by decide +kernel
theorem dX11_feed_10 : decode mX11_feed.2.1 10 = .ok (.sipush 940, 3) := by decide +kernel
theorem dX11_feed_13 : decode mX11_feed.2.1 13 = .ok (.if_icmp .le 5, 3) := by decide +kernel
theorem dX11_feed_16 : decode mX11_feed.2.1 16 = .ok (.iconst (-1), 1) := by decide +kernel
theorem dX11_feed_17 : decode mX11_feed.2.1 17 = .ok (.ireturn, 1) := by decide +kernel
theorem dX11_feed_18 : decode mX11_feed.2.1 18 = .ok (.aload_n 0, 1) := by decide +kernel
theorem dX11_feed_19 : decode mX11_feed.2.1 19 = .ok (.getfield 12, 3) := by decide +kernel
theorem dX11_feed_22 : decode mX11_feed.2.1 22 = .ok (.iload_n 1, 1) := by decide +kernel
theorem dX11_feed_23 : decode mX11_feed.2.1 23 = .ok (.invokevirtual 105, 3) := by decide +kernel
theorem dX11_feed_26 : decode mX11_feed.2.1 26 = .ok (.aload_n 0, 1) := by decide +kernel
theorem dX11_feed_27 : decode mX11_feed.2.1 27 = .ok (.getfield 12, 3) := by decide +kernel
theorem dX11_feed_30 : decode mX11_feed.2.1 30 = .ok (.iload_n 2, 1) := by decide +kernel
theorem dX11_feed_31 : decode mX11_feed.2.1 31 = .ok (.invokevirtual 105, 3) := by decide +kernel
theorem dX11_feed_34 : decode mX11_feed.2.1 34 = .ok (.aload_n 0, 1) := by decide +kernel
theorem dX11_feed_35 : decode mX11_feed.2.1 35 = .ok (.getfield 12, 3) := by decide +kernel
theorem dX11_feed_38 : decode mX11_feed.2.1 38 = .ok (.iload_n 3, 1) := by decide +kernel
theorem dX11_feed_39 : decode mX11_feed.2.1 39 = .ok (.invokevirtual 105, 3) := by decide +kernel
theorem dX11_feed_42 : decode mX11_feed.2.1 42 = .ok (.aload_n 0, 1) := by decide +kernel
theorem dX11_feed_43 : decode mX11_feed.2.1 43 = .ok (.getfield 12, 3) := by decide +kernel
theorem dX11_feed_46 : decode mX11_feed.2.1 46 = .ok (.iload 4, 2) := by decide +kernel
theorem dX11_feed_48 : decode mX11_feed.2.1 48 = .ok (.invokevirtual 105, 3) := by decide +kernel
theorem dX11_feed_51 : decode mX11_feed.2.1 51 = .ok (.aload_n 0, 1) := by decide +kernel
theorem dX11_feed_52 : decode mX11_feed.2.1 52 = .ok (.getfield 12, 3) := by decide +kernel
theorem dX11_feed_55 : decode mX11_feed.2.1 55 = .ok (.iload 5, 2) := by decide +kernel
theorem dX11_feed_57 : decode mX11_feed.2.1 57 = .ok (.invokevirtual 105, 3) := by decide +kernel
theorem dX11_feed_60 : decode mX11_feed.2.1 60 = .ok (.aload_n 0, 1) := by decide +kernel
theorem dX11_feed_61 : decode mX11_feed.2.1 61 = .ok (.getfield 12, 3) := by decide +kernel
theorem dX11_feed_64 : decode mX11_feed.2.1 64 = .ok (.getfield 102, 3) := by decide +kernel
theorem dX11_feed_67 : decode mX11_feed.2.1 67 = .ok (.ireturn, 1) := by decide +kernel
set_option maxRecDepth 4000 in
theorem ev_X11_feed {m : Mem} {a : Int} {b : Int} {c : Int} {e : Int} {f : Int} (ha : InR a) (hb : InR b) (hc : InR c) (he : InR e) (hf : InR f) (hn : 0 ≤ m 1 1 ∧ m 1 1 ≤ 940) : Ev 0 2 mX11_feed [vr 0, vi a, vi b, vi c, vi e, vi f] m (fun r m' => (m 1 1 + 20 ≤ 940 ∧ r = m 1 1 + 20 ∧ m' = (putC (putC (putC (putC (putC m a) b) c) e) f)) ∨ (¬ m 1 1 + 20 ≤ 940 ∧ r = -1 ∧ m' = m)) := by
  refine Ev.of (L := [vr 0, vi a, vi b, vi c, vi e, vi f]) (by decide +kernel) rfl (Nat.le_of_ble_eq_true rfl) rfl (fun t ht => by cases ht; first | exact Or.inl rfl | exact Or.inr (Or.inl rfl) | exact Or.inr (Or.inr rfl)) (fun hcan => ?_)
  have e1 : ∀ (X : Mem) (z : Int), putC X z 1 1 = X 1 1 + 4 := fun X z => by unfold putC; rw [if_pos ⟨rfl, rfl⟩]
  refine go_aload_n dX11_feed_0 rfl ?_
  refine go_getf_p (b := 1) dX11_feed_1 fl_11_12 ob_0 rfl pt_0_0 ?_
  refine go_getf_i (ki := 1) dX11_feed_4 fl_11_102 ob_1 rfl rfl (fun hf_4 => ?_)
  refine go_bipush dX11_feed_7 (by decide) ?_
  refine go_iadd dX11_feed_9 ?_
  refine go_sipush dX11_feed_10 (by decide) ?_
  refine go_icmp_le (tgt := 18) dX11_feed_13 (by decide) ⟨by omega, by omega⟩ ⟨by omega, by omega⟩ (fun h_13 => ?_) (fun h_13 => ?_)
  · refine go_aload_n dX11_feed_18 rfl ?_
    refine go_getf_p (b := 1) dX11_feed_19 fl_11_12 ob_0 rfl pt_0_0 ?_
    refine go_iload_n dX11_feed_22 rfl ?_
    refine go_callV_v (as := [vi a]) (S := []) (b := 1) (ev_X7_put (m := m) (x := a) (by first | assumption | omega | exact ⟨by omega, by omega⟩ | (constructor <;> omega)) (by first | assumption | omega | exact ⟨by omega, by omega⟩ | (constructor <;> omega))) rfl dX11_feed_23 cv_11_105 rfl rfl ob_1 rfl (by decide) (Nat.le_of_ble_eq_true rfl) (fun m_23 hr_23 => ?_)
    subst hr_23
    refine go_aload_n dX11_feed_26 rfl ?_
    refine go_getf_p (b := 1) dX11_feed_27 fl_11_12 ob_0 rfl pt_0_0 ?_
    refine go_iload_n dX11_feed_30 rfl ?_
    refine go_callV_v (as := [vi b]) (S := []) (b := 1) (ev_X7_put (m := (putC m a)) (x := b) (by first | assumption | omega | exact ⟨by omega, by omega⟩ | (constructor <;> omega)) (by rw [e1]; omega)) rfl dX11_feed_31 cv_11_105 rfl rfl ob_1 rfl (by decide) (Nat.le_of_ble_eq_true rfl) (fun m_31 hr_31 => ?_)
    subst hr_31
    refine go_aload_n dX11_feed_34 rfl ?_
    refine go_getf_p (b := 1) dX11_feed_35 fl_11_12 ob_0 rfl pt_0_0 ?_
    refine go_iload_n dX11_feed_38 rfl ?_
    refine go_callV_v (as := [vi c]) (S := []) (b := 1) (ev_X7_put (m := (putC (putC m a) b)) (x := c) (by first | assumption | omega | exact ⟨by omega, by omega⟩ | (constructor <;> omega)) (by rw [e1, e1]; omega)) rfl dX11_feed_39 cv_11_105 rfl rfl ob_1 rfl (by decide) (Nat.le_of_ble_eq_true rfl) (fun m_39 hr_39 => ?_)
    subst hr_39
    refine go_aload_n dX11_feed_42 rfl ?_
    refine go_getf_p (b := 1) dX11_feed_43 fl_11_12 ob_0 rfl pt_0_0 ?_
    refine go_iload dX11_feed_46 rfl ?_
    refine go_callV_v (as := [vi e]) (S := []) (b := 1) (ev_X7_put (m := (putC (putC (putC m a) b) c)) (x := e) (by first | assumption | omega | exact ⟨by omega, by omega⟩ | (constructor <;> omega)) (by rw [e1, e1, e1]; omega)) rfl dX11_feed_48 cv_11_105 rfl rfl ob_1 rfl (by decide) (Nat.le_of_ble_eq_true rfl) (fun m_48 hr_48 => ?_)
    subst hr_48
    refine go_aload_n dX11_feed_51 rfl ?_
    refine go_getf_p (b := 1) dX11_feed_52 fl_11_12 ob_0 rfl pt_0_0 ?_
    refine go_iload dX11_feed_55 rfl ?_
    refine go_callV_v (as := [vi f]) (S := []) (b := 1) (ev_X7_put (m := (putC (putC (putC (putC m a) b) c) e)) (x := f) (by first | assumption | omega | exact ⟨by omega, by omega⟩ | (constructor <;> omega)) (by rw [e1, e1, e1, e1]; omega)) rfl dX11_feed_57 cv_11_105 rfl rfl ob_1 rfl (by decide) (Nat.le_of_ble_eq_true rfl) (fun m_57 hr_57 => ?_)
    subst hr_57
    refine go_aload_n dX11_feed_60 rfl ?_
    refine go_getf_p (b := 1) dX11_feed_61 fl_11_12 ob_0 rfl pt_0_0 ?_
    refine go_getf_i (ki := 1) dX11_feed_64 fl_11_102 ob_1 rfl rfl (fun hf_64 => ?_)
    rw [show ((putC (putC (putC (putC (putC m a) b) c) e) f) 1 1 : Int) = (m 1 1 + 20) from by rw [e1, e1, e1, e1, e1]; omega] at hf_64 ⊢
    exact go_ret (v := (m 1 1 + 20)) rfl dX11_feed_67 (okI ⟨by omega, by omega⟩) (Or.inl ⟨by omega, rfl, rfl⟩)
  · refine go_iconst dX11_feed_16 ?_
    exact go_ret (v := (-1)) rfl dX11_feed_17 (okI ⟨by omega, by omega⟩) (Or.inr ⟨by omega, rfl, rfl⟩)
theorem dX11_could_0 : decode mX11_could.2.1 0 = .ok (.aload_n 0, 1) := by decide +kernel
theorem dX11_could_1 : decode mX11_could.2.1 1 = .ok (.getfield 24, 3) := by decide +kernel
theorem dX11_could_4 : decode mX11_could.2.1 4 = .ok (.iload_n 1, 1) := by decide +kernel
theorem dX11_could_5 : decode mX11_could.2.1 5 = .ok (.invokevirtual 129, 3) := by decide +kernel
theorem dX11_could_8 : decode mX11_could.2.1 8 = .ok (.ifCond .eq 14, 3) := by decide +kernel
theorem dX11_could_11 : decode mX11_could.2.1 11 = .ok (.aload_n 0, 1) := by decide +kernel
theorem dX11_could_12 : decode mX11_could.2.1 12 = .ok (.getfield 24, 3) := by decide +kernel
theorem dX11_could_15 : decode mX11_could.2.1 15 = .ok (.iload_n 2, 1) := by decide +kernel
theorem dX11_could_16 : decode mX11_could.2.1 16 = .ok (.invokevirtual 164, 3) := by decide +kernel
theorem dX11_could_19 : decode mX11_could.2.1 19 = .ok (.ifCond .ne 5, 3) := by decide +kernel
theorem dX11_could_22 : decode mX11_could.2.1 22 = .ok (.iconst (-1), 1) := by decide +kernel
theorem dX11_could_23 : decode mX11_could.2.1 23 = .ok (.ireturn, 1) := by decide +kernel
theorem dX11_could_24 : decode mX11_could.2.1 24 = .ok (.iconst 0, 1) := by decide +kernel
theorem dX11_could_25 : decode mX11_could.2.1 25 = .ok (.istore_n 3, 1) := by decide +kernel
theorem dX11_could_26 : decode mX11_could.2.1 26 = .ok (.iconst 0, 1) := by decide +kernel
theorem dX11_could_27 : decode mX11_could.2.1 27 = .ok (.istore 4, 2) := by decide +kernel
theorem dX11_could_29 : decode mX11_could.2.1 29 = .ok (.iload 4, 2) := by decide +kernel
theorem dX11_could_31 : decode mX11_could.2.1 31 = .ok (.iconst 4, 1) := by decide +kernel
theorem dX11_could_32 : decode mX11_could.2.1 32 = .ok (.if_icmp .ge 30, 3) := by decide +kernel
theorem dX11_could_35 : decode mX11_could.2.1 35 = .ok (.aload_n 0, 1) := by decide +kernel
theorem dX11_could_36 : decode mX11_could.2.1 36 = .ok (.getfield 24, 3) := by decide +kernel
theorem dX11_could_39 : decode mX11_could.2.1 39 = .ok (.iload_n 1, 1) := by decide +kernel
theorem dX11_could_40 : decode mX11_could.2.1 40 = .ok (.iload_n 2, 1) := by decide +kernel
theorem dX11_could_41 : decode mX11_could.2.1 41 = .ok (.iload 4, 2) := by decide +kernel
theorem dX11_could_43 : decode mX11_could.2.1 43 = .ok (.invokevirtual 236, 3) := by decide +kernel
theorem dX11_could_46 : decode mX11_could.2.1 46 = .ok (.ifCond .ne 10, 3) := by decide +kernel
theorem dX11_could_49 : decode mX11_could.2.1 49 = .ok (.iload_n 3, 1) := by decide +kernel
theorem dX11_could_50 : decode mX11_could.2.1 50 = .ok (.iconst 1, 1) := by decide +kernel
theorem dX11_could_51 : decode mX11_could.2.1 51 = .ok (.iload 4, 2) := by decide +kernel
theorem dX11_could_53 : decode mX11_could.2.1 53 = .ok (.ishl, 1) := by decide +kernel
theorem dX11_could_54 : decode mX11_could.2.1 54 = .ok (.ior, 1) := by decide +kernel
theorem dX11_could_55 : decode mX11_could.2.1 55 = .ok (.istore_n 3, 1) := by decide +kernel
theorem dX11_could_56 : decode mX11_could.2.1 56 = .ok (.iinc 4 1, 3) := by decide +kernel
theorem dX11_could_59 : decode mX11_could.2.1 59 = .ok (.goto (-30), 3) := by decide +kernel
theorem dX11_could_62 : decode mX11_could.2.1 62 = .ok (.iload_n 3, 1) := by decide +kernel
theorem dX11_could_63 : decode mX11_could.2.1 63 = .ok (.ireturn, 1) := by decide +kernel
set_option maxRecDepth 4000 in
theorem ev_X11_could {m : Mem} {p : Int} {f : Int} {B : Int} (hdn : DnOk m 8) (hst : StOk m 8 18 B) (hp : InR p) (hf : InR f) : Ev 0 6 mX11_could [vr 0, vi p, vi f] m (fun r m' => m' = m ∧ (r = if (0 ≤ p ∧ p < m 8 3) ∧ 0 ≤ f ∧ f < m 8 2 then comeN 0 (fun s => decide (whySayC m 8 18 p f s = 0)) 4 else -1)) := by
  refine Ev.of (L := [vr 0, vi p, vi f, un, un]) (by decide +kernel) rfl (Nat.le_of_ble_eq_true rfl) rfl (fun t ht => by cases ht; first | exact Or.inl rfl | exact Or.inr (Or.inl rfl) | exact Or.inr (Or.inr rfl)) (fun hcan => ?_)
  refine go_aload_n dX11_could_0 rfl ?_
  refine go_getf_p (b := 7) dX11_could_1 fl_11_24 ob_0 rfl pt_0_1 ?_
  refine go_iload_n dX11_could_4 rfl ?_
  refine go_callVp_z (as := [vi p]) (S := []) (b := 7) (ev_X10_hasPerson (m := m) (w := 7) (f := p) (d := 8) (st := 18) isWd_7 (by first | assumption | omega | exact ⟨by omega, by omega⟩ | (constructor <;> omega))) rfl dX11_could_5 cv_11_129 rfl rfl ob_7 rfl (by decide) (Nat.le_of_ble_eq_true rfl) (fun r_5 hr_5 ho_5 => ?_)
  refine go_if_eq (tgt := 22) dX11_could_8 (by decide) ⟨by omega, by omega⟩ (fun h_8 => ?_) (fun h_8 => ?_)
  · refine go_iconst dX11_could_22 ?_
    exact go_ret (v := (-1)) rfl dX11_could_23 (okI ⟨by omega, by omega⟩) ⟨rfl, (by first | assumption | rfl | omega)⟩
  · refine go_aload_n dX11_could_11 rfl ?_
    refine go_getf_p (b := 7) dX11_could_12 fl_11_24 ob_0 rfl pt_0_1 ?_
    refine go_iload_n dX11_could_15 rfl ?_
    refine go_callVp_z (as := [vi f]) (S := []) (b := 7) (ev_X10_hasFigure (m := m) (w := 7) (f := f) (d := 8) (st := 18) isWd_7 (by first | assumption | omega | exact ⟨by omega, by omega⟩ | (constructor <;> omega))) rfl dX11_could_16 cv_11_164 rfl rfl ob_7 rfl (by decide) (Nat.le_of_ble_eq_true rfl) (fun r_16 hr_16 ho_16 => ?_)
    refine go_if_ne (tgt := 24) dX11_could_19 (by decide) ⟨by omega, by omega⟩ (fun h_19 => ?_) (fun h_19 => ?_)
    · refine go_iconst dX11_could_24 ?_
      refine go_istore_n (L' := [vr 0, vi p, vi f, vi 0, un]) dX11_could_25 (by decide) rfl rfl ?_
      refine go_iconst dX11_could_26 ?_
      refine go_istore (L' := [vr 0, vi p, vi f, vi 0, vi 0]) dX11_could_27 (by decide) rfl rfl ?_
      have lp_29 : ∀ (n_29 : Nat) (b : Int) (s : Int), (0 ≤ s) → (s ≤ 4) → (b = comeN 0 (fun s => decide (whySayC m 8 18 p f s = 0)) s.toNat) → (4 - s).toNat < n_29 → Go 0 6 mX11_could (fun r m' => m' = m ∧ (r = if (0 ≤ p ∧ p < m 8 3) ∧ 0 ≤ f ∧ f < m 8 2 then comeN 0 (fun s => decide (whySayC m 8 18 p f s = 0)) 4 else -1)) 29 [vr 0, vi p, vi f, vi b, vi s] [] m := by
        intro n_29
        induction n_29 with
        | zero => intro b s hs0 hs1 hb hmu; exact absurd hmu (Nat.not_lt_zero _)
        | succ n_29 ih_29 =>
          intro b s hs0 hs1 hb hmu
          have hbR := comeN_R (P := (fun s => decide (whySayC m 8 18 p f s = 0))) s.toNat
          rw [← hb] at hbR
          refine go_iload dX11_could_29 rfl ?_
          refine go_iconst dX11_could_31 ?_
          refine go_icmp_ge (tgt := 62) dX11_could_32 (by decide) ⟨by omega, by omega⟩ ⟨by omega, by omega⟩ (fun h_32 => ?_) (fun h_32 => ?_)
          · refine go_iload_n dX11_could_62 rfl ?_
            exact go_ret (v := b) rfl dX11_could_63 (okI ⟨by omega, by omega⟩) ⟨rfl, (by rw [if_pos (by omega), hb, show s = 4 by omega]; rfl)⟩
          · refine go_aload_n dX11_could_35 rfl ?_
            refine go_getf_p (b := 7) dX11_could_36 fl_11_24 ob_0 rfl pt_0_1 ?_
            refine go_iload_n dX11_could_39 rfl ?_
            refine go_iload_n dX11_could_40 rfl ?_
            refine go_iload dX11_could_41 rfl ?_
            refine go_callVp_i (as := [vi p, vi f, vi s]) (S := []) (b := 7) (ev_X10_whyNotSay (m := m) (w := 7) (p := p) (f := f) (s := s) (B := B) (d := 8) (st := 18) isWd_7 (by first | assumption | omega | exact ⟨by omega, by omega⟩ | (constructor <;> omega)) (by first | assumption | omega | exact ⟨by omega, by omega⟩ | (constructor <;> omega)) (by first | assumption | omega | exact ⟨by omega, by omega⟩ | (constructor <;> omega)) (by first | assumption | omega | exact ⟨by omega, by omega⟩ | (constructor <;> omega)) (by first | assumption | omega | exact ⟨by omega, by omega⟩ | (constructor <;> omega))) rfl dX11_could_43 cv_11_236 rfl rfl ob_7 rfl (by decide) (Nat.le_of_ble_eq_true rfl) (fun r_43 hr_43 ho_43 => ?_)
            refine go_if_ne (tgt := 56) dX11_could_46 (by decide) ⟨by omega, by omega⟩ (fun h_46 => ?_) (fun h_46 => ?_)
            · refine go_iinc (L' := [vr 0, vi p, vi f, vi b, vi (s + 1)]) dX11_could_56 rfl (by decide) rfl rfl ?_
              refine go_goto (tgt := 29) dX11_could_59 (by decide) ?_
              exact ih_29 b (s + 1) (by first | assumption | omega | rfl) (by first | assumption | omega | rfl) (by rw [comeN_s hs0, ← hb]; rw [hr_43] at h_46; first | rw [if_pos (decide_eq_true h_46)] | rw [if_neg (by rw [decide_eq_true_eq]; exact h_46)]) (by omega)
            · refine go_iload_n dX11_could_49 rfl ?_
              refine go_iconst dX11_could_50 ?_
              refine go_iload dX11_could_51 rfl ?_
              refine go_ishl dX11_could_53 ?_
              refine go_ior dX11_could_54 ?_
              refine go_istore_n (L' := [vr 0, vi p, vi f, vi (ior b (ishl 1 s)), vi s]) dX11_could_55 (by decide) rfl rfl ?_
              refine go_iinc (L' := [vr 0, vi p, vi f, vi (ior b (ishl 1 s)), vi (s + 1)]) dX11_could_56 rfl (by decide) rfl rfl ?_
              refine go_goto (tgt := 29) dX11_could_59 (by decide) ?_
              exact ih_29 (ior b (ishl 1 s)) (s + 1) (by first | assumption | omega | rfl) (by first | assumption | omega | rfl) (by rw [comeN_s hs0, ← hb]; rw [hr_43] at h_46; first | rw [if_pos (decide_eq_true h_46)] | rw [if_neg (by rw [decide_eq_true_eq]; exact h_46)]) (by omega)
      exact lp_29 _ 0 0 (by first | assumption | omega | rfl) (by first | assumption | omega | rfl) rfl (Nat.lt_succ_self _)
    · refine go_iconst dX11_could_22 ?_
      exact go_ret (v := (-1)) rfl dX11_could_23 (okI ⟨by omega, by omega⟩) ⟨rfl, (by first | assumption | rfl | omega)⟩
theorem dX11_drawn_0 : decode mX11_drawn.2.1 0 = .ok (.iload_n 1, 1) := by decide +kernel
theorem dX11_drawn_1 : decode mX11_drawn.2.1 1 = .ok (.iconst 1, 1) := by decide +kernel
theorem dX11_drawn_2 : decode mX11_drawn.2.1 2 = .ok (.bipush 60, 2) := by decide +kernel
theorem dX11_drawn_4 : decode mX11_drawn.2.1 4 = .ok (.invokestatic 261, 3) := by decide +kernel
theorem dX11_drawn_7 : decode mX11_drawn.2.1 7 = .ok (.ifCond .ne 5, 3) := by decide +kernel
theorem dX11_drawn_10 : decode mX11_drawn.2.1 10 = .ok (.iconst (-1), 1) := by decide +kernel
theorem dX11_drawn_11 : decode mX11_drawn.2.1 11 = .ok (.ireturn, 1) := by decide +kernel
theorem dX11_drawn_12 : decode mX11_drawn.2.1 12 = .ok (.iload_n 1, 1) := by decide +kernel
theorem dX11_drawn_13 : decode mX11_drawn.2.1 13 = .ok (.aload_n 0, 1) := by decide +kernel
theorem dX11_drawn_14 : decode mX11_drawn.2.1 14 = .ok (.getfield 24, 3) := by decide +kernel
theorem dX11_drawn_17 : decode mX11_drawn.2.1 17 = .ok (.invokevirtual 265, 3) := by decide +kernel
theorem dX11_drawn_20 : decode mX11_drawn.2.1 20 = .ok (.invokestatic 268, 3) := by decide +kernel
theorem dX11_drawn_23 : decode mX11_drawn.2.1 23 = .ok (.istore_n 3, 1) := by decide +kernel
theorem dX11_drawn_24 : decode mX11_drawn.2.1 24 = .ok (.iload_n 3, 1) := by decide +kernel
theorem dX11_drawn_25 : decode mX11_drawn.2.1 25 = .ok (.ifCond .le 26, 3) := by decide +kernel
theorem dX11_drawn_28 : decode mX11_drawn.2.1 28 = .ok (.aload_n 0, 1) := by decide +kernel
theorem dX11_drawn_29 : decode mX11_drawn.2.1 29 = .ok (.getfield 82, 3) := by decide +kernel
theorem dX11_drawn_32 : decode mX11_drawn.2.1 32 = .ok (.aload_n 0, 1) := by decide +kernel
theorem dX11_drawn_33 : decode mX11_drawn.2.1 33 = .ok (.getfield 24, 3) := by decide +kernel
theorem dX11_drawn_36 : decode mX11_drawn.2.1 36 = .ok (.getfield 136, 3) := by decide +kernel
theorem dX11_drawn_39 : decode mX11_drawn.2.1 39 = .ok (.invokevirtual 240, 3) := by decide +kernel
theorem dX11_drawn_42 : decode mX11_drawn.2.1 42 = .ok (.aload_n 0, 1) := by decide +kernel
theorem dX11_drawn_43 : decode mX11_drawn.2.1 43 = .ok (.getfield 24, 3) := by decide +kernel
theorem dX11_drawn_46 : decode mX11_drawn.2.1 46 = .ok (.iload_n 3, 1) := by decide +kernel
theorem dX11_drawn_47 : decode mX11_drawn.2.1 47 = .ok (.iload_n 2, 1) := by decide +kernel
theorem dX11_drawn_48 : decode mX11_drawn.2.1 48 = .ok (.invokevirtual 354, 3) := by decide +kernel
theorem dX11_drawn_51 : decode mX11_drawn.2.1 51 = .ok (.iload_n 3, 1) := by decide +kernel
theorem dX11_drawn_52 : decode mX11_drawn.2.1 52 = .ok (.ireturn, 1) := by decide +kernel
set_option maxRecDepth 4000 in
theorem ev_X11_drawn {m : Mem} {n : Int} {seed : Int} {B : Int} (hdn : DnOk m 8) (hst : StOk m 8 18 B) (hB : 0 ≤ B ∧ B ≤ 100000000) (hhi : HiOk m) (hn : InR n) (hse : InR seed) : Ev 0 9 mX11_drawn [vr 0, vi n, vi seed] m (fun r m' => ((1 ≤ n ∧ n ≤ 60) ∧ r = min n (400 - m 18 0) ∧ m' = if 0 < min n (400 - m 18 0) then hoursC (wr (keepC m 18) 7 3 seed) 7 8 18 (min n (400 - m 18 0)).toNat else m) ∨ (¬ (1 ≤ n ∧ n ≤ 60) ∧ r = -1 ∧ m' = m)) := by
  refine Ev.of (L := [vr 0, vi n, vi seed, un]) (by decide +kernel) rfl (Nat.le_of_ble_eq_true rfl) rfl (fun t ht => by cases ht; first | exact Or.inl rfl | exact Or.inr (Or.inl rfl) | exact Or.inr (Or.inr rfl)) (fun hcan => ?_)
  have hs00 := hst.1
  refine go_iload_n dX11_drawn_0 rfl ?_
  refine go_iconst dX11_drawn_1 ?_
  refine go_bipush dX11_drawn_2 (by decide) ?_
  refine go_callSp_z (as := [vi n, vi 1, vi 60]) (S := []) (ev_X11_isIn (m := m) (n := n) (lo := 1) (hi := 60) (by first | assumption | omega | exact ⟨by omega, by omega⟩ | (constructor <;> omega)) (by first | assumption | omega | exact ⟨by omega, by omega⟩ | (constructor <;> omega)) (by first | assumption | omega | exact ⟨by omega, by omega⟩ | (constructor <;> omega))) rfl dX11_drawn_4 cs_11_261 rfl rfl (by decide) (Nat.le_of_ble_eq_true rfl) (fun r_4 hr_4 ho_4 => ?_)
  refine go_if_ne (tgt := 12) dX11_drawn_7 (by decide) ⟨by omega, by omega⟩ (fun h_7 => ?_) (fun h_7 => ?_)
  · refine go_iload_n dX11_drawn_12 rfl ?_
    refine go_aload_n dX11_drawn_13 rfl ?_
    refine go_getf_p (b := 7) dX11_drawn_14 fl_11_24 ob_0 rfl pt_0_1 ?_
    refine go_callVp_i (as := []) (S := [vi n]) (b := 7) (ev_X10_hoursLeft (m := m) (w := 7) (d := 8) (st := 18) isWd_7 (by first | assumption | omega | exact ⟨by omega, by omega⟩ | (constructor <;> omega))) rfl dX11_drawn_17 cv_11_265 rfl rfl ob_7 rfl (by decide) (Nat.le_of_ble_eq_true rfl) (fun r_17 hr_17 ho_17 => ?_)
    subst hr_17
    refine go_min dX11_drawn_20 jl_11_268 ⟨by omega, by omega⟩ ⟨by omega, by omega⟩ (by decide) (Nat.le_of_ble_eq_true rfl) ?_
    refine go_istore_n (L' := [vr 0, vi n, vi seed, vi (min n (400 - m 18 0))]) dX11_drawn_23 (by decide) rfl rfl ?_
    refine go_iload_n dX11_drawn_24 rfl ?_
    refine go_if_le (tgt := 51) dX11_drawn_25 (by decide) ⟨by omega, by omega⟩ (fun h_25 => ?_) (fun h_25 => ?_)
    · refine go_iload_n dX11_drawn_51 rfl ?_
      exact go_ret (v := (min n (400 - m 18 0))) rfl dX11_drawn_52 (okI ⟨by omega, by omega⟩) (Or.inl ⟨by omega, rfl, by first | (rw [if_neg (by omega)]) | (rw [if_pos (by omega)]; exact hr_48)⟩)
    · refine go_aload_n dX11_drawn_28 rfl ?_
      refine go_getf_p (b := 97) dX11_drawn_29 fl_11_82 ob_0 rfl pt_0_9 ?_
      refine go_aload_n dX11_drawn_32 rfl ?_
      refine go_getf_p (b := 7) dX11_drawn_33 fl_11_24 ob_0 rfl pt_0_1 ?_
      refine go_getf_p (b := 18) dX11_drawn_36 fl_11_136 ob_7 rfl pt_7_1 ?_
      refine go_callV_v (as := [vr 18]) (S := []) (b := 97) (ev_X3_keep (m := m) (st := 18) isSt_18 (by first | assumption | omega | exact ⟨by omega, by omega⟩ | (constructor <;> omega)) (by first | assumption | omega | exact ⟨by omega, by omega⟩ | (constructor <;> omega))) rfl dX11_drawn_39 cv_11_240 rfl rfl ob_97 rfl (by decide) (Nat.le_of_ble_eq_true rfl) (fun m_39 hr_39 => ?_)
      subst hr_39
      refine go_aload_n dX11_drawn_42 rfl ?_
      refine go_getf_p (b := 7) dX11_drawn_43 fl_11_24 ob_0 rfl pt_0_1 ?_
      refine go_iload_n dX11_drawn_46 rfl ?_
      refine go_iload_n dX11_drawn_47 rfl ?_
      refine go_callV_v (as := [vi (min n (400 - m 18 0)), vi seed]) (S := []) (b := 7) (ev_X10_drawHours (m := (keepC m 18)) (w := 7) (n := (min n (400 - m 18 0))) (seed := seed) (B := B) (d := 8) (st := 18) isWd_7 (keepC_dn hhi (by omega) hdn) (keepC_st hhi (by omega) (by omega) hst) (by rw [keepC_row hhi (by omega)]; omega) (by first | assumption | omega | exact ⟨by omega, by omega⟩ | (constructor <;> omega)) (by first | assumption | omega | exact ⟨by omega, by omega⟩ | (constructor <;> omega))) rfl dX11_drawn_48 cv_11_354 rfl rfl ob_7 rfl (by decide) (Nat.le_of_ble_eq_true rfl) (fun m_48 hr_48 => ?_)
      refine go_iload_n dX11_drawn_51 rfl ?_
      exact go_ret (v := (min n (400 - m 18 0))) rfl dX11_drawn_52 (okI ⟨by omega, by omega⟩) (Or.inl ⟨by omega, rfl, by first | (rw [if_neg (by omega)]) | (rw [if_pos (by omega)]; exact hr_48)⟩)
  · refine go_iconst dX11_drawn_10 ?_
    exact go_ret (v := (-1)) rfl dX11_drawn_11 (okI ⟨by omega, by omega⟩) (Or.inr ⟨by omega, rfl, rfl⟩)
theorem dX11_odds_0 : decode mX11_odds.2.1 0 = .ok (.aload_n 0, 1) := by decide +kernel
theorem dX11_odds_1 : decode mX11_odds.2.1 1 = .ok (.getfield 24, 3) := by decide +kernel
theorem dX11_odds_4 : decode mX11_odds.2.1 4 = .ok (.iload_n 1, 1) := by decide +kernel
theorem dX11_odds_5 : decode mX11_odds.2.1 5 = .ok (.invokevirtual 129, 3) := by decide +kernel
theorem dX11_odds_8 : decode mX11_odds.2.1 8 = .ok (.ifCond .eq 24, 3) := by decide +kernel
theorem dX11_odds_11 : decode mX11_odds.2.1 11 = .ok (.aload_n 0, 1) := by decide +kernel
theorem dX11_odds_12 : decode mX11_odds.2.1 12 = .ok (.getfield 24, 3) := by decide +kernel
theorem dX11_odds_15 : decode mX11_odds.2.1 15 = .ok (.iload_n 2, 1) := by decide +kernel
theorem dX11_odds_16 : decode mX11_odds.2.1 16 = .ok (.invokevirtual 177, 3) := by decide +kernel
theorem dX11_odds_19 : decode mX11_odds.2.1 19 = .ok (.ifCond .eq 13, 3) := by decide +kernel
theorem dX11_odds_22 : decode mX11_odds.2.1 22 = .ok (.iload_n 3, 1) := by decide +kernel
theorem dX11_odds_23 : decode mX11_odds.2.1 23 = .ok (.iconst 1, 1) := by decide +kernel
theorem dX11_odds_24 : decode mX11_odds.2.1 24 = .ok (.bipush 30, 2) := by decide +kernel
theorem dX11_odds_26 : decode mX11_odds.2.1 26 = .ok (.invokestatic 261, 3) := by decide +kernel
theorem dX11_odds_29 : decode mX11_odds.2.1 29 = .ok (.ifCond .ne 5, 3) := by decide +kernel
theorem dX11_odds_32 : decode mX11_odds.2.1 32 = .ok (.iconst (-1), 1) := by decide +kernel
theorem dX11_odds_33 : decode mX11_odds.2.1 33 = .ok (.ireturn, 1) := by decide +kernel
theorem dX11_odds_34 : decode mX11_odds.2.1 34 = .ok (.iconst 0, 1) := by decide +kernel
theorem dX11_odds_35 : decode mX11_odds.2.1 35 = .ok (.istore 5, 2) := by decide +kernel
theorem dX11_odds_37 : decode mX11_odds.2.1 37 = .ok (.iconst 0, 1) := by decide +kernel
theorem dX11_odds_38 : decode mX11_odds.2.1 38 = .ok (.istore 6, 2) := by decide +kernel
theorem dX11_odds_40 : decode mX11_odds.2.1 40 = .ok (.iload 6, 2) := by decide +kernel
theorem dX11_odds_42 : decode mX11_odds.2.1 42 = .ok (.iload_n 3, 1) := by decide +kernel
theorem dX11_odds_43 : decode mX11_odds.2.1 43 = .ok (.if_icmp .ge 71, 3) := by decide +kernel
theorem dX11_odds_46 : decode mX11_odds.2.1 46 = .ok (.aload_n 0, 1) := by decide +kernel
theorem dX11_odds_47 : decode mX11_odds.2.1 47 = .ok (.getfield 32, 3) := by decide +kernel
theorem dX11_odds_50 : decode mX11_odds.2.1 50 = .ok (.getfield 136, 3) := by decide +kernel
theorem dX11_odds_53 : decode mX11_odds.2.1 53 = .ok (.aload_n 0, 1) := by decide +kernel
theorem dX11_odds_54 : decode mX11_odds.2.1 54 = .ok (.getfield 24, 3) := by decide +kernel
theorem dX11_odds_57 : decode mX11_odds.2.1 57 = .ok (.getfield 136, 3) := by decide +kernel
theorem dX11_odds_60 : decode mX11_odds.2.1 60 = .ok (.invokevirtual 357, 3) := by decide +kernel
theorem dX11_odds_63 : decode mX11_odds.2.1 63 = .ok (.aload_n 0, 1) := by decide +kernel
theorem dX11_odds_64 : decode mX11_odds.2.1 64 = .ok (.getfield 32, 3) := by decide +kernel
theorem dX11_odds_67 : decode mX11_odds.2.1 67 = .ok (.bipush 20, 2) := by decide +kernel
theorem dX11_odds_69 : decode mX11_odds.2.1 69 = .ok (.aload_n 0, 1) := by decide +kernel
theorem dX11_odds_70 : decode mX11_odds.2.1 70 = .ok (.getfield 32, 3) := by decide +kernel
theorem dX11_odds_73 : decode mX11_odds.2.1 73 = .ok (.invokevirtual 265, 3) := by decide +kernel
theorem dX11_odds_76 : decode mX11_odds.2.1 76 = .ok (.invokestatic 268, 3) := by decide +kernel
theorem dX11_odds_79 : decode mX11_odds.2.1 79 = .ok (.iload 4, 2) := by decide +kernel
theorem dX11_odds_81 : decode mX11_odds.2.1 81 = .ok (.iload 6, 2) := by decide +kernel
theorem dX11_odds_83 : decode mX11_odds.2.1 83 = .ok (.iadd, 1) := by decide +kernel
theorem dX11_odds_84 : decode mX11_odds.2.1 84 = .ok (.invokevirtual 354, 3) := by decide +kernel
theorem dX11_odds_87 : decode mX11_odds.2.1 87 = .ok (.iload 5, 2) := by decide +kernel
theorem dX11_odds_89 : decode mX11_odds.2.1 89 = .ok (.aload_n 0, 1) := by decide +kernel
theorem dX11_odds_90 : decode mX11_odds.2.1 90 = .ok (.getfield 32, 3) := by decide +kernel
theorem dX11_odds_93 : decode mX11_odds.2.1 93 = .ok (.getfield 136, 3) := by decide +kernel
theorem dX11_odds_96 : decode mX11_odds.2.1 96 = .ok (.getfield 158, 3) := by decide +kernel
theorem dX11_odds_99 : decode mX11_odds.2.1 99 = .ok (.iload_n 1, 1) := by decide +kernel
theorem dX11_odds_100 : decode mX11_odds.2.1 100 = .ok (.iaload, 1) := by decide +kernel
theorem dX11_odds_101 : decode mX11_odds.2.1 101 = .ok (.iload_n 2, 1) := by decide +kernel
theorem dX11_odds_102 : decode mX11_odds.2.1 102 = .ok (.ishr, 1) := by decide +kernel
theorem dX11_odds_103 : decode mX11_odds.2.1 103 = .ok (.iconst 1, 1) := by decide +kernel
theorem dX11_odds_104 : decode mX11_odds.2.1 104 = .ok (.iand, 1) := by decide +kernel
theorem dX11_odds_105 : decode mX11_odds.2.1 105 = .ok (.iadd, 1) := by decide +kernel
theorem dX11_odds_106 : decode mX11_odds.2.1 106 = .ok (.istore 5, 2) := by decide +kernel
theorem dX11_odds_108 : decode mX11_odds.2.1 108 = .ok (.iinc 6 1, 3) := by decide +kernel
theorem dX11_odds_111 : decode mX11_odds.2.1 111 = .ok (.goto (-71), 3) := by decide +kernel
theorem dX11_odds_114 : decode mX11_odds.2.1 114 = .ok (.iload 5, 2) := by decide +kernel
theorem dX11_odds_116 : decode mX11_odds.2.1 116 = .ok (.ireturn, 1) := by decide +kernel
set_option maxRecDepth 4000 in
theorem ev_X11_odds {m : Mem} {p : Int} {q : Int} {n : Int} {seed : Int} {B : Int} (hdn : DnOk m 8) (hst : StOk m 8 18 B) (hB : 0 ≤ B ∧ B ≤ 100000000) (hp : InR p) (hq : InR q) (hn : InR n) (hse : InR seed) : Ev 0 9 mX11_odds [vr 0, vi p, vi q, vi n, vi seed] m (fun r m' => TrEq m m' ∧ r = if (0 ≤ p ∧ p < m 8 3) ∧ (0 ≤ q ∧ q < m 8 4) ∧ 1 ≤ n ∧ n ≤ 30 then oddsN m p q seed n.toNat else -1) := by
  refine Ev.of (L := [vr 0, vi p, vi q, vi n, vi seed, un, un]) (by decide +kernel) rfl (Nat.le_of_ble_eq_true rfl) rfl (fun t ht => by cases ht; first | exact Or.inl rfl | exact Or.inr (Or.inl rfl) | exact Or.inr (Or.inr rfl)) (fun hcan => ?_)
  have hs00 := hst.1
  have h30 := hdn.2.2.2.1
  refine go_aload_n dX11_odds_0 rfl ?_
  refine go_getf_p (b := 7) dX11_odds_1 fl_11_24 ob_0 rfl pt_0_1 ?_
  refine go_iload_n dX11_odds_4 rfl ?_
  refine go_callVp_z (as := [vi p]) (S := []) (b := 7) (ev_X10_hasPerson (m := m) (w := 7) (f := p) (d := 8) (st := 18) isWd_7 (by first | assumption | omega | exact ⟨by omega, by omega⟩ | (constructor <;> omega))) rfl dX11_odds_5 cv_11_129 rfl rfl ob_7 rfl (by decide) (Nat.le_of_ble_eq_true rfl) (fun r_5 hr_5 ho_5 => ?_)
  refine go_if_eq (tgt := 32) dX11_odds_8 (by decide) ⟨by omega, by omega⟩ (fun h_8 => ?_) (fun h_8 => ?_)
  · refine go_iconst dX11_odds_32 ?_
    exact go_ret (v := (-1)) rfl dX11_odds_33 (okI ⟨by omega, by omega⟩) ⟨TrEq.rf, by rw [if_neg (by omega)]⟩
  · refine go_aload_n dX11_odds_11 rfl ?_
    refine go_getf_p (b := 7) dX11_odds_12 fl_11_24 ob_0 rfl pt_0_1 ?_
    refine go_iload_n dX11_odds_15 rfl ?_
    refine go_callVp_z (as := [vi q]) (S := []) (b := 7) (ev_X10_hasPoint (m := m) (w := 7) (f := q) (d := 8) (st := 18) isWd_7 (by first | assumption | omega | exact ⟨by omega, by omega⟩ | (constructor <;> omega))) rfl dX11_odds_16 cv_11_177 rfl rfl ob_7 rfl (by decide) (Nat.le_of_ble_eq_true rfl) (fun r_16 hr_16 ho_16 => ?_)
    refine go_if_eq (tgt := 32) dX11_odds_19 (by decide) ⟨by omega, by omega⟩ (fun h_19 => ?_) (fun h_19 => ?_)
    · refine go_iconst dX11_odds_32 ?_
      exact go_ret (v := (-1)) rfl dX11_odds_33 (okI ⟨by omega, by omega⟩) ⟨TrEq.rf, by rw [if_neg (by omega)]⟩
    · refine go_iload_n dX11_odds_22 rfl ?_
      refine go_iconst dX11_odds_23 ?_
      refine go_bipush dX11_odds_24 (by decide) ?_
      refine go_callSp_z (as := [vi n, vi 1, vi 30]) (S := []) (ev_X11_isIn (m := m) (n := n) (lo := 1) (hi := 30) (by first | assumption | omega | exact ⟨by omega, by omega⟩ | (constructor <;> omega)) (by first | assumption | omega | exact ⟨by omega, by omega⟩ | (constructor <;> omega)) (by first | assumption | omega | exact ⟨by omega, by omega⟩ | (constructor <;> omega))) rfl dX11_odds_26 cs_11_261 rfl rfl (by decide) (Nat.le_of_ble_eq_true rfl) (fun r_26 hr_26 ho_26 => ?_)
      refine go_if_ne (tgt := 34) dX11_odds_29 (by decide) ⟨by omega, by omega⟩ (fun h_29 => ?_) (fun h_29 => ?_)
      · refine go_iconst dX11_odds_34 ?_
        refine go_istore (L' := [vr 0, vi p, vi q, vi n, vi seed, vi 0, un]) dX11_odds_35 (by decide) rfl rfl ?_
        refine go_iconst dX11_odds_37 ?_
        refine go_istore (L' := [vr 0, vi p, vi q, vi n, vi seed, vi 0, vi 0]) dX11_odds_38 (by decide) rfl rfl ?_
        have lp_40 : ∀ (n_40 : Nat) (m1 : Mem) (c : Int) (k : Int), (0 ≤ k) → (k ≤ n) → (TrEq m m1) → (c = oddsN m p q seed k.toNat) → (n - k).toNat < n_40 → Go 0 9 mX11_odds (fun r m' => TrEq m m' ∧ r = if (0 ≤ p ∧ p < m 8 3) ∧ (0 ≤ q ∧ q < m 8 4) ∧ 1 ≤ n ∧ n ≤ 30 then oddsN m p q seed n.toNat else -1) 40 [vr 0, vi p, vi q, vi n, vi seed, vi c, vi k] [] m1 := by
          intro n_40
          induction n_40 with
          | zero => intro m1 c k hk0 hk1 ht hc hmu; exact absurd hmu (Nat.not_lt_zero _)
          | succ n_40 ih_40 =>
            intro m1 c k hk0 hk1 ht hc hmu
            have hcb := oddsN_b m p q seed k.toNat
            rw [← hc] at hcb
            have r8 : ∀ j, j < 10 → (rows m1 32 18 8) (8 + j) = m (8 + j) := fun j hj => by rw [rows_out (by omega)]; exact ht.1 _ (by omega) (by omega)
            have r32 : ∀ j, j < 8 → (rows m1 32 18 8) (32 + j) = m (18 + j) := fun j hj => by rw [rows_in hj]; exact ht.1 _ (by omega) (by omega)
            have hdn1 : DnOk (rows m1 32 18 8) 8 := hdn.congr r8
            have hst1 : StOk (rows m1 32 18 8) 8 32 B := by
              have h := hst
              unfold StOk at h ⊢
              rw [show (rows m1 32 18 8) 8 = m 8 from r8 0 (by omega), show (rows m1 32 18 8) (8 + 5) = m (8 + 5) from r8 5 (by omega), show (rows m1 32 18 8) 32 = m 18 from r32 0 (by omega), r32 1 (by omega), r32 2 (by omega), r32 3 (by omega), r32 4 (by omega), r32 5 (by omega), r32 6 (by omega), r32 7 (by omega)]
              exact h
            have e0 : (rows m1 32 18 8) 32 0 = m 18 0 := by rw [show (rows m1 32 18 8) 32 = m 18 from r32 0 (by omega)]
            refine go_iload dX11_odds_40 rfl ?_
            refine go_iload_n dX11_odds_42 rfl ?_
            refine go_icmp_ge (tgt := 114) dX11_odds_43 (by decide) ⟨by omega, by omega⟩ ⟨by omega, by omega⟩ (fun h_43 => ?_) (fun h_43 => ?_)
            · refine go_iload dX11_odds_114 rfl ?_
              exact go_ret (v := c) rfl dX11_odds_116 (okI ⟨by omega, by omega⟩) ⟨ht, by rw [if_pos (by omega), hc, show k = n by omega]⟩
            · refine go_aload_n dX11_odds_46 rfl ?_
              refine go_getf_p (b := 31) dX11_odds_47 fl_11_32 ob_0 rfl pt_0_2 ?_
              refine go_getf_p (b := 32) dX11_odds_50 fl_11_136 ob_31 rfl pt_31_1 ?_
              refine go_aload_n dX11_odds_53 rfl ?_
              refine go_getf_p (b := 7) dX11_odds_54 fl_11_24 ob_0 rfl pt_0_1 ?_
              refine go_getf_p (b := 18) dX11_odds_57 fl_11_136 ob_7 rfl pt_7_1 ?_
              refine go_callV_v (as := [vr 18]) (S := []) (b := 32) (ev_X6_copyFrom (m := m1) (st := 32) (ot := 18) isSt_32 isSt_18 (by omega)) rfl dX11_odds_60 cv_11_357 rfl rfl ob_32 rfl (by decide) (Nat.le_of_ble_eq_true rfl) (fun m_60 hr_60 => ?_)
              subst hr_60
              refine go_aload_n dX11_odds_63 rfl ?_
              refine go_getf_p (b := 31) dX11_odds_64 fl_11_32 ob_0 rfl pt_0_2 ?_
              refine go_bipush dX11_odds_67 (by decide) ?_
              refine go_aload_n dX11_odds_69 rfl ?_
              refine go_getf_p (b := 31) dX11_odds_70 fl_11_32 ob_0 rfl pt_0_2 ?_
              refine go_callVp_i (as := []) (S := [vi 20, vr 31]) (b := 31) (ev_X10_hoursLeft (m := (rows m1 32 18 8)) (w := 31) (d := 8) (st := 32) isWd_31 (by rw [e0]; exact hs00)) rfl dX11_odds_73 cv_11_265 rfl rfl ob_31 rfl (by decide) (Nat.le_of_ble_eq_true rfl) (fun r_73 hr_73 ho_73 => ?_)
              rw [e0] at hr_73
              subst hr_73
              refine go_min dX11_odds_76 jl_11_268 ⟨by omega, by omega⟩ ⟨by omega, by omega⟩ (by decide) (Nat.le_of_ble_eq_true rfl) ?_
              refine go_iload dX11_odds_79 rfl ?_
              refine go_iload dX11_odds_81 rfl ?_
              refine go_iadd dX11_odds_83 ?_
              refine go_wrap ?_
              refine go_callV_v (as := [vi (min 20 (400 - m 18 0)), vi (w32 (seed + k))]) (S := []) (b := 31) (ev_X10_drawHours (m := (rows m1 32 18 8)) (w := 31) (n := (min 20 (400 - m 18 0))) (seed := (w32 (seed + k))) (B := B) (d := 8) (st := 32) isWd_31 hdn1 hst1 (by rw [e0]; omega) (w32_R _) (by first | assumption | omega | exact ⟨by omega, by omega⟩ | (constructor <;> omega))) rfl dX11_odds_84 cv_11_354 rfl rfl ob_31 rfl (by decide) (Nat.le_of_ble_eq_true rfl) (fun m_84 hr_84 => ?_)
              have hm84 : m_84 = tr20 m (w32 (seed + k)) := by rw [hr_84, ht.cp]; rfl
              clear hr_84
              subst hm84
              have hia := iand1_R (ishr (tr20 m (w32 (seed + k)) 38 p) q)
              refine go_iload dX11_odds_87 rfl ?_
              refine go_aload_n dX11_odds_89 rfl ?_
              refine go_getf_p (b := 31) dX11_odds_90 fl_11_32 ob_0 rfl pt_0_2 ?_
              refine go_getf_p (b := 32) dX11_odds_93 fl_11_136 ob_31 rfl pt_31_1 ?_
              refine go_getf_p (b := 38) dX11_odds_96 fl_11_158 ob_32 rfl pt_32_7 ?_
              refine go_iload_n dX11_odds_99 rfl ?_
              refine go_iaload dX11_odds_100 ar_38 (by omega) (by omega) (fun he_100 => ?_)
              refine go_iload_n dX11_odds_101 rfl ?_
              refine go_ishr dX11_odds_102 ?_
              refine go_iconst dX11_odds_103 ?_
              refine go_iand dX11_odds_104 ?_
              refine go_iadd dX11_odds_105 ?_
              refine go_istore (L' := [vr 0, vi p, vi q, vi n, vi seed, vi (c + (iand (ishr ((tr20 m (w32 (seed + k))) 38 p) q) 1)), vi k]) dX11_odds_106 (by decide) rfl rfl ?_
              refine go_iinc (L' := [vr 0, vi p, vi q, vi n, vi seed, vi (c + (iand (ishr ((tr20 m (w32 (seed + k))) 38 p) q) 1)), vi (k + 1)]) dX11_odds_108 rfl (by decide) rfl rfl ?_
              refine go_goto (tgt := 40) dX11_odds_111 (by decide) ?_
              exact ih_40 (tr20 m (w32 (seed + k))) (c + (iand (ishr ((tr20 m (w32 (seed + k))) 38 p) q) 1)) (k + 1) (by first | assumption | omega | rfl) (by first | assumption | omega | rfl) (tr20_eq m _) (by rw [oddsN_s hk0, ← hc]) (by omega)
        exact lp_40 _ m 0 0 (by first | assumption | omega | rfl) (by first | assumption | omega | rfl) TrEq.rf rfl (Nat.lt_succ_self _)
      · refine go_iconst dX11_odds_32 ?_
        exact go_ret (v := (-1)) rfl dX11_odds_33 (okI ⟨by omega, by omega⟩) ⟨TrEq.rf, by rw [if_neg (by omega)]⟩
theorem dX11_least_0 : decode mX11_least.2.1 0 = .ok (.aload_n 0, 1) := by decide +kernel
theorem dX11_least_1 : decode mX11_least.2.1 1 = .ok (.getfield 24, 3) := by decide +kernel
theorem dX11_least_4 : decode mX11_least.2.1 4 = .ok (.invokevirtual 324, 3) := by decide +kernel
theorem dX11_least_7 : decode mX11_least.2.1 7 = .ok (.ireturn, 1) := by decide +kernel
set_option maxRecDepth 4000 in
theorem ev_X11_least {m : Mem} {B : Int} (hdn : DnOk m 8) (hst : StOk m 8 18 B) : Ev 0 2 mX11_least [vr 0] m (fun r m' => m' = m ∧ (r = if m 8 3 = 0 then -1 else lstN (m (18 + 5)) (m (8 + 5)) (m 8 3 - 1).toNat)) := by
  refine Ev.of (L := [vr 0]) (by decide +kernel) rfl (Nat.le_of_ble_eq_true rfl) rfl (fun t ht => by cases ht; first | exact Or.inl rfl | exact Or.inr (Or.inl rfl) | exact Or.inr (Or.inr rfl)) (fun hcan => ?_)
  refine go_aload_n dX11_least_0 rfl ?_
  refine go_getf_p (b := 7) dX11_least_1 fl_11_24 ob_0 rfl pt_0_1 ?_
  refine go_callVp_i (as := []) (S := []) (b := 7) (ev_X10_whoHasLeast (m := m) (w := 7) (B := B) (d := 8) (st := 18) isWd_7 (by first | assumption | omega | exact ⟨by omega, by omega⟩ | (constructor <;> omega)) (by first | assumption | omega | exact ⟨by omega, by omega⟩ | (constructor <;> omega))) rfl dX11_least_4 cv_11_324 rfl rfl ob_7 rfl (by decide) (Nat.le_of_ble_eq_true rfl) (fun r_4 hr_4 ho_4 => ?_)
  exact go_ret (v := r_4) rfl dX11_least_7 (okI ⟨by omega, by omega⟩) ⟨rfl, (by first | assumption | rfl | omega)⟩
theorem dX11_wayAt_0 : decode mX11_wayAt.2.1 0 = .ok (.iload_n 1, 1) := by decide +kernel
theorem dX11_wayAt_1 : decode mX11_wayAt.2.1 1 = .ok (.ifCond .lt 26, 3) := by decide +kernel
theorem dX11_wayAt_4 : decode mX11_wayAt.2.1 4 = .ok (.iload_n 1, 1) := by decide +kernel
theorem dX11_wayAt_5 : decode mX11_wayAt.2.1 5 = .ok (.aload_n 0, 1) := by decide +kernel
theorem dX11_wayAt_6 : decode mX11_wayAt.2.1 6 = .ok (.getfield 61, 3) := by decide +kernel
theorem dX11_wayAt_9 : decode mX11_wayAt.2.1 9 = .ok (.getfield 290, 3) := by decide +kernel
theorem dX11_wayAt_12 : decode mX11_wayAt.2.1 12 = .ok (.if_icmp .ge 15, 3) := by decide +kernel
theorem dX11_wayAt_15 : decode mX11_wayAt.2.1 15 = .ok (.aload_n 0, 1) := by decide +kernel
theorem dX11_wayAt_16 : decode mX11_wayAt.2.1 16 = .ok (.getfield 61, 3) := by decide +kernel
theorem dX11_wayAt_19 : decode mX11_wayAt.2.1 19 = .ok (.getfield 293, 3) := by decide +kernel
theorem dX11_wayAt_22 : decode mX11_wayAt.2.1 22 = .ok (.iload_n 1, 1) := by decide +kernel
theorem dX11_wayAt_23 : decode mX11_wayAt.2.1 23 = .ok (.iaload, 1) := by decide +kernel
theorem dX11_wayAt_24 : decode mX11_wayAt.2.1 24 = .ok (.goto 4, 3) := by decide +kernel
theorem dX11_wayAt_27 : decode mX11_wayAt.2.1 27 = .ok (.iconst (-1), 1) := by decide +kernel
theorem dX11_wayAt_28 : decode mX11_wayAt.2.1 28 = .ok (.ireturn, 1) := by decide +kernel
set_option maxRecDepth 4000 in
theorem ev_X11_wayAt {m : Mem} {k : Int} (hk : InR k) (hl : m 81 2 ≤ 324) : Ev 0 1 mX11_wayAt [vr 0, vi k] m (fun r m' => m' = m ∧ (r = if 0 ≤ k ∧ k < m 81 2 then m 83 k else -1)) := by
  refine Ev.of (L := [vr 0, vi k]) (by decide +kernel) rfl (Nat.le_of_ble_eq_true rfl) rfl (fun t ht => by cases ht; first | exact Or.inl rfl | exact Or.inr (Or.inl rfl) | exact Or.inr (Or.inr rfl)) (fun hcan => ?_)
  refine go_iload_n dX11_wayAt_0 rfl ?_
  refine go_if_lt (tgt := 27) dX11_wayAt_1 (by decide) ⟨by omega, by omega⟩ (fun h_1 => ?_) (fun h_1 => ?_)
  · refine go_iconst dX11_wayAt_27 ?_
    exact go_ret (v := (-1)) rfl dX11_wayAt_28 (okI ⟨by omega, by omega⟩) ⟨rfl, (by first | assumption | rfl | omega)⟩
  · refine go_iload_n dX11_wayAt_4 rfl ?_
    refine go_aload_n dX11_wayAt_5 rfl ?_
    refine go_getf_p (b := 81) dX11_wayAt_6 fl_11_61 ob_0 rfl pt_0_6 ?_
    refine go_getf_i (ki := 2) dX11_wayAt_9 fl_11_290 ob_81 rfl rfl (fun hf_9 => ?_)
    refine go_icmp_ge (tgt := 27) dX11_wayAt_12 (by decide) ⟨by omega, by omega⟩ ⟨by omega, by omega⟩ (fun h_12 => ?_) (fun h_12 => ?_)
    · refine go_iconst dX11_wayAt_27 ?_
      exact go_ret (v := (-1)) rfl dX11_wayAt_28 (okI ⟨by omega, by omega⟩) ⟨rfl, (by first | assumption | rfl | omega)⟩
    · refine go_aload_n dX11_wayAt_15 rfl ?_
      refine go_getf_p (b := 81) dX11_wayAt_16 fl_11_61 ob_0 rfl pt_0_6 ?_
      refine go_getf_p (b := 83) dX11_wayAt_19 fl_11_293 ob_81 rfl pt_81_1 ?_
      refine go_iload_n dX11_wayAt_22 rfl ?_
      refine go_iaload dX11_wayAt_23 ar_83 (by omega) (by omega) (fun he_23 => ?_)
      refine go_goto (tgt := 28) dX11_wayAt_24 (by decide) ?_
      exact go_ret (v := (m 83 k)) rfl dX11_wayAt_28 (okI ⟨by omega, by omega⟩) ⟨rfl, (by first | assumption | rfl | omega)⟩
theorem dX11_undoesAt_0 : decode mX11_undoesAt.2.1 0 = .ok (.iload_n 1, 1) := by decide +kernel
theorem dX11_undoesAt_1 : decode mX11_undoesAt.2.1 1 = .ok (.ifCond .lt 26, 3) := by decide +kernel
theorem dX11_undoesAt_4 : decode mX11_undoesAt.2.1 4 = .ok (.iload_n 1, 1) := by decide +kernel
theorem dX11_undoesAt_5 : decode mX11_undoesAt.2.1 5 = .ok (.aload_n 0, 1) := by decide +kernel
theorem dX11_undoesAt_6 : decode mX11_undoesAt.2.1 6 = .ok (.getfield 68, 3) := by decide +kernel
theorem dX11_undoesAt_9 : decode mX11_undoesAt.2.1 9 = .ok (.getfield 309, 3) := by decide +kernel
theorem dX11_undoesAt_12 : decode mX11_undoesAt.2.1 12 = .ok (.if_icmp .ge 15, 3) := by decide +kernel
theorem dX11_undoesAt_15 : decode mX11_undoesAt.2.1 15 = .ok (.aload_n 0, 1) := by decide +kernel
theorem dX11_undoesAt_16 : decode mX11_undoesAt.2.1 16 = .ok (.getfield 68, 3) := by decide +kernel
theorem dX11_undoesAt_19 : decode mX11_undoesAt.2.1 19 = .ok (.getfield 310, 3) := by decide +kernel
theorem dX11_undoesAt_22 : decode mX11_undoesAt.2.1 22 = .ok (.iload_n 1, 1) := by decide +kernel
theorem dX11_undoesAt_23 : decode mX11_undoesAt.2.1 23 = .ok (.iaload, 1) := by decide +kernel
theorem dX11_undoesAt_24 : decode mX11_undoesAt.2.1 24 = .ok (.goto 4, 3) := by decide +kernel
theorem dX11_undoesAt_27 : decode mX11_undoesAt.2.1 27 = .ok (.iconst (-1), 1) := by decide +kernel
theorem dX11_undoesAt_28 : decode mX11_undoesAt.2.1 28 = .ok (.ireturn, 1) := by decide +kernel
set_option maxRecDepth 4000 in
theorem ev_X11_undoesAt {m : Mem} {k : Int} (hk : InR k) (hl : m 89 1 ≤ 3) : Ev 0 1 mX11_undoesAt [vr 0, vi k] m (fun r m' => m' = m ∧ (r = if 0 ≤ k ∧ k < m 89 1 then m 90 k else -1)) := by
  refine Ev.of (L := [vr 0, vi k]) (by decide +kernel) rfl (Nat.le_of_ble_eq_true rfl) rfl (fun t ht => by cases ht; first | exact Or.inl rfl | exact Or.inr (Or.inl rfl) | exact Or.inr (Or.inr rfl)) (fun hcan => ?_)
  refine go_iload_n dX11_undoesAt_0 rfl ?_
  refine go_if_lt (tgt := 27) dX11_undoesAt_1 (by decide) ⟨by omega, by omega⟩ (fun h_1 => ?_) (fun h_1 => ?_)
  · refine go_iconst dX11_undoesAt_27 ?_
    exact go_ret (v := (-1)) rfl dX11_undoesAt_28 (okI ⟨by omega, by omega⟩) ⟨rfl, (by first | assumption | rfl | omega)⟩
  · refine go_iload_n dX11_undoesAt_4 rfl ?_
    refine go_aload_n dX11_undoesAt_5 rfl ?_
    refine go_getf_p (b := 89) dX11_undoesAt_6 fl_11_68 ob_0 rfl pt_0_7 ?_
    refine go_getf_i (ki := 1) dX11_undoesAt_9 fl_11_309 ob_89 rfl rfl (fun hf_9 => ?_)
    refine go_icmp_ge (tgt := 27) dX11_undoesAt_12 (by decide) ⟨by omega, by omega⟩ ⟨by omega, by omega⟩ (fun h_12 => ?_) (fun h_12 => ?_)
    · refine go_iconst dX11_undoesAt_27 ?_
      exact go_ret (v := (-1)) rfl dX11_undoesAt_28 (okI ⟨by omega, by omega⟩) ⟨rfl, (by first | assumption | rfl | omega)⟩
    · refine go_aload_n dX11_undoesAt_15 rfl ?_
      refine go_getf_p (b := 89) dX11_undoesAt_16 fl_11_68 ob_0 rfl pt_0_7 ?_
      refine go_getf_p (b := 90) dX11_undoesAt_19 fl_11_310 ob_89 rfl pt_89_0 ?_
      refine go_iload_n dX11_undoesAt_22 rfl ?_
      refine go_iaload dX11_undoesAt_23 ar_90 (by omega) (by omega) (fun he_23 => ?_)
      refine go_goto (tgt := 28) dX11_undoesAt_24 (by decide) ?_
      exact go_ret (v := (m 90 k)) rfl dX11_undoesAt_28 (okI ⟨by omega, by omega⟩) ⟨rfl, (by first | assumption | rfl | omega)⟩
theorem dX11_tracksAt_0 : decode mX11_tracksAt.2.1 0 = .ok (.iload_n 1, 1) := by decide +kernel
theorem dX11_tracksAt_1 : decode mX11_tracksAt.2.1 1 = .ok (.ifCond .lt 26, 3) := by decide +kernel
theorem dX11_tracksAt_4 : decode mX11_tracksAt.2.1 4 = .ok (.iload_n 1, 1) := by decide +kernel
theorem dX11_tracksAt_5 : decode mX11_tracksAt.2.1 5 = .ok (.aload_n 0, 1) := by decide +kernel
theorem dX11_tracksAt_6 : decode mX11_tracksAt.2.1 6 = .ok (.getfield 75, 3) := by decide +kernel
theorem dX11_tracksAt_9 : decode mX11_tracksAt.2.1 9 = .ok (.getfield 315, 3) := by decide +kernel
theorem dX11_tracksAt_12 : decode mX11_tracksAt.2.1 12 = .ok (.if_icmp .ge 15, 3) := by decide +kernel
theorem dX11_tracksAt_15 : decode mX11_tracksAt.2.1 15 = .ok (.aload_n 0, 1) := by decide +kernel
theorem dX11_tracksAt_16 : decode mX11_tracksAt.2.1 16 = .ok (.getfield 75, 3) := by decide +kernel
theorem dX11_tracksAt_19 : decode mX11_tracksAt.2.1 19 = .ok (.getfield 318, 3) := by decide +kernel
theorem dX11_tracksAt_22 : decode mX11_tracksAt.2.1 22 = .ok (.iload_n 1, 1) := by decide +kernel
theorem dX11_tracksAt_23 : decode mX11_tracksAt.2.1 23 = .ok (.iaload, 1) := by decide +kernel
theorem dX11_tracksAt_24 : decode mX11_tracksAt.2.1 24 = .ok (.goto 4, 3) := by decide +kernel
theorem dX11_tracksAt_27 : decode mX11_tracksAt.2.1 27 = .ok (.iconst (-1), 1) := by decide +kernel
theorem dX11_tracksAt_28 : decode mX11_tracksAt.2.1 28 = .ok (.ireturn, 1) := by decide +kernel
set_option maxRecDepth 4000 in
theorem ev_X11_tracksAt {m : Mem} {k : Int} (hk : InR k) (hl : m 92 1 ≤ 6) : Ev 0 1 mX11_tracksAt [vr 0, vi k] m (fun r m' => m' = m ∧ (r = if 0 ≤ k ∧ k < m 92 1 then m 93 k else -1)) := by
  refine Ev.of (L := [vr 0, vi k]) (by decide +kernel) rfl (Nat.le_of_ble_eq_true rfl) rfl (fun t ht => by cases ht; first | exact Or.inl rfl | exact Or.inr (Or.inl rfl) | exact Or.inr (Or.inr rfl)) (fun hcan => ?_)
  refine go_iload_n dX11_tracksAt_0 rfl ?_
  refine go_if_lt (tgt := 27) dX11_tracksAt_1 (by decide) ⟨by omega, by omega⟩ (fun h_1 => ?_) (fun h_1 => ?_)
  · refine go_iconst dX11_tracksAt_27 ?_
    exact go_ret (v := (-1)) rfl dX11_tracksAt_28 (okI ⟨by omega, by omega⟩) ⟨rfl, (by first | assumption | rfl | omega)⟩
  · refine go_iload_n dX11_tracksAt_4 rfl ?_
    refine go_aload_n dX11_tracksAt_5 rfl ?_
    refine go_getf_p (b := 92) dX11_tracksAt_6 fl_11_75 ob_0 rfl pt_0_8 ?_
    refine go_getf_i (ki := 1) dX11_tracksAt_9 fl_11_315 ob_92 rfl rfl (fun hf_9 => ?_)
    refine go_icmp_ge (tgt := 27) dX11_tracksAt_12 (by decide) ⟨by omega, by omega⟩ ⟨by omega, by omega⟩ (fun h_12 => ?_) (fun h_12 => ?_)
    · refine go_iconst dX11_tracksAt_27 ?_
      exact go_ret (v := (-1)) rfl dX11_tracksAt_28 (okI ⟨by omega, by omega⟩) ⟨rfl, (by first | assumption | rfl | omega)⟩
    · refine go_aload_n dX11_tracksAt_15 rfl ?_
      refine go_getf_p (b := 92) dX11_tracksAt_16 fl_11_75 ob_0 rfl pt_0_8 ?_
      refine go_getf_p (b := 93) dX11_tracksAt_19 fl_11_318 ob_92 rfl pt_92_0 ?_
      refine go_iload_n dX11_tracksAt_22 rfl ?_
      refine go_iaload dX11_tracksAt_23 ar_93 (by omega) (by omega) (fun he_23 => ?_)
      refine go_goto (tgt := 28) dX11_tracksAt_24 (by decide) ?_
      exact go_ret (v := (m 93 k)) rfl dX11_tracksAt_28 (okI ⟨by omega, by omega⟩) ⟨rfl, (by first | assumption | rfl | omega)⟩
theorem dX11_told_0 : decode mX11_told.2.1 0 = .ok (.aload_n 0, 1) := by decide +kernel
theorem dX11_told_1 : decode mX11_told.2.1 1 = .ok (.getfield 47, 3) := by decide +kernel
theorem dX11_told_4 : decode mX11_told.2.1 4 = .ok (.getfield 371, 3) := by decide +kernel
theorem dX11_told_7 : decode mX11_told.2.1 7 = .ok (.ifCond .ne 5, 3) := by decide +kernel
theorem dX11_told_10 : decode mX11_told.2.1 10 = .ok (.iconst (-1), 1) := by decide +kernel
theorem dX11_told_11 : decode mX11_told.2.1 11 = .ok (.ireturn, 1) := by decide +kernel
theorem dX11_told_12 : decode mX11_told.2.1 12 = .ok (.iload_n 1, 1) := by decide +kernel
theorem dX11_told_13 : decode mX11_told.2.1 13 = .ok (.tableswitch 63 0 3 #[31, 39, 47, 55], 31) := by decide +kernel
theorem dX11_told_44 : decode mX11_told.2.1 44 = .ok (.aload_n 0, 1) := by decide +kernel
theorem dX11_told_45 : decode mX11_told.2.1 45 = .ok (.getfield 47, 3) := by decide +kernel
theorem dX11_told_48 : decode mX11_told.2.1 48 = .ok (.getfield 368, 3) := by decide +kernel
theorem dX11_told_51 : decode mX11_told.2.1 51 = .ok (.ireturn, 1) := by decide +kernel
theorem dX11_told_52 : decode mX11_told.2.1 52 = .ok (.aload_n 0, 1) := by decide +kernel
theorem dX11_told_53 : decode mX11_told.2.1 53 = .ok (.getfield 47, 3) := by decide +kernel
theorem dX11_told_56 : decode mX11_told.2.1 56 = .ok (.getfield 365, 3) := by decide +kernel
theorem dX11_told_59 : decode mX11_told.2.1 59 = .ok (.ireturn, 1) := by decide +kernel
theorem dX11_told_60 : decode mX11_told.2.1 60 = .ok (.aload_n 0, 1) := by decide +kernel
theorem dX11_told_61 : decode mX11_told.2.1 61 = .ok (.getfield 47, 3) := by decide +kernel
theorem dX11_told_64 : decode mX11_told.2.1 64 = .ok (.getfield 375, 3) := by decide +kernel
theorem dX11_told_67 : decode mX11_told.2.1 67 = .ok (.ireturn, 1) := by decide +kernel
theorem dX11_told_68 : decode mX11_told.2.1 68 = .ok (.aload_n 0, 1) := by decide +kernel
theorem dX11_told_69 : decode mX11_told.2.1 69 = .ok (.getfield 47, 3) := by decide +kernel
theorem dX11_told_72 : decode mX11_told.2.1 72 = .ok (.getfield 376, 3) := by decide +kernel
theorem dX11_told_75 : decode mX11_told.2.1 75 = .ok (.ireturn, 1) := by decide +kernel
theorem dX11_told_76 : decode mX11_told.2.1 76 = .ok (.iconst (-1), 1) := by decide +kernel
theorem dX11_told_77 : decode mX11_told.2.1 77 = .ok (.ireturn, 1) := by decide +kernel
set_option maxRecDepth 4000 in
theorem ev_X11_told {m : Mem} {v : Int} (hv : InR v) : Ev 0 1 mX11_told [vr 0, vi v] m (fun r m' => m' = m ∧ (r = if m 70 0 = 0 then -1 else if v = 0 then m 70 1 else if v = 1 then m 70 2 else if v = 2 then m 70 3 else if v = 3 then m 70 4 else -1)) := by
  refine Ev.of (L := [vr 0, vi v]) (by decide +kernel) rfl (Nat.le_of_ble_eq_true rfl) rfl (fun t ht => by cases ht; first | exact Or.inl rfl | exact Or.inr (Or.inl rfl) | exact Or.inr (Or.inr rfl)) (fun hcan => ?_)
  refine go_aload_n dX11_told_0 rfl ?_
  refine go_getf_p (b := 70) dX11_told_1 fl_11_47 ob_0 rfl pt_0_4 ?_
  refine go_getf_z (ki := 0) dX11_told_4 fl_11_371 ob_70 rfl rfl (fun hf_4 => ?_)
  refine go_if_ne (tgt := 12) dX11_told_7 (by decide) ⟨by omega, by omega⟩ (fun h_7 => ?_) (fun h_7 => ?_)
  · refine go_iload_n dX11_told_12 rfl ?_
    refine go_tswitch (tgt := 76) dX11_told_13 ⟨by omega, by omega⟩ (by decide) (fun n_13 h_13 hb_13 => ?_) (fun h_13 => ?_)
    · match n_13, h_13, hb_13 with
      | 0, h_13, hb_13 =>
        refine ⟨31, 44, rfl, by decide, ?_⟩
        refine go_aload_n dX11_told_44 rfl ?_
        refine go_getf_p (b := 70) dX11_told_45 fl_11_47 ob_0 rfl pt_0_4 ?_
        refine go_getf_i (ki := 1) dX11_told_48 fl_11_368 ob_70 rfl rfl (fun hf_48 => ?_)
        exact go_ret (v := (m 70 1)) rfl dX11_told_51 (okI ⟨by omega, by omega⟩) ⟨rfl, (by first | assumption | rfl | omega)⟩
      | 1, h_13, hb_13 =>
        refine ⟨39, 52, rfl, by decide, ?_⟩
        refine go_aload_n dX11_told_52 rfl ?_
        refine go_getf_p (b := 70) dX11_told_53 fl_11_47 ob_0 rfl pt_0_4 ?_
        refine go_getf_i (ki := 2) dX11_told_56 fl_11_365 ob_70 rfl rfl (fun hf_56 => ?_)
        exact go_ret (v := (m 70 2)) rfl dX11_told_59 (okI ⟨by omega, by omega⟩) ⟨rfl, (by first | assumption | rfl | omega)⟩
      | 2, h_13, hb_13 =>
        refine ⟨47, 60, rfl, by decide, ?_⟩
        refine go_aload_n dX11_told_60 rfl ?_
        refine go_getf_p (b := 70) dX11_told_61 fl_11_47 ob_0 rfl pt_0_4 ?_
        refine go_getf_i (ki := 3) dX11_told_64 fl_11_375 ob_70 rfl rfl (fun hf_64 => ?_)
        exact go_ret (v := (m 70 3)) rfl dX11_told_67 (okI ⟨by omega, by omega⟩) ⟨rfl, (by first | assumption | rfl | omega)⟩
      | 3, h_13, hb_13 =>
        refine ⟨55, 68, rfl, by decide, ?_⟩
        refine go_aload_n dX11_told_68 rfl ?_
        refine go_getf_p (b := 70) dX11_told_69 fl_11_47 ob_0 rfl pt_0_4 ?_
        refine go_getf_i (ki := 4) dX11_told_72 fl_11_376 ob_70 rfl rfl (fun hf_72 => ?_)
        exact go_ret (v := (m 70 4)) rfl dX11_told_75 (okI ⟨by omega, by omega⟩) ⟨rfl, (by first | assumption | rfl | omega)⟩
      | k + 4, h_13, hb_13 => exfalso; omega
    · refine go_iconst dX11_told_76 ?_
      exact go_ret (v := (-1)) rfl dX11_told_77 (okI ⟨by omega, by omega⟩) ⟨rfl, (by first | assumption | rfl | omega)⟩
  · refine go_iconst dX11_told_10 ?_
    exact go_ret (v := (-1)) rfl dX11_told_11 (okI ⟨by omega, by omega⟩) ⟨rfl, (by first | assumption | rfl | omega)⟩
theorem dX11_byteAt_0 : decode mX11_byteAt.2.1 0 = .ok (.iload_n 1, 1) := by decide +kernel
theorem dX11_byteAt_1 : decode mX11_byteAt.2.1 1 = .ok (.ifCond .lt 20, 3) := by decide +kernel
theorem dX11_byteAt_4 : decode mX11_byteAt.2.1 4 = .ok (.iload_n 1, 1) := by decide +kernel
theorem dX11_byteAt_5 : decode mX11_byteAt.2.1 5 = .ok (.aload_n 0, 1) := by decide +kernel
theorem dX11_byteAt_6 : decode mX11_byteAt.2.1 6 = .ok (.getfield 98, 3) := by decide +kernel
theorem dX11_byteAt_9 : decode mX11_byteAt.2.1 9 = .ok (.if_icmp .ge 12, 3) := by decide +kernel
theorem dX11_byteAt_12 : decode mX11_byteAt.2.1 12 = .ok (.aload_n 0, 1) := by decide +kernel
theorem dX11_byteAt_13 : decode mX11_byteAt.2.1 13 = .ok (.getfield 94, 3) := by decide +kernel
theorem dX11_byteAt_16 : decode mX11_byteAt.2.1 16 = .ok (.iload_n 1, 1) := by decide +kernel
theorem dX11_byteAt_17 : decode mX11_byteAt.2.1 17 = .ok (.baload, 1) := by decide +kernel
theorem dX11_byteAt_18 : decode mX11_byteAt.2.1 18 = .ok (.goto 4, 3) := by decide +kernel
theorem dX11_byteAt_21 : decode mX11_byteAt.2.1 21 = .ok (.iconst (-1), 1) := by decide +kernel
theorem dX11_byteAt_22 : decode mX11_byteAt.2.1 22 = .ok (.ireturn, 1) := by decide +kernel
set_option maxRecDepth 4000 in
theorem ev_X11_byteAt {m : Mem} {k : Int} (hk : InR k) (hl : m 0 13 ≤ 25) : Ev 0 1 mX11_byteAt [vr 0, vi k] m (fun r m' => m' = m ∧ (r = if 0 ≤ k ∧ k < m 0 13 then m 213 k else -1)) := by
  refine Ev.of (L := [vr 0, vi k]) (by decide +kernel) rfl (Nat.le_of_ble_eq_true rfl) rfl (fun t ht => by cases ht; first | exact Or.inl rfl | exact Or.inr (Or.inl rfl) | exact Or.inr (Or.inr rfl)) (fun hcan => ?_)
  refine go_iload_n dX11_byteAt_0 rfl ?_
  refine go_if_lt (tgt := 21) dX11_byteAt_1 (by decide) ⟨by omega, by omega⟩ (fun h_1 => ?_) (fun h_1 => ?_)
  · refine go_iconst dX11_byteAt_21 ?_
    exact go_ret (v := (-1)) rfl dX11_byteAt_22 (okI ⟨by omega, by omega⟩) ⟨rfl, (by first | assumption | rfl | omega)⟩
  · refine go_iload_n dX11_byteAt_4 rfl ?_
    refine go_aload_n dX11_byteAt_5 rfl ?_
    refine go_getf_i (ki := 13) dX11_byteAt_6 fl_11_98 ob_0 rfl rfl (fun hf_6 => ?_)
    refine go_icmp_ge (tgt := 21) dX11_byteAt_9 (by decide) ⟨by omega, by omega⟩ ⟨by omega, by omega⟩ (fun h_9 => ?_) (fun h_9 => ?_)
    · refine go_iconst dX11_byteAt_21 ?_
      exact go_ret (v := (-1)) rfl dX11_byteAt_22 (okI ⟨by omega, by omega⟩) ⟨rfl, (by first | assumption | rfl | omega)⟩
    · refine go_aload_n dX11_byteAt_12 rfl ?_
      refine go_getf_p (b := 213) dX11_byteAt_13 fl_11_94 ob_0 rfl pt_0_12 ?_
      refine go_iload_n dX11_byteAt_16 rfl ?_
      refine go_baload dX11_byteAt_17 ar_213 (by omega) (by omega) (fun he_17 => ?_)
      refine go_goto (tgt := 22) dX11_byteAt_18 (by decide) ?_
      exact go_ret (v := (m 213 k)) rfl dX11_byteAt_22 (okI ⟨by omega, by omega⟩) ⟨rfl, (by first | assumption | rfl | omega)⟩
theorem dX11_count_0 : decode mX11_count.2.1 0 = .ok (.iload_n 1, 1) := by decide +kernel
theorem dX11_count_1 : decode mX11_count.2.1 1 = .ok (.tableswitch 102 0 5 #[39, 50, 61, 72, 83, 94], 39) := by decide +kernel
theorem dX11_count_40 : decode mX11_count.2.1 40 = .ok (.aload_n 0, 1) := by decide +kernel
theorem dX11_count_41 : decode mX11_count.2.1 41 = .ok (.getfield 24, 3) := by decide +kernel
theorem dX11_count_44 : decode mX11_count.2.1 44 = .ok (.getfield 28, 3) := by decide +kernel
theorem dX11_count_47 : decode mX11_count.2.1 47 = .ok (.getfield 395, 3) := by decide +kernel
theorem dX11_count_50 : decode mX11_count.2.1 50 = .ok (.ireturn, 1) := by decide +kernel
theorem dX11_count_51 : decode mX11_count.2.1 51 = .ok (.aload_n 0, 1) := by decide +kernel
theorem dX11_count_52 : decode mX11_count.2.1 52 = .ok (.getfield 24, 3) := by decide +kernel
theorem dX11_count_55 : decode mX11_count.2.1 55 = .ok (.getfield 28, 3) := by decide +kernel
theorem dX11_count_58 : decode mX11_count.2.1 58 = .ok (.getfield 398, 3) := by decide +kernel
theorem dX11_count_61 : decode mX11_count.2.1 61 = .ok (.ireturn, 1) := by decide +kernel
theorem dX11_count_62 : decode mX11_count.2.1 62 = .ok (.aload_n 0, 1) := by decide +kernel
theorem dX11_count_63 : decode mX11_count.2.1 63 = .ok (.getfield 24, 3) := by decide +kernel
theorem dX11_count_66 : decode mX11_count.2.1 66 = .ok (.getfield 28, 3) := by decide +kernel
theorem dX11_count_69 : decode mX11_count.2.1 69 = .ok (.getfield 401, 3) := by decide +kernel
theorem dX11_count_72 : decode mX11_count.2.1 72 = .ok (.ireturn, 1) := by decide +kernel
theorem dX11_count_73 : decode mX11_count.2.1 73 = .ok (.aload_n 0, 1) := by decide +kernel
theorem dX11_count_74 : decode mX11_count.2.1 74 = .ok (.getfield 24, 3) := by decide +kernel
theorem dX11_count_77 : decode mX11_count.2.1 77 = .ok (.getfield 28, 3) := by decide +kernel
theorem dX11_count_80 : decode mX11_count.2.1 80 = .ok (.getfield 327, 3) := by decide +kernel
theorem dX11_count_83 : decode mX11_count.2.1 83 = .ok (.ireturn, 1) := by decide +kernel
theorem dX11_count_84 : decode mX11_count.2.1 84 = .ok (.aload_n 0, 1) := by decide +kernel
theorem dX11_count_85 : decode mX11_count.2.1 85 = .ok (.getfield 24, 3) := by decide +kernel
theorem dX11_count_88 : decode mX11_count.2.1 88 = .ok (.getfield 28, 3) := by decide +kernel
theorem dX11_count_91 : decode mX11_count.2.1 91 = .ok (.getfield 404, 3) := by decide +kernel
theorem dX11_count_94 : decode mX11_count.2.1 94 = .ok (.ireturn, 1) := by decide +kernel
theorem dX11_count_95 : decode mX11_count.2.1 95 = .ok (.aload_n 0, 1) := by decide +kernel
theorem dX11_count_96 : decode mX11_count.2.1 96 = .ok (.getfield 12, 3) := by decide +kernel
theorem dX11_count_99 : decode mX11_count.2.1 99 = .ok (.getfield 102, 3) := by decide +kernel
theorem dX11_count_102 : decode mX11_count.2.1 102 = .ok (.ireturn, 1) := by decide +kernel
theorem dX11_count_103 : decode mX11_count.2.1 103 = .ok (.iconst (-1), 1) := by decide +kernel
theorem dX11_count_104 : decode mX11_count.2.1 104 = .ok (.ireturn, 1) := by decide +kernel
set_option maxRecDepth 4000 in
theorem ev_X11_count {m : Mem} {v : Int} (hv : InR v) : Ev 0 1 mX11_count [vr 0, vi v] m (fun r m' => m' = m ∧ (r = if v = 0 then m 8 0 else if v = 1 then m 8 1 else if v = 2 then m 8 2 else if v = 3 then m 8 3 else if v = 4 then m 8 4 else if v = 5 then m 1 1 else -1)) := by
  refine Ev.of (L := [vr 0, vi v]) (by decide +kernel) rfl (Nat.le_of_ble_eq_true rfl) rfl (fun t ht => by cases ht; first | exact Or.inl rfl | exact Or.inr (Or.inl rfl) | exact Or.inr (Or.inr rfl)) (fun hcan => ?_)
  refine go_iload_n dX11_count_0 rfl ?_
  refine go_tswitch (tgt := 103) dX11_count_1 ⟨by omega, by omega⟩ (by decide) (fun n_1 h_1 hb_1 => ?_) (fun h_1 => ?_)
  · match n_1, h_1, hb_1 with
    | 0, h_1, hb_1 =>
      refine ⟨39, 40, rfl, by decide, ?_⟩
      refine go_aload_n dX11_count_40 rfl ?_
      refine go_getf_p (b := 7) dX11_count_41 fl_11_24 ob_0 rfl pt_0_1 ?_
      refine go_getf_p (b := 8) dX11_count_44 fl_11_28 ob_7 rfl pt_7_0 ?_
      refine go_getf_i (ki := 0) dX11_count_47 fl_11_395 ob_8 rfl rfl (fun hf_47 => ?_)
      exact go_ret (v := (m 8 0)) rfl dX11_count_50 (okI ⟨by omega, by omega⟩) ⟨rfl, (by first | assumption | rfl | omega)⟩
    | 1, h_1, hb_1 =>
      refine ⟨50, 51, rfl, by decide, ?_⟩
      refine go_aload_n dX11_count_51 rfl ?_
      refine go_getf_p (b := 7) dX11_count_52 fl_11_24 ob_0 rfl pt_0_1 ?_
      refine go_getf_p (b := 8) dX11_count_55 fl_11_28 ob_7 rfl pt_7_0 ?_
      refine go_getf_i (ki := 1) dX11_count_58 fl_11_398 ob_8 rfl rfl (fun hf_58 => ?_)
      exact go_ret (v := (m 8 1)) rfl dX11_count_61 (okI ⟨by omega, by omega⟩) ⟨rfl, (by first | assumption | rfl | omega)⟩
    | 2, h_1, hb_1 =>
      refine ⟨61, 62, rfl, by decide, ?_⟩
      refine go_aload_n dX11_count_62 rfl ?_
      refine go_getf_p (b := 7) dX11_count_63 fl_11_24 ob_0 rfl pt_0_1 ?_
      refine go_getf_p (b := 8) dX11_count_66 fl_11_28 ob_7 rfl pt_7_0 ?_
      refine go_getf_i (ki := 2) dX11_count_69 fl_11_401 ob_8 rfl rfl (fun hf_69 => ?_)
      exact go_ret (v := (m 8 2)) rfl dX11_count_72 (okI ⟨by omega, by omega⟩) ⟨rfl, (by first | assumption | rfl | omega)⟩
    | 3, h_1, hb_1 =>
      refine ⟨72, 73, rfl, by decide, ?_⟩
      refine go_aload_n dX11_count_73 rfl ?_
      refine go_getf_p (b := 7) dX11_count_74 fl_11_24 ob_0 rfl pt_0_1 ?_
      refine go_getf_p (b := 8) dX11_count_77 fl_11_28 ob_7 rfl pt_7_0 ?_
      refine go_getf_i (ki := 3) dX11_count_80 fl_11_327 ob_8 rfl rfl (fun hf_80 => ?_)
      exact go_ret (v := (m 8 3)) rfl dX11_count_83 (okI ⟨by omega, by omega⟩) ⟨rfl, (by first | assumption | rfl | omega)⟩
    | 4, h_1, hb_1 =>
      refine ⟨83, 84, rfl, by decide, ?_⟩
      refine go_aload_n dX11_count_84 rfl ?_
      refine go_getf_p (b := 7) dX11_count_85 fl_11_24 ob_0 rfl pt_0_1 ?_
      refine go_getf_p (b := 8) dX11_count_88 fl_11_28 ob_7 rfl pt_7_0 ?_
      refine go_getf_i (ki := 4) dX11_count_91 fl_11_404 ob_8 rfl rfl (fun hf_91 => ?_)
      exact go_ret (v := (m 8 4)) rfl dX11_count_94 (okI ⟨by omega, by omega⟩) ⟨rfl, (by first | assumption | rfl | omega)⟩
    | 5, h_1, hb_1 =>
      refine ⟨94, 95, rfl, by decide, ?_⟩
      refine go_aload_n dX11_count_95 rfl ?_
      refine go_getf_p (b := 1) dX11_count_96 fl_11_12 ob_0 rfl pt_0_0 ?_
      refine go_getf_i (ki := 1) dX11_count_99 fl_11_102 ob_1 rfl rfl (fun hf_99 => ?_)
      exact go_ret (v := (m 1 1)) rfl dX11_count_102 (okI ⟨by omega, by omega⟩) ⟨rfl, (by first | assumption | rfl | omega)⟩
    | k + 6, h_1, hb_1 => exfalso; omega
  · refine go_iconst dX11_count_103 ?_
    exact go_ret (v := (-1)) rfl dX11_count_104 (okI ⟨by omega, by omega⟩) ⟨rfl, (by first | assumption | rfl | omega)⟩
theorem dX11_image_0 : decode mX11_image.2.1 0 = .ok (.iload_n 1, 1) := by decide +kernel
theorem dX11_image_1 : decode mX11_image.2.1 1 = .ok (.ifCond .lt 12, 3) := by decide +kernel
theorem dX11_image_4 : decode mX11_image.2.1 4 = .ok (.iload_n 1, 1) := by decide +kernel
theorem dX11_image_5 : decode mX11_image.2.1 5 = .ok (.aload_n 0, 1) := by decide +kernel
theorem dX11_image_6 : decode mX11_image.2.1 6 = .ok (.getfield 86, 3) := by decide +kernel
theorem dX11_image_9 : decode mX11_image.2.1 9 = .ok (.arraylength, 1) := by decide +kernel
theorem dX11_image_10 : decode mX11_image.2.1 10 = .ok (.if_icmp .lt 5, 3) := by decide +kernel
theorem dX11_image_13 : decode mX11_image.2.1 13 = .ok (.iconst 0, 1) := by decide +kernel
theorem dX11_image_14 : decode mX11_image.2.1 14 = .ok (.ireturn, 1) := by decide +kernel
theorem dX11_image_15 : decode mX11_image.2.1 15 = .ok (.aload_n 0, 1) := by decide +kernel
theorem dX11_image_16 : decode mX11_image.2.1 16 = .ok (.getfield 86, 3) := by decide +kernel
theorem dX11_image_19 : decode mX11_image.2.1 19 = .ok (.iload_n 1, 1) := by decide +kernel
theorem dX11_image_20 : decode mX11_image.2.1 20 = .ok (.aaload, 1) := by decide +kernel
theorem dX11_image_21 : decode mX11_image.2.1 21 = .ok (.aload_n 0, 1) := by decide +kernel
theorem dX11_image_22 : decode mX11_image.2.1 22 = .ok (.getfield 24, 3) := by decide +kernel
theorem dX11_image_25 : decode mX11_image.2.1 25 = .ok (.invokevirtual 119, 3) := by decide +kernel
theorem dX11_image_28 : decode mX11_image.2.1 28 = .ok (.aload_n 0, 1) := by decide +kernel
theorem dX11_image_29 : decode mX11_image.2.1 29 = .ok (.getfield 90, 3) := by decide +kernel
theorem dX11_image_32 : decode mX11_image.2.1 32 = .ok (.iload_n 1, 1) := by decide +kernel
theorem dX11_image_33 : decode mX11_image.2.1 33 = .ok (.iconst 1, 1) := by decide +kernel
theorem dX11_image_34 : decode mX11_image.2.1 34 = .ok (.bastore, 1) := by decide +kernel
theorem dX11_image_35 : decode mX11_image.2.1 35 = .ok (.iconst 1, 1) := by decide +kernel
theorem dX11_image_36 : decode mX11_image.2.1 36 = .ok (.ireturn, 1) := by decide +kernel
set_option maxRecDepth 4000 in
theorem ev_X11_image {m : Mem} {k : Int} (hk : InR k) : Ev 0 6 mX11_image [vr 0, vi k] m (fun r m' => ((0 ≤ k ∧ k < 2) ∧ r = 1 ∧ m' = wr (cpW m (imW k + 1) 8 (imW k + 11) 18) 212 k 1) ∨ (¬ (0 ≤ k ∧ k < 2) ∧ r = 0 ∧ m' = m)) := by
  refine Ev.of (L := [vr 0, vi k]) (by decide +kernel) rfl (Nat.le_of_ble_eq_true rfl) rfl (fun t ht => by cases ht; first | exact Or.inl rfl | exact Or.inr (Or.inl rfl) | exact Or.inr (Or.inr rfl)) (fun hcan => ?_)
  refine go_iload_n dX11_image_0 rfl ?_
  refine go_if_lt (tgt := 13) dX11_image_1 (by decide) ⟨by omega, by omega⟩ (fun h_1 => ?_) (fun h_1 => ?_)
  · refine go_iconst dX11_image_13 ?_
    exact go_ret (v := 0) rfl dX11_image_14 (okZ (by first | exact Or.inl rfl | exact Or.inr rfl | assumption | omega)) (Or.inr ⟨by omega, rfl, rfl⟩)
  · refine go_iload_n dX11_image_4 rfl ?_
    refine go_aload_n dX11_image_5 rfl ?_
    refine go_getf_p (b := 163) dX11_image_6 fl_11_86 ob_0 rfl pt_0_10 ?_
    refine go_alen (x := 2) dX11_image_9 ar_163 (by decide) rfl ?_
    refine go_icmp_lt (tgt := 15) dX11_image_10 (by decide) ⟨by omega, by omega⟩ ⟨by omega, by omega⟩ (fun h_10 => ?_) (fun h_10 => ?_)
    · refine go_aload_n dX11_image_15 rfl ?_
      refine go_getf_p (b := 163) dX11_image_16 fl_11_86 ob_0 rfl pt_0_10 ?_
      refine go_iload_n dX11_image_19 rfl ?_
      refine go_aaload (b := (imW k)) dX11_image_20 ar_163 (by decide) (by omega) (by omega) (sp163i (by omega) (by omega)) ?_
      refine go_aload_n dX11_image_21 rfl ?_
      refine go_getf_p (b := 7) dX11_image_22 fl_11_24 ob_0 rfl pt_0_1 ?_
      refine go_callV_v (as := [vr 7]) (S := []) (b := (imW k)) (ev_X10_copyFrom (m := m) (w := (imW k)) (o := 7) (d := (imW k + 1)) (st := (imW k + 11)) (od := 8) (os := 18) (isWd_im (by omega) (by omega)) isWd_7 (by have := imW_b (k := k) (by omega) (by omega); omega)) rfl dX11_image_25 cv_11_119 rfl rfl (isWd_im (by omega) (by omega)).o rfl (by decide) (Nat.le_of_ble_eq_true rfl) (fun m_25 hr_25 => ?_)
      subst hr_25
      refine go_aload_n dX11_image_28 rfl ?_
      refine go_getf_p (b := 212) dX11_image_29 fl_11_90 ob_0 rfl pt_0_11 ?_
      refine go_iload_n dX11_image_32 rfl ?_
      refine go_iconst dX11_image_33 ?_
      refine go_zastore dX11_image_34 ar_212 (by omega) (by omega) (by first | exact Or.inl rfl | exact Or.inr rfl | assumption | omega) ?_
      refine go_iconst dX11_image_35 ?_
      exact go_ret (v := 1) rfl dX11_image_36 (okZ (by first | exact Or.inl rfl | exact Or.inr rfl | assumption | omega)) (Or.inl ⟨by omega, rfl, rfl⟩)
    · refine go_iconst dX11_image_13 ?_
      exact go_ret (v := 0) rfl dX11_image_14 (okZ (by first | exact Or.inl rfl | exact Or.inr rfl | assumption | omega)) (Or.inr ⟨by omega, rfl, rfl⟩)
theorem dX11_restore_0 : decode mX11_restore.2.1 0 = .ok (.iload_n 1, 1) := by decide +kernel
theorem dX11_restore_1 : decode mX11_restore.2.1 1 = .ok (.ifCond .lt 21, 3) := by decide +kernel
theorem dX11_restore_4 : decode mX11_restore.2.1 4 = .ok (.iload_n 1, 1) := by decide +kernel
theorem dX11_restore_5 : decode mX11_restore.2.1 5 = .ok (.aload_n 0, 1) := by decide +kernel
theorem dX11_restore_6 : decode mX11_restore.2.1 6 = .ok (.getfield 86, 3) := by decide +kernel
theorem dX11_restore_9 : decode mX11_restore.2.1 9 = .ok (.arraylength, 1) := by decide +kernel
theorem dX11_restore_10 : decode mX11_restore.2.1 10 = .ok (.if_icmp .ge 12, 3) := by decide +kernel
theorem dX11_restore_13 : decode mX11_restore.2.1 13 = .ok (.aload_n 0, 1) := by decide +kernel
theorem dX11_restore_14 : decode mX11_restore.2.1 14 = .ok (.getfield 90, 3) := by decide +kernel
theorem dX11_restore_17 : decode mX11_restore.2.1 17 = .ok (.iload_n 1, 1) := by decide +kernel
theorem dX11_restore_18 : decode mX11_restore.2.1 18 = .ok (.baload, 1) := by decide +kernel
theorem dX11_restore_19 : decode mX11_restore.2.1 19 = .ok (.ifCond .ne 5, 3) := by decide +kernel
theorem dX11_restore_22 : decode mX11_restore.2.1 22 = .ok (.iconst 0, 1) := by decide +kernel
theorem dX11_restore_23 : decode mX11_restore.2.1 23 = .ok (.ireturn, 1) := by decide +kernel
theorem dX11_restore_24 : decode mX11_restore.2.1 24 = .ok (.aload_n 0, 1) := by decide +kernel
theorem dX11_restore_25 : decode mX11_restore.2.1 25 = .ok (.getfield 24, 3) := by decide +kernel
theorem dX11_restore_28 : decode mX11_restore.2.1 28 = .ok (.aload_n 0, 1) := by decide +kernel
theorem dX11_restore_29 : decode mX11_restore.2.1 29 = .ok (.getfield 86, 3) := by decide +kernel
theorem dX11_restore_32 : decode mX11_restore.2.1 32 = .ok (.iload_n 1, 1) := by decide +kernel
theorem dX11_restore_33 : decode mX11_restore.2.1 33 = .ok (.aaload, 1) := by decide +kernel
theorem dX11_restore_34 : decode mX11_restore.2.1 34 = .ok (.invokevirtual 119, 3) := by decide +kernel
theorem dX11_restore_37 : decode mX11_restore.2.1 37 = .ok (.aload_n 0, 1) := by decide +kernel
theorem dX11_restore_38 : decode mX11_restore.2.1 38 = .ok (.getfield 82, 3) := by decide +kernel
theorem dX11_restore_41 : decode mX11_restore.2.1 41 = .ok (.invokevirtual 123, 3) := by decide +kernel
theorem dX11_restore_44 : decode mX11_restore.2.1 44 = .ok (.iconst 1, 1) := by decide +kernel
theorem dX11_restore_45 : decode mX11_restore.2.1 45 = .ok (.ireturn, 1) := by decide +kernel
set_option maxRecDepth 4000 in
theorem ev_X11_restore {m : Mem} {k : Int} (hk : InR k) : Ev 0 6 mX11_restore [vr 0, vi k] m (fun r m' => ((0 ≤ k ∧ k < 2 ∧ m 212 k = 1) ∧ r = 1 ∧ m' = wr (cpW m 8 (imW k + 1) 18 (imW k + 11)) 97 2 0) ∨ (¬ (0 ≤ k ∧ k < 2 ∧ m 212 k = 1) ∧ r = 0 ∧ m' = m)) := by
  refine Ev.of (L := [vr 0, vi k]) (by decide +kernel) rfl (Nat.le_of_ble_eq_true rfl) rfl (fun t ht => by cases ht; first | exact Or.inl rfl | exact Or.inr (Or.inl rfl) | exact Or.inr (Or.inr rfl)) (fun hcan => ?_)
  refine go_iload_n dX11_restore_0 rfl ?_
  refine go_if_lt (tgt := 22) dX11_restore_1 (by decide) ⟨by omega, by omega⟩ (fun h_1 => ?_) (fun h_1 => ?_)
  · refine go_iconst dX11_restore_22 ?_
    exact go_ret (v := 0) rfl dX11_restore_23 (okZ (by first | exact Or.inl rfl | exact Or.inr rfl | assumption | omega)) (Or.inr ⟨by omega, rfl, rfl⟩)
  · refine go_iload_n dX11_restore_4 rfl ?_
    refine go_aload_n dX11_restore_5 rfl ?_
    refine go_getf_p (b := 163) dX11_restore_6 fl_11_86 ob_0 rfl pt_0_10 ?_
    refine go_alen (x := 2) dX11_restore_9 ar_163 (by decide) rfl ?_
    refine go_icmp_ge (tgt := 22) dX11_restore_10 (by decide) ⟨by omega, by omega⟩ ⟨by omega, by omega⟩ (fun h_10 => ?_) (fun h_10 => ?_)
    · refine go_iconst dX11_restore_22 ?_
      exact go_ret (v := 0) rfl dX11_restore_23 (okZ (by first | exact Or.inl rfl | exact Or.inr rfl | assumption | omega)) (Or.inr ⟨by omega, rfl, rfl⟩)
    · refine go_aload_n dX11_restore_13 rfl ?_
      refine go_getf_p (b := 212) dX11_restore_14 fl_11_90 ob_0 rfl pt_0_11 ?_
      refine go_iload_n dX11_restore_17 rfl ?_
      refine go_zaload dX11_restore_18 ar_212 (by omega) (by omega) (fun he_18 => ?_)
      refine go_if_ne (tgt := 24) dX11_restore_19 (by decide) ⟨by omega, by omega⟩ (fun h_19 => ?_) (fun h_19 => ?_)
      · refine go_aload_n dX11_restore_24 rfl ?_
        refine go_getf_p (b := 7) dX11_restore_25 fl_11_24 ob_0 rfl pt_0_1 ?_
        refine go_aload_n dX11_restore_28 rfl ?_
        refine go_getf_p (b := 163) dX11_restore_29 fl_11_86 ob_0 rfl pt_0_10 ?_
        refine go_iload_n dX11_restore_32 rfl ?_
        refine go_aaload (b := (imW k)) dX11_restore_33 ar_163 (by decide) (by omega) (by omega) (sp163i (by omega) (by omega)) ?_
        refine go_callV_v (as := [vr (imW k)]) (S := []) (b := 7) (ev_X10_copyFrom (m := m) (w := 7) (o := (imW k)) (d := 8) (st := 18) (od := (imW k + 1)) (os := (imW k + 11)) isWd_7 (isWd_im (by omega) (by omega)) (by have := imW_b (k := k) (by omega) (by omega); omega)) rfl dX11_restore_34 cv_11_119 rfl rfl ob_7 rfl (by decide) (Nat.le_of_ble_eq_true rfl) (fun m_34 hr_34 => ?_)
        subst hr_34
        refine go_aload_n dX11_restore_37 rfl ?_
        refine go_getf_p (b := 97) dX11_restore_38 fl_11_82 ob_0 rfl pt_0_9 ?_
        refine go_callV_v (as := []) (S := []) (b := 97) (ev_X3_clear (m := (cpW m 8 (imW k + 1) 18 (imW k + 11)))  ) rfl dX11_restore_41 cv_11_123 rfl rfl ob_97 rfl (by decide) (Nat.le_of_ble_eq_true rfl) (fun m_41 hr_41 => ?_)
        refine go_iconst dX11_restore_44 ?_
        exact go_ret (v := 1) rfl dX11_restore_45 (okZ (by first | exact Or.inl rfl | exact Or.inr rfl | assumption | omega)) (Or.inl ⟨by omega, rfl, hr_41⟩)
      · refine go_iconst dX11_restore_22 ?_
        exact go_ret (v := 0) rfl dX11_restore_23 (okZ (by first | exact Or.inl rfl | exact Or.inr rfl | assumption | omega)) (Or.inr ⟨by omega, rfl, rfl⟩)
theorem dX8_stepOfMost_0 : decode mX8_stepOfMost.2.1 0 = .ok (.aload_n 0, 1) := by decide +kernel
theorem dX8_stepOfMost_1 : decode mX8_stepOfMost.2.1 1 = .ok (.getfield 15, 3) := by decide +kernel
theorem dX8_stepOfMost_4 : decode mX8_stepOfMost.2.1 4 = .ok (.ifCond .ne 5, 3) := by decide +kernel
theorem dX8_stepOfMost_7 : decode mX8_stepOfMost.2.1 7 = .ok (.iconst (-1), 1) := by decide +kernel
theorem dX8_stepOfMost_8 : decode mX8_stepOfMost.2.1 8 = .ok (.ireturn, 1) := by decide +kernel
theorem dX8_stepOfMost_9 : decode mX8_stepOfMost.2.1 9 = .ok (.iconst 0, 1) := by decide +kernel
theorem dX8_stepOfMost_10 : decode mX8_stepOfMost.2.1 10 = .ok (.istore_n 1, 1) := by decide +kernel
theorem dX8_stepOfMost_11 : decode mX8_stepOfMost.2.1 11 = .ok (.iconst 1, 1) := by decide +kernel
theorem dX8_stepOfMost_12 : decode mX8_stepOfMost.2.1 12 = .ok (.istore_n 2, 1) := by decide +kernel
theorem dX8_stepOfMost_13 : decode mX8_stepOfMost.2.1 13 = .ok (.iload_n 2, 1) := by decide +kernel
theorem dX8_stepOfMost_14 : decode mX8_stepOfMost.2.1 14 = .ok (.aload_n 0, 1) := by decide +kernel
theorem dX8_stepOfMost_15 : decode mX8_stepOfMost.2.1 15 = .ok (.getfield 15, 3) := by decide +kernel
theorem dX8_stepOfMost_18 : decode mX8_stepOfMost.2.1 18 = .ok (.if_icmp .ge 26, 3) := by decide +kernel
theorem dX8_stepOfMost_21 : decode mX8_stepOfMost.2.1 21 = .ok (.aload_n 0, 1) := by decide +kernel
theorem dX8_stepOfMost_22 : decode mX8_stepOfMost.2.1 22 = .ok (.getfield 19, 3) := by decide +kernel
theorem dX8_stepOfMost_25 : decode mX8_stepOfMost.2.1 25 = .ok (.iload_n 2, 1) := by decide +kernel
theorem dX8_stepOfMost_26 : decode mX8_stepOfMost.2.1 26 = .ok (.iaload, 1) := by decide +kernel
theorem dX8_stepOfMost_27 : decode mX8_stepOfMost.2.1 27 = .ok (.aload_n 0, 1) := by decide +kernel
theorem dX8_stepOfMost_28 : decode mX8_stepOfMost.2.1 28 = .ok (.getfield 19, 3) := by decide +kernel
theorem dX8_stepOfMost_31 : decode mX8_stepOfMost.2.1 31 = .ok (.iload_n 1, 1) := by decide +kernel
theorem dX8_stepOfMost_32 : decode mX8_stepOfMost.2.1 32 = .ok (.iaload, 1) := by decide +kernel
theorem dX8_stepOfMost_33 : decode mX8_stepOfMost.2.1 33 = .ok (.if_icmp .le 5, 3) := by decide +kernel
theorem dX8_stepOfMost_36 : decode mX8_stepOfMost.2.1 36 = .ok (.iload_n 2, 1) := by decide +kernel
theorem dX8_stepOfMost_37 : decode mX8_stepOfMost.2.1 37 = .ok (.istore_n 1, 1) := by decide +kernel
theorem dX8_stepOfMost_38 : decode mX8_stepOfMost.2.1 38 = .ok (.iinc 2 1, 3) := by decide +kernel
theorem dX8_stepOfMost_41 : decode mX8_stepOfMost.2.1 41 = .ok (.goto (-28), 3) := by decide +kernel
theorem dX8_stepOfMost_44 : decode mX8_stepOfMost.2.1 44 = .ok (.iload_n 1, 1) := by decide +kernel
theorem dX8_stepOfMost_45 : decode mX8_stepOfMost.2.1 45 = .ok (.ireturn, 1) := by decide +kernel
set_option maxRecDepth 4000 in
theorem ev_X8_stepOfMost {m : Mem}  (hl : 0 ≤ m 92 1 ∧ m 92 1 ≤ 6) : Ev 0 1 mX8_stepOfMost [vr 92] m (fun r m' => m' = m ∧ (r = if m 92 1 = 0 then -1 else mstN (m 94) (m 92 1 - 1).toNat)) := by
  refine Ev.of (L := [vr 92, un, un]) (by decide +kernel) rfl (Nat.le_of_ble_eq_true rfl) rfl (fun t ht => by cases ht; first | exact Or.inl rfl | exact Or.inr (Or.inl rfl) | exact Or.inr (Or.inr rfl)) (fun hcan => ?_)
  refine go_aload_n dX8_stepOfMost_0 rfl ?_
  refine go_getf_i (ki := 1) dX8_stepOfMost_1 fl_8_15 ob_92 rfl rfl (fun hf_1 => ?_)
  refine go_if_ne (tgt := 9) dX8_stepOfMost_4 (by decide) ⟨by omega, by omega⟩ (fun h_4 => ?_) (fun h_4 => ?_)
  · refine go_iconst dX8_stepOfMost_9 ?_
    refine go_istore_n (L' := [vr 92, vi 0, un]) dX8_stepOfMost_10 (by decide) rfl rfl ?_
    refine go_iconst dX8_stepOfMost_11 ?_
    refine go_istore_n (L' := [vr 92, vi 0, vi 1]) dX8_stepOfMost_12 (by decide) rfl rfl ?_
    have lp_13 : ∀ (n_13 : Nat) (c : Int) (p : Int), (1 ≤ p) → (p ≤ m 92 1) → (c = mstN (m 94) (p - 1).toNat) → (m 92 1 - p).toNat < n_13 → Go 0 1 mX8_stepOfMost (fun r m' => m' = m ∧ (r = if m 92 1 = 0 then -1 else mstN (m 94) (m 92 1 - 1).toNat)) 13 [vr 92, vi c, vi p] [] m := by
      intro n_13
      induction n_13 with
      | zero => intro c p hp0 hp1 hc hmu; exact absurd hmu (Nat.not_lt_zero _)
      | succ n_13 ih_13 =>
        intro c p hp0 hp1 hc hmu
        have hcb := mstN_b (m 94) (p - 1).toNat
        rw [← hc] at hcb
        refine go_iload_n dX8_stepOfMost_13 rfl ?_
        refine go_aload_n dX8_stepOfMost_14 rfl ?_
        refine go_getf_i (ki := 1) dX8_stepOfMost_15 fl_8_15 ob_92 rfl rfl (fun hf_15 => ?_)
        refine go_icmp_ge (tgt := 44) dX8_stepOfMost_18 (by decide) ⟨by omega, by omega⟩ ⟨by omega, by omega⟩ (fun h_18 => ?_) (fun h_18 => ?_)
        · refine go_iload_n dX8_stepOfMost_44 rfl ?_
          exact go_ret (v := c) rfl dX8_stepOfMost_45 (okI ⟨by omega, by omega⟩) ⟨rfl, (by rw [if_neg (by omega), hc, show p = m 92 1 by omega])⟩
        · refine go_aload_n dX8_stepOfMost_21 rfl ?_
          refine go_getf_p (b := 94) dX8_stepOfMost_22 fl_8_19 ob_92 rfl pt_92_2 ?_
          refine go_iload_n dX8_stepOfMost_25 rfl ?_
          refine go_iaload dX8_stepOfMost_26 ar_94 (by omega) (by omega) (fun he_26 => ?_)
          refine go_aload_n dX8_stepOfMost_27 rfl ?_
          refine go_getf_p (b := 94) dX8_stepOfMost_28 fl_8_19 ob_92 rfl pt_92_2 ?_
          refine go_iload_n dX8_stepOfMost_31 rfl ?_
          refine go_iaload dX8_stepOfMost_32 ar_94 (by omega) (by omega) (fun he_32 => ?_)
          refine go_icmp_le (tgt := 38) dX8_stepOfMost_33 (by decide) ⟨by omega, by omega⟩ ⟨by omega, by omega⟩ (fun h_33 => ?_) (fun h_33 => ?_)
          · refine go_iinc (L' := [vr 92, vi c, vi (p + 1)]) dX8_stepOfMost_38 rfl (by decide) rfl rfl ?_
            refine go_goto (tgt := 13) dX8_stepOfMost_41 (by decide) ?_
            exact ih_13 c (p + 1) (by first | assumption | omega | rfl) (by first | assumption | omega | rfl) (by rw [show p + 1 - 1 = p by omega, mstN_s hp0, ← hc]; first | rw [if_pos (by omega)] | rw [if_neg (by omega)]) (by omega)
          · refine go_iload_n dX8_stepOfMost_36 rfl ?_
            refine go_istore_n (L' := [vr 92, vi p, vi p]) dX8_stepOfMost_37 (by decide) rfl rfl ?_
            refine go_iinc (L' := [vr 92, vi p, vi (p + 1)]) dX8_stepOfMost_38 rfl (by decide) rfl rfl ?_
            refine go_goto (tgt := 13) dX8_stepOfMost_41 (by decide) ?_
            exact ih_13 p (p + 1) (by first | assumption | omega | rfl) (by first | assumption | omega | rfl) (by rw [show p + 1 - 1 = p by omega, mstN_s hp0, ← hc]; first | rw [if_pos (by omega)] | rw [if_neg (by omega)]) (by omega)
    exact lp_13 _ 0 1 (by first | assumption | omega | rfl) (by first | assumption | omega | rfl) (by first | assumption | omega | rfl) (Nat.lt_succ_self _)
  · refine go_iconst dX8_stepOfMost_7 ?_
    exact go_ret (v := (-1)) rfl dX8_stepOfMost_8 (okI ⟨by omega, by omega⟩) ⟨rfl, (by rw [if_pos (by omega)])⟩
theorem dX11_tells_0 : decode mX11_tells.2.1 0 = .ok (.aload_n 0, 1) := by decide +kernel
theorem dX11_tells_1 : decode mX11_tells.2.1 1 = .ok (.getfield 75, 3) := by decide +kernel
theorem dX11_tells_4 : decode mX11_tells.2.1 4 = .ok (.invokevirtual 321, 3) := by decide +kernel
theorem dX11_tells_7 : decode mX11_tells.2.1 7 = .ok (.ireturn, 1) := by decide +kernel
set_option maxRecDepth 4000 in
theorem ev_X11_tells {m : Mem}  (hl : 0 ≤ m 92 1 ∧ m 92 1 ≤ 6) : Ev 0 2 mX11_tells [vr 0] m (fun r m' => m' = m ∧ (r = if m 92 1 = 0 then -1 else mstN (m 94) (m 92 1 - 1).toNat)) := by
  refine Ev.of (L := [vr 0]) (by decide +kernel) rfl (Nat.le_of_ble_eq_true rfl) rfl (fun t ht => by cases ht; first | exact Or.inl rfl | exact Or.inr (Or.inl rfl) | exact Or.inr (Or.inr rfl)) (fun hcan => ?_)
  refine go_aload_n dX11_tells_0 rfl ?_
  refine go_getf_p (b := 92) dX11_tells_1 fl_11_75 ob_0 rfl pt_0_8 ?_
  refine go_callVp_i (as := []) (S := []) (b := 92) (ev_X8_stepOfMost (m := m)  (by first | assumption | omega | exact ⟨by omega, by omega⟩ | (constructor <;> omega))) rfl dX11_tells_4 cv_11_321 rfl rfl ob_92 rfl (by decide) (Nat.le_of_ble_eq_true rfl) (fun r_4 hr_4 ho_4 => ?_)
  exact go_ret (v := r_4) rfl dX11_tells_7 (okI ⟨by omega, by omega⟩) ⟨rfl, (by first | assumption | rfl | omega)⟩
