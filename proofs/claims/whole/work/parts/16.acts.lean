theorem wr_wr {m : Mem} {a : Nat} {i x y : Int} : wr (wr m a i x) a i y = wr m a i y := by
  funext b j; unfold wr; split <;> rfl
theorem wr_id {m : Mem} {a : Nat} {i : Int} : wr m a i (m a i) = m := by
  funext b j; unfold wr; split
  · rename_i h; rw [h.1, h.2]
  · rfl
theorem wr_rowat {m : Mem} {a : Nat} {i x : Int} : wr m a i x a = fun j => if j = i then x else m a j := by
  funext j; unfold wr; by_cases h : j = i
  · rw [if_pos ⟨rfl, h⟩, if_pos h]
  · rw [if_neg (fun q => h q.2), if_neg h]
def comeN (c : Int) (P : Int → Bool) : Nat → Int
  | 0 => c
  | n + 1 => if P (n : Int) then ior (comeN c P n) (ishl 1 (n : Int)) else comeN c P n
theorem comeN_s {c : Int} {P : Int → Bool} {q : Int} (h : 0 ≤ q) : comeN c P (q + 1).toNat = if P q then ior (comeN c P q.toNat) (ishl 1 q) else comeN c P q.toNat := by
  rw [show (q + 1).toNat = q.toNat + 1 by omega]
  show (if P (q.toNat : Int) then ior _ (ishl 1 (q.toNat : Int)) else _) = _
  rw [Int.toNat_of_nonneg h]
theorem ior_lt_small : ∀ n : Nat, n < 6 → ∀ c : Nat, c < 2 ^ n → ∀ q : Nat, q < n → 0 ≤ ior (c : Int) (ishl 1 (q : Int)) ∧ ior (c : Int) (ishl 1 (q : Int)) < 2 ^ n := by decide +kernel
theorem ior_lt {n c q : Int} (hn : n ≤ 5) (hc : 0 ≤ c) (hc1 : c < pow2 n) (hq : 0 ≤ q) (hq1 : q < n) : 0 ≤ ior c (ishl 1 q) ∧ ior c (ishl 1 q) < pow2 n := by
  obtain ⟨c, rfl⟩ := Int.eq_ofNat_of_zero_le hc
  obtain ⟨q, rfl⟩ := Int.eq_ofNat_of_zero_le hq
  obtain ⟨n, rfl⟩ := Int.eq_ofNat_of_zero_le (show 0 ≤ n by omega)
  have := ior_lt_small n (by omega) c (by unfold pow2 at hc1; simp at hc1; exact_mod_cast hc1) q (by omega)
  unfold pow2
  simpa using this
theorem comeN_b {c n : Int} {P : Int → Bool} (hn : n ≤ 5) (hc : 0 ≤ c) (hc1 : c < pow2 n) : ∀ k : Nat, (k : Int) ≤ n → 0 ≤ comeN c P k ∧ comeN c P k < pow2 n := by
  intro k
  induction k with
  | zero => intro _; exact ⟨hc, hc1⟩
  | succ k ih =>
    intro hk
    have h := ih (by omega)
    show 0 ≤ (if P (k : Int) then ior _ _ else _) ∧ (if P (k : Int) then ior _ _ else _) < _
    split
    · exact ior_lt hn h.1 h.2 (by omega) (by omega)
    · exact h
def upP (m : Mem) (d st : Nat) (p : Int) : Int → Bool := fun q => decide (m (d + 7) q = m (st + 2) p ∧ m (d + 8) q = m (st + 3) p ∧ m (d + 9) q = m (st + 4) p)
def bring (m : Mem) (d st : Nat) (p : Int) : Mem := wr m (st + 6) p (comeN (m (st + 6) p) (upP m d st p) (m d 4).toNat)
def sayW (m : Mem) (d st : Nat) (p f s : Int) : Mem := wr (wr (wr (wr (wr m (st + 2) p (m (st + 2) p + m (d + 3) f * dx s)) (st + 3) p (m (st + 3) p + m (d + 3) f * dy s)) (st + 4) p (iand (m (st + 4) p + m (d + 2) f) 3)) (st + 5) p (m (st + 5) p - costC m d f)) (st + 7) p (m (st + 7) p + 1)
def sayC (m : Mem) (d st : Nat) (p f s : Int) : Mem := bring (sayW m d st p f s) d st p
def kickC (m : Mem) (st : Nat) (p s : Int) : Mem := wr (wr (wr m (st + 1) (9 * (m (st + 3) p + dy s) + (m (st + 2) p + dx s)) (m (st + 1) (9 * (m (st + 3) p + dy s) + (m (st + 2) p + dx s)) - 1)) (st + 5) p (m (st + 5) p - 1)) st 1 (m st 1 + 1)
def restC (m : Mem) (d st : Nat) (p : Int) : Mem := wr m (st + 5) p (m (d + 5) p)
def hrsC (m : Mem) (d st : Nat) (n k : Int) : Mem := fun b j => if b = st + 5 ∧ 0 ≤ j ∧ j < k then min (m (d + 5) j) (m (st + 5) j + n) else m b j
def passC (m : Mem) (d st : Nat) (n : Int) : Mem := wr (hrsC m d st n (m d 3)) st 0 (m st 0 + n)
theorem hrsC_0 (m : Mem) (d st : Nat) (n : Int) : hrsC m d st n 0 = m := by
  funext b j; unfold hrsC; rw [if_neg (by omega)]
theorem hrsC_s {m : Mem} {d st : Nat} {n k : Int} (h : 0 ≤ k) : wr (hrsC m d st n k) (st + 5) k (min (m (d + 5) k) (m (st + 5) k + n)) = hrsC m d st n (k + 1) := by
  funext b j
  unfold wr hrsC
  by_cases h1 : b = st + 5 ∧ j = k
  · rw [if_pos h1, if_pos (by omega), h1.2]
  · rw [if_neg h1]
    by_cases h2 : b = st + 5 ∧ 0 ≤ j ∧ j < k
    · rw [if_pos h2, if_pos (by omega)]
    · rw [if_neg h2, if_neg (by omega)]
theorem hrsC_row {m : Mem} {d st b : Nat} {n k : Int} (h : b ≠ st + 5) : hrsC m d st n k b = m b := by
  funext j; unfold hrsC; rw [if_neg (fun q => h q.1)]
theorem hrsC_at {m : Mem} {d st : Nat} {n k j : Int} (h : k ≤ j) : hrsC m d st n k (st + 5) j = m (st + 5) j := by
  unfold hrsC; rw [if_neg (by omega)]
/-- nothing outside a state's rows has changed -/
def Fr (m m' : Mem) (st : Nat) : Prop := ∀ b : Nat, (b < st ∨ st + 8 ≤ b) → m' b = m b
theorem Fr.rf {m : Mem} {st : Nat} : Fr m m st := fun _ _ => rfl
theorem Fr.tr {m m1 m2 : Mem} {st : Nat} (h1 : Fr m m1 st) (h2 : Fr m1 m2 st) : Fr m m2 st := fun b h => (h2 b h).trans (h1 b h)
theorem Fr.wr {m m' : Mem} {st k : Nat} {i x : Int} (h : Fr m m' st) (hk : st ≤ k) (hk2 : k < st + 8) : Fr m (_root_.Jvm.Pilot.CCartTurnsLaw_law_r7710_372af8.wr m' k i x) st := fun b hb => by
  rw [wr_row (by omega)]; exact h b hb
theorem bring_fr {m : Mem} {d st : Nat} {p : Int} : Fr m (bring m d st p) st := Fr.rf.wr (by omega) (by omega)
theorem sayC_fr {m : Mem} {d st : Nat} {p f s : Int} : Fr m (sayC m d st p f s) st := by
  refine Fr.tr ?_ bring_fr
  unfold sayW
  exact ((((Fr.rf.wr (by omega) (by omega)).wr (by omega) (by omega)).wr (by omega) (by omega)).wr (by omega) (by omega)).wr (by omega) (by omega)
theorem kickC_fr {m : Mem} {st : Nat} {p s : Int} : Fr m (kickC m st p s) st := ((Fr.rf.wr (by omega) (by omega)).wr (by omega) (by omega)).wr (by omega) (by omega)
theorem restC_fr {m : Mem} {d st : Nat} {p : Int} : Fr m (restC m d st p) st := Fr.rf.wr (by omega) (by omega)
theorem passC_fr {m : Mem} {d st : Nat} {n : Int} : Fr m (passC m d st n) st := Fr.wr (fun b hb => hrsC_row (by omega)) (by omega) (by omega)
theorem DnOk.fr {m m' : Mem} {d st : Nat} (h : DnOk m d) (hf : Fr m m' st) (hs : d + 10 ≤ st) : DnOk m' d := by
  unfold DnOk at *
  rw [hf d (by omega), hf (d + 2) (by omega), hf (d + 3) (by omega), hf (d + 5) (by omega), hf (d + 7) (by omega), hf (d + 8) (by omega), hf (d + 9) (by omega)]
  exact h
theorem iand3_small : ∀ x : Nat, x < 16 → iand (x : Int) 3 = (x : Int) % 4 := by decide +kernel
theorem iand3 {x : Int} (h0 : 0 ≤ x) (h1 : x < 16) : iand x 3 = x % 4 := by
  obtain ⟨x, rfl⟩ := Int.eq_ofNat_of_zero_le h0
  exact iand3_small x (by omega)
theorem iand_R (x y : Int) : InR (iand x y) := InR.r _
theorem ior_R (x y : Int) : InR (ior x y) := InR.r _
theorem ishl_R (x y : Int) : InR (ishl x y) := InR.r _
theorem ishr_R (x y : Int) : InR (ishr x y) := InR.r _
theorem iushr_R (x y : Int) : InR (iushr x y) := InR.r _

theorem dX10_bringUpPoints_0 : decode mX10_bringUpPoints.2.1 0 = .ok (.iconst 0, 1) := by decide +kernel
theorem dX10_bringUpPoints_1 : decode mX10_bringUpPoints.2.1 1 = .ok (.istore_n 2, 1) := by decide +kernel
theorem dX10_bringUpPoints_2 : decode mX10_bringUpPoints.2.1 2 = .ok (.iload_n 2, 1) := by decide +kernel
theorem dX10_bringUpPoints_3 : decode mX10_bringUpPoints.2.1 3 = .ok (.aload_n 0, 1) := by decide +kernel
theorem dX10_bringUpPoints_4 : decode mX10_bringUpPoints.2.1 4 = .ok (.getfield 29, 3) := by decide +kernel
theorem dX10_bringUpPoints_7 : decode mX10_bringUpPoints.2.1 7 = .ok (.getfield 56, 3) := by decide +kernel
theorem dX10_bringUpPoints_10 : decode mX10_bringUpPoints.2.1 10 = .ok (.if_icmp .ge 87, 3) := by decide +kernel
theorem dX10_bringUpPoints_13 : decode mX10_bringUpPoints.2.1 13 = .ok (.aload_n 0, 1) := by decide +kernel
theorem dX10_bringUpPoints_14 : decode mX10_bringUpPoints.2.1 14 = .ok (.getfield 29, 3) := by decide +kernel
theorem dX10_bringUpPoints_17 : decode mX10_bringUpPoints.2.1 17 = .ok (.getfield 112, 3) := by decide +kernel
theorem dX10_bringUpPoints_20 : decode mX10_bringUpPoints.2.1 20 = .ok (.iload_n 2, 1) := by decide +kernel
theorem dX10_bringUpPoints_21 : decode mX10_bringUpPoints.2.1 21 = .ok (.iaload, 1) := by decide +kernel
theorem dX10_bringUpPoints_22 : decode mX10_bringUpPoints.2.1 22 = .ok (.aload_n 0, 1) := by decide +kernel
theorem dX10_bringUpPoints_23 : decode mX10_bringUpPoints.2.1 23 = .ok (.getfield 12, 3) := by decide +kernel
theorem dX10_bringUpPoints_26 : decode mX10_bringUpPoints.2.1 26 = .ok (.getfield 59, 3) := by decide +kernel
theorem dX10_bringUpPoints_29 : decode mX10_bringUpPoints.2.1 29 = .ok (.iload_n 1, 1) := by decide +kernel
theorem dX10_bringUpPoints_30 : decode mX10_bringUpPoints.2.1 30 = .ok (.iaload, 1) := by decide +kernel
theorem dX10_bringUpPoints_31 : decode mX10_bringUpPoints.2.1 31 = .ok (.if_icmp .ne 60, 3) := by decide +kernel
theorem dX10_bringUpPoints_34 : decode mX10_bringUpPoints.2.1 34 = .ok (.aload_n 0, 1) := by decide +kernel
theorem dX10_bringUpPoints_35 : decode mX10_bringUpPoints.2.1 35 = .ok (.getfield 29, 3) := by decide +kernel
theorem dX10_bringUpPoints_38 : decode mX10_bringUpPoints.2.1 38 = .ok (.getfield 115, 3) := by decide +kernel
theorem dX10_bringUpPoints_41 : decode mX10_bringUpPoints.2.1 41 = .ok (.iload_n 2, 1) := by decide +kernel
theorem dX10_bringUpPoints_42 : decode mX10_bringUpPoints.2.1 42 = .ok (.iaload, 1) := by decide +kernel
theorem dX10_bringUpPoints_43 : decode mX10_bringUpPoints.2.1 43 = .ok (.aload_n 0, 1) := by decide +kernel
theorem dX10_bringUpPoints_44 : decode mX10_bringUpPoints.2.1 44 = .ok (.getfield 12, 3) := by decide +kernel
theorem dX10_bringUpPoints_47 : decode mX10_bringUpPoints.2.1 47 = .ok (.getfield 63, 3) := by decide +kernel
theorem dX10_bringUpPoints_50 : decode mX10_bringUpPoints.2.1 50 = .ok (.iload_n 1, 1) := by decide +kernel
theorem dX10_bringUpPoints_51 : decode mX10_bringUpPoints.2.1 51 = .ok (.iaload, 1) := by decide +kernel
theorem dX10_bringUpPoints_52 : decode mX10_bringUpPoints.2.1 52 = .ok (.if_icmp .ne 39, 3) := by decide +kernel
theorem dX10_bringUpPoints_55 : decode mX10_bringUpPoints.2.1 55 = .ok (.aload_n 0, 1) := by decide +kernel
theorem dX10_bringUpPoints_56 : decode mX10_bringUpPoints.2.1 56 = .ok (.getfield 29, 3) := by decide +kernel
theorem dX10_bringUpPoints_59 : decode mX10_bringUpPoints.2.1 59 = .ok (.getfield 118, 3) := by decide +kernel
theorem dX10_bringUpPoints_62 : decode mX10_bringUpPoints.2.1 62 = .ok (.iload_n 2, 1) := by decide +kernel
theorem dX10_bringUpPoints_63 : decode mX10_bringUpPoints.2.1 63 = .ok (.iaload, 1) := by decide +kernel
theorem dX10_bringUpPoints_64 : decode mX10_bringUpPoints.2.1 64 = .ok (.aload_n 0, 1) := by decide +kernel
theorem dX10_bringUpPoints_65 : decode mX10_bringUpPoints.2.1 65 = .ok (.getfield 12, 3) := by decide +kernel
theorem dX10_bringUpPoints_68 : decode mX10_bringUpPoints.2.1 68 = .ok (.getfield 99, 3) := by decide +kernel
theorem dX10_bringUpPoints_71 : decode mX10_bringUpPoints.2.1 71 = .ok (.iload_n 1, 1) := by decide +kernel
theorem dX10_bringUpPoints_72 : decode mX10_bringUpPoints.2.1 72 = .ok (.iaload, 1) := by decide +kernel
theorem dX10_bringUpPoints_73 : decode mX10_bringUpPoints.2.1 73 = .ok (.if_icmp .ne 18, 3) := by decide +kernel
theorem dX10_bringUpPoints_76 : decode mX10_bringUpPoints.2.1 76 = .ok (.aload_n 0, 1) := by decide +kernel
theorem dX10_bringUpPoints_77 : decode mX10_bringUpPoints.2.1 77 = .ok (.getfield 12, 3) := by decide +kernel
theorem dX10_bringUpPoints_80 : decode mX10_bringUpPoints.2.1 80 = .ok (.getfield 121, 3) := by decide +kernel
theorem dX10_bringUpPoints_83 : decode mX10_bringUpPoints.2.1 83 = .ok (.iload_n 1, 1) := by decide +kernel
theorem dX10_bringUpPoints_84 : decode mX10_bringUpPoints.2.1 84 = .ok (.dup2, 1) := by decide +kernel
theorem dX10_bringUpPoints_85 : decode mX10_bringUpPoints.2.1 85 = .ok (.iaload, 1) := by decide +kernel
theorem dX10_bringUpPoints_86 : decode mX10_bringUpPoints.2.1 86 = .ok (.iconst 1, 1) := by decide +kernel
theorem dX10_bringUpPoints_87 : decode mX10_bringUpPoints.2.1 87 = .ok (.iload_n 2, 1) := by decide +kernel
theorem dX10_bringUpPoints_88 : decode mX10_bringUpPoints.2.1 88 = .ok (.ishl, 1) := by decide +kernel
theorem dX10_bringUpPoints_89 : decode mX10_bringUpPoints.2.1 89 = .ok (.ior, 1) := by decide +kernel
theorem dX10_bringUpPoints_90 : decode mX10_bringUpPoints.2.1 90 = .ok (.iastore, 1) := by decide +kernel
theorem dX10_bringUpPoints_91 : decode mX10_bringUpPoints.2.1 91 = .ok (.iinc 2 1, 3) := by decide +kernel
theorem dX10_bringUpPoints_94 : decode mX10_bringUpPoints.2.1 94 = .ok (.goto (-92), 3) := by decide +kernel
theorem dX10_bringUpPoints_97 : decode mX10_bringUpPoints.2.1 97 = .ok (.return_, 1) := by decide +kernel
set_option maxRecDepth 4000 in
theorem ev_X10_bringUpPoints {m : Mem} {w : Nat} {d : Nat} {st : Nat} {p : Int} (hw : isWd w d st) (hn : 0 ≤ m d 4 ∧ m d 4 ≤ 5) (hp : 0 ≤ p ∧ p < 5) : Ev 0 1 mX10_bringUpPoints [vr w, vi p] m (fun r m' => m' = bring m d st p) := by
  refine Ev.of (L := [vr w, vi p, un]) (by decide +kernel) rfl (Nat.le_of_ble_eq_true rfl) rfl (fun t ht => by cases ht) (fun hcan => ?_)
  have hsep := hw.sep
  refine go_iconst dX10_bringUpPoints_0 ?_
  refine go_istore_n (L' := [vr w, vi p, vi 0]) dX10_bringUpPoints_1 (by decide) rfl rfl ?_
  have lp_2 : ∀ (n_2 : Nat) (m1 : Mem) (q : Int), (0 ≤ q) → (q ≤ m d 4) → (m1 = (wr m (st + 6) p (comeN (m (st + 6) p) (upP m d st p) q.toNat))) → (m d 4 - q).toNat < n_2 → Go 0 1 mX10_bringUpPoints (fun r m' => m' = bring m d st p) 2 [vr w, vi p, vi q] [] m1 := by
    intro n_2
    induction n_2 with
    | zero => intro m1 q hq0 hq1 hm hmu; exact absurd hmu (Nat.not_lt_zero _)
    | succ n_2 ih_2 =>
      intro m1 q hq0 hq1 hm hmu
      subst hm
      refine go_iload_n dX10_bringUpPoints_2 rfl ?_
      refine go_aload_n dX10_bringUpPoints_3 rfl ?_
      refine go_getf_p (b := d) dX10_bringUpPoints_4 fl_10_29 hw.o rfl hw.p0 ?_
      refine go_getf_i (ki := 4) dX10_bringUpPoints_7 fl_10_56 hw.dn.o rfl rfl (fun hf_7 => ?_)
      rw [show ((wr m (st + 6) p (comeN (m (st + 6) p) (upP m d st p) q.toNat)) d 4 : Int) = (m d 4) from by rw [wr_na (by omega)]] at hf_7 ⊢
      refine go_icmp_ge (tgt := 97) dX10_bringUpPoints_10 (by decide) ⟨by omega, by omega⟩ ⟨by omega, by omega⟩ (fun h_10 => ?_) (fun h_10 => ?_)
      · exact go_ret (v := 0) rfl dX10_bringUpPoints_97 rfl (by rw [show q = m d 4 by omega]; rfl)
      · refine go_aload_n dX10_bringUpPoints_13 rfl ?_
        refine go_getf_p (b := d) dX10_bringUpPoints_14 fl_10_29 hw.o rfl hw.p0 ?_
        refine go_getf_p (b := (d + 7)) dX10_bringUpPoints_17 fl_10_112 hw.dn.o rfl hw.dn.p11 ?_
        refine go_iload_n dX10_bringUpPoints_20 rfl ?_
        refine go_iaload dX10_bringUpPoints_21 hw.dn.a7 (by omega) (by omega) (fun he_21 => ?_)
        rw [show ((wr m (st + 6) p (comeN (m (st + 6) p) (upP m d st p) q.toNat)) (d + 7) q : Int) = (m (d + 7) q) from by rw [wr_na (by omega)]] at he_21 ⊢
        refine go_aload_n dX10_bringUpPoints_22 rfl ?_
        refine go_getf_p (b := st) dX10_bringUpPoints_23 fl_10_12 hw.o rfl hw.p1 ?_
        refine go_getf_p (b := (st + 2)) dX10_bringUpPoints_26 fl_10_59 hw.st.o rfl hw.st.p3 ?_
        refine go_iload_n dX10_bringUpPoints_29 rfl ?_
        refine go_iaload dX10_bringUpPoints_30 hw.st.a2 (by omega) (by omega) (fun he_30 => ?_)
        rw [show ((wr m (st + 6) p (comeN (m (st + 6) p) (upP m d st p) q.toNat)) (st + 2) p : Int) = (m (st + 2) p) from by rw [wr_na (by omega)]] at he_30 ⊢
        refine go_icmp_ne (tgt := 91) dX10_bringUpPoints_31 (by decide) ⟨by omega, by omega⟩ ⟨by omega, by omega⟩ (fun h_31 => ?_) (fun h_31 => ?_)
        · refine go_iinc (L' := [vr w, vi p, vi (q + 1)]) dX10_bringUpPoints_91 rfl (by decide) rfl rfl ?_
          refine go_goto (tgt := 2) dX10_bringUpPoints_94 (by decide) ?_
          exact ih_2 (wr m (st + 6) p (comeN (m (st + 6) p) (upP m d st p) q.toNat)) (q + 1) (by first | assumption | omega | rfl) (by first | assumption | omega | rfl) (by rw [comeN_s hq0]; first | (rw [if_pos (by simp [upP, h_31, h_52, h_73])]; exact wr_wr) | (rw [if_neg (by first | simp [upP, h_31, h_52, h_73] | simp [upP, h_31, h_52] | simp [upP, h_31])])) (by omega)
        · refine go_aload_n dX10_bringUpPoints_34 rfl ?_
          refine go_getf_p (b := d) dX10_bringUpPoints_35 fl_10_29 hw.o rfl hw.p0 ?_
          refine go_getf_p (b := (d + 8)) dX10_bringUpPoints_38 fl_10_115 hw.dn.o rfl hw.dn.p12 ?_
          refine go_iload_n dX10_bringUpPoints_41 rfl ?_
          refine go_iaload dX10_bringUpPoints_42 hw.dn.a8 (by omega) (by omega) (fun he_42 => ?_)
          rw [show ((wr m (st + 6) p (comeN (m (st + 6) p) (upP m d st p) q.toNat)) (d + 8) q : Int) = (m (d + 8) q) from by rw [wr_na (by omega)]] at he_42 ⊢
          refine go_aload_n dX10_bringUpPoints_43 rfl ?_
          refine go_getf_p (b := st) dX10_bringUpPoints_44 fl_10_12 hw.o rfl hw.p1 ?_
          refine go_getf_p (b := (st + 3)) dX10_bringUpPoints_47 fl_10_63 hw.st.o rfl hw.st.p4 ?_
          refine go_iload_n dX10_bringUpPoints_50 rfl ?_
          refine go_iaload dX10_bringUpPoints_51 hw.st.a3 (by omega) (by omega) (fun he_51 => ?_)
          rw [show ((wr m (st + 6) p (comeN (m (st + 6) p) (upP m d st p) q.toNat)) (st + 3) p : Int) = (m (st + 3) p) from by rw [wr_na (by omega)]] at he_51 ⊢
          refine go_icmp_ne (tgt := 91) dX10_bringUpPoints_52 (by decide) ⟨by omega, by omega⟩ ⟨by omega, by omega⟩ (fun h_52 => ?_) (fun h_52 => ?_)
          · refine go_iinc (L' := [vr w, vi p, vi (q + 1)]) dX10_bringUpPoints_91 rfl (by decide) rfl rfl ?_
            refine go_goto (tgt := 2) dX10_bringUpPoints_94 (by decide) ?_
            exact ih_2 (wr m (st + 6) p (comeN (m (st + 6) p) (upP m d st p) q.toNat)) (q + 1) (by first | assumption | omega | rfl) (by first | assumption | omega | rfl) (by rw [comeN_s hq0]; first | (rw [if_pos (by simp [upP, h_31, h_52, h_73])]; exact wr_wr) | (rw [if_neg (by first | simp [upP, h_31, h_52, h_73] | simp [upP, h_31, h_52] | simp [upP, h_31])])) (by omega)
          · refine go_aload_n dX10_bringUpPoints_55 rfl ?_
            refine go_getf_p (b := d) dX10_bringUpPoints_56 fl_10_29 hw.o rfl hw.p0 ?_
            refine go_getf_p (b := (d + 9)) dX10_bringUpPoints_59 fl_10_118 hw.dn.o rfl hw.dn.p13 ?_
            refine go_iload_n dX10_bringUpPoints_62 rfl ?_
            refine go_iaload dX10_bringUpPoints_63 hw.dn.a9 (by omega) (by omega) (fun he_63 => ?_)
            rw [show ((wr m (st + 6) p (comeN (m (st + 6) p) (upP m d st p) q.toNat)) (d + 9) q : Int) = (m (d + 9) q) from by rw [wr_na (by omega)]] at he_63 ⊢
            refine go_aload_n dX10_bringUpPoints_64 rfl ?_
            refine go_getf_p (b := st) dX10_bringUpPoints_65 fl_10_12 hw.o rfl hw.p1 ?_
            refine go_getf_p (b := (st + 4)) dX10_bringUpPoints_68 fl_10_99 hw.st.o rfl hw.st.p5 ?_
            refine go_iload_n dX10_bringUpPoints_71 rfl ?_
            refine go_iaload dX10_bringUpPoints_72 hw.st.a4 (by omega) (by omega) (fun he_72 => ?_)
            rw [show ((wr m (st + 6) p (comeN (m (st + 6) p) (upP m d st p) q.toNat)) (st + 4) p : Int) = (m (st + 4) p) from by rw [wr_na (by omega)]] at he_72 ⊢
            refine go_icmp_ne (tgt := 91) dX10_bringUpPoints_73 (by decide) ⟨by omega, by omega⟩ ⟨by omega, by omega⟩ (fun h_73 => ?_) (fun h_73 => ?_)
            · refine go_iinc (L' := [vr w, vi p, vi (q + 1)]) dX10_bringUpPoints_91 rfl (by decide) rfl rfl ?_
              refine go_goto (tgt := 2) dX10_bringUpPoints_94 (by decide) ?_
              exact ih_2 (wr m (st + 6) p (comeN (m (st + 6) p) (upP m d st p) q.toNat)) (q + 1) (by first | assumption | omega | rfl) (by first | assumption | omega | rfl) (by rw [comeN_s hq0]; first | (rw [if_pos (by simp [upP, h_31, h_52, h_73])]; exact wr_wr) | (rw [if_neg (by first | simp [upP, h_31, h_52, h_73] | simp [upP, h_31, h_52] | simp [upP, h_31])])) (by omega)
            · refine go_aload_n dX10_bringUpPoints_76 rfl ?_
              refine go_getf_p (b := st) dX10_bringUpPoints_77 fl_10_12 hw.o rfl hw.p1 ?_
              refine go_getf_p (b := (st + 6)) dX10_bringUpPoints_80 fl_10_121 hw.st.o rfl hw.st.p7 ?_
              refine go_iload_n dX10_bringUpPoints_83 rfl ?_
              refine go_dup2_ir dX10_bringUpPoints_84 ?_
              refine go_iaload dX10_bringUpPoints_85 hw.st.a6 (by omega) (by omega) (fun he_85 => ?_)
              rw [show ((wr m (st + 6) p (comeN (m (st + 6) p) (upP m d st p) q.toNat)) (st + 6) p : Int) = (comeN (m (st + 6) p) (upP m d st p) q.toNat) from by rw [wr_self]] at he_85 ⊢
              refine go_iconst dX10_bringUpPoints_86 ?_
              refine go_iload_n dX10_bringUpPoints_87 rfl ?_
              refine go_ishl dX10_bringUpPoints_88 ?_
              refine go_ior dX10_bringUpPoints_89 ?_
              refine go_iastore dX10_bringUpPoints_90 hw.st.a6 (by omega) (by omega) (ior_R _ _) ?_
              refine go_iinc (L' := [vr w, vi p, vi (q + 1)]) dX10_bringUpPoints_91 rfl (by decide) rfl rfl ?_
              refine go_goto (tgt := 2) dX10_bringUpPoints_94 (by decide) ?_
              exact ih_2 (wr (wr m (st + 6) p (comeN (m (st + 6) p) (upP m d st p) q.toNat)) (st + 6) p (ior (comeN (m (st + 6) p) (upP m d st p) q.toNat) (ishl 1 q))) (q + 1) (by first | assumption | omega | rfl) (by first | assumption | omega | rfl) (by rw [comeN_s hq0]; first | (rw [if_pos (by simp [upP, h_31, h_52, h_73])]; exact wr_wr) | (rw [if_neg (by first | simp [upP, h_31, h_52, h_73] | simp [upP, h_31, h_52] | simp [upP, h_31])])) (by omega)
  exact lp_2 _ m 0 (by first | assumption | omega | rfl) (by first | assumption | omega | rfl) wr_id.symm (Nat.lt_succ_self _)
theorem dX10_doSay_0 : decode mX10_doSay.2.1 0 = .ok (.aload_n 0, 1) := by decide +kernel
theorem dX10_doSay_1 : decode mX10_doSay.2.1 1 = .ok (.getfield 12, 3) := by decide +kernel
theorem dX10_doSay_4 : decode mX10_doSay.2.1 4 = .ok (.getfield 59, 3) := by decide +kernel
theorem dX10_doSay_7 : decode mX10_doSay.2.1 7 = .ok (.iload_n 1, 1) := by decide +kernel
theorem dX10_doSay_8 : decode mX10_doSay.2.1 8 = .ok (.dup2, 1) := by decide +kernel
theorem dX10_doSay_9 : decode mX10_doSay.2.1 9 = .ok (.iaload, 1) := by decide +kernel
theorem dX10_doSay_10 : decode mX10_doSay.2.1 10 = .ok (.aload_n 0, 1) := by decide +kernel
theorem dX10_doSay_11 : decode mX10_doSay.2.1 11 = .ok (.getfield 29, 3) := by decide +kernel
theorem dX10_doSay_14 : decode mX10_doSay.2.1 14 = .ok (.getfield 84, 3) := by decide +kernel
theorem dX10_doSay_17 : decode mX10_doSay.2.1 17 = .ok (.iload_n 2, 1) := by decide +kernel
theorem dX10_doSay_18 : decode mX10_doSay.2.1 18 = .ok (.iaload, 1) := by decide +kernel
theorem dX10_doSay_19 : decode mX10_doSay.2.1 19 = .ok (.getstatic 87, 3) := by decide +kernel
theorem dX10_doSay_22 : decode mX10_doSay.2.1 22 = .ok (.iload_n 3, 1) := by decide +kernel
theorem dX10_doSay_23 : decode mX10_doSay.2.1 23 = .ok (.iaload, 1) := by decide +kernel
theorem dX10_doSay_24 : decode mX10_doSay.2.1 24 = .ok (.imul, 1) := by decide +kernel
theorem dX10_doSay_25 : decode mX10_doSay.2.1 25 = .ok (.iadd, 1) := by decide +kernel
theorem dX10_doSay_26 : decode mX10_doSay.2.1 26 = .ok (.iastore, 1) := by decide +kernel
theorem dX10_doSay_27 : decode mX10_doSay.2.1 27 = .ok (.aload_n 0, 1) := by decide +kernel
theorem dX10_doSay_28 : decode mX10_doSay.2.1 28 = .ok (.getfield 12, 3) := by decide +kernel
theorem dX10_doSay_31 : decode mX10_doSay.2.1 31 = .ok (.getfield 63, 3) := by decide +kernel
theorem dX10_doSay_34 : decode mX10_doSay.2.1 34 = .ok (.iload_n 1, 1) := by decide +kernel
theorem dX10_doSay_35 : decode mX10_doSay.2.1 35 = .ok (.dup2, 1) := by decide +kernel
theorem dX10_doSay_36 : decode mX10_doSay.2.1 36 = .ok (.iaload, 1) := by decide +kernel
theorem dX10_doSay_37 : decode mX10_doSay.2.1 37 = .ok (.aload_n 0, 1) := by decide +kernel
theorem dX10_doSay_38 : decode mX10_doSay.2.1 38 = .ok (.getfield 29, 3) := by decide +kernel
theorem dX10_doSay_41 : decode mX10_doSay.2.1 41 = .ok (.getfield 84, 3) := by decide +kernel
theorem dX10_doSay_44 : decode mX10_doSay.2.1 44 = .ok (.iload_n 2, 1) := by decide +kernel
theorem dX10_doSay_45 : decode mX10_doSay.2.1 45 = .ok (.iaload, 1) := by decide +kernel
theorem dX10_doSay_46 : decode mX10_doSay.2.1 46 = .ok (.getstatic 90, 3) := by decide +kernel
theorem dX10_doSay_49 : decode mX10_doSay.2.1 49 = .ok (.iload_n 3, 1) := by decide +kernel
theorem dX10_doSay_50 : decode mX10_doSay.2.1 50 = .ok (.iaload, 1) := by decide +kernel
theorem dX10_doSay_51 : decode mX10_doSay.2.1 51 = .ok (.imul, 1) := by decide +kernel
theorem dX10_doSay_52 : decode mX10_doSay.2.1 52 = .ok (.iadd, 1) := by decide +kernel
theorem dX10_doSay_53 : decode mX10_doSay.2.1 53 = .ok (.iastore, 1) := by decide +kernel
theorem dX10_doSay_54 : decode mX10_doSay.2.1 54 = .ok (.aload_n 0, 1) := by decide +kernel
theorem dX10_doSay_55 : decode mX10_doSay.2.1 55 = .ok (.getfield 12, 3) := by decide +kernel
theorem dX10_doSay_58 : decode mX10_doSay.2.1 58 = .ok (.getfield 99, 3) := by decide +kernel
theorem dX10_doSay_61 : decode mX10_doSay.2.1 61 = .ok (.iload_n 1, 1) := by decide +kernel
theorem dX10_doSay_62 : decode mX10_doSay.2.1 62 = .ok (.aload_n 0, 1) := by decide +kernel
theorem dX10_doSay_63 : decode mX10_doSay.2.1 63 = .ok (.getfield 12, 3) := by decide +kernel
theorem dX10_doSay_66 : decode mX10_doSay.2.1 66 = .ok (.getfield 99, 3) := by decide +kernel
theorem dX10_doSay_69 : decode mX10_doSay.2.1 69 = .ok (.iload_n 1, 1) := by decide +kernel
theorem dX10_doSay_70 : decode mX10_doSay.2.1 70 = .ok (.iaload, 1) := by decide +kernel
theorem dX10_doSay_71 : decode mX10_doSay.2.1 71 = .ok (.aload_n 0, 1) := by decide +kernel
theorem dX10_doSay_72 : decode mX10_doSay.2.1 72 = .ok (.getfield 29, 3) := by decide +kernel
theorem dX10_doSay_75 : decode mX10_doSay.2.1 75 = .ok (.getfield 102, 3) := by decide +kernel
theorem dX10_doSay_78 : decode mX10_doSay.2.1 78 = .ok (.iload_n 2, 1) := by decide +kernel
theorem dX10_doSay_79 : decode mX10_doSay.2.1 79 = .ok (.iaload, 1) := by decide +kernel
theorem dX10_doSay_80 : decode mX10_doSay.2.1 80 = .ok (.iadd, 1) := by decide +kernel
theorem dX10_doSay_81 : decode mX10_doSay.2.1 81 = .ok (.iconst 3, 1) := by decide +kernel
theorem dX10_doSay_82 : decode mX10_doSay.2.1 82 = .ok (.iand, 1) := by decide +kernel
theorem dX10_doSay_83 : decode mX10_doSay.2.1 83 = .ok (.iastore, 1) := by decide +kernel
theorem dX10_doSay_84 : decode mX10_doSay.2.1 84 = .ok (.aload_n 0, 1) := by decide +kernel
theorem dX10_doSay_85 : decode mX10_doSay.2.1 85 = .ok (.getfield 12, 3) := by decide +kernel
theorem dX10_doSay_88 : decode mX10_doSay.2.1 88 = .ok (.getfield 77, 3) := by decide +kernel
theorem dX10_doSay_91 : decode mX10_doSay.2.1 91 = .ok (.iload_n 1, 1) := by decide +kernel
theorem dX10_doSay_92 : decode mX10_doSay.2.1 92 = .ok (.dup2, 1) := by decide +kernel
theorem dX10_doSay_93 : decode mX10_doSay.2.1 93 = .ok (.iaload, 1) := by decide +kernel
theorem dX10_doSay_94 : decode mX10_doSay.2.1 94 = .ok (.aload_n 0, 1) := by decide +kernel
theorem dX10_doSay_95 : decode mX10_doSay.2.1 95 = .ok (.getfield 29, 3) := by decide +kernel
theorem dX10_doSay_98 : decode mX10_doSay.2.1 98 = .ok (.iload_n 2, 1) := by decide +kernel
theorem dX10_doSay_99 : decode mX10_doSay.2.1 99 = .ok (.invokevirtual 80, 3) := by decide +kernel
theorem dX10_doSay_102 : decode mX10_doSay.2.1 102 = .ok (.isub, 1) := by decide +kernel
theorem dX10_doSay_103 : decode mX10_doSay.2.1 103 = .ok (.iastore, 1) := by decide +kernel
theorem dX10_doSay_104 : decode mX10_doSay.2.1 104 = .ok (.aload_n 0, 1) := by decide +kernel
theorem dX10_doSay_105 : decode mX10_doSay.2.1 105 = .ok (.getfield 12, 3) := by decide +kernel
theorem dX10_doSay_108 : decode mX10_doSay.2.1 108 = .ok (.getfield 105, 3) := by decide +kernel
theorem dX10_doSay_111 : decode mX10_doSay.2.1 111 = .ok (.iload_n 1, 1) := by decide +kernel
theorem dX10_doSay_112 : decode mX10_doSay.2.1 112 = .ok (.dup2, 1) := by decide +kernel
theorem dX10_doSay_113 : decode mX10_doSay.2.1 113 = .ok (.iaload, 1) := by decide +kernel
theorem dX10_doSay_114 : decode mX10_doSay.2.1 114 = .ok (.iconst 1, 1) := by decide +kernel
theorem dX10_doSay_115 : decode mX10_doSay.2.1 115 = .ok (.iadd, 1) := by decide +kernel
theorem dX10_doSay_116 : decode mX10_doSay.2.1 116 = .ok (.iastore, 1) := by decide +kernel
theorem dX10_doSay_117 : decode mX10_doSay.2.1 117 = .ok (.aload_n 0, 1) := by decide +kernel
theorem dX10_doSay_118 : decode mX10_doSay.2.1 118 = .ok (.iload_n 1, 1) := by decide +kernel
theorem dX10_doSay_119 : decode mX10_doSay.2.1 119 = .ok (.invokevirtual 108, 3) := by decide +kernel
theorem dX10_doSay_122 : decode mX10_doSay.2.1 122 = .ok (.return_, 1) := by decide +kernel
set_option maxRecDepth 4000 in
theorem ev_X10_doSay {m : Mem} {w : Nat} {d : Nat} {st : Nat} {p : Int} {f : Int} {s : Int} {B : Int} (hw : isWd w d st) (hdn : DnOk m d) (hst : StOk m d st B) (hp : 0 ≤ p ∧ p < m d 3) (hf : 0 ≤ f ∧ f < m d 2) (hs : 0 ≤ s ∧ s < 4) (hB : B ≤ 2000000000) : Ev 0 5 mX10_doSay [vr w, vi p, vi f, vi s] m (fun r m' => m' = sayC m d st p f s) := by
  refine Ev.of (L := [vr w, vi p, vi f, vi s]) (by decide +kernel) rfl (Nat.le_of_ble_eq_true rfl) rfl (fun t ht => by cases ht) (fun hcan => ?_)
  have hsep := hw.sep
  obtain ⟨⟨hd0, hd1⟩, ⟨hd2, hd3⟩, ⟨hd4, hd5⟩, ⟨hd6, hd7⟩, ⟨hd8, hd9⟩, hdf, hdp, hdq⟩ := id hdn
  obtain ⟨⟨hs0, hs1⟩, ⟨hs2, hs3⟩, hsw, hsp, hsd, hsz⟩ := id hst
  have hff := hdf f hf.1 hf.2
  have hpp := hsp p hp.1 hp.2
  have hdx := dx_b hs.1 hs.2
  have hdy := dy_b hs.1 hs.2
  have hkx := mul_b (k := m (d + 3) f) (u := dx s) (by omega) hdx
  have hky := mul_b (k := m (d + 3) f) (u := dy s) (by omega) hdy
  have hpw := pow2_le (q := m d 4) (by omega)
  refine go_aload_n dX10_doSay_0 rfl ?_
  refine go_getf_p (b := st) dX10_doSay_1 fl_10_12 hw.o rfl hw.p1 ?_
  refine go_getf_p (b := (st + 2)) dX10_doSay_4 fl_10_59 hw.st.o rfl hw.st.p3 ?_
  refine go_iload_n dX10_doSay_7 rfl ?_
  refine go_dup2_ir dX10_doSay_8 ?_
  refine go_iaload dX10_doSay_9 hw.st.a2 (by omega) (by omega) (fun he_9 => ?_)
  refine go_aload_n dX10_doSay_10 rfl ?_
  refine go_getf_p (b := d) dX10_doSay_11 fl_10_29 hw.o rfl hw.p0 ?_
  refine go_getf_p (b := (d + 3)) dX10_doSay_14 fl_10_84 hw.dn.o rfl hw.dn.p7 ?_
  refine go_iload_n dX10_doSay_17 rfl ?_
  refine go_iaload dX10_doSay_18 hw.dn.a3 (by omega) (by omega) (fun he_18 => ?_)
  refine go_stepX dX10_doSay_19 sl_10_87 ?_
  refine go_iload_n dX10_doSay_22 rfl ?_
  refine go_dx dX10_doSay_23 (by omega) (by omega) ?_
  refine go_imul dX10_doSay_24 ?_
  refine go_iadd dX10_doSay_25 ?_
  refine go_iastore dX10_doSay_26 hw.st.a2 (by omega) (by omega) ⟨by omega, by omega⟩ ?_
  refine go_aload_n dX10_doSay_27 rfl ?_
  refine go_getf_p (b := st) dX10_doSay_28 fl_10_12 hw.o rfl hw.p1 ?_
  refine go_getf_p (b := (st + 3)) dX10_doSay_31 fl_10_63 hw.st.o rfl hw.st.p4 ?_
  refine go_iload_n dX10_doSay_34 rfl ?_
  refine go_dup2_ir dX10_doSay_35 ?_
  refine go_iaload dX10_doSay_36 hw.st.a3 (by omega) (by omega) (fun he_36 => ?_)
  rw [show ((wr m (st + 2) p ((m (st + 2) p) + ((m (d + 3) f) * (dx s)))) (st + 3) p : Int) = (m (st + 3) p) from by rw [wr_na (by omega)]] at he_36 ⊢
  refine go_aload_n dX10_doSay_37 rfl ?_
  refine go_getf_p (b := d) dX10_doSay_38 fl_10_29 hw.o rfl hw.p0 ?_
  refine go_getf_p (b := (d + 3)) dX10_doSay_41 fl_10_84 hw.dn.o rfl hw.dn.p7 ?_
  refine go_iload_n dX10_doSay_44 rfl ?_
  refine go_iaload dX10_doSay_45 hw.dn.a3 (by omega) (by omega) (fun he_45 => ?_)
  rw [show ((wr m (st + 2) p ((m (st + 2) p) + ((m (d + 3) f) * (dx s)))) (d + 3) f : Int) = (m (d + 3) f) from by rw [wr_na (by omega)]] at he_45 ⊢
  refine go_stepY dX10_doSay_46 sl_10_90 ?_
  refine go_iload_n dX10_doSay_49 rfl ?_
  refine go_dy dX10_doSay_50 (by omega) (by omega) ?_
  refine go_imul dX10_doSay_51 ?_
  refine go_iadd dX10_doSay_52 ?_
  refine go_iastore dX10_doSay_53 hw.st.a3 (by omega) (by omega) ⟨by omega, by omega⟩ ?_
  refine go_aload_n dX10_doSay_54 rfl ?_
  refine go_getf_p (b := st) dX10_doSay_55 fl_10_12 hw.o rfl hw.p1 ?_
  refine go_getf_p (b := (st + 4)) dX10_doSay_58 fl_10_99 hw.st.o rfl hw.st.p5 ?_
  refine go_iload_n dX10_doSay_61 rfl ?_
  refine go_aload_n dX10_doSay_62 rfl ?_
  refine go_getf_p (b := st) dX10_doSay_63 fl_10_12 hw.o rfl hw.p1 ?_
  refine go_getf_p (b := (st + 4)) dX10_doSay_66 fl_10_99 hw.st.o rfl hw.st.p5 ?_
  refine go_iload_n dX10_doSay_69 rfl ?_
  refine go_iaload dX10_doSay_70 hw.st.a4 (by omega) (by omega) (fun he_70 => ?_)
  rw [show ((wr (wr m (st + 2) p ((m (st + 2) p) + ((m (d + 3) f) * (dx s)))) (st + 3) p ((m (st + 3) p) + ((m (d + 3) f) * (dy s)))) (st + 4) p : Int) = (m (st + 4) p) from by rw [wr_na (by omega), wr_na (by omega)]] at he_70 ⊢
  refine go_aload_n dX10_doSay_71 rfl ?_
  refine go_getf_p (b := d) dX10_doSay_72 fl_10_29 hw.o rfl hw.p0 ?_
  refine go_getf_p (b := (d + 2)) dX10_doSay_75 fl_10_102 hw.dn.o rfl hw.dn.p6 ?_
  refine go_iload_n dX10_doSay_78 rfl ?_
  refine go_iaload dX10_doSay_79 hw.dn.a2 (by omega) (by omega) (fun he_79 => ?_)
  rw [show ((wr (wr m (st + 2) p ((m (st + 2) p) + ((m (d + 3) f) * (dx s)))) (st + 3) p ((m (st + 3) p) + ((m (d + 3) f) * (dy s)))) (d + 2) f : Int) = (m (d + 2) f) from by rw [wr_na (by omega), wr_na (by omega)]] at he_79 ⊢
  refine go_iadd dX10_doSay_80 ?_
  refine go_iconst dX10_doSay_81 ?_
  refine go_iand dX10_doSay_82 ?_
  refine go_iastore dX10_doSay_83 hw.st.a4 (by omega) (by omega) (iand_R _ _) ?_
  refine go_aload_n dX10_doSay_84 rfl ?_
  refine go_getf_p (b := st) dX10_doSay_85 fl_10_12 hw.o rfl hw.p1 ?_
  refine go_getf_p (b := (st + 5)) dX10_doSay_88 fl_10_77 hw.st.o rfl hw.st.p6 ?_
  refine go_iload_n dX10_doSay_91 rfl ?_
  refine go_dup2_ir dX10_doSay_92 ?_
  refine go_iaload dX10_doSay_93 hw.st.a5 (by omega) (by omega) (fun he_93 => ?_)
  rw [show ((wr (wr (wr m (st + 2) p ((m (st + 2) p) + ((m (d + 3) f) * (dx s)))) (st + 3) p ((m (st + 3) p) + ((m (d + 3) f) * (dy s)))) (st + 4) p (iand ((m (st + 4) p) + (m (d + 2) f)) 3)) (st + 5) p : Int) = (m (st + 5) p) from by rw [wr_na (by omega), wr_na (by omega), wr_na (by omega)]] at he_93 ⊢
  refine go_aload_n dX10_doSay_94 rfl ?_
  refine go_getf_p (b := d) dX10_doSay_95 fl_10_29 hw.o rfl hw.p0 ?_
  refine go_iload_n dX10_doSay_98 rfl ?_
  refine go_callVp_i (as := [vi f]) (S := [vi (m (st + 5) p), vi p, vr (st + 5)]) (b := d) (ev_X1_cost (m := (wr (wr (wr m (st + 2) p ((m (st + 2) p) + ((m (d + 3) f) * (dx s)))) (st + 3) p ((m (st + 3) p) + ((m (d + 3) f) * (dy s)))) (st + 4) p (iand ((m (st + 4) p) + (m (d + 2) f)) 3))) (d := d) (f := f) hw.dn (by first | assumption | omega | exact ⟨by omega, by omega⟩ | (constructor <;> omega)) (by simp (disch := omega) only [wr_na]; omega)) rfl dX10_doSay_99 cv_10_80 rfl rfl hw.dn.o rfl (by decide) (Nat.le_of_ble_eq_true rfl) (fun r_99 hr_99 ho_99 => ?_)
  rw [show costC _ d f = costC m d f from by unfold costC; simp (disch := omega) only [wr_na]] at hr_99
  have hcc : 1 ≤ costC m d f ∧ costC m d f ≤ 12 := by unfold costC; omega
  refine go_isub dX10_doSay_102 ?_
  refine go_iastore dX10_doSay_103 hw.st.a5 (by omega) (by omega) ⟨by omega, by omega⟩ ?_
  refine go_aload_n dX10_doSay_104 rfl ?_
  refine go_getf_p (b := st) dX10_doSay_105 fl_10_12 hw.o rfl hw.p1 ?_
  refine go_getf_p (b := (st + 7)) dX10_doSay_108 fl_10_105 hw.st.o rfl hw.st.p8 ?_
  refine go_iload_n dX10_doSay_111 rfl ?_
  refine go_dup2_ir dX10_doSay_112 ?_
  refine go_iaload dX10_doSay_113 hw.st.a7 (by omega) (by omega) (fun he_113 => ?_)
  rw [show ((wr (wr (wr (wr m (st + 2) p ((m (st + 2) p) + ((m (d + 3) f) * (dx s)))) (st + 3) p ((m (st + 3) p) + ((m (d + 3) f) * (dy s)))) (st + 4) p (iand ((m (st + 4) p) + (m (d + 2) f)) 3)) (st + 5) p ((m (st + 5) p) - r_99)) (st + 7) p : Int) = (m (st + 7) p) from by rw [wr_na (by omega), wr_na (by omega), wr_na (by omega), wr_na (by omega)]] at he_113 ⊢
  refine go_iconst dX10_doSay_114 ?_
  refine go_iadd dX10_doSay_115 ?_
  refine go_iastore dX10_doSay_116 hw.st.a7 (by omega) (by omega) ⟨by omega, by omega⟩ ?_
  refine go_aload_n dX10_doSay_117 rfl ?_
  refine go_iload_n dX10_doSay_118 rfl ?_
  refine go_callV_v (as := [vi p]) (S := []) (b := w) (ev_X10_bringUpPoints (m := (wr (wr (wr (wr (wr m (st + 2) p ((m (st + 2) p) + ((m (d + 3) f) * (dx s)))) (st + 3) p ((m (st + 3) p) + ((m (d + 3) f) * (dy s)))) (st + 4) p (iand ((m (st + 4) p) + (m (d + 2) f)) 3)) (st + 5) p ((m (st + 5) p) - r_99)) (st + 7) p ((m (st + 7) p) + 1))) (w := w) (p := p) (d := d) (st := st) (by first | assumption | omega | exact ⟨by omega, by omega⟩ | (constructor <;> omega)) (by simp (disch := omega) only [wr_na]; omega) (by first | assumption | omega | exact ⟨by omega, by omega⟩ | (constructor <;> omega))) rfl dX10_doSay_119 cv_10_108 rfl rfl hw.o rfl (by decide) (Nat.le_of_ble_eq_true rfl) (fun m_119 hr_119 => ?_)
  exact go_ret (v := 0) rfl dX10_doSay_122 rfl (by rw [hr_119, hr_99]; rfl)
theorem dX10_doRest_0 : decode mX10_doRest.2.1 0 = .ok (.aload_n 0, 1) := by decide +kernel
theorem dX10_doRest_1 : decode mX10_doRest.2.1 1 = .ok (.getfield 12, 3) := by decide +kernel
theorem dX10_doRest_4 : decode mX10_doRest.2.1 4 = .ok (.getfield 77, 3) := by decide +kernel
theorem dX10_doRest_7 : decode mX10_doRest.2.1 7 = .ok (.iload_n 1, 1) := by decide +kernel
theorem dX10_doRest_8 : decode mX10_doRest.2.1 8 = .ok (.aload_n 0, 1) := by decide +kernel
theorem dX10_doRest_9 : decode mX10_doRest.2.1 9 = .ok (.getfield 29, 3) := by decide +kernel
theorem dX10_doRest_12 : decode mX10_doRest.2.1 12 = .ok (.getfield 130, 3) := by decide +kernel
theorem dX10_doRest_15 : decode mX10_doRest.2.1 15 = .ok (.iload_n 1, 1) := by decide +kernel
theorem dX10_doRest_16 : decode mX10_doRest.2.1 16 = .ok (.iaload, 1) := by decide +kernel
theorem dX10_doRest_17 : decode mX10_doRest.2.1 17 = .ok (.iastore, 1) := by decide +kernel
theorem dX10_doRest_18 : decode mX10_doRest.2.1 18 = .ok (.return_, 1) := by decide +kernel
set_option maxRecDepth 4000 in
theorem ev_X10_doRest {m : Mem} {w : Nat} {d : Nat} {st : Nat} {p : Int} (hw : isWd w d st) (hp : 0 ≤ p ∧ p < 5) : Ev 0 1 mX10_doRest [vr w, vi p] m (fun r m' => m' = restC m d st p) := by
  refine Ev.of (L := [vr w, vi p]) (by decide +kernel) rfl (Nat.le_of_ble_eq_true rfl) rfl (fun t ht => by cases ht) (fun hcan => ?_)
  refine go_aload_n dX10_doRest_0 rfl ?_
  refine go_getf_p (b := st) dX10_doRest_1 fl_10_12 hw.o rfl hw.p1 ?_
  refine go_getf_p (b := (st + 5)) dX10_doRest_4 fl_10_77 hw.st.o rfl hw.st.p6 ?_
  refine go_iload_n dX10_doRest_7 rfl ?_
  refine go_aload_n dX10_doRest_8 rfl ?_
  refine go_getf_p (b := d) dX10_doRest_9 fl_10_29 hw.o rfl hw.p0 ?_
  refine go_getf_p (b := (d + 5)) dX10_doRest_12 fl_10_130 hw.dn.o rfl hw.dn.p9 ?_
  refine go_iload_n dX10_doRest_15 rfl ?_
  refine go_iaload dX10_doRest_16 hw.dn.a5 (by omega) (by omega) (fun he_16 => ?_)
  refine go_iastore dX10_doRest_17 hw.st.a5 (by omega) (by omega) ⟨by omega, by omega⟩ ?_
  exact go_ret (v := 0) rfl dX10_doRest_18 rfl (by first | assumption | rfl | omega)
theorem dX10_doKick_0 : decode mX10_doKick.2.1 0 = .ok (.aload_n 0, 1) := by decide +kernel
theorem dX10_doKick_1 : decode mX10_doKick.2.1 1 = .ok (.getfield 12, 3) := by decide +kernel
theorem dX10_doKick_4 : decode mX10_doKick.2.1 4 = .ok (.getfield 59, 3) := by decide +kernel
theorem dX10_doKick_7 : decode mX10_doKick.2.1 7 = .ok (.iload_n 1, 1) := by decide +kernel
theorem dX10_doKick_8 : decode mX10_doKick.2.1 8 = .ok (.iaload, 1) := by decide +kernel
theorem dX10_doKick_9 : decode mX10_doKick.2.1 9 = .ok (.getstatic 87, 3) := by decide +kernel
theorem dX10_doKick_12 : decode mX10_doKick.2.1 12 = .ok (.iload_n 2, 1) := by decide +kernel
theorem dX10_doKick_13 : decode mX10_doKick.2.1 13 = .ok (.iaload, 1) := by decide +kernel
theorem dX10_doKick_14 : decode mX10_doKick.2.1 14 = .ok (.iadd, 1) := by decide +kernel
theorem dX10_doKick_15 : decode mX10_doKick.2.1 15 = .ok (.istore_n 3, 1) := by decide +kernel
theorem dX10_doKick_16 : decode mX10_doKick.2.1 16 = .ok (.aload_n 0, 1) := by decide +kernel
theorem dX10_doKick_17 : decode mX10_doKick.2.1 17 = .ok (.getfield 12, 3) := by decide +kernel
theorem dX10_doKick_20 : decode mX10_doKick.2.1 20 = .ok (.getfield 63, 3) := by decide +kernel
theorem dX10_doKick_23 : decode mX10_doKick.2.1 23 = .ok (.iload_n 1, 1) := by decide +kernel
theorem dX10_doKick_24 : decode mX10_doKick.2.1 24 = .ok (.iaload, 1) := by decide +kernel
theorem dX10_doKick_25 : decode mX10_doKick.2.1 25 = .ok (.getstatic 90, 3) := by decide +kernel
theorem dX10_doKick_28 : decode mX10_doKick.2.1 28 = .ok (.iload_n 2, 1) := by decide +kernel
theorem dX10_doKick_29 : decode mX10_doKick.2.1 29 = .ok (.iaload, 1) := by decide +kernel
theorem dX10_doKick_30 : decode mX10_doKick.2.1 30 = .ok (.iadd, 1) := by decide +kernel
theorem dX10_doKick_31 : decode mX10_doKick.2.1 31 = .ok (.istore 4, 2) := by decide +kernel
theorem dX10_doKick_33 : decode mX10_doKick.2.1 33 = .ok (.aload_n 0, 1) := by decide +kernel
theorem dX10_doKick_34 : decode mX10_doKick.2.1 34 = .ok (.getfield 29, 3) := by decide +kernel
theorem dX10_doKick_37 : decode mX10_doKick.2.1 37 = .ok (.iload_n 3, 1) := by decide +kernel
theorem dX10_doKick_38 : decode mX10_doKick.2.1 38 = .ok (.iload 4, 2) := by decide +kernel
theorem dX10_doKick_40 : decode mX10_doKick.2.1 40 = .ok (.invokevirtual 66, 3) := by decide +kernel
theorem dX10_doKick_43 : decode mX10_doKick.2.1 43 = .ok (.ifCond .eq 47, 3) := by decide +kernel
theorem dX10_doKick_46 : decode mX10_doKick.2.1 46 = .ok (.aload_n 0, 1) := by decide +kernel
theorem dX10_doKick_47 : decode mX10_doKick.2.1 47 = .ok (.getfield 12, 3) := by decide +kernel
theorem dX10_doKick_50 : decode mX10_doKick.2.1 50 = .ok (.getfield 70, 3) := by decide +kernel
theorem dX10_doKick_53 : decode mX10_doKick.2.1 53 = .ok (.iload_n 3, 1) := by decide +kernel
theorem dX10_doKick_54 : decode mX10_doKick.2.1 54 = .ok (.iload 4, 2) := by decide +kernel
theorem dX10_doKick_56 : decode mX10_doKick.2.1 56 = .ok (.invokestatic 73, 3) := by decide +kernel
theorem dX10_doKick_59 : decode mX10_doKick.2.1 59 = .ok (.dup2, 1) := by decide +kernel
theorem dX10_doKick_60 : decode mX10_doKick.2.1 60 = .ok (.iaload, 1) := by decide +kernel
theorem dX10_doKick_61 : decode mX10_doKick.2.1 61 = .ok (.iconst 1, 1) := by decide +kernel
theorem dX10_doKick_62 : decode mX10_doKick.2.1 62 = .ok (.isub, 1) := by decide +kernel
theorem dX10_doKick_63 : decode mX10_doKick.2.1 63 = .ok (.iastore, 1) := by decide +kernel
theorem dX10_doKick_64 : decode mX10_doKick.2.1 64 = .ok (.aload_n 0, 1) := by decide +kernel
theorem dX10_doKick_65 : decode mX10_doKick.2.1 65 = .ok (.getfield 12, 3) := by decide +kernel
theorem dX10_doKick_68 : decode mX10_doKick.2.1 68 = .ok (.getfield 77, 3) := by decide +kernel
theorem dX10_doKick_71 : decode mX10_doKick.2.1 71 = .ok (.iload_n 1, 1) := by decide +kernel
theorem dX10_doKick_72 : decode mX10_doKick.2.1 72 = .ok (.dup2, 1) := by decide +kernel
theorem dX10_doKick_73 : decode mX10_doKick.2.1 73 = .ok (.iaload, 1) := by decide +kernel
theorem dX10_doKick_74 : decode mX10_doKick.2.1 74 = .ok (.iconst 1, 1) := by decide +kernel
theorem dX10_doKick_75 : decode mX10_doKick.2.1 75 = .ok (.isub, 1) := by decide +kernel
theorem dX10_doKick_76 : decode mX10_doKick.2.1 76 = .ok (.iastore, 1) := by decide +kernel
theorem dX10_doKick_77 : decode mX10_doKick.2.1 77 = .ok (.aload_n 0, 1) := by decide +kernel
theorem dX10_doKick_78 : decode mX10_doKick.2.1 78 = .ok (.getfield 12, 3) := by decide +kernel
theorem dX10_doKick_81 : decode mX10_doKick.2.1 81 = .ok (.dup, 1) := by decide +kernel
theorem dX10_doKick_82 : decode mX10_doKick.2.1 82 = .ok (.getfield 127, 3) := by decide +kernel
theorem dX10_doKick_85 : decode mX10_doKick.2.1 85 = .ok (.iconst 1, 1) := by decide +kernel
theorem dX10_doKick_86 : decode mX10_doKick.2.1 86 = .ok (.iadd, 1) := by decide +kernel
theorem dX10_doKick_87 : decode mX10_doKick.2.1 87 = .ok (.putfield 127, 3) := by decide +kernel
theorem dX10_doKick_90 : decode mX10_doKick.2.1 90 = .ok (.return_, 1) := by decide +kernel
set_option maxRecDepth 4000 in
theorem ev_X10_doKick {m : Mem} {w : Nat} {d : Nat} {st : Nat} {p : Int} {s : Int} {B : Int} (hw : isWd w d st) (hdn : DnOk m d) (hst : StOk m d st B) (hp : 0 ≤ p ∧ p < m d 3) (hs : 0 ≤ s ∧ s < 4) (hB : B ≤ 2000000000) (hin : insC m d (m (st + 2) p + dx s) (m (st + 3) p + dy s)) : Ev 0 2 mX10_doKick [vr w, vi p, vi s] m (fun r m' => m' = kickC m st p s) := by
  refine Ev.of (L := [vr w, vi p, vi s, un, un]) (by decide +kernel) rfl (Nat.le_of_ble_eq_true rfl) rfl (fun t ht => by cases ht) (fun hcan => ?_)
  have hsep := hw.sep
  obtain ⟨⟨hd0, hd1⟩, ⟨hd2, hd3⟩, ⟨hd4, hd5⟩, ⟨hd6, hd7⟩, ⟨hd8, hd9⟩, hdf, hdp, hdq⟩ := id hdn
  obtain ⟨⟨hs0, hs1⟩, ⟨hs2, hs3⟩, hsw, hsp, hsd, hsz⟩ := id hst
  have hpp := hsp p hp.1 hp.2
  have hdx := dx_b hs.1 hs.2
  have hdy := dy_b hs.1 hs.2
  refine go_aload_n dX10_doKick_0 rfl ?_
  refine go_getf_p (b := st) dX10_doKick_1 fl_10_12 hw.o rfl hw.p1 ?_
  refine go_getf_p (b := (st + 2)) dX10_doKick_4 fl_10_59 hw.st.o rfl hw.st.p3 ?_
  refine go_iload_n dX10_doKick_7 rfl ?_
  refine go_iaload dX10_doKick_8 hw.st.a2 (by omega) (by omega) (fun he_8 => ?_)
  refine go_stepX dX10_doKick_9 sl_10_87 ?_
  refine go_iload_n dX10_doKick_12 rfl ?_
  refine go_dx dX10_doKick_13 (by omega) (by omega) ?_
  refine go_iadd dX10_doKick_14 ?_
  refine go_istore_n (L' := [vr w, vi p, vi s, vi ((m (st + 2) p) + (dx s)), un]) dX10_doKick_15 (by decide) rfl rfl ?_
  refine go_aload_n dX10_doKick_16 rfl ?_
  refine go_getf_p (b := st) dX10_doKick_17 fl_10_12 hw.o rfl hw.p1 ?_
  refine go_getf_p (b := (st + 3)) dX10_doKick_20 fl_10_63 hw.st.o rfl hw.st.p4 ?_
  refine go_iload_n dX10_doKick_23 rfl ?_
  refine go_iaload dX10_doKick_24 hw.st.a3 (by omega) (by omega) (fun he_24 => ?_)
  refine go_stepY dX10_doKick_25 sl_10_90 ?_
  refine go_iload_n dX10_doKick_28 rfl ?_
  refine go_dy dX10_doKick_29 (by omega) (by omega) ?_
  refine go_iadd dX10_doKick_30 ?_
  refine go_istore (L' := [vr w, vi p, vi s, vi ((m (st + 2) p) + (dx s)), vi ((m (st + 3) p) + (dy s))]) dX10_doKick_31 (by decide) rfl rfl ?_
  refine go_aload_n dX10_doKick_33 rfl ?_
  refine go_getf_p (b := d) dX10_doKick_34 fl_10_29 hw.o rfl hw.p0 ?_
  refine go_iload_n dX10_doKick_37 rfl ?_
  refine go_iload dX10_doKick_38 rfl ?_
  refine go_callVp_z (as := [vi ((m (st + 2) p) + (dx s)), vi ((m (st + 3) p) + (dy s))]) (S := []) (b := d) (ev_X1_isInside (m := m) (d := d) (x := ((m (st + 2) p) + (dx s))) (y := ((m (st + 3) p) + (dy s))) hw.dn (by first | assumption | omega | exact ⟨by omega, by omega⟩ | (constructor <;> omega)) (by first | assumption | omega | exact ⟨by omega, by omega⟩ | (constructor <;> omega))) rfl dX10_doKick_40 cv_10_66 rfl rfl hw.dn.o rfl (by decide) (Nat.le_of_ble_eq_true rfl) (fun r_40 hr_40 ho_40 => ?_)
  refine go_if_eq (tgt := 90) dX10_doKick_43 (by decide) ⟨by omega, by omega⟩ (fun h_43 => ?_) (fun h_43 => ?_)
  · exfalso; omega
  · refine go_aload_n dX10_doKick_46 rfl ?_
    refine go_getf_p (b := st) dX10_doKick_47 fl_10_12 hw.o rfl hw.p1 ?_
    refine go_getf_p (b := (st + 1)) dX10_doKick_50 fl_10_70 hw.st.o rfl hw.st.p2 ?_
    refine go_iload_n dX10_doKick_53 rfl ?_
    refine go_iload dX10_doKick_54 rfl ?_
    refine go_callSp_i (as := [vi ((m (st + 2) p) + (dx s)), vi ((m (st + 3) p) + (dy s))]) (S := [vr (st + 1)]) (ev_X11_cellOf (m := m) (x := ((m (st + 2) p) + (dx s))) (y := ((m (st + 3) p) + (dy s))) (by first | assumption | omega | exact ⟨by omega, by omega⟩ | (constructor <;> omega)) (by first | assumption | omega | exact ⟨by omega, by omega⟩ | (constructor <;> omega))) rfl dX10_doKick_56 cs_10_73 rfl rfl (by decide) (Nat.le_of_ble_eq_true rfl) (fun r_56 hr_56 ho_56 => ?_)
    have hww := hsw (9 * (m (st + 3) p + dy s) + (m (st + 2) p + dx s))
    subst hr_56
    refine go_dup2_ir dX10_doKick_59 ?_
    refine go_iaload dX10_doKick_60 hw.st.a1 (by omega) (by omega) (fun he_60 => ?_)
    refine go_iconst dX10_doKick_61 ?_
    refine go_isub dX10_doKick_62 ?_
    refine go_iastore dX10_doKick_63 hw.st.a1 (by omega) (by omega) ⟨by omega, by omega⟩ ?_
    refine go_aload_n dX10_doKick_64 rfl ?_
    refine go_getf_p (b := st) dX10_doKick_65 fl_10_12 hw.o rfl hw.p1 ?_
    refine go_getf_p (b := (st + 5)) dX10_doKick_68 fl_10_77 hw.st.o rfl hw.st.p6 ?_
    refine go_iload_n dX10_doKick_71 rfl ?_
    refine go_dup2_ir dX10_doKick_72 ?_
    refine go_iaload dX10_doKick_73 hw.st.a5 (by omega) (by omega) (fun he_73 => ?_)
    rw [show ((wr m (st + 1) (9 * (m (st + 3) p + dy s) + (m (st + 2) p + dx s)) ((m (st + 1) (9 * (m (st + 3) p + dy s) + (m (st + 2) p + dx s))) - 1)) (st + 5) p : Int) = (m (st + 5) p) from by rw [wr_na (by omega)]] at he_73 ⊢
    refine go_iconst dX10_doKick_74 ?_
    refine go_isub dX10_doKick_75 ?_
    refine go_iastore dX10_doKick_76 hw.st.a5 (by omega) (by omega) ⟨by omega, by omega⟩ ?_
    refine go_aload_n dX10_doKick_77 rfl ?_
    refine go_getf_p (b := st) dX10_doKick_78 fl_10_12 hw.o rfl hw.p1 ?_
    refine go_dup_r dX10_doKick_81 ?_
    refine go_getf_i (ki := 1) dX10_doKick_82 fl_10_127 hw.st.o rfl rfl (fun hf_82 => ?_)
    rw [show ((wr (wr m (st + 1) (9 * (m (st + 3) p + dy s) + (m (st + 2) p + dx s)) ((m (st + 1) (9 * (m (st + 3) p + dy s) + (m (st + 2) p + dx s))) - 1)) (st + 5) p ((m (st + 5) p) - 1)) st 1 : Int) = (m st 1) from by rw [wr_na (by omega), wr_na (by omega)]] at hf_82 ⊢
    refine go_iconst dX10_doKick_85 ?_
    refine go_iadd dX10_doKick_86 ?_
    refine go_putf_i (ki := 1) dX10_doKick_87 fw_10_127 hw.st.o rfl rfl ⟨by omega, by omega⟩ ?_
    exact go_ret (v := 0) rfl dX10_doKick_90 rfl (by first | assumption | rfl | omega)
theorem dX10_passHours_0 : decode mX10_passHours.2.1 0 = .ok (.iconst 0, 1) := by decide +kernel
theorem dX10_passHours_1 : decode mX10_passHours.2.1 1 = .ok (.istore_n 2, 1) := by decide +kernel
theorem dX10_passHours_2 : decode mX10_passHours.2.1 2 = .ok (.iload_n 2, 1) := by decide +kernel
theorem dX10_passHours_3 : decode mX10_passHours.2.1 3 = .ok (.aload_n 0, 1) := by decide +kernel
theorem dX10_passHours_4 : decode mX10_passHours.2.1 4 = .ok (.getfield 29, 3) := by decide +kernel
theorem dX10_passHours_7 : decode mX10_passHours.2.1 7 = .ok (.getfield 53, 3) := by decide +kernel
theorem dX10_passHours_10 : decode mX10_passHours.2.1 10 = .ok (.if_icmp .ge 41, 3) := by decide +kernel
theorem dX10_passHours_13 : decode mX10_passHours.2.1 13 = .ok (.aload_n 0, 1) := by decide +kernel
theorem dX10_passHours_14 : decode mX10_passHours.2.1 14 = .ok (.getfield 12, 3) := by decide +kernel
theorem dX10_passHours_17 : decode mX10_passHours.2.1 17 = .ok (.getfield 77, 3) := by decide +kernel
theorem dX10_passHours_20 : decode mX10_passHours.2.1 20 = .ok (.iload_n 2, 1) := by decide +kernel
theorem dX10_passHours_21 : decode mX10_passHours.2.1 21 = .ok (.aload_n 0, 1) := by decide +kernel
theorem dX10_passHours_22 : decode mX10_passHours.2.1 22 = .ok (.getfield 29, 3) := by decide +kernel
theorem dX10_passHours_25 : decode mX10_passHours.2.1 25 = .ok (.getfield 130, 3) := by decide +kernel
theorem dX10_passHours_28 : decode mX10_passHours.2.1 28 = .ok (.iload_n 2, 1) := by decide +kernel
theorem dX10_passHours_29 : decode mX10_passHours.2.1 29 = .ok (.iaload, 1) := by decide +kernel
theorem dX10_passHours_30 : decode mX10_passHours.2.1 30 = .ok (.aload_n 0, 1) := by decide +kernel
theorem dX10_passHours_31 : decode mX10_passHours.2.1 31 = .ok (.getfield 12, 3) := by decide +kernel
theorem dX10_passHours_34 : decode mX10_passHours.2.1 34 = .ok (.getfield 77, 3) := by decide +kernel
theorem dX10_passHours_37 : decode mX10_passHours.2.1 37 = .ok (.iload_n 2, 1) := by decide +kernel
theorem dX10_passHours_38 : decode mX10_passHours.2.1 38 = .ok (.iaload, 1) := by decide +kernel
theorem dX10_passHours_39 : decode mX10_passHours.2.1 39 = .ok (.iload_n 1, 1) := by decide +kernel
theorem dX10_passHours_40 : decode mX10_passHours.2.1 40 = .ok (.iadd, 1) := by decide +kernel
theorem dX10_passHours_41 : decode mX10_passHours.2.1 41 = .ok (.invokestatic 136, 3) := by decide +kernel
theorem dX10_passHours_44 : decode mX10_passHours.2.1 44 = .ok (.iastore, 1) := by decide +kernel
theorem dX10_passHours_45 : decode mX10_passHours.2.1 45 = .ok (.iinc 2 1, 3) := by decide +kernel
theorem dX10_passHours_48 : decode mX10_passHours.2.1 48 = .ok (.goto (-46), 3) := by decide +kernel
theorem dX10_passHours_51 : decode mX10_passHours.2.1 51 = .ok (.aload_n 0, 1) := by decide +kernel
theorem dX10_passHours_52 : decode mX10_passHours.2.1 52 = .ok (.getfield 12, 3) := by decide +kernel
theorem dX10_passHours_55 : decode mX10_passHours.2.1 55 = .ok (.dup, 1) := by decide +kernel
theorem dX10_passHours_56 : decode mX10_passHours.2.1 56 = .ok (.getfield 133, 3) := by decide +kernel
theorem dX10_passHours_59 : decode mX10_passHours.2.1 59 = .ok (.iload_n 1, 1) := by decide +kernel
theorem dX10_passHours_60 : decode mX10_passHours.2.1 60 = .ok (.iadd, 1) := by decide +kernel
theorem dX10_passHours_61 : decode mX10_passHours.2.1 61 = .ok (.putfield 133, 3) := by decide +kernel
theorem dX10_passHours_64 : decode mX10_passHours.2.1 64 = .ok (.return_, 1) := by decide +kernel
set_option maxRecDepth 4000 in
theorem ev_X10_passHours {m : Mem} {w : Nat} {d : Nat} {st : Nat} {n : Int} {B : Int} (hw : isWd w d st) (hdn : DnOk m d) (hst : StOk m d st B) (hn : 0 ≤ n ∧ n ≤ 400) : Ev 0 4 mX10_passHours [vr w, vi n] m (fun r m' => m' = passC m d st n) := by
  refine Ev.of (L := [vr w, vi n, un]) (by decide +kernel) rfl (Nat.le_of_ble_eq_true rfl) rfl (fun t ht => by cases ht) (fun hcan => ?_)
  have hsep := hw.sep
  obtain ⟨⟨hd0, hd1⟩, ⟨hd2, hd3⟩, ⟨hd4, hd5⟩, ⟨hd6, hd7⟩, ⟨hd8, hd9⟩, hdf, hdp, hdq⟩ := id hdn
  obtain ⟨⟨hs0, hs1⟩, ⟨hs2, hs3⟩, hsw, hsp, hsd, hsz⟩ := id hst
  refine go_iconst dX10_passHours_0 ?_
  refine go_istore_n (L' := [vr w, vi n, vi 0]) dX10_passHours_1 (by decide) rfl rfl ?_
  have lp_2 : ∀ (n_2 : Nat) (m1 : Mem) (k : Int), (0 ≤ k) → (k ≤ m d 3) → (m1 = hrsC m d st n k) → (m d 3 - k).toNat < n_2 → Go 0 4 mX10_passHours (fun r m' => m' = passC m d st n) 2 [vr w, vi n, vi k] [] m1 := by
    intro n_2
    induction n_2 with
    | zero => intro m1 k hk0 hk1 hm hmu; exact absurd hmu (Nat.not_lt_zero _)
    | succ n_2 ih_2 =>
      intro m1 k hk0 hk1 hm hmu
      have e3 : m1 d = m d := by rw [hm]; exact hrsC_row (by omega)
      have e5 : m1 (d + 5) = m (d + 5) := by rw [hm]; exact hrsC_row (by omega)
      have es : m1 st = m st := by rw [hm]; exact hrsC_row (by omega)
      have eb : m1 (st + 5) k = m (st + 5) k := by rw [hm]; exact hrsC_at (Int.le_refl k)
      refine go_iload_n dX10_passHours_2 rfl ?_
      refine go_aload_n dX10_passHours_3 rfl ?_
      refine go_getf_p (b := d) dX10_passHours_4 fl_10_29 hw.o rfl hw.p0 ?_
      refine go_getf_i (ki := 3) dX10_passHours_7 fl_10_53 hw.dn.o rfl rfl (fun hf_7 => ?_)
      rw [show (m1 d 3 : Int) = (m d 3) from by rw [e3]] at hf_7 ⊢
      refine go_icmp_ge (tgt := 51) dX10_passHours_10 (by decide) ⟨by omega, by omega⟩ ⟨by omega, by omega⟩ (fun h_10 => ?_) (fun h_10 => ?_)
      · refine go_aload_n dX10_passHours_51 rfl ?_
        refine go_getf_p (b := st) dX10_passHours_52 fl_10_12 hw.o rfl hw.p1 ?_
        refine go_dup_r dX10_passHours_55 ?_
        refine go_getf_i (ki := 0) dX10_passHours_56 fl_10_133 hw.st.o rfl rfl (fun hf_56 => ?_)
        rw [show (m1 st 0 : Int) = (m st 0) from by rw [es]] at hf_56 ⊢
        refine go_iload_n dX10_passHours_59 rfl ?_
        refine go_iadd dX10_passHours_60 ?_
        refine go_putf_i (ki := 0) dX10_passHours_61 fw_10_133 hw.st.o rfl rfl ⟨by omega, by omega⟩ ?_
        exact go_ret (v := 0) rfl dX10_passHours_64 rfl (by rw [hm, show k = m d 3 by omega]; rfl)
      · refine go_aload_n dX10_passHours_13 rfl ?_
        refine go_getf_p (b := st) dX10_passHours_14 fl_10_12 hw.o rfl hw.p1 ?_
        refine go_getf_p (b := (st + 5)) dX10_passHours_17 fl_10_77 hw.st.o rfl hw.st.p6 ?_
        refine go_iload_n dX10_passHours_20 rfl ?_
        refine go_aload_n dX10_passHours_21 rfl ?_
        refine go_getf_p (b := d) dX10_passHours_22 fl_10_29 hw.o rfl hw.p0 ?_
        refine go_getf_p (b := (d + 5)) dX10_passHours_25 fl_10_130 hw.dn.o rfl hw.dn.p9 ?_
        refine go_iload_n dX10_passHours_28 rfl ?_
        refine go_iaload dX10_passHours_29 hw.dn.a5 (by omega) (by omega) (fun he_29 => ?_)
        rw [show (m1 (d + 5) k : Int) = (m (d + 5) k) from by rw [e5]] at he_29 ⊢
        refine go_aload_n dX10_passHours_30 rfl ?_
        refine go_getf_p (b := st) dX10_passHours_31 fl_10_12 hw.o rfl hw.p1 ?_
        refine go_getf_p (b := (st + 5)) dX10_passHours_34 fl_10_77 hw.st.o rfl hw.st.p6 ?_
        refine go_iload_n dX10_passHours_37 rfl ?_
        refine go_iaload dX10_passHours_38 hw.st.a5 (by omega) (by omega) (fun he_38 => ?_)
        rw [show (m1 (st + 5) k : Int) = (m (st + 5) k) from eb] at he_38 ⊢
        have hp5 := hdp k hk0 h_10
        have hpp := hsp k hk0 h_10
        refine go_iload_n dX10_passHours_39 rfl ?_
        refine go_iadd dX10_passHours_40 ?_
        refine go_min dX10_passHours_41 jl_10_136 ⟨by omega, by omega⟩ ⟨by omega, by omega⟩ (by decide) (Nat.le_of_ble_eq_true rfl) ?_
        refine go_iastore dX10_passHours_44 hw.st.a5 (by omega) (by omega) ⟨by omega, by omega⟩ ?_
        refine go_iinc (L' := [vr w, vi n, vi (k + 1)]) dX10_passHours_45 rfl (by decide) rfl rfl ?_
        refine go_goto (tgt := 2) dX10_passHours_48 (by decide) ?_
        exact ih_2 (wr m1 (st + 5) k (min (m (d + 5) k) ((m (st + 5) k) + n))) (k + 1) (by first | assumption | omega | rfl) (by first | assumption | omega | rfl) (by rw [hm]; exact hrsC_s hk0) (by omega)
  exact lp_2 _ m 0 (by first | assumption | omega | rfl) (by first | assumption | omega | rfl) (hrsC_0 m d st n).symm (Nat.lt_succ_self _)
