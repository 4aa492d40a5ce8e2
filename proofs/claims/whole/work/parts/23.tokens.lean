def posN (t : Int → Int) (n lim : Int) : Nat → Int
  | 0 => 0
  | k + 1 => tokE t n lim (sk1 t n (posN t n lim k))
def tokA (t : Int → Int) (n lim : Int) (k : Nat) : Int := sk1 t n (posN t n lim k)
def tK (t kw : Int → Int) (n lim : Int) (k : Nat) : Int := tokK t kw n lim (tokA t n lim k)
def isRun (t : Int → Int) (n lim a : Int) : Prop := a < n ∧ a < lim ∧ (isL (t a) ∨ isD (t a))
theorem sk1_bb {t : Int → Int} {n a : Int} (h : a ≤ n) : a ≤ sk1 t n a ∧ sk1 t n a ≤ n := by
  have := sk1_b (t := t) (n := n) (n - a).toNat a
  unfold sk1
  rcases this.2 with h2 | h2
  · exact ⟨this.1, h2⟩
  · exact ⟨this.1, by omega⟩
theorem rn1_bb {t : Int → Int} {n a : Int} (h : a ≤ n) : a ≤ rn1 t n a ∧ rn1 t n a ≤ n := by
  have := rnN_b (t := t) (n := n) (n - a).toNat a
  unfold rn1
  rcases this.2 with h2 | h2
  · exact ⟨this.1, h2⟩
  · exact ⟨this.1, by omega⟩
theorem tokE_bb {t : Int → Int} {n lim a : Int} (h : a ≤ n) : a ≤ tokE t n lim a ∧ tokE t n lim a ≤ n := by
  unfold tokE
  have := rn1_bb (t := t) h
  split
  · omega
  · split <;> omega
theorem tokE_gt {t : Int → Int} {n lim a : Int} (h : a < n) (h1 : a < lim) : a + 1 ≤ tokE t n lim a := by
  unfold tokE
  rw [if_neg (by omega)]
  split
  · rename_i q
    rw [rn1_t h q]
    exact (rn1_bb (by omega)).1
  · omega
theorem tokK_nt {t kw : Int → Int} {n lim a : Int} (h0 : tokK t kw n lim a ≠ 0) (h1 : tokK t kw n lim a ≠ 1) : a < n ∧ a < lim := by
  unfold tokK at h0 h1
  by_cases h2 : n ≤ a
  · rw [if_pos h2] at h0 h1
    split at h0 <;> omega
  · rw [if_neg h2] at h0 h1
    by_cases h3 : lim ≤ a
    · rw [if_pos h3] at h1; omega
    · omega
theorem tokK_b {t kw : Int → Int} {n lim a : Int} (ht : ∀ i, 0 ≤ t i ∧ t i ≤ 255) : 0 ≤ tokK t kw n lim a ∧ tokK t kw n lim a ≤ 255 := by
  unfold tokK
  have h1 := runK_b t kw a (rn1 t n a)
  have h2 := ht a
  split
  · split <;> omega
  · split
    · omega
    · split
      · omega
      · split <;> omega
theorem posN_bb (t : Int → Int) {n lim : Int} (hn : 0 ≤ n) (k : Nat) : 0 ≤ posN t n lim k ∧ posN t n lim k ≤ n := by
  induction k with
  | zero => exact ⟨Int.le_refl _, hn⟩
  | succ k ih =>
    have h1 := sk1_bb (t := t) ih.2
    have h2 := tokE_bb (t := t) (lim := lim) h1.2
    show 0 ≤ tokE t n lim _ ∧ tokE t n lim _ ≤ n
    omega
/-- the tokens of a text, as the tape holds them -/
def TkOk (m : Mem) (t kw : Int → Int) (n lim : Int) : Prop := (1 ≤ m 1 11 ∧ m 1 11 ≤ 901) ∧
  (∀ k : Int, 0 ≤ k → k < m 1 11 → m 4 k = tK t kw n lim k.toNat ∧ m 5 k = min (tokA t n lim k.toNat) lim ∧ (isRun t n lim (tokA t n lim k.toNat) → m 6 k = runV t (tokA t n lim k.toNat) (rn1 t n (tokA t n lim k.toNat)))) ∧
  (∀ k : Int, 0 ≤ k → k < m 1 11 - 1 → tK t kw n lim k.toNat ≠ 0 ∧ tK t kw n lim k.toNat ≠ 1) ∧ (tK t kw n lim (m 1 11 - 1).toNat = 0 ∨ tK t kw n lim (m 1 11 - 1).toNat = 1)
def BgOk (m m' : Mem) (lim : Int) : Prop := TkOk m' (tx m) (m 3) (m 1 1) lim ∧ m' 1 12 = 0 ∧ m' 1 6 = 0 ∧ (∀ j : Int, j ≠ 6 → j ≠ 11 → j ≠ 12 → j ≠ 13 → m' 1 j = m 1 j) ∧ ∀ b : Nat, b ≠ 1 → b ≠ 4 → b ≠ 5 → b ≠ 6 → m' b = m b
def nxt (m : Mem) : Mem := wr (wr (wr (wr (wr m 1 2 (m 4 (m 1 12))) 1 3 (m 5 (m 1 12))) 1 5 (m 6 (m 1 12))) 1 4 (w32 (m 6 (m 1 12)))) 1 12 (m 1 12 + 1)
def wkM (m : Mem) (k : Int) : Mem := if m 4 (m 1 12) = k then nxt m else wr (nxt m) 1 6 1
def wnM (m : Mem) (lo hi : Int) : Mem := if m 4 (m 1 12) = 2 then (if lo ≤ w32 (m 6 (m 1 12)) ∧ w32 (m 6 (m 1 12)) ≤ hi then nxt m else wr (nxt m) 1 6 2) else wr (nxt m) 1 6 1
def wsM (m : Mem) : Mem := if 209 ≤ m 4 (m 1 12) ∧ m 4 (m 1 12) ≤ 212 then nxt m else wr (nxt m) 1 6 1
def PT (m m' : Mem) (j f : Int) : Prop := m' 1 12 = j ∧ m' 1 2 = m 4 (j - 1) ∧ m' 1 3 = m 5 (j - 1) ∧ m' 1 5 = m 6 (j - 1) ∧ m' 1 4 = w32 (m 6 (j - 1)) ∧ m' 1 6 = f ∧ ∀ x : Int, x ≠ 2 → x ≠ 3 → x ≠ 4 → x ≠ 5 → x ≠ 6 → x ≠ 12 → m' 1 x = m 1 x
def Adv (m m' : Mem) (f : Int) : Prop := PT m m' (m 1 12 + 1) f ∧ ∀ b : Nat, b ≠ 1 → m' b = m b
theorem nxt_adv (m : Mem) : Adv m (nxt m) (m 1 6) := by
  unfold Adv PT nxt
  rw [show m 1 12 + 1 - 1 = m 1 12 by omega]
  refine ⟨⟨?_, ?_, ?_, ?_, ?_, ?_, fun x h2 h3 h4 h5 h6 h12 => ?_⟩, fun b hb => ?_⟩
  · exact wr_self _ _ _ _
  · simp (disch := decide) only [wr_ni, wr_self]
  · simp (disch := decide) only [wr_ni, wr_self]
  · simp (disch := decide) only [wr_ni, wr_self]
  · simp (disch := decide) only [wr_ni, wr_self]
  · simp (disch := decide) only [wr_ni]
  · rw [wr_ni h12, wr_ni h4, wr_ni h5, wr_ni h3, wr_ni h2]
  · rw [wr_row hb, wr_row hb, wr_row hb, wr_row hb, wr_row hb]
theorem PT.flt {m m' : Mem} {j f g : Int} (h : PT m m' j f) : PT m (wr m' 1 6 g) j g := by
  obtain ⟨h1, h2, h3, h4, h5, h6, h7⟩ := h
  refine ⟨?_, ?_, ?_, ?_, ?_, wr_self _ _ _ _, fun x a b c d e g => ?_⟩
  · rw [wr_ni (by decide)]; exact h1
  · rw [wr_ni (by decide)]; exact h2
  · rw [wr_ni (by decide)]; exact h3
  · rw [wr_ni (by decide)]; exact h4
  · rw [wr_ni (by decide)]; exact h5
  · rw [wr_ni e]; exact h7 x a b c d e g
theorem Adv.flt {m m' : Mem} {f g : Int} (h : Adv m m' f) : Adv m (wr m' 1 6 g) g := ⟨h.1.flt, fun b hb => by rw [wr_row hb]; exact h.2 b hb⟩
def numF (K V : Int → Int) (i lo hi : Int) : Int := if K i = 2 then (if lo ≤ V i ∧ V i ≤ hi then 0 else 2) else 1
def vN (m : Mem) : Int → Int := fun k => w32 (m 6 k)
theorem scan_facts {M m' : Mem} {t : Int → Int} {n lim a c : Int} {v : Int} (h : m' = if a < n ∧ a < lim ∧ (isL (t a) ∨ isD (t a)) then wr (wr M 1 13 (rn1 t n a)) 6 c v else wr M 1 13 (tokE t n lim a)) :
    m' 1 13 = tokE t n lim a ∧ (∀ j : Int, j ≠ 13 → m' 1 j = M 1 j) ∧ (∀ b : Nat, b ≠ 1 → b ≠ 6 → m' b = M b) ∧ (∀ k : Int, k ≠ c → m' 6 k = M 6 k) ∧ (isRun t n lim a → m' 6 c = v) := by
  by_cases hr : a < n ∧ a < lim ∧ (isL (t a) ∨ isD (t a))
  · rw [if_pos hr] at h
    subst h
    refine ⟨?_, fun j hj => ?_, fun b h1 h6 => ?_, fun k hk => ?_, fun _ => wr_self _ _ _ _⟩
    · rw [wr_na (by decide), wr_self]; unfold tokE; rw [if_neg (by omega), if_pos hr.2.2]
    · rw [wr_na (by decide), wr_ni hj]
    · rw [wr_row h6, wr_row h1]
    · rw [wr_ni hk, wr_na (by decide)]
  · rw [if_neg hr] at h
    subst h
    refine ⟨wr_self _ _ _ _, fun j hj => wr_ni hj, fun b h1 h6 => wr_row h1, fun k hk => wr_na (by decide), fun q => absurd q hr⟩

theorem dX7_begin_0 : decode mX7_begin.2.1 0 = .ok (.aload_n 0, 1) := by decide +kernel
theorem dX7_begin_1 : decode mX7_begin.2.1 1 = .ok (.iconst 0, 1) := by decide +kernel
theorem dX7_begin_2 : decode mX7_begin.2.1 2 = .ok (.putfield 59, 3) := by decide +kernel
theorem dX7_begin_5 : decode mX7_begin.2.1 5 = .ok (.aload_n 0, 1) := by decide +kernel
theorem dX7_begin_6 : decode mX7_begin.2.1 6 = .ok (.iconst 0, 1) := by decide +kernel
theorem dX7_begin_7 : decode mX7_begin.2.1 7 = .ok (.putfield 53, 3) := by decide +kernel
theorem dX7_begin_10 : decode mX7_begin.2.1 10 = .ok (.aload_n 0, 1) := by decide +kernel
theorem dX7_begin_11 : decode mX7_begin.2.1 11 = .ok (.iconst 0, 1) := by decide +kernel
theorem dX7_begin_12 : decode mX7_begin.2.1 12 = .ok (.putfield 56, 3) := by decide +kernel
theorem dX7_begin_15 : decode mX7_begin.2.1 15 = .ok (.aload_n 0, 1) := by decide +kernel
theorem dX7_begin_16 : decode mX7_begin.2.1 16 = .ok (.iconst 0, 1) := by decide +kernel
theorem dX7_begin_17 : decode mX7_begin.2.1 17 = .ok (.putfield 32, 3) := by decide +kernel
theorem dX7_begin_20 : decode mX7_begin.2.1 20 = .ok (.iconst 2, 1) := by decide +kernel
theorem dX7_begin_21 : decode mX7_begin.2.1 21 = .ok (.istore_n 2, 1) := by decide +kernel
theorem dX7_begin_22 : decode mX7_begin.2.1 22 = .ok (.aload_n 0, 1) := by decide +kernel
theorem dX7_begin_23 : decode mX7_begin.2.1 23 = .ok (.getfield 53, 3) := by decide +kernel
theorem dX7_begin_26 : decode mX7_begin.2.1 26 = .ok (.sipush 901, 3) := by decide +kernel
theorem dX7_begin_29 : decode mX7_begin.2.1 29 = .ok (.if_icmp .ge 62, 3) := by decide +kernel
theorem dX7_begin_32 : decode mX7_begin.2.1 32 = .ok (.iload_n 2, 1) := by decide +kernel
theorem dX7_begin_33 : decode mX7_begin.2.1 33 = .ok (.ifCond .eq 58, 3) := by decide +kernel
theorem dX7_begin_36 : decode mX7_begin.2.1 36 = .ok (.iload_n 2, 1) := by decide +kernel
theorem dX7_begin_37 : decode mX7_begin.2.1 37 = .ok (.iconst 1, 1) := by decide +kernel
theorem dX7_begin_38 : decode mX7_begin.2.1 38 = .ok (.if_icmp .eq 53, 3) := by decide +kernel
theorem dX7_begin_41 : decode mX7_begin.2.1 41 = .ok (.aload_n 0, 1) := by decide +kernel
theorem dX7_begin_42 : decode mX7_begin.2.1 42 = .ok (.invokevirtual 62, 3) := by decide +kernel
theorem dX7_begin_45 : decode mX7_begin.2.1 45 = .ok (.aload_n 0, 1) := by decide +kernel
theorem dX7_begin_46 : decode mX7_begin.2.1 46 = .ok (.getfield 47, 3) := by decide +kernel
theorem dX7_begin_49 : decode mX7_begin.2.1 49 = .ok (.aload_n 0, 1) := by decide +kernel
theorem dX7_begin_50 : decode mX7_begin.2.1 50 = .ok (.getfield 53, 3) := by decide +kernel
theorem dX7_begin_53 : decode mX7_begin.2.1 53 = .ok (.aload_n 0, 1) := by decide +kernel
theorem dX7_begin_54 : decode mX7_begin.2.1 54 = .ok (.getfield 59, 3) := by decide +kernel
theorem dX7_begin_57 : decode mX7_begin.2.1 57 = .ok (.iload_n 1, 1) := by decide +kernel
theorem dX7_begin_58 : decode mX7_begin.2.1 58 = .ok (.invokestatic 65, 3) := by decide +kernel
theorem dX7_begin_61 : decode mX7_begin.2.1 61 = .ok (.iastore, 1) := by decide +kernel
theorem dX7_begin_62 : decode mX7_begin.2.1 62 = .ok (.aload_n 0, 1) := by decide +kernel
theorem dX7_begin_63 : decode mX7_begin.2.1 63 = .ok (.iload_n 1, 1) := by decide +kernel
theorem dX7_begin_64 : decode mX7_begin.2.1 64 = .ok (.invokevirtual 71, 3) := by decide +kernel
theorem dX7_begin_67 : decode mX7_begin.2.1 67 = .ok (.istore_n 2, 1) := by decide +kernel
theorem dX7_begin_68 : decode mX7_begin.2.1 68 = .ok (.aload_n 0, 1) := by decide +kernel
theorem dX7_begin_69 : decode mX7_begin.2.1 69 = .ok (.getfield 43, 3) := by decide +kernel
theorem dX7_begin_72 : decode mX7_begin.2.1 72 = .ok (.aload_n 0, 1) := by decide +kernel
theorem dX7_begin_73 : decode mX7_begin.2.1 73 = .ok (.getfield 53, 3) := by decide +kernel
theorem dX7_begin_76 : decode mX7_begin.2.1 76 = .ok (.iload_n 2, 1) := by decide +kernel
theorem dX7_begin_77 : decode mX7_begin.2.1 77 = .ok (.iastore, 1) := by decide +kernel
theorem dX7_begin_78 : decode mX7_begin.2.1 78 = .ok (.aload_n 0, 1) := by decide +kernel
theorem dX7_begin_79 : decode mX7_begin.2.1 79 = .ok (.dup, 1) := by decide +kernel
theorem dX7_begin_80 : decode mX7_begin.2.1 80 = .ok (.getfield 53, 3) := by decide +kernel
theorem dX7_begin_83 : decode mX7_begin.2.1 83 = .ok (.iconst 1, 1) := by decide +kernel
theorem dX7_begin_84 : decode mX7_begin.2.1 84 = .ok (.iadd, 1) := by decide +kernel
theorem dX7_begin_85 : decode mX7_begin.2.1 85 = .ok (.putfield 53, 3) := by decide +kernel
theorem dX7_begin_88 : decode mX7_begin.2.1 88 = .ok (.goto (-66), 3) := by decide +kernel
theorem dX7_begin_91 : decode mX7_begin.2.1 91 = .ok (.return_, 1) := by decide +kernel
set_option maxRecDepth 4000 in
theorem ev_X7_begin {m : Mem} {lim : Int} (hsz : 0 ≤ m 1 1 ∧ m 1 1 ≤ 940) (hlim : 0 ≤ lim ∧ lim ≤ 900) : Ev 0 4 mX7_begin [vr 1, vi lim] m (fun r m' => BgOk m m' lim) := by
  refine Ev.of (L := [vr 1, vi lim, un]) (by decide +kernel) rfl (Nat.le_of_ble_eq_true rfl) rfl (fun t ht => by cases ht) (fun hcan => ?_)
  have htb : ∀ i, 0 ≤ tx m i ∧ tx m i ≤ 255 := fun i => iand255 _
  refine go_aload_n dX7_begin_0 rfl ?_
  refine go_iconst dX7_begin_1 ?_
  refine go_putf_i (ki := 13) dX7_begin_2 fw_7_59 ob_1 rfl rfl ⟨by omega, by omega⟩ ?_
  refine go_aload_n dX7_begin_5 rfl ?_
  refine go_iconst dX7_begin_6 ?_
  refine go_putf_i (ki := 11) dX7_begin_7 fw_7_53 ob_1 rfl rfl ⟨by omega, by omega⟩ ?_
  refine go_aload_n dX7_begin_10 rfl ?_
  refine go_iconst dX7_begin_11 ?_
  refine go_putf_i (ki := 12) dX7_begin_12 fw_7_56 ob_1 rfl rfl ⟨by omega, by omega⟩ ?_
  refine go_aload_n dX7_begin_15 rfl ?_
  refine go_iconst dX7_begin_16 ?_
  refine go_putf_i (ki := 6) dX7_begin_17 fw_7_32 ob_1 rfl rfl ⟨by omega, by omega⟩ ?_
  refine go_iconst dX7_begin_20 ?_
  refine go_istore_n (L' := [vr 1, vi lim, vi 2]) dX7_begin_21 (by decide) rfl rfl ?_
  have lp_22 : ∀ (n_22 : Nat) (m1 : Mem) (lt : Int) (c : Int), (0 ≤ c) → (c ≤ 901) → (m1 1 11 = c) → (m1 1 13 = posN (tx m) (m 1 1) lim c.toNat) → (m1 1 12 = 0) → (m1 1 6 = 0) → (∀ j : Int, j ≠ 6 → j ≠ 11 → j ≠ 12 → j ≠ 13 → m1 1 j = m 1 j) → (∀ b : Nat, b ≠ 1 → b ≠ 4 → b ≠ 5 → b ≠ 6 → m1 b = m b) → (∀ k : Int, 0 ≤ k → k < c → m1 4 k = tK (tx m) (m 3) (m 1 1) lim k.toNat ∧ m1 5 k = min (tokA (tx m) (m 1 1) lim k.toNat) lim ∧ (isRun (tx m) (m 1 1) lim (tokA (tx m) (m 1 1) lim k.toNat) → m1 6 k = runV (tx m) (tokA (tx m) (m 1 1) lim k.toNat) (rn1 (tx m) (m 1 1) (tokA (tx m) (m 1 1) lim k.toNat)))) → (∀ k : Int, 0 ≤ k → k < c - 1 → tK (tx m) (m 3) (m 1 1) lim k.toNat ≠ 0 ∧ tK (tx m) (m 3) (m 1 1) lim k.toNat ≠ 1) → ((c = 0 ∧ lt = 2) ∨ (0 < c ∧ lt = tK (tx m) (m 3) (m 1 1) lim (c - 1).toNat)) → (lt ≠ 0 → lt ≠ 1 → c ≤ posN (tx m) (m 1 1) lim c.toNat ∧ c ≤ 900) → (0 ≤ lt ∧ lt ≤ 255) → (901 - c).toNat < n_22 → Go 0 4 mX7_begin (fun r m' => BgOk m m' lim) 22 [vr 1, vi lim, vi lt] [] m1 := by
    intro n_22
    induction n_22 with
    | zero => intro m1 lt c hc0 hc1 e11 e13 e12 e6 e1 hfr htk hnt hlt hps hltR hmu; exact absurd hmu (Nat.not_lt_zero _)
    | succ n_22 ih_22 =>
      intro m1 lt c hc0 hc1 e11 e13 e12 e6 e1 hfr htk hnt hlt hps hltR hmu
      have ep := posN_bb (tx m) (lim := lim) hsz.1 c.toNat
      have etx : tx m1 = tx m := by funext j; unfold tx; rw [hfr 2 (by decide) (by decide) (by decide) (by decide)]
      have esz : m1 1 1 = m 1 1 := e1 1 (by decide) (by decide) (by decide) (by decide)
      have e3 : m1 3 = m 3 := hfr 3 (by decide) (by decide) (by decide) (by decide)
      have esk : sk1 (tx m1) (m1 1 1) (m1 1 13) = tokA (tx m) (m 1 1) lim c.toNat := by rw [etx, esz, e13]; rfl
      have hA := sk1_bb (t := tx m) (n := m 1 1) ep.2
      have hA : posN (tx m) (m 1 1) lim c.toNat ≤ tokA (tx m) (m 1 1) lim c.toNat ∧ tokA (tx m) (m 1 1) lim c.toNat ≤ m 1 1 := hA
      obtain ⟨a, ha⟩ : ∃ z, z = tokA (tx m) (m 1 1) lim c.toNat := ⟨_, rfl⟩
      rw [← ha] at hA esk
      refine go_aload_n dX7_begin_22 rfl ?_
      refine go_getf_i (ki := 11) dX7_begin_23 fl_7_53 ob_1 rfl rfl (fun hf_23 => ?_)
      rw [show (m1 1 11 : Int) = c from e11] at hf_23 ⊢
      refine go_sipush dX7_begin_26 (by decide) ?_
      refine go_icmp_ge (tgt := 91) dX7_begin_29 (by decide) ⟨by omega, by omega⟩ ⟨by omega, by omega⟩ (fun h_29 => ?_) (fun h_29 => ?_)
      · refine go_ret (v := 0) rfl dX7_begin_91 rfl ?_
        have hterm : lt = 0 ∨ lt = 1 := by
          by_cases z0 : lt = 0
          · exact Or.inl z0
          · by_cases z1 : lt = 1
            · exact Or.inr z1
            · have := (hps z0 z1).2; omega
        rcases hlt with ⟨z, z2⟩ | ⟨z, z2⟩
        · omega
        · refine ⟨⟨by omega, ?_, ?_, ?_⟩, e12, e6, e1, hfr⟩
          · rw [e11]; exact htk
          · rw [e11]; exact hnt
          · rw [e11, ← z2]; exact hterm
      · refine go_iload_n dX7_begin_32 rfl ?_
        refine go_if_eq (tgt := 91) dX7_begin_33 (by decide) ⟨by omega, by omega⟩ (fun h_33 => ?_) (fun h_33 => ?_)
        · refine go_ret (v := 0) rfl dX7_begin_91 rfl ?_
          have hterm : lt = 0 ∨ lt = 1 := by
            by_cases z0 : lt = 0
            · exact Or.inl z0
            · by_cases z1 : lt = 1
              · exact Or.inr z1
              · have := (hps z0 z1).2; omega
          rcases hlt with ⟨z, z2⟩ | ⟨z, z2⟩
          · omega
          · refine ⟨⟨by omega, ?_, ?_, ?_⟩, e12, e6, e1, hfr⟩
            · rw [e11]; exact htk
            · rw [e11]; exact hnt
            · rw [e11, ← z2]; exact hterm
        · refine go_iload_n dX7_begin_36 rfl ?_
          refine go_iconst dX7_begin_37 ?_
          refine go_icmp_eq (tgt := 91) dX7_begin_38 (by decide) ⟨by omega, by omega⟩ ⟨by omega, by omega⟩ (fun h_38 => ?_) (fun h_38 => ?_)
          · refine go_ret (v := 0) rfl dX7_begin_91 rfl ?_
            have hterm : lt = 0 ∨ lt = 1 := by
              by_cases z0 : lt = 0
              · exact Or.inl z0
              · by_cases z1 : lt = 1
                · exact Or.inr z1
                · have := (hps z0 z1).2; omega
            rcases hlt with ⟨z, z2⟩ | ⟨z, z2⟩
            · omega
            · refine ⟨⟨by omega, ?_, ?_, ?_⟩, e12, e6, e1, hfr⟩
              · rw [e11]; exact htk
              · rw [e11]; exact hnt
              · rw [e11, ← z2]; exact hterm
          · refine go_aload_n dX7_begin_41 rfl ?_
            refine go_callV_v (as := []) (S := []) (b := 1) (ev_X7_skipBlanks (m := m1)  (by rw [esz]; exact hsz) (by rw [e13, esz]; exact ep)) rfl dX7_begin_42 cv_7_62 rfl rfl ob_1 rfl (by decide) (Nat.le_of_ble_eq_true rfl) (fun m_42 hr_42 => ?_)
            rw [esk] at hr_42
            subst hr_42
            refine go_aload_n dX7_begin_45 rfl ?_
            refine go_getf_p (b := 5) dX7_begin_46 fl_7_47 ob_1 rfl pt_1_9 ?_
            refine go_aload_n dX7_begin_49 rfl ?_
            refine go_getf_i (ki := 11) dX7_begin_50 fl_7_53 ob_1 rfl rfl (fun hf_50 => ?_)
            rw [show ((wr m1 1 13 a) 1 11 : Int) = c from by rw [wr_ni (by decide), e11]] at hf_50 ⊢
            refine go_aload_n dX7_begin_53 rfl ?_
            refine go_getf_i (ki := 13) dX7_begin_54 fl_7_59 ob_1 rfl rfl (fun hf_54 => ?_)
            rw [show ((wr m1 1 13 a) 1 13 : Int) = a from by rw [wr_self]] at hf_54 ⊢
            refine go_iload_n dX7_begin_57 rfl ?_
            refine go_min dX7_begin_58 jl_7_65 ⟨by omega, by omega⟩ ⟨by omega, by omega⟩ (by decide) (Nat.le_of_ble_eq_true rfl) ?_
            refine go_iastore dX7_begin_61 ar_5 (by omega) (by omega) ⟨by omega, by omega⟩ ?_
            refine go_aload_n dX7_begin_62 rfl ?_
            refine go_iload_n dX7_begin_63 rfl ?_
            refine go_callV_i (as := [vi lim]) (S := []) (b := 1) (ev_X7_scanToken (m := (wr (wr m1 1 13 a) 5 c (min a lim))) (lim := lim) (by rw [wr_na (by decide), wr_ni (by decide), esz]; exact hsz) (by rw [wr_na (by decide), wr_self, wr_na (by decide), wr_ni (by decide), esz]; omega) (by rw [wr_na (by decide), wr_ni (by decide), e11]; omega) (by first | assumption | omega | exact ⟨by omega, by omega⟩ | (constructor <;> omega))) rfl dX7_begin_64 cv_7_71 rfl rfl ob_1 rfl (by decide) (Nat.le_of_ble_eq_true rfl) (fun r_64 m_64 hr_64 ho_64 => ?_)
            have q1 : wr (wr m1 1 13 a) 5 c (min a lim) 1 13 = a := by rw [wr_na (by decide), wr_self]
            have q2 : wr (wr m1 1 13 a) 5 c (min a lim) 1 1 = m 1 1 := by rw [wr_na (by decide), wr_ni (by decide), esz]
            have q3 : wr (wr m1 1 13 a) 5 c (min a lim) 1 11 = c := by rw [wr_na (by decide), wr_ni (by decide), e11]
            have q4 : tx (wr (wr m1 1 13 a) 5 c (min a lim)) = tx m := by rw [← etx]; funext j; unfold tx; rw [wr_na (by decide), wr_na (by decide)]
            have q5 : wr (wr m1 1 13 a) 5 c (min a lim) 3 = m 3 := by rw [wr_row (by decide), wr_row (by decide), e3]
            rw [q1, q2, q3, q4, q5] at hr_64
            obtain ⟨g1, g2, g3, g4, g5⟩ := scan_facts hr_64.2
            have hrk := hr_64.1
            have hKb := tokK_b (kw := m 3) (n := m 1 1) (lim := lim) (a := a) htb
            rw [← hrk] at hKb
            have hnt64 : r_64 ≠ 0 → r_64 ≠ 1 → a < m 1 1 ∧ a < lim := fun z0 z1 => tokK_nt (t := tx m) (kw := m 3) (by rw [← hrk]; exact z0) (by rw [← hrk]; exact z1)
            clear hr_64
            refine go_istore_n (L' := [vr 1, vi lim, vi r_64]) dX7_begin_67 (by decide) rfl rfl ?_
            refine go_aload_n dX7_begin_68 rfl ?_
            refine go_getf_p (b := 4) dX7_begin_69 fl_7_43 ob_1 rfl pt_1_8 ?_
            refine go_aload_n dX7_begin_72 rfl ?_
            refine go_getf_i (ki := 11) dX7_begin_73 fl_7_53 ob_1 rfl rfl (fun hf_73 => ?_)
            rw [show (m_64 1 11 : Int) = c from by rw [g2 11 (by decide), wr_na (by decide), wr_ni (by decide), e11]] at hf_73 ⊢
            refine go_iload_n dX7_begin_76 rfl ?_
            refine go_iastore dX7_begin_77 ar_4 (by omega) (by omega) ⟨by omega, by omega⟩ ?_
            refine go_aload_n dX7_begin_78 rfl ?_
            refine go_dup_r dX7_begin_79 ?_
            refine go_getf_i (ki := 11) dX7_begin_80 fl_7_53 ob_1 rfl rfl (fun hf_80 => ?_)
            rw [show ((wr m_64 4 c r_64) 1 11 : Int) = c from by rw [wr_na (by decide), g2 11 (by decide), wr_na (by decide), wr_ni (by decide), e11]] at hf_80 ⊢
            refine go_iconst dX7_begin_83 ?_
            refine go_iadd dX7_begin_84 ?_
            refine go_putf_i (ki := 11) dX7_begin_85 fw_7_53 ob_1 rfl rfl ⟨by omega, by omega⟩ ?_
            refine go_goto (tgt := 22) dX7_begin_88 (by decide) ?_
            exact ih_22 (wr (wr m_64 4 c r_64) 1 11 (c + 1)) r_64 (c + 1) (by first | assumption | omega | rfl) (by first | assumption | omega | rfl) (wr_self _ _ _ _) (by rw [wr_ni (by decide), wr_na (by decide), g1, ha, show (c + 1).toNat = c.toNat + 1 by omega]; rfl) (by rw [wr_ni (by decide), wr_na (by decide), g2 12 (by decide), wr_na (by decide), wr_ni (by decide), e12]) (by rw [wr_ni (by decide), wr_na (by decide), g2 6 (by decide), wr_na (by decide), wr_ni (by decide), e6]) (fun j h1 h2 h3 h4 => by rw [wr_ni h2, wr_na (by decide), g2 j h4, wr_na (by decide), wr_ni h4, e1 j h1 h2 h3 h4]) (fun b h1 h4 h5 h6 => by rw [wr_row h1, wr_row h4, g3 b h1 h6, wr_row h5, wr_row h1, hfr b h1 h4 h5 h6]) (fun k h1 h2 => by
                  by_cases hk : k = c
                  · subst hk
                    refine ⟨?_, ?_, fun hr => ?_⟩
                    · rw [wr_na (by decide), wr_self, hrk, ha]; rfl
                    · rw [wr_na (by decide), wr_na (by decide), g3 5 (by decide) (by decide), wr_self, ha]
                    · rw [wr_na (by decide), wr_na (by decide)]; rw [← ha] at hr ⊢; exact g5 hr
                  · have hq := htk k h1 (by omega)
                    refine ⟨?_, ?_, fun hr => ?_⟩
                    · rw [wr_na (by decide), wr_ni hk, g3 4 (by decide) (by decide), wr_na (by decide), wr_na (by decide)]; exact hq.1
                    · rw [wr_na (by decide), wr_na (by decide), g3 5 (by decide) (by decide), wr_ni hk, wr_na (by decide)]; exact hq.2.1
                    · rw [wr_na (by decide), wr_na (by decide), g4 k hk, wr_na (by decide), wr_na (by decide)]; exact hq.2.2 hr) (fun k h1 h2 => by
                  by_cases hk : k < c - 1
                  · exact hnt k h1 hk
                  · rcases hlt with ⟨z, _⟩ | ⟨_, z⟩
                    · omega
                    · have : k = c - 1 := by omega
                      subst this
                      rw [← z]; exact ⟨h_33, h_38⟩) (Or.inr ⟨by omega, by rw [hrk, show c + 1 - 1 = c by omega, ha]; rfl⟩) (fun z0 z1 => by
                  have h1 := hnt64 z0 z1
                  have h2 := hps h_33 h_38
                  have h3 := tokE_gt (t := tx m) h1.1 h1.2
                  rw [show (c + 1).toNat = c.toNat + 1 by omega]
                  show c + 1 ≤ tokE (tx m) (m 1 1) lim (tokA (tx m) (m 1 1) lim c.toNat) ∧ c + 1 ≤ 900
                  rw [← ha]
                  omega) hKb (by omega)
  exact lp_22 _ (wr (wr (wr (wr m 1 13 0) 1 11 0) 1 12 0) 1 6 0) 2 0 (by first | assumption | omega | rfl) (by first | assumption | omega | rfl) (by simp (disch := decide) only [wr_ni, wr_self]) (by simp (disch := decide) only [wr_ni, wr_self]; rfl) (by simp (disch := decide) only [wr_ni, wr_self]) (by simp (disch := decide) only [wr_ni, wr_self]) (fun j h1 h2 h3 h4 => by rw [wr_ni h1, wr_ni h3, wr_ni h2, wr_ni h4]) (fun b h1 _ _ _ => by rw [wr_row h1, wr_row h1, wr_row h1, wr_row h1]) (fun k h1 h2 => by omega) (fun k h1 h2 => by omega) (Or.inl ⟨rfl, rfl⟩) (fun _ _ => ⟨by show (0 : Int) ≤ 0; omega, by omega⟩) (by omega) (Nat.lt_succ_self _)
theorem dX7_next_0 : decode mX7_next.2.1 0 = .ok (.aload_n 0, 1) := by decide +kernel
theorem dX7_next_1 : decode mX7_next.2.1 1 = .ok (.getfield 56, 3) := by decide +kernel
theorem dX7_next_4 : decode mX7_next.2.1 4 = .ok (.aload_n 0, 1) := by decide +kernel
theorem dX7_next_5 : decode mX7_next.2.1 5 = .ok (.getfield 53, 3) := by decide +kernel
theorem dX7_next_8 : decode mX7_next.2.1 8 = .ok (.if_icmp .ge 66, 3) := by decide +kernel
theorem dX7_next_11 : decode mX7_next.2.1 11 = .ok (.aload_n 0, 1) := by decide +kernel
theorem dX7_next_12 : decode mX7_next.2.1 12 = .ok (.aload_n 0, 1) := by decide +kernel
theorem dX7_next_13 : decode mX7_next.2.1 13 = .ok (.getfield 43, 3) := by decide +kernel
theorem dX7_next_16 : decode mX7_next.2.1 16 = .ok (.aload_n 0, 1) := by decide +kernel
theorem dX7_next_17 : decode mX7_next.2.1 17 = .ok (.getfield 56, 3) := by decide +kernel
theorem dX7_next_20 : decode mX7_next.2.1 20 = .ok (.iaload, 1) := by decide +kernel
theorem dX7_next_21 : decode mX7_next.2.1 21 = .ok (.putfield 19, 3) := by decide +kernel
theorem dX7_next_24 : decode mX7_next.2.1 24 = .ok (.aload_n 0, 1) := by decide +kernel
theorem dX7_next_25 : decode mX7_next.2.1 25 = .ok (.aload_n 0, 1) := by decide +kernel
theorem dX7_next_26 : decode mX7_next.2.1 26 = .ok (.getfield 47, 3) := by decide +kernel
theorem dX7_next_29 : decode mX7_next.2.1 29 = .ok (.aload_n 0, 1) := by decide +kernel
theorem dX7_next_30 : decode mX7_next.2.1 30 = .ok (.getfield 56, 3) := by decide +kernel
theorem dX7_next_33 : decode mX7_next.2.1 33 = .ok (.iaload, 1) := by decide +kernel
theorem dX7_next_34 : decode mX7_next.2.1 34 = .ok (.putfield 22, 3) := by decide +kernel
theorem dX7_next_37 : decode mX7_next.2.1 37 = .ok (.aload_n 0, 1) := by decide +kernel
theorem dX7_next_38 : decode mX7_next.2.1 38 = .ok (.aload_n 0, 1) := by decide +kernel
theorem dX7_next_39 : decode mX7_next.2.1 39 = .ok (.getfield 50, 3) := by decide +kernel
theorem dX7_next_42 : decode mX7_next.2.1 42 = .ok (.aload_n 0, 1) := by decide +kernel
theorem dX7_next_43 : decode mX7_next.2.1 43 = .ok (.getfield 56, 3) := by decide +kernel
theorem dX7_next_46 : decode mX7_next.2.1 46 = .ok (.laload, 1) := by decide +kernel
theorem dX7_next_47 : decode mX7_next.2.1 47 = .ok (.putfield 28, 3) := by decide +kernel
theorem dX7_next_50 : decode mX7_next.2.1 50 = .ok (.aload_n 0, 1) := by decide +kernel
theorem dX7_next_51 : decode mX7_next.2.1 51 = .ok (.aload_n 0, 1) := by decide +kernel
theorem dX7_next_52 : decode mX7_next.2.1 52 = .ok (.getfield 50, 3) := by decide +kernel
theorem dX7_next_55 : decode mX7_next.2.1 55 = .ok (.aload_n 0, 1) := by decide +kernel
theorem dX7_next_56 : decode mX7_next.2.1 56 = .ok (.getfield 56, 3) := by decide +kernel
theorem dX7_next_59 : decode mX7_next.2.1 59 = .ok (.laload, 1) := by decide +kernel
theorem dX7_next_60 : decode mX7_next.2.1 60 = .ok (.l2i, 1) := by decide +kernel
theorem dX7_next_61 : decode mX7_next.2.1 61 = .ok (.putfield 25, 3) := by decide +kernel
theorem dX7_next_64 : decode mX7_next.2.1 64 = .ok (.aload_n 0, 1) := by decide +kernel
theorem dX7_next_65 : decode mX7_next.2.1 65 = .ok (.dup, 1) := by decide +kernel
theorem dX7_next_66 : decode mX7_next.2.1 66 = .ok (.getfield 56, 3) := by decide +kernel
theorem dX7_next_69 : decode mX7_next.2.1 69 = .ok (.iconst 1, 1) := by decide +kernel
theorem dX7_next_70 : decode mX7_next.2.1 70 = .ok (.iadd, 1) := by decide +kernel
theorem dX7_next_71 : decode mX7_next.2.1 71 = .ok (.putfield 56, 3) := by decide +kernel
theorem dX7_next_74 : decode mX7_next.2.1 74 = .ok (.return_, 1) := by decide +kernel
set_option maxRecDepth 4000 in
theorem ev_X7_next {m : Mem}  (hrd : 0 ≤ m 1 12 ∧ m 1 12 < m 1 11 ∧ m 1 11 ≤ 901) : Ev 0 1 mX7_next [vr 1] m (fun r m' => m' = nxt m) := by
  refine Ev.of (L := [vr 1]) (by decide +kernel) rfl (Nat.le_of_ble_eq_true rfl) rfl (fun t ht => by cases ht) (fun hcan => ?_)
  refine go_aload_n dX7_next_0 rfl ?_
  refine go_getf_i (ki := 12) dX7_next_1 fl_7_56 ob_1 rfl rfl (fun hf_1 => ?_)
  refine go_aload_n dX7_next_4 rfl ?_
  refine go_getf_i (ki := 11) dX7_next_5 fl_7_53 ob_1 rfl rfl (fun hf_5 => ?_)
  refine go_icmp_ge (tgt := 74) dX7_next_8 (by decide) ⟨by omega, by omega⟩ ⟨by omega, by omega⟩ (fun h_8 => ?_) (fun h_8 => ?_)
  · exfalso; omega
  · refine go_aload_n dX7_next_11 rfl ?_
    refine go_aload_n dX7_next_12 rfl ?_
    refine go_getf_p (b := 4) dX7_next_13 fl_7_43 ob_1 rfl pt_1_8 ?_
    refine go_aload_n dX7_next_16 rfl ?_
    refine go_getf_i (ki := 12) dX7_next_17 fl_7_56 ob_1 rfl rfl (fun hf_17 => ?_)
    refine go_iaload dX7_next_20 ar_4 (by omega) (by omega) (fun he_20 => ?_)
    refine go_putf_i (ki := 2) dX7_next_21 fw_7_19 ob_1 rfl rfl ⟨by omega, by omega⟩ ?_
    refine go_aload_n dX7_next_24 rfl ?_
    refine go_aload_n dX7_next_25 rfl ?_
    refine go_getf_p (b := 5) dX7_next_26 fl_7_47 ob_1 rfl pt_1_9 ?_
    refine go_aload_n dX7_next_29 rfl ?_
    refine go_getf_i (ki := 12) dX7_next_30 fl_7_56 ob_1 rfl rfl (fun hf_30 => ?_)
    rw [show ((wr m 1 2 (m 4 (m 1 12))) 1 12 : Int) = (m 1 12) from by rw [wr_ni (by decide)]] at hf_30 ⊢
    refine go_iaload dX7_next_33 ar_5 (by omega) (by omega) (fun he_33 => ?_)
    rw [show ((wr m 1 2 (m 4 (m 1 12))) 5 (m 1 12) : Int) = (m 5 (m 1 12)) from by rw [wr_na (by omega)]] at he_33 ⊢
    refine go_putf_i (ki := 3) dX7_next_34 fw_7_22 ob_1 rfl rfl ⟨by omega, by omega⟩ ?_
    refine go_aload_n dX7_next_37 rfl ?_
    refine go_aload_n dX7_next_38 rfl ?_
    refine go_getf_p (b := 6) dX7_next_39 fl_7_50 ob_1 rfl pt_1_10 ?_
    refine go_aload_n dX7_next_42 rfl ?_
    refine go_getf_i (ki := 12) dX7_next_43 fl_7_56 ob_1 rfl rfl (fun hf_43 => ?_)
    rw [show ((wr (wr m 1 2 (m 4 (m 1 12))) 1 3 (m 5 (m 1 12))) 1 12 : Int) = (m 1 12) from by rw [wr_ni (by decide), wr_ni (by decide)]] at hf_43 ⊢
    refine go_laload dX7_next_46 ar_6 (by omega) (by omega) (fun he_46 => ?_)
    rw [show ((wr (wr m 1 2 (m 4 (m 1 12))) 1 3 (m 5 (m 1 12))) 6 (m 1 12) : Int) = (m 6 (m 1 12)) from by rw [wr_na (by omega), wr_na (by omega)]] at he_46 ⊢
    refine go_putf_l (ki := 5) dX7_next_47 fw_7_28 ob_1 rfl rfl ⟨by omega, by omega⟩ ?_
    refine go_aload_n dX7_next_50 rfl ?_
    refine go_aload_n dX7_next_51 rfl ?_
    refine go_getf_p (b := 6) dX7_next_52 fl_7_50 ob_1 rfl pt_1_10 ?_
    refine go_aload_n dX7_next_55 rfl ?_
    refine go_getf_i (ki := 12) dX7_next_56 fl_7_56 ob_1 rfl rfl (fun hf_56 => ?_)
    rw [show ((wr (wr (wr m 1 2 (m 4 (m 1 12))) 1 3 (m 5 (m 1 12))) 1 5 (m 6 (m 1 12))) 1 12 : Int) = (m 1 12) from by rw [wr_ni (by decide), wr_ni (by decide), wr_ni (by decide)]] at hf_56 ⊢
    refine go_laload dX7_next_59 ar_6 (by omega) (by omega) (fun he_59 => ?_)
    rw [show ((wr (wr (wr m 1 2 (m 4 (m 1 12))) 1 3 (m 5 (m 1 12))) 1 5 (m 6 (m 1 12))) 6 (m 1 12) : Int) = (m 6 (m 1 12)) from by rw [wr_na (by omega), wr_na (by omega), wr_na (by omega)]] at he_59 ⊢
    refine go_l2i dX7_next_60 ?_
    refine go_wrap ?_
    refine go_putf_i (ki := 4) dX7_next_61 fw_7_25 ob_1 rfl rfl (w32_R _) ?_
    refine go_aload_n dX7_next_64 rfl ?_
    refine go_dup_r dX7_next_65 ?_
    refine go_getf_i (ki := 12) dX7_next_66 fl_7_56 ob_1 rfl rfl (fun hf_66 => ?_)
    rw [show ((wr (wr (wr (wr m 1 2 (m 4 (m 1 12))) 1 3 (m 5 (m 1 12))) 1 5 (m 6 (m 1 12))) 1 4 (w32 (m 6 (m 1 12)))) 1 12 : Int) = (m 1 12) from by rw [wr_ni (by decide), wr_ni (by decide), wr_ni (by decide), wr_ni (by decide)]] at hf_66 ⊢
    refine go_iconst dX7_next_69 ?_
    refine go_iadd dX7_next_70 ?_
    refine go_putf_i (ki := 12) dX7_next_71 fw_7_56 ob_1 rfl rfl ⟨by omega, by omega⟩ ?_
    exact go_ret (v := 0) rfl dX7_next_74 rfl (by first | assumption | rfl | omega)
theorem dX7_refuse_0 : decode mX7_refuse.2.1 0 = .ok (.aload_n 0, 1) := by decide +kernel
theorem dX7_refuse_1 : decode mX7_refuse.2.1 1 = .ok (.iload_n 1, 1) := by decide +kernel
theorem dX7_refuse_2 : decode mX7_refuse.2.1 2 = .ok (.putfield 32, 3) := by decide +kernel
theorem dX7_refuse_5 : decode mX7_refuse.2.1 5 = .ok (.iconst 0, 1) := by decide +kernel
theorem dX7_refuse_6 : decode mX7_refuse.2.1 6 = .ok (.ireturn, 1) := by decide +kernel
set_option maxRecDepth 4000 in
theorem ev_X7_refuse {m : Mem} {k : Int} (hk : InR k) : Ev 0 1 mX7_refuse [vr 1, vi k] m (fun r m' => r = 0 ∧ m' = wr m 1 6 k) := by
  refine Ev.of (L := [vr 1, vi k]) (by decide +kernel) rfl (Nat.le_of_ble_eq_true rfl) rfl (fun t ht => by cases ht; first | exact Or.inl rfl | exact Or.inr (Or.inl rfl) | exact Or.inr (Or.inr rfl)) (fun hcan => ?_)
  refine go_aload_n dX7_refuse_0 rfl ?_
  refine go_iload_n dX7_refuse_1 rfl ?_
  refine go_putf_i (ki := 6) dX7_refuse_2 fw_7_32 ob_1 rfl rfl ⟨by omega, by omega⟩ ?_
  refine go_iconst dX7_refuse_5 ?_
  exact go_ret (v := 0) rfl dX7_refuse_6 (okZ (by first | exact Or.inl rfl | exact Or.inr rfl | assumption | omega)) ⟨rfl, rfl⟩
theorem dX7_wantKind_0 : decode mX7_wantKind.2.1 0 = .ok (.aload_n 0, 1) := by decide +kernel
theorem dX7_wantKind_1 : decode mX7_wantKind.2.1 1 = .ok (.invokevirtual 75, 3) := by decide +kernel
theorem dX7_wantKind_4 : decode mX7_wantKind.2.1 4 = .ok (.aload_n 0, 1) := by decide +kernel
theorem dX7_wantKind_5 : decode mX7_wantKind.2.1 5 = .ok (.getfield 19, 3) := by decide +kernel
theorem dX7_wantKind_8 : decode mX7_wantKind.2.1 8 = .ok (.iload_n 1, 1) := by decide +kernel
theorem dX7_wantKind_9 : decode mX7_wantKind.2.1 9 = .ok (.if_icmp .eq 11, 3) := by decide +kernel
theorem dX7_wantKind_12 : decode mX7_wantKind.2.1 12 = .ok (.aload_n 0, 1) := by decide +kernel
theorem dX7_wantKind_13 : decode mX7_wantKind.2.1 13 = .ok (.iconst 1, 1) := by decide +kernel
theorem dX7_wantKind_14 : decode mX7_wantKind.2.1 14 = .ok (.invokevirtual 78, 3) := by decide +kernel
theorem dX7_wantKind_17 : decode mX7_wantKind.2.1 17 = .ok (.ifCond .eq 7, 3) := by decide +kernel
theorem dX7_wantKind_20 : decode mX7_wantKind.2.1 20 = .ok (.iconst 1, 1) := by decide +kernel
theorem dX7_wantKind_21 : decode mX7_wantKind.2.1 21 = .ok (.goto 4, 3) := by decide +kernel
theorem dX7_wantKind_24 : decode mX7_wantKind.2.1 24 = .ok (.iconst 0, 1) := by decide +kernel
theorem dX7_wantKind_25 : decode mX7_wantKind.2.1 25 = .ok (.ireturn, 1) := by decide +kernel
set_option maxRecDepth 4000 in
theorem ev_X7_wantKind {m : Mem} {k : Int} (hrd : 0 ≤ m 1 12 ∧ m 1 12 < m 1 11 ∧ m 1 11 ≤ 901) (hk : InR k) : Ev 0 2 mX7_wantKind [vr 1, vi k] m (fun r m' => (m 4 (m 1 12) = k ∧ r = 1 ∧ Adv m m' (m 1 6)) ∨ (m 4 (m 1 12) ≠ k ∧ r = 0 ∧ Adv m m' 1)) := by
  refine Ev.of (L := [vr 1, vi k]) (by decide +kernel) rfl (Nat.le_of_ble_eq_true rfl) rfl (fun t ht => by cases ht; first | exact Or.inl rfl | exact Or.inr (Or.inl rfl) | exact Or.inr (Or.inr rfl)) (fun hcan => ?_)
  have n2 : nxt m 1 2 = m 4 (m 1 12) := by unfold nxt; simp (disch := decide) only [wr_ni, wr_self]
  have n4 : nxt m 1 4 = w32 (m 6 (m 1 12)) := by unfold nxt; simp (disch := decide) only [wr_ni, wr_self]
  refine go_aload_n dX7_wantKind_0 rfl ?_
  refine go_callV_v (as := []) (S := []) (b := 1) (ev_X7_next (m := m)  (by first | assumption | omega | exact ⟨by omega, by omega⟩ | (constructor <;> omega))) rfl dX7_wantKind_1 cv_7_75 rfl rfl ob_1 rfl (by decide) (Nat.le_of_ble_eq_true rfl) (fun m_1 hr_1 => ?_)
  subst hr_1
  refine go_aload_n dX7_wantKind_4 rfl ?_
  refine go_getf_i (ki := 2) dX7_wantKind_5 fl_7_19 ob_1 rfl rfl (fun hf_5 => ?_)
  rw [show ((nxt m) 1 2 : Int) = (m 4 (m 1 12)) from n2] at hf_5 ⊢
  refine go_iload_n dX7_wantKind_8 rfl ?_
  refine go_icmp_eq (tgt := 20) dX7_wantKind_9 (by decide) ⟨by omega, by omega⟩ ⟨by omega, by omega⟩ (fun h_9 => ?_) (fun h_9 => ?_)
  · refine go_iconst dX7_wantKind_20 ?_
    refine go_goto (tgt := 25) dX7_wantKind_21 (by decide) ?_
    refine go_ret (v := 1) rfl dX7_wantKind_25 (okZ (by first | exact Or.inl rfl | exact Or.inr rfl | assumption | omega)) ?_
    first | (exfalso; omega) | exact Or.inl ⟨by omega, rfl, nxt_adv m⟩ | exact Or.inr ⟨by omega, rfl, by rw [hr_14.2]; exact (nxt_adv m).flt⟩
  · refine go_aload_n dX7_wantKind_12 rfl ?_
    refine go_iconst dX7_wantKind_13 ?_
    refine go_callV_z (as := [vi 1]) (S := []) (b := 1) (ev_X7_refuse (m := (nxt m)) (k := 1) (by first | assumption | omega | exact ⟨by omega, by omega⟩ | (constructor <;> omega))) rfl dX7_wantKind_14 cv_7_78 rfl rfl ob_1 rfl (by decide) (Nat.le_of_ble_eq_true rfl) (fun r_14 m_14 hr_14 ho_14 => ?_)
    refine go_if_eq (tgt := 24) dX7_wantKind_17 (by decide) ⟨by omega, by omega⟩ (fun h_17 => ?_) (fun h_17 => ?_)
    · refine go_iconst dX7_wantKind_24 ?_
      refine go_ret (v := 0) rfl dX7_wantKind_25 (okZ (by first | exact Or.inl rfl | exact Or.inr rfl | assumption | omega)) ?_
      first | (exfalso; omega) | exact Or.inl ⟨by omega, rfl, nxt_adv m⟩ | exact Or.inr ⟨by omega, rfl, by rw [hr_14.2]; exact (nxt_adv m).flt⟩
    · refine go_iconst dX7_wantKind_20 ?_
      refine go_goto (tgt := 25) dX7_wantKind_21 (by decide) ?_
      refine go_ret (v := 1) rfl dX7_wantKind_25 (okZ (by first | exact Or.inl rfl | exact Or.inr rfl | assumption | omega)) ?_
      first | (exfalso; omega) | exact Or.inl ⟨by omega, rfl, nxt_adv m⟩ | exact Or.inr ⟨by omega, rfl, by rw [hr_14.2]; exact (nxt_adv m).flt⟩
theorem dX7_wantSide_0 : decode mX7_wantSide.2.1 0 = .ok (.aload_n 0, 1) := by decide +kernel
theorem dX7_wantSide_1 : decode mX7_wantSide.2.1 1 = .ok (.invokevirtual 75, 3) := by decide +kernel
theorem dX7_wantSide_4 : decode mX7_wantSide.2.1 4 = .ok (.aload_n 0, 1) := by decide +kernel
theorem dX7_wantSide_5 : decode mX7_wantSide.2.1 5 = .ok (.getfield 19, 3) := by decide +kernel
theorem dX7_wantSide_8 : decode mX7_wantSide.2.1 8 = .ok (.sipush 209, 3) := by decide +kernel
theorem dX7_wantSide_11 : decode mX7_wantSide.2.1 11 = .ok (.sipush 212, 3) := by decide +kernel
theorem dX7_wantSide_14 : decode mX7_wantSide.2.1 14 = .ok (.invokestatic 85, 3) := by decide +kernel
theorem dX7_wantSide_17 : decode mX7_wantSide.2.1 17 = .ok (.ifCond .ne 11, 3) := by decide +kernel
theorem dX7_wantSide_20 : decode mX7_wantSide.2.1 20 = .ok (.aload_n 0, 1) := by decide +kernel
theorem dX7_wantSide_21 : decode mX7_wantSide.2.1 21 = .ok (.iconst 1, 1) := by decide +kernel
theorem dX7_wantSide_22 : decode mX7_wantSide.2.1 22 = .ok (.invokevirtual 78, 3) := by decide +kernel
theorem dX7_wantSide_25 : decode mX7_wantSide.2.1 25 = .ok (.ifCond .eq 7, 3) := by decide +kernel
theorem dX7_wantSide_28 : decode mX7_wantSide.2.1 28 = .ok (.iconst 1, 1) := by decide +kernel
theorem dX7_wantSide_29 : decode mX7_wantSide.2.1 29 = .ok (.goto 4, 3) := by decide +kernel
theorem dX7_wantSide_32 : decode mX7_wantSide.2.1 32 = .ok (.iconst 0, 1) := by decide +kernel
theorem dX7_wantSide_33 : decode mX7_wantSide.2.1 33 = .ok (.ireturn, 1) := by decide +kernel
set_option maxRecDepth 4000 in
theorem ev_X7_wantSide {m : Mem}  (hrd : 0 ≤ m 1 12 ∧ m 1 12 < m 1 11 ∧ m 1 11 ≤ 901) : Ev 0 2 mX7_wantSide [vr 1] m (fun r m' => ((209 ≤ m 4 (m 1 12) ∧ m 4 (m 1 12) ≤ 212) ∧ r = 1 ∧ Adv m m' (m 1 6)) ∨ (¬ (209 ≤ m 4 (m 1 12) ∧ m 4 (m 1 12) ≤ 212) ∧ r = 0 ∧ Adv m m' 1)) := by
  refine Ev.of (L := [vr 1]) (by decide +kernel) rfl (Nat.le_of_ble_eq_true rfl) rfl (fun t ht => by cases ht; first | exact Or.inl rfl | exact Or.inr (Or.inl rfl) | exact Or.inr (Or.inr rfl)) (fun hcan => ?_)
  have n2 : nxt m 1 2 = m 4 (m 1 12) := by unfold nxt; simp (disch := decide) only [wr_ni, wr_self]
  have n4 : nxt m 1 4 = w32 (m 6 (m 1 12)) := by unfold nxt; simp (disch := decide) only [wr_ni, wr_self]
  refine go_aload_n dX7_wantSide_0 rfl ?_
  refine go_callV_v (as := []) (S := []) (b := 1) (ev_X7_next (m := m)  (by first | assumption | omega | exact ⟨by omega, by omega⟩ | (constructor <;> omega))) rfl dX7_wantSide_1 cv_7_75 rfl rfl ob_1 rfl (by decide) (Nat.le_of_ble_eq_true rfl) (fun m_1 hr_1 => ?_)
  subst hr_1
  refine go_aload_n dX7_wantSide_4 rfl ?_
  refine go_getf_i (ki := 2) dX7_wantSide_5 fl_7_19 ob_1 rfl rfl (fun hf_5 => ?_)
  rw [show ((nxt m) 1 2 : Int) = (m 4 (m 1 12)) from n2] at hf_5 ⊢
  refine go_sipush dX7_wantSide_8 (by decide) ?_
  refine go_sipush dX7_wantSide_11 (by decide) ?_
  refine go_callSp_z (as := [vi (m 4 (m 1 12)), vi 209, vi 212]) (S := []) (ev_X11_isIn (m := (nxt m)) (n := (m 4 (m 1 12))) (lo := 209) (hi := 212) (by first | assumption | omega | exact ⟨by omega, by omega⟩ | (constructor <;> omega)) (by first | assumption | omega | exact ⟨by omega, by omega⟩ | (constructor <;> omega)) (by first | assumption | omega | exact ⟨by omega, by omega⟩ | (constructor <;> omega))) rfl dX7_wantSide_14 cs_7_85 rfl rfl (by decide) (Nat.le_of_ble_eq_true rfl) (fun r_14 hr_14 ho_14 => ?_)
  refine go_if_ne (tgt := 28) dX7_wantSide_17 (by decide) ⟨by omega, by omega⟩ (fun h_17 => ?_) (fun h_17 => ?_)
  · refine go_iconst dX7_wantSide_28 ?_
    refine go_goto (tgt := 33) dX7_wantSide_29 (by decide) ?_
    refine go_ret (v := 1) rfl dX7_wantSide_33 (okZ (by first | exact Or.inl rfl | exact Or.inr rfl | assumption | omega)) ?_
    first | (exfalso; omega) | exact Or.inl ⟨by omega, rfl, nxt_adv m⟩ | exact Or.inr ⟨by omega, rfl, by rw [hr_22.2]; exact (nxt_adv m).flt⟩
  · refine go_aload_n dX7_wantSide_20 rfl ?_
    refine go_iconst dX7_wantSide_21 ?_
    refine go_callV_z (as := [vi 1]) (S := []) (b := 1) (ev_X7_refuse (m := (nxt m)) (k := 1) (by first | assumption | omega | exact ⟨by omega, by omega⟩ | (constructor <;> omega))) rfl dX7_wantSide_22 cv_7_78 rfl rfl ob_1 rfl (by decide) (Nat.le_of_ble_eq_true rfl) (fun r_22 m_22 hr_22 ho_22 => ?_)
    refine go_if_eq (tgt := 32) dX7_wantSide_25 (by decide) ⟨by omega, by omega⟩ (fun h_25 => ?_) (fun h_25 => ?_)
    · refine go_iconst dX7_wantSide_32 ?_
      refine go_ret (v := 0) rfl dX7_wantSide_33 (okZ (by first | exact Or.inl rfl | exact Or.inr rfl | assumption | omega)) ?_
      first | (exfalso; omega) | exact Or.inl ⟨by omega, rfl, nxt_adv m⟩ | exact Or.inr ⟨by omega, rfl, by rw [hr_22.2]; exact (nxt_adv m).flt⟩
    · refine go_iconst dX7_wantSide_28 ?_
      refine go_goto (tgt := 33) dX7_wantSide_29 (by decide) ?_
      refine go_ret (v := 1) rfl dX7_wantSide_33 (okZ (by first | exact Or.inl rfl | exact Or.inr rfl | assumption | omega)) ?_
      first | (exfalso; omega) | exact Or.inl ⟨by omega, rfl, nxt_adv m⟩ | exact Or.inr ⟨by omega, rfl, by rw [hr_22.2]; exact (nxt_adv m).flt⟩
theorem dX7_wantNumeral_0 : decode mX7_wantNumeral.2.1 0 = .ok (.aload_n 0, 1) := by decide +kernel
theorem dX7_wantNumeral_1 : decode mX7_wantNumeral.2.1 1 = .ok (.iconst 2, 1) := by decide +kernel
theorem dX7_wantNumeral_2 : decode mX7_wantNumeral.2.1 2 = .ok (.invokevirtual 82, 3) := by decide +kernel
theorem dX7_wantNumeral_5 : decode mX7_wantNumeral.2.1 5 = .ok (.ifCond .ne 5, 3) := by decide +kernel
theorem dX7_wantNumeral_8 : decode mX7_wantNumeral.2.1 8 = .ok (.iconst 0, 1) := by decide +kernel
theorem dX7_wantNumeral_9 : decode mX7_wantNumeral.2.1 9 = .ok (.ireturn, 1) := by decide +kernel
theorem dX7_wantNumeral_10 : decode mX7_wantNumeral.2.1 10 = .ok (.aload_n 0, 1) := by decide +kernel
theorem dX7_wantNumeral_11 : decode mX7_wantNumeral.2.1 11 = .ok (.getfield 25, 3) := by decide +kernel
theorem dX7_wantNumeral_14 : decode mX7_wantNumeral.2.1 14 = .ok (.iload_n 1, 1) := by decide +kernel
theorem dX7_wantNumeral_15 : decode mX7_wantNumeral.2.1 15 = .ok (.iload_n 2, 1) := by decide +kernel
theorem dX7_wantNumeral_16 : decode mX7_wantNumeral.2.1 16 = .ok (.invokestatic 85, 3) := by decide +kernel
theorem dX7_wantNumeral_19 : decode mX7_wantNumeral.2.1 19 = .ok (.ifCond .ne 11, 3) := by decide +kernel
theorem dX7_wantNumeral_22 : decode mX7_wantNumeral.2.1 22 = .ok (.aload_n 0, 1) := by decide +kernel
theorem dX7_wantNumeral_23 : decode mX7_wantNumeral.2.1 23 = .ok (.iconst 2, 1) := by decide +kernel
theorem dX7_wantNumeral_24 : decode mX7_wantNumeral.2.1 24 = .ok (.invokevirtual 78, 3) := by decide +kernel
theorem dX7_wantNumeral_27 : decode mX7_wantNumeral.2.1 27 = .ok (.ifCond .eq 7, 3) := by decide +kernel
theorem dX7_wantNumeral_30 : decode mX7_wantNumeral.2.1 30 = .ok (.iconst 1, 1) := by decide +kernel
theorem dX7_wantNumeral_31 : decode mX7_wantNumeral.2.1 31 = .ok (.goto 4, 3) := by decide +kernel
theorem dX7_wantNumeral_34 : decode mX7_wantNumeral.2.1 34 = .ok (.iconst 0, 1) := by decide +kernel
theorem dX7_wantNumeral_35 : decode mX7_wantNumeral.2.1 35 = .ok (.ireturn, 1) := by decide +kernel
set_option maxRecDepth 4000 in
theorem ev_X7_wantNumeral {m : Mem} {lo : Int} {hi : Int} (hrd : 0 ≤ m 1 12 ∧ m 1 12 < m 1 11 ∧ m 1 11 ≤ 901) (h1 : InR lo) (h2 : InR hi) : Ev 0 3 mX7_wantNumeral [vr 1, vi lo, vi hi] m (fun r m' => (numF (m 4) (vN m) (m 1 12) lo hi = 0 ∧ r = 1 ∧ Adv m m' (m 1 6)) ∨ (numF (m 4) (vN m) (m 1 12) lo hi ≠ 0 ∧ r = 0 ∧ Adv m m' (numF (m 4) (vN m) (m 1 12) lo hi))) := by
  refine Ev.of (L := [vr 1, vi lo, vi hi]) (by decide +kernel) rfl (Nat.le_of_ble_eq_true rfl) rfl (fun t ht => by cases ht; first | exact Or.inl rfl | exact Or.inr (Or.inl rfl) | exact Or.inr (Or.inr rfl)) (fun hcan => ?_)
  have hwR := w32_R (m 6 (m 1 12))
  refine go_aload_n dX7_wantNumeral_0 rfl ?_
  refine go_iconst dX7_wantNumeral_1 ?_
  refine go_callV_z (as := [vi 2]) (S := []) (b := 1) (ev_X7_wantKind (m := m) (k := 2) (by first | assumption | omega | exact ⟨by omega, by omega⟩ | (constructor <;> omega)) (by first | assumption | omega | exact ⟨by omega, by omega⟩ | (constructor <;> omega))) rfl dX7_wantNumeral_2 cv_7_82 rfl rfl ob_1 rfl (by decide) (Nat.le_of_ble_eq_true rfl) (fun r_2 m_2 hr_2 ho_2 => ?_)
  have hn4 : m_2 1 4 = w32 (m 6 (m 1 12)) := by
    rcases hr_2 with ⟨_, _, h⟩ | ⟨_, _, h⟩
    · have := h.1.2.2.2.2.1; rw [show m 1 12 + 1 - 1 = m 1 12 by omega] at this; exact this
    · have := h.1.2.2.2.2.1; rw [show m 1 12 + 1 - 1 = m 1 12 by omega] at this; exact this
  refine go_if_ne (tgt := 10) dX7_wantNumeral_5 (by decide) ⟨by omega, by omega⟩ (fun h_5 => ?_) (fun h_5 => ?_)
  · refine go_aload_n dX7_wantNumeral_10 rfl ?_
    refine go_getf_i (ki := 4) dX7_wantNumeral_11 fl_7_25 ob_1 rfl rfl (fun hf_11 => ?_)
    rw [show (m_2 1 4 : Int) = (w32 (m 6 (m 1 12))) from hn4] at hf_11 ⊢
    refine go_iload_n dX7_wantNumeral_14 rfl ?_
    refine go_iload_n dX7_wantNumeral_15 rfl ?_
    refine go_callSp_z (as := [vi (w32 (m 6 (m 1 12))), vi lo, vi hi]) (S := []) (ev_X11_isIn (m := m_2) (n := (w32 (m 6 (m 1 12)))) (lo := lo) (hi := hi) (by first | assumption | omega | exact ⟨by omega, by omega⟩ | (constructor <;> omega)) (by first | assumption | omega | exact ⟨by omega, by omega⟩ | (constructor <;> omega)) (by first | assumption | omega | exact ⟨by omega, by omega⟩ | (constructor <;> omega))) rfl dX7_wantNumeral_16 cs_7_85 rfl rfl (by decide) (Nat.le_of_ble_eq_true rfl) (fun r_16 hr_16 ho_16 => ?_)
    refine go_if_ne (tgt := 30) dX7_wantNumeral_19 (by decide) ⟨by omega, by omega⟩ (fun h_19 => ?_) (fun h_19 => ?_)
    · refine go_iconst dX7_wantNumeral_30 ?_
      refine go_goto (tgt := 35) dX7_wantNumeral_31 (by decide) ?_
      refine go_ret (v := 1) rfl dX7_wantNumeral_35 (okZ (by first | exact Or.inl rfl | exact Or.inr rfl | assumption | omega)) ?_
      rcases hr_2 with ⟨z1, z2, z3⟩ | ⟨z1, z2, z3⟩
      · first
        | (exfalso; omega)
        | (have e : numF (m 4) (vN m) (m 1 12) lo hi = 0 := (by unfold numF vN; rw [if_pos z1, if_pos (by omega)])
           exact Or.inl ⟨e, rfl, z3⟩)
        | (have e : numF (m 4) (vN m) (m 1 12) lo hi = 2 := (by unfold numF vN; rw [if_pos z1, if_neg (by omega)])
           rw [e]
           exact Or.inr ⟨by omega, rfl, by rw [hr_24.2]; exact z3.flt⟩)
      · exfalso; omega
    · refine go_aload_n dX7_wantNumeral_22 rfl ?_
      refine go_iconst dX7_wantNumeral_23 ?_
      refine go_callV_z (as := [vi 2]) (S := []) (b := 1) (ev_X7_refuse (m := m_2) (k := 2) (by first | assumption | omega | exact ⟨by omega, by omega⟩ | (constructor <;> omega))) rfl dX7_wantNumeral_24 cv_7_78 rfl rfl ob_1 rfl (by decide) (Nat.le_of_ble_eq_true rfl) (fun r_24 m_24 hr_24 ho_24 => ?_)
      refine go_if_eq (tgt := 34) dX7_wantNumeral_27 (by decide) ⟨by omega, by omega⟩ (fun h_27 => ?_) (fun h_27 => ?_)
      · refine go_iconst dX7_wantNumeral_34 ?_
        refine go_ret (v := 0) rfl dX7_wantNumeral_35 (okZ (by first | exact Or.inl rfl | exact Or.inr rfl | assumption | omega)) ?_
        rcases hr_2 with ⟨z1, z2, z3⟩ | ⟨z1, z2, z3⟩
        · first
          | (exfalso; omega)
          | (have e : numF (m 4) (vN m) (m 1 12) lo hi = 0 := (by unfold numF vN; rw [if_pos z1, if_pos (by omega)])
             exact Or.inl ⟨e, rfl, z3⟩)
          | (have e : numF (m 4) (vN m) (m 1 12) lo hi = 2 := (by unfold numF vN; rw [if_pos z1, if_neg (by omega)])
             rw [e]
             exact Or.inr ⟨by omega, rfl, by rw [hr_24.2]; exact z3.flt⟩)
        · exfalso; omega
      · refine go_iconst dX7_wantNumeral_30 ?_
        refine go_goto (tgt := 35) dX7_wantNumeral_31 (by decide) ?_
        refine go_ret (v := 1) rfl dX7_wantNumeral_35 (okZ (by first | exact Or.inl rfl | exact Or.inr rfl | assumption | omega)) ?_
        rcases hr_2 with ⟨z1, z2, z3⟩ | ⟨z1, z2, z3⟩
        · first
          | (exfalso; omega)
          | (have e : numF (m 4) (vN m) (m 1 12) lo hi = 0 := (by unfold numF vN; rw [if_pos z1, if_pos (by omega)])
             exact Or.inl ⟨e, rfl, z3⟩)
          | (have e : numF (m 4) (vN m) (m 1 12) lo hi = 2 := (by unfold numF vN; rw [if_pos z1, if_neg (by omega)])
             rw [e]
             exact Or.inr ⟨by omega, rfl, by rw [hr_24.2]; exact z3.flt⟩)
        · exfalso; omega
  · refine go_iconst dX7_wantNumeral_8 ?_
    refine go_ret (v := 0) rfl dX7_wantNumeral_9 (okZ (by first | exact Or.inl rfl | exact Or.inr rfl | assumption | omega)) ?_
    rcases hr_2 with ⟨z1, z2, z3⟩ | ⟨z1, z2, z3⟩
    · omega
    · have e : numF (m 4) (vN m) (m 1 12) lo hi = 1 := by unfold numF; rw [if_neg z1]
      rw [e]
      exact Or.inr ⟨by omega, rfl, z3⟩
