/-- what a search changes -/
def FrS (m m' : Mem) : Prop := (∀ b : Nat, (b < 81 ∨ 89 ≤ b ∨ b = 83) → m' b = m b) ∧ ∀ j : Int, j ≠ 8 → m' 81 j = m 81 j
theorem FrS.rf {m : Mem} : FrS m m := ⟨fun _ _ => rfl, fun _ _ => rfl⟩
theorem FrS.tr {m n o : Mem} (h : FrS m n) (h' : FrS n o) : FrS m o := ⟨fun b hb => (h'.1 b hb).trans (h.1 b hb), fun j hj => (h'.2 j hj).trans (h.2 j hj)⟩
theorem FrS.w {m n : Mem} {a : Nat} {j x : Int} (h : FrS m n) (h0 : 81 < a) (h1 : a < 89) (h2 : a ≠ 83) : FrS m (wr n a j x) := ⟨fun b hb => by rw [wr_row (by omega)]; exact h.1 b hb, fun i hi => by rw [wr_na (by omega)]; exact h.2 i hi⟩
theorem FrS.q {m n : Mem} {x : Int} (h : FrS m n) : FrS m (wr n 81 8 x) := ⟨fun b hb => by rw [wr_row (by omega)]; exact h.1 b hb, fun i hi => by rw [wr_ni hi]; exact h.2 i hi⟩
theorem FrS.dn {m m' : Mem} (h : FrS m m') (hd : DnOk m 8) : DnOk m' 8 := hd.congr (fun k hk => h.1 _ (by omega))
theorem FrS.st {m m' : Mem} {B : Int} (h : FrS m m') (hd : StOk m 8 18 B) : StOk m' 8 18 B := by
  unfold StOk at hd ⊢
  rw [h.1 8 (by omega), h.1 (8 + 5) (by omega), h.1 18 (by omega), h.1 (18 + 1) (by omega), h.1 (18 + 2) (by omega), h.1 (18 + 3) (by omega), h.1 (18 + 4) (by omega), h.1 (18 + 5) (by omega), h.1 (18 + 6) (by omega), h.1 (18 + 7) (by omega)]
  exact hd
def shutN (m : Mem) (p a : Int) (n c : Int) : Int := if 0 < m 19 c ∨ fnd (fun o => decide (o ≠ p ∧ o ≠ a ∧ 9 * m 21 o + m 20 o = c)) n ≠ -1 then 1 else 0
theorem fndN_or {P : Int → Bool} {n : Int} (h : 0 ≤ n) : fnd P (n + 1) ≠ -1 ↔ (fnd P n ≠ -1 ∨ P n = true) := by
  constructor
  · intro h1
    rcases fnd_cases P (n + 1) with ⟨q, -⟩ | ⟨q1, q2, q3, -⟩
    · exact absurd q h1
    · by_cases e : fnd P (n + 1) = n
      · right; rw [e] at q3; exact q3
      · left
        intro h2
        rcases fnd_cases P n with ⟨-, r⟩ | ⟨r, -⟩
        · rw [r _ q1 (by omega)] at q3; exact absurd q3 (by decide)
        · omega
  · intro h1 h2
    rcases fnd_cases P (n + 1) with ⟨-, r⟩ | ⟨r, -⟩
    · rcases h1 with h1 | h1
      · rcases fnd_cases P n with ⟨q, -⟩ | ⟨q1, q2, q3, -⟩
        · exact h1 q
        · rw [r _ q1 (by omega)] at q3; exact absurd q3 (by decide)
      · rw [r n h (by omega)] at h1; exact absurd h1 (by decide)
    · omega
theorem shutN_s {m : Mem} {p a n c : Int} (h : 0 ≤ n) : shutN m p a (n + 1) c = if (n ≠ p ∧ n ≠ a ∧ 9 * m 21 n + m 20 n = c) then 1 else shutN m p a n c := by
  unfold shutN
  by_cases e : n ≠ p ∧ n ≠ a ∧ 9 * m 21 n + m 20 n = c
  · rw [if_pos (Or.inr ((fndN_or h).mpr (Or.inr (decide_eq_true e)))), if_pos e]
  · rw [if_neg e]
    by_cases z : 0 < m 19 c ∨ fnd (fun o => decide (o ≠ p ∧ o ≠ a ∧ 9 * m 21 o + m 20 o = c)) n ≠ -1
    · rw [if_pos z, if_pos]
      rcases z with z | z
      · exact Or.inl z
      · exact Or.inr ((fndN_or h).mpr (Or.inl z))
    · rw [if_neg z, if_neg]
      intro q
      rcases q with q | q
      · exact z (Or.inl q)
      · rcases (fndN_or h).mp q with q | q
        · exact z (Or.inr q)
        · exact e (of_decide_eq_true q)
theorem shut_free {m : Mem} {p a B : Int} (hdn : DnOk m 8) (hst : StOk m 8 18 B) {x y : Int} (hi : insC m 8 x y) : shutN m p a (m 8 3) (9 * y + x) = 0 ↔ freeB m 8 18 p a x y = true := by
  have hw := hdn.1
  have e : fnd (fun o => decide (o ≠ p ∧ o ≠ a ∧ 9 * m 21 o + m 20 o = 9 * y + x)) (m 8 3) = fnd (fun o => decide (o ≠ p ∧ o ≠ a ∧ m (18 + 2) o = x ∧ m (18 + 3) o = y)) (m 8 3) := fnd_congr (fun o o0 o1 => by
    have ho := hst.2.2.2.1 o o0 o1
    have : 9 * m 21 o + m 20 o = 9 * y + x ↔ (m (18 + 2) o = x ∧ m (18 + 3) o = y) := by
      have h2 : 0 ≤ m 20 o ∧ m 20 o < m 8 0 := ⟨ho.1, ho.2.1⟩
      show 9 * m 21 o + m 20 o = 9 * y + x ↔ (m 20 o = x ∧ m 21 o = y)
      omega
    simp only [this])
  unfold shutN freeB
  rw [e, decide_eq_true_eq]
  constructor
  · intro h
    refine ⟨hi, fun h1 => ?_, ?_⟩
    · rw [if_pos (Or.inl h1)] at h; omega
    · by_cases z : fnd (fun o => decide (o ≠ p ∧ o ≠ a ∧ m (18 + 2) o = x ∧ m (18 + 3) o = y)) (m 8 3) = -1
      · exact z
      · rw [if_pos (Or.inr z)] at h; omega
  · rintro ⟨-, h1, h2⟩
    rw [if_neg]
    intro h
    rcases h with h | h
    · exact h1 h
    · exact h h2
def ShOk (m m' : Mem) (p a : Int) : Prop := ∀ c : Int, 0 ≤ c → c < 81 → m' 84 c = shutN m p a (m 8 3) c
abbrev FB (m : Mem) (p a : Int) : Int → Int → Bool := freeB m 8 18 p a
def RnOk (m m' : Mem) (F : Int → Int → Bool) : Prop := ∀ x y s : Int, 0 ≤ x → x < m 8 0 → 0 ≤ y → y < m 8 1 → 0 ≤ s → s < 4 → m' 85 (4 * (9 * y + x) + s) = runN F x y (dx s) (dy s)
abbrev nx8 (m : Mem) (p a : Int) : Int → Int → Int := nxF m 8 (freeB m 8 18 p a)
abbrev BIm (m m1 : Mem) (F : Int → Int → Bool) (s0 h hc : Int) : Prop := BI (nxF m 8 F) (4 * m 8 2) s0 (m1 88) (m1 82) (m1 86) (m1 87) (m1 81 8) h hc
theorem clr_s {F : Int → Int → Bool} {x y u w k : Int} (h : 1 ≤ k) : clr F x y u w k.toNat = (clr F x y u w (k - 1).toNat && F (x + k * u) (y + k * w)) := by
  obtain ⟨n, rfl⟩ : ∃ n : Nat, k = (n : Int) + 1 := ⟨(k - 1).toNat, by omega⟩
  rw [show ((n : Int) + 1).toNat = n + 1 by omega, show ((n : Int) + 1 - 1).toNat = n by omega]
  rfl
theorem runN_eq {F : Int → Int → Bool} {x y u w k : Int} (h0 : 0 ≤ k) (h5 : k ≤ 5) (h1 : clr F x y u w k.toNat = true) (h2 : k = 5 ∨ clr F x y u w (k + 1).toNat = false) : k = runN F x y u w := by
  have a := (runN_le (F := F) (x := x) (y := y) (u := u) (w := w) h0 h5).mpr h1
  have b := runN_b F x y u w
  rcases h2 with h2 | h2
  · omega
  · by_cases e : k = 5
    · omega
    · have := runN_le (F := F) (x := x) (y := y) (u := u) (w := w) (k := k + 1) (by omega) (by omega)
      rw [h2] at this
      have : ¬ k + 1 ≤ runN F x y u w := fun h => absurd (this.mp h) (by decide)
      omega

theorem dX4_shutCells_0 : decode mX4_shutCells.2.1 0 = .ok (.iconst 0, 1) := by decide +kernel
theorem dX4_shutCells_1 : decode mX4_shutCells.2.1 1 = .ok (.istore 4, 2) := by decide +kernel
theorem dX4_shutCells_3 : decode mX4_shutCells.2.1 3 = .ok (.iload 4, 2) := by decide +kernel
theorem dX4_shutCells_5 : decode mX4_shutCells.2.1 5 = .ok (.bipush 81, 2) := by decide +kernel
theorem dX4_shutCells_7 : decode mX4_shutCells.2.1 7 = .ok (.if_icmp .ge 34, 3) := by decide +kernel
theorem dX4_shutCells_10 : decode mX4_shutCells.2.1 10 = .ok (.aload_n 0, 1) := by decide +kernel
theorem dX4_shutCells_11 : decode mX4_shutCells.2.1 11 = .ok (.getfield 22, 3) := by decide +kernel
theorem dX4_shutCells_14 : decode mX4_shutCells.2.1 14 = .ok (.iload 4, 2) := by decide +kernel
theorem dX4_shutCells_16 : decode mX4_shutCells.2.1 16 = .ok (.aload_n 1, 1) := by decide +kernel
theorem dX4_shutCells_17 : decode mX4_shutCells.2.1 17 = .ok (.getfield 61, 3) := by decide +kernel
theorem dX4_shutCells_20 : decode mX4_shutCells.2.1 20 = .ok (.getfield 84, 3) := by decide +kernel
theorem dX4_shutCells_23 : decode mX4_shutCells.2.1 23 = .ok (.iload 4, 2) := by decide +kernel
theorem dX4_shutCells_25 : decode mX4_shutCells.2.1 25 = .ok (.iaload, 1) := by decide +kernel
theorem dX4_shutCells_26 : decode mX4_shutCells.2.1 26 = .ok (.ifCond .le 7, 3) := by decide +kernel
theorem dX4_shutCells_29 : decode mX4_shutCells.2.1 29 = .ok (.iconst 1, 1) := by decide +kernel
theorem dX4_shutCells_30 : decode mX4_shutCells.2.1 30 = .ok (.goto 4, 3) := by decide +kernel
theorem dX4_shutCells_33 : decode mX4_shutCells.2.1 33 = .ok (.iconst 0, 1) := by decide +kernel
theorem dX4_shutCells_34 : decode mX4_shutCells.2.1 34 = .ok (.bastore, 1) := by decide +kernel
theorem dX4_shutCells_35 : decode mX4_shutCells.2.1 35 = .ok (.iinc 4 1, 3) := by decide +kernel
theorem dX4_shutCells_38 : decode mX4_shutCells.2.1 38 = .ok (.goto (-35), 3) := by decide +kernel
theorem dX4_shutCells_41 : decode mX4_shutCells.2.1 41 = .ok (.iconst 0, 1) := by decide +kernel
theorem dX4_shutCells_42 : decode mX4_shutCells.2.1 42 = .ok (.istore 4, 2) := by decide +kernel
theorem dX4_shutCells_44 : decode mX4_shutCells.2.1 44 = .ok (.iload 4, 2) := by decide +kernel
theorem dX4_shutCells_46 : decode mX4_shutCells.2.1 46 = .ok (.aload_n 1, 1) := by decide +kernel
theorem dX4_shutCells_47 : decode mX4_shutCells.2.1 47 = .ok (.getfield 45, 3) := by decide +kernel
theorem dX4_shutCells_50 : decode mX4_shutCells.2.1 50 = .ok (.getfield 87, 3) := by decide +kernel
theorem dX4_shutCells_53 : decode mX4_shutCells.2.1 53 = .ok (.if_icmp .ge 50, 3) := by decide +kernel
theorem dX4_shutCells_56 : decode mX4_shutCells.2.1 56 = .ok (.iload 4, 2) := by decide +kernel
theorem dX4_shutCells_58 : decode mX4_shutCells.2.1 58 = .ok (.iload_n 2, 1) := by decide +kernel
theorem dX4_shutCells_59 : decode mX4_shutCells.2.1 59 = .ok (.if_icmp .eq 38, 3) := by decide +kernel
theorem dX4_shutCells_62 : decode mX4_shutCells.2.1 62 = .ok (.iload 4, 2) := by decide +kernel
theorem dX4_shutCells_64 : decode mX4_shutCells.2.1 64 = .ok (.iload_n 3, 1) := by decide +kernel
theorem dX4_shutCells_65 : decode mX4_shutCells.2.1 65 = .ok (.if_icmp .eq 32, 3) := by decide +kernel
theorem dX4_shutCells_68 : decode mX4_shutCells.2.1 68 = .ok (.aload_n 0, 1) := by decide +kernel
theorem dX4_shutCells_69 : decode mX4_shutCells.2.1 69 = .ok (.getfield 22, 3) := by decide +kernel
theorem dX4_shutCells_72 : decode mX4_shutCells.2.1 72 = .ok (.aload_n 1, 1) := by decide +kernel
theorem dX4_shutCells_73 : decode mX4_shutCells.2.1 73 = .ok (.getfield 61, 3) := by decide +kernel
theorem dX4_shutCells_76 : decode mX4_shutCells.2.1 76 = .ok (.getfield 65, 3) := by decide +kernel
theorem dX4_shutCells_79 : decode mX4_shutCells.2.1 79 = .ok (.iload 4, 2) := by decide +kernel
theorem dX4_shutCells_81 : decode mX4_shutCells.2.1 81 = .ok (.iaload, 1) := by decide +kernel
theorem dX4_shutCells_82 : decode mX4_shutCells.2.1 82 = .ok (.aload_n 1, 1) := by decide +kernel
theorem dX4_shutCells_83 : decode mX4_shutCells.2.1 83 = .ok (.getfield 61, 3) := by decide +kernel
theorem dX4_shutCells_86 : decode mX4_shutCells.2.1 86 = .ok (.getfield 70, 3) := by decide +kernel
theorem dX4_shutCells_89 : decode mX4_shutCells.2.1 89 = .ok (.iload 4, 2) := by decide +kernel
theorem dX4_shutCells_91 : decode mX4_shutCells.2.1 91 = .ok (.iaload, 1) := by decide +kernel
theorem dX4_shutCells_92 : decode mX4_shutCells.2.1 92 = .ok (.invokestatic 73, 3) := by decide +kernel
theorem dX4_shutCells_95 : decode mX4_shutCells.2.1 95 = .ok (.iconst 1, 1) := by decide +kernel
theorem dX4_shutCells_96 : decode mX4_shutCells.2.1 96 = .ok (.bastore, 1) := by decide +kernel
theorem dX4_shutCells_97 : decode mX4_shutCells.2.1 97 = .ok (.iinc 4 1, 3) := by decide +kernel
theorem dX4_shutCells_100 : decode mX4_shutCells.2.1 100 = .ok (.goto (-56), 3) := by decide +kernel
theorem dX4_shutCells_103 : decode mX4_shutCells.2.1 103 = .ok (.return_, 1) := by decide +kernel
set_option maxRecDepth 4000 in
theorem ev_X4_shutCells {m : Mem} {p : Int} {a : Int} {B : Int} (hdn : DnOk m 8) (hst : StOk m 8 18 B) (hp : InR p) (ha : InR a) : Ev 0 2 mX4_shutCells [vr 81, vr 7, vi p, vi a] m (fun r m' => ShOk m m' p a ∧ FrS m m') := by
  refine Ev.of (L := [vr 81, vr 7, vi p, vi a, un]) (by decide +kernel) rfl (Nat.le_of_ble_eq_true rfl) rfl (fun t ht => by cases ht) (fun hcan => ?_)
  obtain ⟨⟨hd0, hd1⟩, ⟨hd2, hd3⟩, ⟨hd4, hd5⟩, ⟨hd6, hd7⟩, ⟨hd8, hd9⟩, hdf, hdp, hdq⟩ := id hdn
  obtain ⟨⟨hs0, hs1⟩, ⟨hs2, hs3⟩, hsw, hsp, hsd, hsz⟩ := id hst
  refine go_iconst dX4_shutCells_0 ?_
  refine go_istore (L' := [vr 81, vr 7, vi p, vi a, vi 0]) dX4_shutCells_1 (by decide) rfl rfl ?_
  have lp_3 : ∀ (n_3 : Nat) (m1 : Mem) (c : Int) , (0 ≤ c) → (c ≤ 81) → (FrS m m1) → (∀ j : Int, 0 ≤ j → j < c → m1 84 j = if 0 < m 19 j then 1 else 0) → (81 - c).toNat < n_3 → Go 0 2 mX4_shutCells (fun r m' => ShOk m m' p a ∧ FrS m m') 3 [vr 81, vr 7, vi p, vi a, vi c] [] m1 := by
    intro n_3
    induction n_3 with
    | zero => intro m1 c hc0 hc1 hfr hsh hmu; exact absurd hmu (Nat.not_lt_zero _)
    | succ n_3 ih_3 =>
      intro m1 c hc0 hc1 hfr hsh hmu
      refine go_iload dX4_shutCells_3 rfl ?_
      refine go_bipush dX4_shutCells_5 (by decide) ?_
      refine go_icmp_ge (tgt := 41) dX4_shutCells_7 (by decide) ⟨by omega, by omega⟩ ⟨by omega, by omega⟩ (fun h_7 => ?_) (fun h_7 => ?_)
      · refine go_iconst dX4_shutCells_41 ?_
        refine go_istore (L' := [vr 81, vr 7, vi p, vi a, vi 0]) dX4_shutCells_42 (by decide) rfl rfl ?_
        have lp_44 : ∀ (n_44 : Nat) (m2 : Mem) (o : Int) , (0 ≤ o) → (o ≤ m 8 3) → (FrS m m2) → (∀ j : Int, 0 ≤ j → j < 81 → m2 84 j = shutN m p a o j) → (m 8 3 - o).toNat < n_44 → Go 0 2 mX4_shutCells (fun r m' => ShOk m m' p a ∧ FrS m m') 44 [vr 81, vr 7, vi p, vi a, vi o] [] m2 := by
          intro n_44
          induction n_44 with
          | zero => intro m2 o ho0 ho1 hfr2 hsh2 hmu; exact absurd hmu (Nat.not_lt_zero _)
          | succ n_44 ih_44 =>
            intro m2 o ho0 ho1 hfr2 hsh2 hmu
            have hpp := fun h => hsp o ho0 h
            have hpp : o < m 8 3 → 0 ≤ m 20 o ∧ m 20 o < m 8 0 ∧ 0 ≤ m 21 o ∧ m 21 o < m 8 1 := fun h => ⟨(hpp h).1, (hpp h).2.1, (hpp h).2.2.1, (hpp h).2.2.2.1⟩
            refine go_iload dX4_shutCells_44 rfl ?_
            refine go_aload_n dX4_shutCells_46 rfl ?_
            refine go_getf_p (b := 8) dX4_shutCells_47 fl_4_45 ob_7 rfl pt_7_0 ?_
            refine go_getf_i (ki := 3) dX4_shutCells_50 fl_4_87 ob_8 rfl rfl (fun hf_50 => ?_)
            rw [show (m2 8 3 : Int) = (m 8 3) from by rw [hfr2.1 8 (by omega)]] at hf_50 ⊢
            refine go_icmp_ge (tgt := 103) dX4_shutCells_53 (by decide) ⟨by omega, by omega⟩ ⟨by omega, by omega⟩ (fun h_53 => ?_) (fun h_53 => ?_)
            · exact go_ret (v := 0) rfl dX4_shutCells_103 rfl ⟨fun c a b => by rw [hsh2 c a b, show o = m 8 3 by omega], hfr2⟩
            · refine go_iload dX4_shutCells_56 rfl ?_
              refine go_iload_n dX4_shutCells_58 rfl ?_
              refine go_icmp_eq (tgt := 97) dX4_shutCells_59 (by decide) ⟨by omega, by omega⟩ ⟨by omega, by omega⟩ (fun h_59 => ?_) (fun h_59 => ?_)
              · refine go_iinc (L' := [vr 81, vr 7, vi p, vi a, vi (o + 1)]) dX4_shutCells_97 rfl (by decide) rfl rfl ?_
                refine go_goto (tgt := 44) dX4_shutCells_100 (by decide) ?_
                exact ih_44 m2 (o + 1) (by first | assumption | omega | rfl) (by first | assumption | omega | rfl) (by first | exact hfr2 | exact hfr2.w (by decide) (by decide) (by decide)) (fun j a b => by
                      rw [shutN_s ho0]
                      first
                      | (rw [if_neg (by omega)]; exact hsh2 j a b)
                      | (rw [hr_92]
                         by_cases e : j = 9 * m 21 o + m 20 o
                         · rw [if_pos (by omega), e, wr_self]
                         · rw [if_neg (by omega), wr_ni e]; exact hsh2 j a b)) (by omega)
              · refine go_iload dX4_shutCells_62 rfl ?_
                refine go_iload_n dX4_shutCells_64 rfl ?_
                refine go_icmp_eq (tgt := 97) dX4_shutCells_65 (by decide) ⟨by omega, by omega⟩ ⟨by omega, by omega⟩ (fun h_65 => ?_) (fun h_65 => ?_)
                · refine go_iinc (L' := [vr 81, vr 7, vi p, vi a, vi (o + 1)]) dX4_shutCells_97 rfl (by decide) rfl rfl ?_
                  refine go_goto (tgt := 44) dX4_shutCells_100 (by decide) ?_
                  exact ih_44 m2 (o + 1) (by first | assumption | omega | rfl) (by first | assumption | omega | rfl) (by first | exact hfr2 | exact hfr2.w (by decide) (by decide) (by decide)) (fun j a b => by
                        rw [shutN_s ho0]
                        first
                        | (rw [if_neg (by omega)]; exact hsh2 j a b)
                        | (rw [hr_92]
                           by_cases e : j = 9 * m 21 o + m 20 o
                           · rw [if_pos (by omega), e, wr_self]
                           · rw [if_neg (by omega), wr_ni e]; exact hsh2 j a b)) (by omega)
                · refine go_aload_n dX4_shutCells_68 rfl ?_
                  refine go_getf_p (b := 84) dX4_shutCells_69 fl_4_22 ob_81 rfl pt_81_3 ?_
                  have hpp := hpp h_53
                  refine go_aload_n dX4_shutCells_72 rfl ?_
                  refine go_getf_p (b := 18) dX4_shutCells_73 fl_4_61 ob_7 rfl pt_7_1 ?_
                  refine go_getf_p (b := 20) dX4_shutCells_76 fl_4_65 ob_18 rfl pt_18_3 ?_
                  refine go_iload dX4_shutCells_79 rfl ?_
                  refine go_iaload dX4_shutCells_81 ar_20 (by omega) (by omega) (fun he_81 => ?_)
                  rw [show (m2 20 o : Int) = (m 20 o) from by rw [hfr2.1 20 (by omega)]] at he_81 ⊢
                  refine go_aload_n dX4_shutCells_82 rfl ?_
                  refine go_getf_p (b := 18) dX4_shutCells_83 fl_4_61 ob_7 rfl pt_7_1 ?_
                  refine go_getf_p (b := 21) dX4_shutCells_86 fl_4_70 ob_18 rfl pt_18_4 ?_
                  refine go_iload dX4_shutCells_89 rfl ?_
                  refine go_iaload dX4_shutCells_91 ar_21 (by omega) (by omega) (fun he_91 => ?_)
                  rw [show (m2 21 o : Int) = (m 21 o) from by rw [hfr2.1 21 (by omega)]] at he_91 ⊢
                  refine go_callSp_i (as := [vi (m 20 o), vi (m 21 o)]) (S := [vr 84]) (ev_X11_cellOf (m := m2) (x := (m 20 o)) (y := (m 21 o)) (by first | assumption | omega | exact ⟨by omega, by omega⟩ | (constructor <;> omega)) (by first | assumption | omega | exact ⟨by omega, by omega⟩ | (constructor <;> omega))) rfl dX4_shutCells_92 cs_4_73 rfl rfl (by decide) (Nat.le_of_ble_eq_true rfl) (fun r_92 hr_92 ho_92 => ?_)
                  refine go_iconst dX4_shutCells_95 ?_
                  refine go_zastore dX4_shutCells_96 ar_84 (by omega) (by omega) (by first | exact Or.inl rfl | exact Or.inr rfl | assumption | omega) ?_
                  refine go_iinc (L' := [vr 81, vr 7, vi p, vi a, vi (o + 1)]) dX4_shutCells_97 rfl (by decide) rfl rfl ?_
                  refine go_goto (tgt := 44) dX4_shutCells_100 (by decide) ?_
                  exact ih_44 (wr m2 84 r_92 1) (o + 1) (by first | assumption | omega | rfl) (by first | assumption | omega | rfl) (by first | exact hfr2 | exact hfr2.w (by decide) (by decide) (by decide)) (fun j a b => by
                        rw [shutN_s ho0]
                        first
                        | (rw [if_neg (by omega)]; exact hsh2 j a b)
                        | (rw [hr_92]
                           by_cases e : j = 9 * m 21 o + m 20 o
                           · rw [if_pos (by omega), e, wr_self]
                           · rw [if_neg (by omega), wr_ni e]; exact hsh2 j a b)) (by omega)
        exact lp_44 _ m1 0 (by first | assumption | omega | rfl) (by first | assumption | omega | rfl) hfr (fun j a b => by rw [hsh j a (by omega)]; unfold shutN; rw [show fnd (fun o => decide (o ≠ p ∧ o ≠ _ ∧ 9 * m 21 o + m 20 o = j)) 0 = -1 from rfl]; simp) (Nat.lt_succ_self _)
      · refine go_aload_n dX4_shutCells_10 rfl ?_
        refine go_getf_p (b := 84) dX4_shutCells_11 fl_4_22 ob_81 rfl pt_81_3 ?_
        refine go_iload dX4_shutCells_14 rfl ?_
        refine go_aload_n dX4_shutCells_16 rfl ?_
        refine go_getf_p (b := 18) dX4_shutCells_17 fl_4_61 ob_7 rfl pt_7_1 ?_
        refine go_getf_p (b := 19) dX4_shutCells_20 fl_4_84 ob_18 rfl pt_18_2 ?_
        refine go_iload dX4_shutCells_23 rfl ?_
        refine go_iaload dX4_shutCells_25 ar_19 (by omega) (by omega) (fun he_25 => ?_)
        rw [show (m1 19 c : Int) = (m 19 c) from by rw [hfr.1 19 (by omega)]] at he_25 ⊢
        refine go_if_le (tgt := 33) dX4_shutCells_26 (by decide) ⟨by omega, by omega⟩ (fun h_26 => ?_) (fun h_26 => ?_)
        · refine go_iconst dX4_shutCells_33 ?_
          refine go_zastore dX4_shutCells_34 ar_84 (by omega) (by omega) (by first | exact Or.inl rfl | exact Or.inr rfl | assumption | omega) ?_
          refine go_iinc (L' := [vr 81, vr 7, vi p, vi a, vi (c + 1)]) dX4_shutCells_35 rfl (by decide) rfl rfl ?_
          refine go_goto (tgt := 3) dX4_shutCells_38 (by decide) ?_
          exact ih_3 (wr m1 84 c 0) (c + 1) (by first | assumption | omega | rfl) (by first | assumption | omega | rfl) (hfr.w (by decide) (by decide) (by decide)) (fun j a b => by
                by_cases e : j = c
                · rw [e, wr_self]; first | rw [if_pos (by omega)] | rw [if_neg (by omega)]
                · rw [wr_ni e]; exact hsh j a (by omega)) (by omega)
        · refine go_iconst dX4_shutCells_29 ?_
          refine go_goto (tgt := 34) dX4_shutCells_30 (by decide) ?_
          refine go_zastore dX4_shutCells_34 ar_84 (by omega) (by omega) (by first | exact Or.inl rfl | exact Or.inr rfl | assumption | omega) ?_
          refine go_iinc (L' := [vr 81, vr 7, vi p, vi a, vi (c + 1)]) dX4_shutCells_35 rfl (by decide) rfl rfl ?_
          refine go_goto (tgt := 3) dX4_shutCells_38 (by decide) ?_
          exact ih_3 (wr m1 84 c 1) (c + 1) (by first | assumption | omega | rfl) (by first | assumption | omega | rfl) (hfr.w (by decide) (by decide) (by decide)) (fun j a b => by
                by_cases e : j = c
                · rw [e, wr_self]; first | rw [if_pos (by omega)] | rw [if_neg (by omega)]
                · rw [wr_ni e]; exact hsh j a (by omega)) (by omega)
  exact lp_3 _ m 0 (by first | assumption | omega | rfl) (by first | assumption | omega | rfl) FrS.rf (fun j a b => by omega) (Nat.lt_succ_self _)
theorem dX4_runFrom_0 : decode mX4_runFrom.2.1 0 = .ok (.iconst 0, 1) := by decide +kernel
theorem dX4_runFrom_1 : decode mX4_runFrom.2.1 1 = .ok (.istore 5, 2) := by decide +kernel
theorem dX4_runFrom_3 : decode mX4_runFrom.2.1 3 = .ok (.iconst 1, 1) := by decide +kernel
theorem dX4_runFrom_4 : decode mX4_runFrom.2.1 4 = .ok (.istore 6, 2) := by decide +kernel
theorem dX4_runFrom_6 : decode mX4_runFrom.2.1 6 = .ok (.iload 6, 2) := by decide +kernel
theorem dX4_runFrom_8 : decode mX4_runFrom.2.1 8 = .ok (.iconst 5, 1) := by decide +kernel
theorem dX4_runFrom_9 : decode mX4_runFrom.2.1 9 = .ok (.if_icmp .gt 68, 3) := by decide +kernel
theorem dX4_runFrom_12 : decode mX4_runFrom.2.1 12 = .ok (.iload_n 2, 1) := by decide +kernel
theorem dX4_runFrom_13 : decode mX4_runFrom.2.1 13 = .ok (.iload 6, 2) := by decide +kernel
theorem dX4_runFrom_15 : decode mX4_runFrom.2.1 15 = .ok (.getstatic 102, 3) := by decide +kernel
theorem dX4_runFrom_18 : decode mX4_runFrom.2.1 18 = .ok (.iload 4, 2) := by decide +kernel
theorem dX4_runFrom_20 : decode mX4_runFrom.2.1 20 = .ok (.iaload, 1) := by decide +kernel
theorem dX4_runFrom_21 : decode mX4_runFrom.2.1 21 = .ok (.imul, 1) := by decide +kernel
theorem dX4_runFrom_22 : decode mX4_runFrom.2.1 22 = .ok (.iadd, 1) := by decide +kernel
theorem dX4_runFrom_23 : decode mX4_runFrom.2.1 23 = .ok (.istore 7, 2) := by decide +kernel
theorem dX4_runFrom_25 : decode mX4_runFrom.2.1 25 = .ok (.iload_n 3, 1) := by decide +kernel
theorem dX4_runFrom_26 : decode mX4_runFrom.2.1 26 = .ok (.iload 6, 2) := by decide +kernel
theorem dX4_runFrom_28 : decode mX4_runFrom.2.1 28 = .ok (.getstatic 105, 3) := by decide +kernel
theorem dX4_runFrom_31 : decode mX4_runFrom.2.1 31 = .ok (.iload 4, 2) := by decide +kernel
theorem dX4_runFrom_33 : decode mX4_runFrom.2.1 33 = .ok (.iaload, 1) := by decide +kernel
theorem dX4_runFrom_34 : decode mX4_runFrom.2.1 34 = .ok (.imul, 1) := by decide +kernel
theorem dX4_runFrom_35 : decode mX4_runFrom.2.1 35 = .ok (.iadd, 1) := by decide +kernel
theorem dX4_runFrom_36 : decode mX4_runFrom.2.1 36 = .ok (.istore 8, 2) := by decide +kernel
theorem dX4_runFrom_38 : decode mX4_runFrom.2.1 38 = .ok (.aload_n 1, 1) := by decide +kernel
theorem dX4_runFrom_39 : decode mX4_runFrom.2.1 39 = .ok (.iload 7, 2) := by decide +kernel
theorem dX4_runFrom_41 : decode mX4_runFrom.2.1 41 = .ok (.iload 8, 2) := by decide +kernel
theorem dX4_runFrom_43 : decode mX4_runFrom.2.1 43 = .ok (.invokevirtual 108, 3) := by decide +kernel
theorem dX4_runFrom_46 : decode mX4_runFrom.2.1 46 = .ok (.ifCond .eq 18, 3) := by decide +kernel
theorem dX4_runFrom_49 : decode mX4_runFrom.2.1 49 = .ok (.aload_n 0, 1) := by decide +kernel
theorem dX4_runFrom_50 : decode mX4_runFrom.2.1 50 = .ok (.getfield 22, 3) := by decide +kernel
theorem dX4_runFrom_53 : decode mX4_runFrom.2.1 53 = .ok (.iload 7, 2) := by decide +kernel
theorem dX4_runFrom_55 : decode mX4_runFrom.2.1 55 = .ok (.iload 8, 2) := by decide +kernel
theorem dX4_runFrom_57 : decode mX4_runFrom.2.1 57 = .ok (.invokestatic 73, 3) := by decide +kernel
theorem dX4_runFrom_60 : decode mX4_runFrom.2.1 60 = .ok (.baload, 1) := by decide +kernel
theorem dX4_runFrom_61 : decode mX4_runFrom.2.1 61 = .ok (.ifCond .eq 6, 3) := by decide +kernel
theorem dX4_runFrom_64 : decode mX4_runFrom.2.1 64 = .ok (.iload 5, 2) := by decide +kernel
theorem dX4_runFrom_66 : decode mX4_runFrom.2.1 66 = .ok (.ireturn, 1) := by decide +kernel
theorem dX4_runFrom_67 : decode mX4_runFrom.2.1 67 = .ok (.iload 6, 2) := by decide +kernel
theorem dX4_runFrom_69 : decode mX4_runFrom.2.1 69 = .ok (.istore 5, 2) := by decide +kernel
theorem dX4_runFrom_71 : decode mX4_runFrom.2.1 71 = .ok (.iinc 6 1, 3) := by decide +kernel
theorem dX4_runFrom_74 : decode mX4_runFrom.2.1 74 = .ok (.goto (-68), 3) := by decide +kernel
theorem dX4_runFrom_77 : decode mX4_runFrom.2.1 77 = .ok (.iload 5, 2) := by decide +kernel
theorem dX4_runFrom_79 : decode mX4_runFrom.2.1 79 = .ok (.ireturn, 1) := by decide +kernel
set_option maxRecDepth 4000 in
theorem ev_X4_runFrom {m : Mem} {F : Int → Int → Bool} {x : Int} {y : Int} {s : Int} (hdn : DnOk m 8) (hF : ∀ x y : Int, insC m 8 x y → (m 84 (9 * y + x) = 0 ↔ F x y = true)) (hI : ∀ x y : Int, F x y = true → insC m 8 x y) (hx : 0 ≤ x ∧ x < m 8 0) (hy : 0 ≤ y ∧ y < m 8 1) (hs : 0 ≤ s ∧ s < 4) : Ev 0 2 mX4_runFrom [vr 81, vr 8, vi x, vi y, vi s] m (fun r m' => m' = m ∧ (r = runN F x y (dx s) (dy s))) := by
  refine Ev.of (L := [vr 81, vr 8, vi x, vi y, vi s, un, un, un, un]) (by decide +kernel) rfl (Nat.le_of_ble_eq_true rfl) rfl (fun t ht => by cases ht; first | exact Or.inl rfl | exact Or.inr (Or.inl rfl) | exact Or.inr (Or.inr rfl)) (fun hcan => ?_)
  obtain ⟨⟨hd0, hd1⟩, ⟨hd2, hd3⟩, ⟨hd4, hd5⟩, ⟨hd6, hd7⟩, ⟨hd8, hd9⟩, hdf, hdp, hdq⟩ := id hdn
  have hdx := dx_b hs.1 hs.2
  have hdy := dy_b hs.1 hs.2
  refine go_iconst dX4_runFrom_0 ?_
  refine go_istore (L' := [vr 81, vr 8, vi x, vi y, vi s, vi 0, un, un, un]) dX4_runFrom_1 (by decide) rfl rfl ?_
  refine go_iconst dX4_runFrom_3 ?_
  refine go_istore (L' := [vr 81, vr 8, vi x, vi y, vi s, vi 0, vi 1, un, un]) dX4_runFrom_4 (by decide) rfl rfl ?_
  have lp_6 : ∀ (n_6 : Nat) (c : Int) (k : Int) , (1 ≤ k) → (k ≤ 6) → (c = k - 1) → (clr F x y (dx s) (dy s) (k - 1).toNat = true) → (6 - k).toNat < n_6 → Go 0 2 mX4_runFrom (fun r m' => m' = m ∧ (r = runN F x y (dx s) (dy s))) 6 [vr 81, vr 8, vi x, vi y, vi s, vi c, vi k, un, un] [] m := by
    intro n_6
    induction n_6 with
    | zero => intro c k hk0 hk1 hc hcl hmu; exact absurd hmu (Nat.not_lt_zero _)
    | succ n_6 ih_6 =>
      intro c k hk0 hk1 hc hcl hmu
      have hkx := mul_b (k := k) (u := dx s) (by omega) hdx
      have hky := mul_b (k := k) (u := dy s) (by omega) hdy
      have hcs := clr_s (F := F) (x := x) (y := y) (u := dx s) (w := dy s) hk0
      refine go_iload dX4_runFrom_6 rfl ?_
      refine go_iconst dX4_runFrom_8 ?_
      refine go_icmp_gt (tgt := 77) dX4_runFrom_9 (by decide) ⟨by omega, by omega⟩ ⟨by omega, by omega⟩ (fun h_9 => ?_) (fun h_9 => ?_)
      · refine go_iload dX4_runFrom_77 rfl ?_
        exact go_ret (v := c) rfl dX4_runFrom_79 (okI ⟨by omega, by omega⟩) ⟨rfl, (runN_eq (by omega) (by omega) (by rw [hc]; exact hcl) (Or.inl (by omega)))⟩
      · refine go_iload_n dX4_runFrom_12 rfl ?_
        refine go_iload dX4_runFrom_13 rfl ?_
        refine go_stepX dX4_runFrom_15 sl_4_102 ?_
        refine go_iload dX4_runFrom_18 rfl ?_
        refine go_dx dX4_runFrom_20 (by omega) (by omega) ?_
        refine go_imul dX4_runFrom_21 ?_
        refine go_iadd dX4_runFrom_22 ?_
        refine go_istore (L' := [vr 81, vr 8, vi x, vi y, vi s, vi c, vi k, vi (x + (k * (dx s))), un]) dX4_runFrom_23 (by decide) rfl rfl ?_
        refine go_iload_n dX4_runFrom_25 rfl ?_
        refine go_iload dX4_runFrom_26 rfl ?_
        refine go_stepY dX4_runFrom_28 sl_4_105 ?_
        refine go_iload dX4_runFrom_31 rfl ?_
        refine go_dy dX4_runFrom_33 (by omega) (by omega) ?_
        refine go_imul dX4_runFrom_34 ?_
        refine go_iadd dX4_runFrom_35 ?_
        refine go_istore (L' := [vr 81, vr 8, vi x, vi y, vi s, vi c, vi k, vi (x + (k * (dx s))), vi (y + (k * (dy s)))]) dX4_runFrom_36 (by decide) rfl rfl ?_
        refine go_aload_n dX4_runFrom_38 rfl ?_
        refine go_iload dX4_runFrom_39 rfl ?_
        refine go_iload dX4_runFrom_41 rfl ?_
        refine go_callVp_z (as := [vi (x + (k * (dx s))), vi (y + (k * (dy s)))]) (S := []) (b := 8) (ev_X1_isInside (m := m) (d := 8) (x := (x + (k * (dx s)))) (y := (y + (k * (dy s)))) isDn_8 (by first | assumption | omega | exact ⟨by omega, by omega⟩ | (constructor <;> omega)) (by first | assumption | omega | exact ⟨by omega, by omega⟩ | (constructor <;> omega))) rfl dX4_runFrom_43 cv_4_108 rfl rfl ob_8 rfl (by decide) (Nat.le_of_ble_eq_true rfl) (fun r_43 hr_43 ho_43 => ?_)
        refine go_if_eq (tgt := 64) dX4_runFrom_46 (by decide) ⟨by omega, by omega⟩ (fun h_46 => ?_) (fun h_46 => ?_)
        · refine go_iload dX4_runFrom_64 rfl ?_
          exact go_ret (v := c) rfl dX4_runFrom_66 (okI ⟨by omega, by omega⟩) ⟨rfl, (by
                refine runN_eq (by omega) (by omega) (by rw [hc]; exact hcl) (Or.inr ?_)
                rw [hc, show k - 1 + 1 = k by omega, hcs, hcl, Bool.true_and, Bool.eq_false_iff]
                intro hf
                first
                | (have := hI _ _ hf; omega)
                | (have h2 := (hF _ _ (hI _ _ hf)).mpr hf
                   rw [hr_57] at h_61
                   exact h_61 h2))⟩
        · refine go_aload_n dX4_runFrom_49 rfl ?_
          refine go_getf_p (b := 84) dX4_runFrom_50 fl_4_22 ob_81 rfl pt_81_3 ?_
          refine go_iload dX4_runFrom_53 rfl ?_
          refine go_iload dX4_runFrom_55 rfl ?_
          refine go_callSp_i (as := [vi (x + (k * (dx s))), vi (y + (k * (dy s)))]) (S := [vr 84]) (ev_X11_cellOf (m := m) (x := (x + (k * (dx s)))) (y := (y + (k * (dy s)))) (by first | assumption | omega | exact ⟨by omega, by omega⟩ | (constructor <;> omega)) (by first | assumption | omega | exact ⟨by omega, by omega⟩ | (constructor <;> omega))) rfl dX4_runFrom_57 cs_4_73 rfl rfl (by decide) (Nat.le_of_ble_eq_true rfl) (fun r_57 hr_57 ho_57 => ?_)
          refine go_zaload dX4_runFrom_60 ar_84 (by omega) (by omega) (fun he_60 => ?_)
          refine go_if_eq (tgt := 67) dX4_runFrom_61 (by decide) ⟨by omega, by omega⟩ (fun h_61 => ?_) (fun h_61 => ?_)
          · refine go_iload dX4_runFrom_67 rfl ?_
            refine go_istore (L' := [vr 81, vr 8, vi x, vi y, vi s, vi k, vi k, vi (x + (k * (dx s))), vi (y + (k * (dy s)))]) dX4_runFrom_69 (by decide) rfl rfl ?_
            refine go_iinc (L' := [vr 81, vr 8, vi x, vi y, vi s, vi k, vi (k + 1), vi (x + (k * (dx s))), vi (y + (k * (dy s)))]) dX4_runFrom_71 rfl (by decide) rfl rfl ?_
            refine go_goto (tgt := 6) dX4_runFrom_74 (by decide) ?_
            refine go_drop (j := 7) (L' := [vr 81, vr 8, vi x, vi y, vi s, vi k, vi (k + 1), un, vi (y + (k * (dy s)))]) rfl ?_
            refine go_drop (j := 8) (L' := [vr 81, vr 8, vi x, vi y, vi s, vi k, vi (k + 1), un, un]) rfl ?_
            exact ih_6 k (k + 1) (by first | assumption | omega | rfl) (by first | assumption | omega | rfl) (by first | assumption | omega | rfl) (by rw [show k + 1 - 1 = k by omega, hcs, hcl, Bool.true_and]; have h2 : insC m 8 (x + k * dx s) (y + k * dy s) := (by omega); rw [hr_57] at h_61; exact (hF _ _ h2).mp h_61) (by omega)
          · refine go_iload dX4_runFrom_64 rfl ?_
            exact go_ret (v := c) rfl dX4_runFrom_66 (okI ⟨by omega, by omega⟩) ⟨rfl, (by
                  refine runN_eq (by omega) (by omega) (by rw [hc]; exact hcl) (Or.inr ?_)
                  rw [hc, show k - 1 + 1 = k by omega, hcs, hcl, Bool.true_and, Bool.eq_false_iff]
                  intro hf
                  first
                  | (have := hI _ _ hf; omega)
                  | (have h2 := (hF _ _ (hI _ _ hf)).mpr hf
                     rw [hr_57] at h_61
                     exact h_61 h2))⟩
  exact lp_6 _ 0 1 (by first | assumption | omega | rfl) (by first | assumption | omega | rfl) (by first | assumption | omega | rfl) rfl (Nat.lt_succ_self _)
theorem dX4_measureRuns_0 : decode mX4_measureRuns.2.1 0 = .ok (.iconst 0, 1) := by decide +kernel
theorem dX4_measureRuns_1 : decode mX4_measureRuns.2.1 1 = .ok (.istore_n 2, 1) := by decide +kernel
theorem dX4_measureRuns_2 : decode mX4_measureRuns.2.1 2 = .ok (.iload_n 2, 1) := by decide +kernel
theorem dX4_measureRuns_3 : decode mX4_measureRuns.2.1 3 = .ok (.aload_n 1, 1) := by decide +kernel
theorem dX4_measureRuns_4 : decode mX4_measureRuns.2.1 4 = .ok (.getfield 92, 3) := by decide +kernel
theorem dX4_measureRuns_7 : decode mX4_measureRuns.2.1 7 = .ok (.if_icmp .ge 64, 3) := by decide +kernel
theorem dX4_measureRuns_10 : decode mX4_measureRuns.2.1 10 = .ok (.iconst 0, 1) := by decide +kernel
theorem dX4_measureRuns_11 : decode mX4_measureRuns.2.1 11 = .ok (.istore_n 3, 1) := by decide +kernel
theorem dX4_measureRuns_12 : decode mX4_measureRuns.2.1 12 = .ok (.iload_n 3, 1) := by decide +kernel
theorem dX4_measureRuns_13 : decode mX4_measureRuns.2.1 13 = .ok (.aload_n 1, 1) := by decide +kernel
theorem dX4_measureRuns_14 : decode mX4_measureRuns.2.1 14 = .ok (.getfield 95, 3) := by decide +kernel
theorem dX4_measureRuns_17 : decode mX4_measureRuns.2.1 17 = .ok (.if_icmp .ge 48, 3) := by decide +kernel
theorem dX4_measureRuns_20 : decode mX4_measureRuns.2.1 20 = .ok (.iconst 0, 1) := by decide +kernel
theorem dX4_measureRuns_21 : decode mX4_measureRuns.2.1 21 = .ok (.istore 4, 2) := by decide +kernel
theorem dX4_measureRuns_23 : decode mX4_measureRuns.2.1 23 = .ok (.iload 4, 2) := by decide +kernel
theorem dX4_measureRuns_25 : decode mX4_measureRuns.2.1 25 = .ok (.iconst 4, 1) := by decide +kernel
theorem dX4_measureRuns_26 : decode mX4_measureRuns.2.1 26 = .ok (.if_icmp .ge 33, 3) := by decide +kernel
theorem dX4_measureRuns_29 : decode mX4_measureRuns.2.1 29 = .ok (.aload_n 0, 1) := by decide +kernel
theorem dX4_measureRuns_30 : decode mX4_measureRuns.2.1 30 = .ok (.getfield 26, 3) := by decide +kernel
theorem dX4_measureRuns_33 : decode mX4_measureRuns.2.1 33 = .ok (.iconst 4, 1) := by decide +kernel
theorem dX4_measureRuns_34 : decode mX4_measureRuns.2.1 34 = .ok (.iload_n 3, 1) := by decide +kernel
theorem dX4_measureRuns_35 : decode mX4_measureRuns.2.1 35 = .ok (.iload_n 2, 1) := by decide +kernel
theorem dX4_measureRuns_36 : decode mX4_measureRuns.2.1 36 = .ok (.invokestatic 73, 3) := by decide +kernel
theorem dX4_measureRuns_39 : decode mX4_measureRuns.2.1 39 = .ok (.imul, 1) := by decide +kernel
theorem dX4_measureRuns_40 : decode mX4_measureRuns.2.1 40 = .ok (.iload 4, 2) := by decide +kernel
theorem dX4_measureRuns_42 : decode mX4_measureRuns.2.1 42 = .ok (.iadd, 1) := by decide +kernel
theorem dX4_measureRuns_43 : decode mX4_measureRuns.2.1 43 = .ok (.aload_n 0, 1) := by decide +kernel
theorem dX4_measureRuns_44 : decode mX4_measureRuns.2.1 44 = .ok (.aload_n 1, 1) := by decide +kernel
theorem dX4_measureRuns_45 : decode mX4_measureRuns.2.1 45 = .ok (.iload_n 3, 1) := by decide +kernel
theorem dX4_measureRuns_46 : decode mX4_measureRuns.2.1 46 = .ok (.iload_n 2, 1) := by decide +kernel
theorem dX4_measureRuns_47 : decode mX4_measureRuns.2.1 47 = .ok (.iload 4, 2) := by decide +kernel
theorem dX4_measureRuns_49 : decode mX4_measureRuns.2.1 49 = .ok (.invokevirtual 98, 3) := by decide +kernel
theorem dX4_measureRuns_52 : decode mX4_measureRuns.2.1 52 = .ok (.iastore, 1) := by decide +kernel
theorem dX4_measureRuns_53 : decode mX4_measureRuns.2.1 53 = .ok (.iinc 4 1, 3) := by decide +kernel
theorem dX4_measureRuns_56 : decode mX4_measureRuns.2.1 56 = .ok (.goto (-33), 3) := by decide +kernel
theorem dX4_measureRuns_59 : decode mX4_measureRuns.2.1 59 = .ok (.iinc 3 1, 3) := by decide +kernel
theorem dX4_measureRuns_62 : decode mX4_measureRuns.2.1 62 = .ok (.goto (-50), 3) := by decide +kernel
theorem dX4_measureRuns_65 : decode mX4_measureRuns.2.1 65 = .ok (.iinc 2 1, 3) := by decide +kernel
theorem dX4_measureRuns_68 : decode mX4_measureRuns.2.1 68 = .ok (.goto (-66), 3) := by decide +kernel
theorem dX4_measureRuns_71 : decode mX4_measureRuns.2.1 71 = .ok (.return_, 1) := by decide +kernel
set_option maxRecDepth 4000 in
theorem ev_X4_measureRuns {m : Mem} {F : Int → Int → Bool} (hdn : DnOk m 8) (hF : ∀ x y : Int, insC m 8 x y → (m 84 (9 * y + x) = 0 ↔ F x y = true)) (hI : ∀ x y : Int, F x y = true → insC m 8 x y) : Ev 0 3 mX4_measureRuns [vr 81, vr 8] m (fun r m' => RnOk m m' F ∧ (∀ b : Nat, b ≠ 85 → m' b = m b)) := by
  refine Ev.of (L := [vr 81, vr 8, un, un, un]) (by decide +kernel) rfl (Nat.le_of_ble_eq_true rfl) rfl (fun t ht => by cases ht) (fun hcan => ?_)
  obtain ⟨⟨hd0, hd1⟩, ⟨hd2, hd3⟩, ⟨hd4, hd5⟩, ⟨hd6, hd7⟩, ⟨hd8, hd9⟩, hdf, hdp, hdq⟩ := id hdn
  refine go_iconst dX4_measureRuns_0 ?_
  refine go_istore_n (L' := [vr 81, vr 8, vi 0, un, un]) dX4_measureRuns_1 (by decide) rfl rfl ?_
  have lp_2 : ∀ (n_2 : Nat) (m1 : Mem) (y : Int) , (0 ≤ y) → (y ≤ m 8 1) → (∀ b : Nat, b ≠ 85 → m1 b = m b) → (∀ i j u : Int, 0 ≤ i → i < m 8 0 → 0 ≤ j → j < m 8 1 → 0 ≤ u → u < 4 → (j < y ∨ (j = y ∧ (i < 0 ∨ (i = 0 ∧ u < 0)))) → m1 85 (4 * (9 * j + i) + u) = runN F i j (dx u) (dy u)) → (m 8 1 - y).toNat < n_2 → Go 0 3 mX4_measureRuns (fun r m' => RnOk m m' F ∧ (∀ b : Nat, b ≠ 85 → m' b = m b)) 2 [vr 81, vr 8, vi y, un, un] [] m1 := by
    intro n_2
    induction n_2 with
    | zero => intro m1 y hy0 hy1 hfr hr1 hmu; exact absurd hmu (Nat.not_lt_zero _)
    | succ n_2 ih_2 =>
      intro m1 y hy0 hy1 hfr hr1 hmu
      refine go_iload_n dX4_measureRuns_2 rfl ?_
      refine go_aload_n dX4_measureRuns_3 rfl ?_
      refine go_getf_i (ki := 1) dX4_measureRuns_4 fl_4_92 ob_8 rfl rfl (fun hf_4 => ?_)
      rw [show (m1 8 1 : Int) = (m 8 1) from by rw [hfr 8 (by decide)]] at hf_4 ⊢
      refine go_icmp_ge (tgt := 71) dX4_measureRuns_7 (by decide) ⟨by omega, by omega⟩ ⟨by omega, by omega⟩ (fun h_7 => ?_) (fun h_7 => ?_)
      · exact go_ret (v := 0) rfl dX4_measureRuns_71 rfl ⟨fun i j u a b c d e f => hr1 i j u a b c d e f (by omega), hfr⟩
      · refine go_iconst dX4_measureRuns_10 ?_
        refine go_istore_n (L' := [vr 81, vr 8, vi y, vi 0, un]) dX4_measureRuns_11 (by decide) rfl rfl ?_
        have lp_12 : ∀ (n_12 : Nat) (m2 : Mem) (x : Int) , (0 ≤ x) → (x ≤ m 8 0) → (∀ b : Nat, b ≠ 85 → m2 b = m b) → (∀ i j u : Int, 0 ≤ i → i < m 8 0 → 0 ≤ j → j < m 8 1 → 0 ≤ u → u < 4 → (j < y ∨ (j = y ∧ (i < x ∨ (i = x ∧ u < 0)))) → m2 85 (4 * (9 * j + i) + u) = runN F i j (dx u) (dy u)) → (m 8 0 - x).toNat < n_12 → Go 0 3 mX4_measureRuns (fun r m' => RnOk m m' F ∧ (∀ b : Nat, b ≠ 85 → m' b = m b)) 12 [vr 81, vr 8, vi y, vi x, un] [] m2 := by
          intro n_12
          induction n_12 with
          | zero => intro m2 x hx0 hx1 hfr2 hr2 hmu; exact absurd hmu (Nat.not_lt_zero _)
          | succ n_12 ih_12 =>
            intro m2 x hx0 hx1 hfr2 hr2 hmu
            refine go_iload_n dX4_measureRuns_12 rfl ?_
            refine go_aload_n dX4_measureRuns_13 rfl ?_
            refine go_getf_i (ki := 0) dX4_measureRuns_14 fl_4_95 ob_8 rfl rfl (fun hf_14 => ?_)
            rw [show (m2 8 0 : Int) = (m 8 0) from by rw [hfr2 8 (by decide)]] at hf_14 ⊢
            refine go_icmp_ge (tgt := 65) dX4_measureRuns_17 (by decide) ⟨by omega, by omega⟩ ⟨by omega, by omega⟩ (fun h_17 => ?_) (fun h_17 => ?_)
            · refine go_iinc (L' := [vr 81, vr 8, vi (y + 1), vi x, un]) dX4_measureRuns_65 rfl (by decide) rfl rfl ?_
              refine go_goto (tgt := 2) dX4_measureRuns_68 (by decide) ?_
              refine go_drop (j := 3) (L' := [vr 81, vr 8, vi (y + 1), un, un]) rfl ?_
              exact ih_2 m2 (y + 1) (by first | assumption | omega | rfl) (by first | assumption | omega | rfl) hfr2 (fun i j u a b c d e f g => hr2 i j u a b c d e f (by omega)) (by omega)
            · refine go_iconst dX4_measureRuns_20 ?_
              refine go_istore (L' := [vr 81, vr 8, vi y, vi x, vi 0]) dX4_measureRuns_21 (by decide) rfl rfl ?_
              have lp_23 : ∀ (n_23 : Nat) (m3 : Mem) (s : Int) , (0 ≤ s) → (s ≤ 4) → (∀ b : Nat, b ≠ 85 → m3 b = m b) → (∀ i j u : Int, 0 ≤ i → i < m 8 0 → 0 ≤ j → j < m 8 1 → 0 ≤ u → u < 4 → (j < y ∨ (j = y ∧ (i < x ∨ (i = x ∧ u < s)))) → m3 85 (4 * (9 * j + i) + u) = runN F i j (dx u) (dy u)) → (4 - s).toNat < n_23 → Go 0 3 mX4_measureRuns (fun r m' => RnOk m m' F ∧ (∀ b : Nat, b ≠ 85 → m' b = m b)) 23 [vr 81, vr 8, vi y, vi x, vi s] [] m3 := by
                intro n_23
                induction n_23 with
                | zero => intro m3 s hs0 hs1 hfr3 hr3 hmu; exact absurd hmu (Nat.not_lt_zero _)
                | succ n_23 ih_23 =>
                  intro m3 s hs0 hs1 hfr3 hr3 hmu
                  refine go_iload dX4_measureRuns_23 rfl ?_
                  refine go_iconst dX4_measureRuns_25 ?_
                  refine go_icmp_ge (tgt := 59) dX4_measureRuns_26 (by decide) ⟨by omega, by omega⟩ ⟨by omega, by omega⟩ (fun h_26 => ?_) (fun h_26 => ?_)
                  · refine go_iinc (L' := [vr 81, vr 8, vi y, vi (x + 1), vi s]) dX4_measureRuns_59 rfl (by decide) rfl rfl ?_
                    refine go_goto (tgt := 12) dX4_measureRuns_62 (by decide) ?_
                    refine go_drop (j := 4) (L' := [vr 81, vr 8, vi y, vi (x + 1), un]) rfl ?_
                    exact ih_12 m3 (x + 1) (by first | assumption | omega | rfl) (by first | assumption | omega | rfl) hfr3 (fun i j u a b c d e f g => hr3 i j u a b c d e f (by omega)) (by omega)
                  · refine go_aload_n dX4_measureRuns_29 rfl ?_
                    refine go_getf_p (b := 85) dX4_measureRuns_30 fl_4_26 ob_81 rfl pt_81_4 ?_
                    refine go_iconst dX4_measureRuns_33 ?_
                    refine go_iload_n dX4_measureRuns_34 rfl ?_
                    refine go_iload_n dX4_measureRuns_35 rfl ?_
                    refine go_callSp_i (as := [vi x, vi y]) (S := [vi 4, vr 85]) (ev_X11_cellOf (m := m3) (x := x) (y := y) (by first | assumption | omega | exact ⟨by omega, by omega⟩ | (constructor <;> omega)) (by first | assumption | omega | exact ⟨by omega, by omega⟩ | (constructor <;> omega))) rfl dX4_measureRuns_36 cs_4_73 rfl rfl (by decide) (Nat.le_of_ble_eq_true rfl) (fun r_36 hr_36 ho_36 => ?_)
                    refine go_imul dX4_measureRuns_39 ?_
                    refine go_iload dX4_measureRuns_40 rfl ?_
                    refine go_iadd dX4_measureRuns_42 ?_
                    refine go_aload_n dX4_measureRuns_43 rfl ?_
                    refine go_aload_n dX4_measureRuns_44 rfl ?_
                    refine go_iload_n dX4_measureRuns_45 rfl ?_
                    refine go_iload_n dX4_measureRuns_46 rfl ?_
                    refine go_iload dX4_measureRuns_47 rfl ?_
                    refine go_callVp_i (as := [vr 8, vi x, vi y, vi s]) (S := [vi ((4 * r_36) + s), vr 85]) (b := 81) (ev_X4_runFrom (m := m3) (x := x) (y := y) (s := s) (F := F) (hdn.congr (fun k hk => hfr3 _ (by omega))) (by rw [hfr3 84 (by decide)]; intro i j hij; unfold insC at hij; rw [hfr3 8 (by decide)] at hij; exact hF i j hij) (by unfold insC; rw [hfr3 8 (by decide)]; exact hI) (by rw [hfr3 8 (by decide)]; omega) (by rw [hfr3 8 (by decide)]; omega) (by first | assumption | omega | exact ⟨by omega, by omega⟩ | (constructor <;> omega))) rfl dX4_measureRuns_49 cv_4_98 rfl rfl ob_81 rfl (by decide) (Nat.le_of_ble_eq_true rfl) (fun r_49 hr_49 ho_49 => ?_)
                    have hrb := runN_b F x y (dx s) (dy s)
                    rw [← hr_49] at hrb
                    refine go_iastore dX4_measureRuns_52 ar_85 (by omega) (by omega) ⟨by omega, by omega⟩ ?_
                    refine go_iinc (L' := [vr 81, vr 8, vi y, vi x, vi (s + 1)]) dX4_measureRuns_53 rfl (by decide) rfl rfl ?_
                    refine go_goto (tgt := 23) dX4_measureRuns_56 (by decide) ?_
                    exact ih_23 (wr m3 85 ((4 * r_36) + s) r_49) (s + 1) (by first | assumption | omega | rfl) (by first | assumption | omega | rfl) (fun b hb => by rw [wr_row hb]; exact hfr3 b hb) (fun i j u a b c d e f g => by
                          rw [hr_36]
                          by_cases z : 4 * (9 * j + i) + u = 4 * (9 * y + x) + s
                          · have e1 : u = s := (by omega)
                            have e2 : i = x := (by omega)
                            have e3 : j = y := (by omega)
                            rw [z, wr_self, hr_49, e1, e2, e3]
                          · rw [wr_ni z]; exact hr3 i j u a b c d e f (by omega)) (by omega)
              exact lp_23 _ m2 0 (by first | assumption | omega | rfl) (by first | assumption | omega | rfl) hfr2 (fun i j u a b c d e f g => hr2 i j u a b c d e f (by omega)) (Nat.lt_succ_self _)
        exact lp_12 _ m1 0 (by first | assumption | omega | rfl) (by first | assumption | omega | rfl) hfr (fun i j u a b c d e f g => hr1 i j u a b c d e f (by omega)) (Nat.lt_succ_self _)
  exact lp_2 _ m 0 (by first | assumption | omega | rfl) (by first | assumption | omega | rfl) (fun b _ => rfl) (fun i j u a b c d e f g => by omega) (Nat.lt_succ_self _)
theorem dX4_reach_0 : decode mX4_reach.2.1 0 = .ok (.aload_n 0, 1) := by decide +kernel
theorem dX4_reach_1 : decode mX4_reach.2.1 1 = .ok (.getfield 9, 3) := by decide +kernel
theorem dX4_reach_4 : decode mX4_reach.2.1 4 = .ok (.iload_n 1, 1) := by decide +kernel
theorem dX4_reach_5 : decode mX4_reach.2.1 5 = .ok (.iaload, 1) := by decide +kernel
theorem dX4_reach_6 : decode mX4_reach.2.1 6 = .ok (.iconst (-1), 1) := by decide +kernel
theorem dX4_reach_7 : decode mX4_reach.2.1 7 = .ok (.if_icmp .ne 61, 3) := by decide +kernel
theorem dX4_reach_10 : decode mX4_reach.2.1 10 = .ok (.aload_n 0, 1) := by decide +kernel
theorem dX4_reach_11 : decode mX4_reach.2.1 11 = .ok (.getfield 38, 3) := by decide +kernel
theorem dX4_reach_14 : decode mX4_reach.2.1 14 = .ok (.sipush 324, 3) := by decide +kernel
theorem dX4_reach_17 : decode mX4_reach.2.1 17 = .ok (.if_icmp .ge 51, 3) := by decide +kernel
theorem dX4_reach_20 : decode mX4_reach.2.1 20 = .ok (.aload_n 0, 1) := by decide +kernel
theorem dX4_reach_21 : decode mX4_reach.2.1 21 = .ok (.getfield 9, 3) := by decide +kernel
theorem dX4_reach_24 : decode mX4_reach.2.1 24 = .ok (.iload_n 1, 1) := by decide +kernel
theorem dX4_reach_25 : decode mX4_reach.2.1 25 = .ok (.aload_n 0, 1) := by decide +kernel
theorem dX4_reach_26 : decode mX4_reach.2.1 26 = .ok (.getfield 9, 3) := by decide +kernel
theorem dX4_reach_29 : decode mX4_reach.2.1 29 = .ok (.iload_n 2, 1) := by decide +kernel
theorem dX4_reach_30 : decode mX4_reach.2.1 30 = .ok (.iaload, 1) := by decide +kernel
theorem dX4_reach_31 : decode mX4_reach.2.1 31 = .ok (.iconst 1, 1) := by decide +kernel
theorem dX4_reach_32 : decode mX4_reach.2.1 32 = .ok (.iadd, 1) := by decide +kernel
theorem dX4_reach_33 : decode mX4_reach.2.1 33 = .ok (.iastore, 1) := by decide +kernel
theorem dX4_reach_34 : decode mX4_reach.2.1 34 = .ok (.aload_n 0, 1) := by decide +kernel
theorem dX4_reach_35 : decode mX4_reach.2.1 35 = .ok (.getfield 29, 3) := by decide +kernel
theorem dX4_reach_38 : decode mX4_reach.2.1 38 = .ok (.iload_n 1, 1) := by decide +kernel
theorem dX4_reach_39 : decode mX4_reach.2.1 39 = .ok (.iload_n 2, 1) := by decide +kernel
theorem dX4_reach_40 : decode mX4_reach.2.1 40 = .ok (.iastore, 1) := by decide +kernel
theorem dX4_reach_41 : decode mX4_reach.2.1 41 = .ok (.aload_n 0, 1) := by decide +kernel
theorem dX4_reach_42 : decode mX4_reach.2.1 42 = .ok (.getfield 32, 3) := by decide +kernel
theorem dX4_reach_45 : decode mX4_reach.2.1 45 = .ok (.iload_n 1, 1) := by decide +kernel
theorem dX4_reach_46 : decode mX4_reach.2.1 46 = .ok (.iload_n 3, 1) := by decide +kernel
theorem dX4_reach_47 : decode mX4_reach.2.1 47 = .ok (.iastore, 1) := by decide +kernel
theorem dX4_reach_48 : decode mX4_reach.2.1 48 = .ok (.aload_n 0, 1) := by decide +kernel
theorem dX4_reach_49 : decode mX4_reach.2.1 49 = .ok (.getfield 35, 3) := by decide +kernel
theorem dX4_reach_52 : decode mX4_reach.2.1 52 = .ok (.aload_n 0, 1) := by decide +kernel
theorem dX4_reach_53 : decode mX4_reach.2.1 53 = .ok (.getfield 38, 3) := by decide +kernel
theorem dX4_reach_56 : decode mX4_reach.2.1 56 = .ok (.iload_n 1, 1) := by decide +kernel
theorem dX4_reach_57 : decode mX4_reach.2.1 57 = .ok (.iastore, 1) := by decide +kernel
theorem dX4_reach_58 : decode mX4_reach.2.1 58 = .ok (.aload_n 0, 1) := by decide +kernel
theorem dX4_reach_59 : decode mX4_reach.2.1 59 = .ok (.dup, 1) := by decide +kernel
theorem dX4_reach_60 : decode mX4_reach.2.1 60 = .ok (.getfield 38, 3) := by decide +kernel
theorem dX4_reach_63 : decode mX4_reach.2.1 63 = .ok (.iconst 1, 1) := by decide +kernel
theorem dX4_reach_64 : decode mX4_reach.2.1 64 = .ok (.iadd, 1) := by decide +kernel
theorem dX4_reach_65 : decode mX4_reach.2.1 65 = .ok (.putfield 38, 3) := by decide +kernel
theorem dX4_reach_68 : decode mX4_reach.2.1 68 = .ok (.return_, 1) := by decide +kernel
set_option maxRecDepth 4000 in
theorem ev_X4_reach {m : Mem} {t : Int} {s : Int} {v : Int} (ht : 0 ≤ t ∧ t < 324) (hs : 0 ≤ s ∧ s < 324) (hv : InR v) (hf : -1 ≤ m 82 s ∧ m 82 s < 400) (hq : 0 ≤ m 81 8 ∧ m 81 8 ≤ 324) : Ev 0 1 mX4_reach [vr 81, vi t, vi s, vi v] m (fun r m' => m' = if m 82 t = -1 ∧ m 81 8 < 324 then wr (wr (wr (wr (wr m 82 t (m 82 s + 1)) 86 t s) 87 t v) 88 (m 81 8) t) 81 8 (m 81 8 + 1) else m) := by
  refine Ev.of (L := [vr 81, vi t, vi s, vi v]) (by decide +kernel) rfl (Nat.le_of_ble_eq_true rfl) rfl (fun t ht => by cases ht) (fun hcan => ?_)
  refine go_aload_n dX4_reach_0 rfl ?_
  refine go_getf_p (b := 82) dX4_reach_1 fl_4_9 ob_81 rfl pt_81_0 ?_
  refine go_iload_n dX4_reach_4 rfl ?_
  refine go_iaload dX4_reach_5 ar_82 (by omega) (by omega) (fun he_5 => ?_)
  refine go_iconst dX4_reach_6 ?_
  refine go_icmp_ne (tgt := 68) dX4_reach_7 (by decide) ⟨by omega, by omega⟩ ⟨by omega, by omega⟩ (fun h_7 => ?_) (fun h_7 => ?_)
  · refine go_ret (v := 0) rfl dX4_reach_68 rfl ?_
    first
    | (rw [if_pos (by omega)])
    | (rw [if_neg (by omega)])
  · refine go_aload_n dX4_reach_10 rfl ?_
    refine go_getf_i (ki := 8) dX4_reach_11 fl_4_38 ob_81 rfl rfl (fun hf_11 => ?_)
    refine go_sipush dX4_reach_14 (by decide) ?_
    refine go_icmp_ge (tgt := 68) dX4_reach_17 (by decide) ⟨by omega, by omega⟩ ⟨by omega, by omega⟩ (fun h_17 => ?_) (fun h_17 => ?_)
    · refine go_ret (v := 0) rfl dX4_reach_68 rfl ?_
      first
      | (rw [if_pos (by omega)])
      | (rw [if_neg (by omega)])
    · refine go_aload_n dX4_reach_20 rfl ?_
      refine go_getf_p (b := 82) dX4_reach_21 fl_4_9 ob_81 rfl pt_81_0 ?_
      refine go_iload_n dX4_reach_24 rfl ?_
      refine go_aload_n dX4_reach_25 rfl ?_
      refine go_getf_p (b := 82) dX4_reach_26 fl_4_9 ob_81 rfl pt_81_0 ?_
      refine go_iload_n dX4_reach_29 rfl ?_
      refine go_iaload dX4_reach_30 ar_82 (by omega) (by omega) (fun he_30 => ?_)
      refine go_iconst dX4_reach_31 ?_
      refine go_iadd dX4_reach_32 ?_
      refine go_iastore dX4_reach_33 ar_82 (by omega) (by omega) ⟨by omega, by omega⟩ ?_
      refine go_aload_n dX4_reach_34 rfl ?_
      refine go_getf_p (b := 86) dX4_reach_35 fl_4_29 ob_81 rfl pt_81_5 ?_
      refine go_iload_n dX4_reach_38 rfl ?_
      refine go_iload_n dX4_reach_39 rfl ?_
      refine go_iastore dX4_reach_40 ar_86 (by omega) (by omega) ⟨by omega, by omega⟩ ?_
      refine go_aload_n dX4_reach_41 rfl ?_
      refine go_getf_p (b := 87) dX4_reach_42 fl_4_32 ob_81 rfl pt_81_6 ?_
      refine go_iload_n dX4_reach_45 rfl ?_
      refine go_iload_n dX4_reach_46 rfl ?_
      refine go_iastore dX4_reach_47 ar_87 (by omega) (by omega) ⟨by omega, by omega⟩ ?_
      refine go_aload_n dX4_reach_48 rfl ?_
      refine go_getf_p (b := 88) dX4_reach_49 fl_4_35 ob_81 rfl pt_81_7 ?_
      refine go_aload_n dX4_reach_52 rfl ?_
      refine go_getf_i (ki := 8) dX4_reach_53 fl_4_38 ob_81 rfl rfl (fun hf_53 => ?_)
      rw [show ((wr (wr (wr m 82 t ((m 82 s) + 1)) 86 t s) 87 t v) 81 8 : Int) = (m 81 8) from by rw [wr_na (by omega), wr_na (by omega), wr_na (by omega)]] at hf_53 ⊢
      refine go_iload_n dX4_reach_56 rfl ?_
      refine go_iastore dX4_reach_57 ar_88 (by omega) (by omega) ⟨by omega, by omega⟩ ?_
      refine go_aload_n dX4_reach_58 rfl ?_
      refine go_dup_r dX4_reach_59 ?_
      refine go_getf_i (ki := 8) dX4_reach_60 fl_4_38 ob_81 rfl rfl (fun hf_60 => ?_)
      rw [show ((wr (wr (wr (wr m 82 t ((m 82 s) + 1)) 86 t s) 87 t v) 88 (m 81 8) t) 81 8 : Int) = (m 81 8) from by rw [wr_na (by omega), wr_na (by omega), wr_na (by omega), wr_na (by omega)]] at hf_60 ⊢
      refine go_iconst dX4_reach_63 ?_
      refine go_iadd dX4_reach_64 ?_
      refine go_putf_i (ki := 8) dX4_reach_65 fw_4_38 ob_81 rfl rfl ⟨by omega, by omega⟩ ?_
      refine go_ret (v := 0) rfl dX4_reach_68 rfl ?_
      first
      | (rw [if_pos (by omega)])
      | (rw [if_neg (by omega)])
theorem dX4_goOn_0 : decode mX4_goOn.2.1 0 = .ok (.iload_n 2, 1) := by decide +kernel
theorem dX4_goOn_1 : decode mX4_goOn.2.1 1 = .ok (.iconst 2, 1) := by decide +kernel
theorem dX4_goOn_2 : decode mX4_goOn.2.1 2 = .ok (.ishr, 1) := by decide +kernel
theorem dX4_goOn_3 : decode mX4_goOn.2.1 3 = .ok (.istore_n 3, 1) := by decide +kernel
theorem dX4_goOn_4 : decode mX4_goOn.2.1 4 = .ok (.iconst 0, 1) := by decide +kernel
theorem dX4_goOn_5 : decode mX4_goOn.2.1 5 = .ok (.istore 4, 2) := by decide +kernel
theorem dX4_goOn_7 : decode mX4_goOn.2.1 7 = .ok (.iload 4, 2) := by decide +kernel
theorem dX4_goOn_9 : decode mX4_goOn.2.1 9 = .ok (.aload_n 1, 1) := by decide +kernel
theorem dX4_goOn_10 : decode mX4_goOn.2.1 10 = .ok (.getfield 112, 3) := by decide +kernel
theorem dX4_goOn_13 : decode mX4_goOn.2.1 13 = .ok (.if_icmp .ge 104, 3) := by decide +kernel
theorem dX4_goOn_16 : decode mX4_goOn.2.1 16 = .ok (.iload_n 2, 1) := by decide +kernel
theorem dX4_goOn_17 : decode mX4_goOn.2.1 17 = .ok (.aload_n 1, 1) := by decide +kernel
theorem dX4_goOn_18 : decode mX4_goOn.2.1 18 = .ok (.getfield 115, 3) := by decide +kernel
theorem dX4_goOn_21 : decode mX4_goOn.2.1 21 = .ok (.iload 4, 2) := by decide +kernel
theorem dX4_goOn_23 : decode mX4_goOn.2.1 23 = .ok (.iaload, 1) := by decide +kernel
theorem dX4_goOn_24 : decode mX4_goOn.2.1 24 = .ok (.iadd, 1) := by decide +kernel
theorem dX4_goOn_25 : decode mX4_goOn.2.1 25 = .ok (.iconst 3, 1) := by decide +kernel
theorem dX4_goOn_26 : decode mX4_goOn.2.1 26 = .ok (.iand, 1) := by decide +kernel
theorem dX4_goOn_27 : decode mX4_goOn.2.1 27 = .ok (.istore 5, 2) := by decide +kernel
theorem dX4_goOn_29 : decode mX4_goOn.2.1 29 = .ok (.iconst 0, 1) := by decide +kernel
theorem dX4_goOn_30 : decode mX4_goOn.2.1 30 = .ok (.istore 6, 2) := by decide +kernel
theorem dX4_goOn_32 : decode mX4_goOn.2.1 32 = .ok (.iload 6, 2) := by decide +kernel
theorem dX4_goOn_34 : decode mX4_goOn.2.1 34 = .ok (.iconst 4, 1) := by decide +kernel
theorem dX4_goOn_35 : decode mX4_goOn.2.1 35 = .ok (.if_icmp .ge 76, 3) := by decide +kernel
theorem dX4_goOn_38 : decode mX4_goOn.2.1 38 = .ok (.aload_n 1, 1) := by decide +kernel
theorem dX4_goOn_39 : decode mX4_goOn.2.1 39 = .ok (.getfield 118, 3) := by decide +kernel
theorem dX4_goOn_42 : decode mX4_goOn.2.1 42 = .ok (.iload 4, 2) := by decide +kernel
theorem dX4_goOn_44 : decode mX4_goOn.2.1 44 = .ok (.iaload, 1) := by decide +kernel
theorem dX4_goOn_45 : decode mX4_goOn.2.1 45 = .ok (.aload_n 0, 1) := by decide +kernel
theorem dX4_goOn_46 : decode mX4_goOn.2.1 46 = .ok (.getfield 26, 3) := by decide +kernel
theorem dX4_goOn_49 : decode mX4_goOn.2.1 49 = .ok (.iconst 4, 1) := by decide +kernel
theorem dX4_goOn_50 : decode mX4_goOn.2.1 50 = .ok (.iload_n 3, 1) := by decide +kernel
theorem dX4_goOn_51 : decode mX4_goOn.2.1 51 = .ok (.imul, 1) := by decide +kernel
theorem dX4_goOn_52 : decode mX4_goOn.2.1 52 = .ok (.iload 6, 2) := by decide +kernel
theorem dX4_goOn_54 : decode mX4_goOn.2.1 54 = .ok (.iadd, 1) := by decide +kernel
theorem dX4_goOn_55 : decode mX4_goOn.2.1 55 = .ok (.iaload, 1) := by decide +kernel
theorem dX4_goOn_56 : decode mX4_goOn.2.1 56 = .ok (.if_icmp .gt 49, 3) := by decide +kernel
theorem dX4_goOn_59 : decode mX4_goOn.2.1 59 = .ok (.iload_n 3, 1) := by decide +kernel
theorem dX4_goOn_60 : decode mX4_goOn.2.1 60 = .ok (.aload_n 1, 1) := by decide +kernel
theorem dX4_goOn_61 : decode mX4_goOn.2.1 61 = .ok (.getfield 118, 3) := by decide +kernel
theorem dX4_goOn_64 : decode mX4_goOn.2.1 64 = .ok (.iload 4, 2) := by decide +kernel
theorem dX4_goOn_66 : decode mX4_goOn.2.1 66 = .ok (.iaload, 1) := by decide +kernel
theorem dX4_goOn_67 : decode mX4_goOn.2.1 67 = .ok (.getstatic 102, 3) := by decide +kernel
theorem dX4_goOn_70 : decode mX4_goOn.2.1 70 = .ok (.iload 6, 2) := by decide +kernel
theorem dX4_goOn_72 : decode mX4_goOn.2.1 72 = .ok (.iaload, 1) := by decide +kernel
theorem dX4_goOn_73 : decode mX4_goOn.2.1 73 = .ok (.getstatic 105, 3) := by decide +kernel
theorem dX4_goOn_76 : decode mX4_goOn.2.1 76 = .ok (.iload 6, 2) := by decide +kernel
theorem dX4_goOn_78 : decode mX4_goOn.2.1 78 = .ok (.iaload, 1) := by decide +kernel
theorem dX4_goOn_79 : decode mX4_goOn.2.1 79 = .ok (.invokestatic 73, 3) := by decide +kernel
theorem dX4_goOn_82 : decode mX4_goOn.2.1 82 = .ok (.imul, 1) := by decide +kernel
theorem dX4_goOn_83 : decode mX4_goOn.2.1 83 = .ok (.iadd, 1) := by decide +kernel
theorem dX4_goOn_84 : decode mX4_goOn.2.1 84 = .ok (.istore 7, 2) := by decide +kernel
theorem dX4_goOn_86 : decode mX4_goOn.2.1 86 = .ok (.aload_n 0, 1) := by decide +kernel
theorem dX4_goOn_87 : decode mX4_goOn.2.1 87 = .ok (.iconst 4, 1) := by decide +kernel
theorem dX4_goOn_88 : decode mX4_goOn.2.1 88 = .ok (.iload 7, 2) := by decide +kernel
theorem dX4_goOn_90 : decode mX4_goOn.2.1 90 = .ok (.imul, 1) := by decide +kernel
theorem dX4_goOn_91 : decode mX4_goOn.2.1 91 = .ok (.iload 5, 2) := by decide +kernel
theorem dX4_goOn_93 : decode mX4_goOn.2.1 93 = .ok (.iadd, 1) := by decide +kernel
theorem dX4_goOn_94 : decode mX4_goOn.2.1 94 = .ok (.iload_n 2, 1) := by decide +kernel
theorem dX4_goOn_95 : decode mX4_goOn.2.1 95 = .ok (.iconst 4, 1) := by decide +kernel
theorem dX4_goOn_96 : decode mX4_goOn.2.1 96 = .ok (.iload 4, 2) := by decide +kernel
theorem dX4_goOn_98 : decode mX4_goOn.2.1 98 = .ok (.imul, 1) := by decide +kernel
theorem dX4_goOn_99 : decode mX4_goOn.2.1 99 = .ok (.iload 6, 2) := by decide +kernel
theorem dX4_goOn_101 : decode mX4_goOn.2.1 101 = .ok (.iadd, 1) := by decide +kernel
theorem dX4_goOn_102 : decode mX4_goOn.2.1 102 = .ok (.invokevirtual 121, 3) := by decide +kernel
theorem dX4_goOn_105 : decode mX4_goOn.2.1 105 = .ok (.iinc 6 1, 3) := by decide +kernel
theorem dX4_goOn_108 : decode mX4_goOn.2.1 108 = .ok (.goto (-76), 3) := by decide +kernel
theorem dX4_goOn_111 : decode mX4_goOn.2.1 111 = .ok (.iinc 4 1, 3) := by decide +kernel
theorem dX4_goOn_114 : decode mX4_goOn.2.1 114 = .ok (.goto (-107), 3) := by decide +kernel
theorem dX4_goOn_117 : decode mX4_goOn.2.1 117 = .ok (.return_, 1) := by decide +kernel
set_option maxRecDepth 4000 in
theorem ev_X4_goOn {m : Mem} {F : Int → Int → Bool} {s0 : Int} {h : Int} {s : Int} {m0 : Mem} (hdn : DnOk m 8) (hI : ∀ x y : Int, F x y = true → insC m 8 x y) (hr : RnOk m m F) (hbi : BIm m m F s0 h 0) (hh : h < m 81 8) (hs : s = m 88 h) (hvs : VS m 8 s) : Ev 0 2 mX4_goOn [vr 81, vr 8, vi s] m (fun r m' => BIm m m' F s0 (h + 1) 0 ∧ FrS m m' ∧ m' 85 = m 85 ∧ m' 84 = m 84 ∧ m' 88 h = s) := by
  refine Ev.of (L := [vr 81, vr 8, vi s, un, un, un, un, un]) (by decide +kernel) rfl (Nat.le_of_ble_eq_true rfl) rfl (fun t ht => by cases ht) (fun hcan => ?_)
  obtain ⟨⟨hd0, hd1⟩, ⟨hd2, hd3⟩, ⟨hd4, hd5⟩, ⟨hd6, hd7⟩, ⟨hd8, hd9⟩, hdf, hdp, hdq⟩ := id hdn
  have hsl := hvs.lt hdn
  have hs00 := hvs.1
  have hv2 := hvs.2.1
  have hv3 := hvs.2.2
  refine go_iload_n dX4_goOn_0 rfl ?_
  refine go_iconst dX4_goOn_1 ?_
  refine go_ishr dX4_goOn_2 ?_
  rw [show (ishr s 2 : Int) = (s / 4) from (sh2 (by omega) (by omega)).1]
  refine go_istore_n (L' := [vr 81, vr 8, vi s, vi (s / 4), un, un, un, un]) dX4_goOn_3 (by decide) rfl rfl ?_
  refine go_iconst dX4_goOn_4 ?_
  refine go_istore (L' := [vr 81, vr 8, vi s, vi (s / 4), vi 0, un, un, un]) dX4_goOn_5 (by decide) rfl rfl ?_
  have lp_7 : ∀ (n_7 : Nat) (m1 : Mem) (f : Int) , (0 ≤ f) → (f ≤ m 8 2) → (BIm m m1 F s0 h (4 * f)) → (FrS m m1) → (m1 85 = m 85) → (m1 84 = m 84) → (h < m1 81 8) → (m1 88 h = s) → (m 8 2 - f).toNat < n_7 → Go 0 2 mX4_goOn (fun r m' => BIm m m' F s0 (h + 1) 0 ∧ FrS m m' ∧ m' 85 = m 85 ∧ m' 84 = m 84 ∧ m' 88 h = s) 7 [vr 81, vr 8, vi s, vi (s / 4), vi f, un, un, un] [] m1 := by
    intro n_7
    induction n_7 with
    | zero => intro m1 f hf0 hf1 hb1 hfr e85 e84 hq1 hs1 hmu; exact absurd hmu (Nat.not_lt_zero _)
    | succ n_7 ih_7 =>
      intro m1 f hf0 hf1 hb1 hfr e85 e84 hq1 hs1 hmu
      have hff := fun z => hdf f hf0 z
      have hff : f < m 8 2 → (0 ≤ m 10 f ∧ m 10 f ≤ 7) ∧ 0 ≤ m 11 f ∧ m 11 f ≤ 5 := fun z => ⟨⟨(hff z).1, (hff z).2.1⟩, (hff z).2.2⟩
      refine go_iload dX4_goOn_7 rfl ?_
      refine go_aload_n dX4_goOn_9 rfl ?_
      refine go_getf_i (ki := 2) dX4_goOn_10 fl_4_112 ob_8 rfl rfl (fun hf_10 => ?_)
      rw [show (m1 8 2 : Int) = (m 8 2) from by rw [hfr.1 8 (by omega)]] at hf_10 ⊢
      refine go_icmp_ge (tgt := 117) dX4_goOn_13 (by decide) ⟨by omega, by omega⟩ ⟨by omega, by omega⟩ (fun h_13 => ?_) (fun h_13 => ?_)
      · exact go_ret (v := 0) rfl dX4_goOn_117 rfl ⟨by have h4 : 4 * f = 4 * m 8 2 := (by omega); rw [h4] at hb1; exact BI_up hb1 hq1, hfr, e85, e84, hs1⟩
      · have hff := hff h_13
        refine go_iload_n dX4_goOn_16 rfl ?_
        refine go_aload_n dX4_goOn_17 rfl ?_
        refine go_getf_p (b := 10) dX4_goOn_18 fl_4_115 ob_8 rfl pt_8_6 ?_
        refine go_iload dX4_goOn_21 rfl ?_
        refine go_iaload dX4_goOn_23 ar_10 (by omega) (by omega) (fun he_23 => ?_)
        rw [show (m1 10 f : Int) = (m 10 f) from by rw [hfr.1 10 (by omega)]] at he_23 ⊢
        refine go_iadd dX4_goOn_24 ?_
        refine go_iconst dX4_goOn_25 ?_
        refine go_iand dX4_goOn_26 ?_
        rw [show (iand (s + (m 10 f)) 3 : Int) = ((s + m 10 f) % 4) from (sh2 (by omega) (by omega)).2]
        refine go_istore (L' := [vr 81, vr 8, vi s, vi (s / 4), vi f, vi ((s + m 10 f) % 4), un, un]) dX4_goOn_27 (by decide) rfl rfl ?_
        refine go_iconst dX4_goOn_29 ?_
        refine go_istore (L' := [vr 81, vr 8, vi s, vi (s / 4), vi f, vi ((s + m 10 f) % 4), vi 0, un]) dX4_goOn_30 (by decide) rfl rfl ?_
        have lp_32 : ∀ (n_32 : Nat) (m2 : Mem) (w : Int) , (0 ≤ w) → (w ≤ 4) → (BIm m m2 F s0 h (4 * f + w)) → (FrS m m2) → (m2 85 = m 85) → (m2 84 = m 84) → (h < m2 81 8) → (m2 88 h = s) → (4 - w).toNat < n_32 → Go 0 2 mX4_goOn (fun r m' => BIm m m' F s0 (h + 1) 0 ∧ FrS m m' ∧ m' 85 = m 85 ∧ m' 84 = m 84 ∧ m' 88 h = s) 32 [vr 81, vr 8, vi s, vi (s / 4), vi f, vi ((s + m 10 f) % 4), vi w, un] [] m2 := by
          intro n_32
          induction n_32 with
          | zero => intro m2 w hw0 hw1 hb2 hfr2 e85b e84b hq2 hs2 hmu; exact absurd hmu (Nat.not_lt_zero _)
          | succ n_32 ih_32 =>
            intro m2 w hw0 hw1 hb2 hfr2 e85b e84b hq2 hs2 hmu
            have hqb := hb2.1
            have hhb := hb2.2.1
            have hfar : -1 ≤ m2 82 s ∧ m2 82 s < 400 := by
              obtain ⟨-, -, G, g1, -⟩ := hb2
              have := g1 h hhb.1 hq2
              rw [hs2] at this
              omega
            have hrun : w < 4 → m2 85 (4 * (s / 4) + w) = runN F (s / 4 % 9) (s / 4 / 9) (dx w) (dy w) := fun hw => by
              have := hr (s / 4 % 9) (s / 4 / 9) w (by omega) hv2 (by omega) hv3 hw0 hw
              rw [show 4 * (9 * (s / 4 / 9) + s / 4 % 9) + w = 4 * (s / 4) + w by omega] at this
              rw [e85b]; exact this
            refine go_iload dX4_goOn_32 rfl ?_
            refine go_iconst dX4_goOn_34 ?_
            refine go_icmp_ge (tgt := 111) dX4_goOn_35 (by decide) ⟨by omega, by omega⟩ ⟨by omega, by omega⟩ (fun h_35 => ?_) (fun h_35 => ?_)
            · refine go_iinc (L' := [vr 81, vr 8, vi s, vi (s / 4), vi (f + 1), vi ((s + m 10 f) % 4), vi w, un]) dX4_goOn_111 rfl (by decide) rfl rfl ?_
              refine go_goto (tgt := 7) dX4_goOn_114 (by decide) ?_
              refine go_drop (j := 5) (L' := [vr 81, vr 8, vi s, vi (s / 4), vi (f + 1), un, vi w, un]) rfl ?_
              refine go_drop (j := 6) (L' := [vr 81, vr 8, vi s, vi (s / 4), vi (f + 1), un, un, un]) rfl ?_
              exact ih_7 m2 (f + 1) (by first | assumption | omega | rfl) (by first | assumption | omega | rfl) (by rw [show 4 * (f + 1) = 4 * f + w by omega]; exact hb2) (by first | assumption | omega | rfl) (by first | assumption | omega | rfl) (by first | assumption | omega | rfl) (by first | assumption | omega | rfl) (by first | assumption | omega | rfl) (by omega)
            · have hrb := runN_b F (s / 4 % 9) (s / 4 / 9) (dx w) (dy w)
              have hdx := dx_b hw0 (by omega)
              have hdy := dy_b hw0 (by omega)
              have hq4 : (4 * f + w) / 4 = f := by omega
              have hq5 : (4 * f + w) % 4 = w := by omega
              refine go_aload_n dX4_goOn_38 rfl ?_
              refine go_getf_p (b := 11) dX4_goOn_39 fl_4_118 ob_8 rfl pt_8_7 ?_
              refine go_iload dX4_goOn_42 rfl ?_
              refine go_iaload dX4_goOn_44 ar_11 (by omega) (by omega) (fun he_44 => ?_)
              rw [show (m2 11 f : Int) = (m 11 f) from by rw [hfr2.1 11 (by omega)]] at he_44 ⊢
              refine go_aload_n dX4_goOn_45 rfl ?_
              refine go_getf_p (b := 85) dX4_goOn_46 fl_4_26 ob_81 rfl pt_81_4 ?_
              refine go_iconst dX4_goOn_49 ?_
              refine go_iload_n dX4_goOn_50 rfl ?_
              refine go_imul dX4_goOn_51 ?_
              refine go_iload dX4_goOn_52 rfl ?_
              refine go_iadd dX4_goOn_54 ?_
              refine go_iaload dX4_goOn_55 ar_85 (by omega) (by omega) (fun he_55 => ?_)
              rw [show (m2 85 ((4 * (s / 4)) + w) : Int) = (runN F (s / 4 % 9) (s / 4 / 9) (dx w) (dy w)) from hrun (by omega)] at he_55 ⊢
              refine go_icmp_gt (tgt := 105) dX4_goOn_56 (by decide) ⟨by omega, by omega⟩ ⟨by omega, by omega⟩ (fun h_56 => ?_) (fun h_56 => ?_)
              · refine go_iinc (L' := [vr 81, vr 8, vi s, vi (s / 4), vi f, vi ((s + m 10 f) % 4), vi (w + 1), un]) dX4_goOn_105 rfl (by decide) rfl rfl ?_
                refine go_goto (tgt := 32) dX4_goOn_108 (by decide) ?_
                exact ih_32 m2 (w + 1) (by first | assumption | omega | rfl) (by first | assumption | omega | rfl) (by
                      rw [show 4 * f + (w + 1) = 4 * f + w + 1 by omega]
                      first
                      | exact k1
                      | (refine BI_no hb2 ?_
                         rw [hs2]
                         unfold nxF
                         rw [hq4, hq5, if_neg]
                         intro hc1
                         have := (runN_le (F := F) (x := s / 4 % 9) (y := s / 4 / 9) (u := dx w) (w := dy w) hff.2.1 hff.2.2).mpr hc1
                         omega)) (by first | assumption | omega | rfl) (by first | assumption | omega | rfl) (by first | assumption | omega | rfl) (by first | assumption | omega | rfl) (by first | assumption | omega | rfl) (by omega)
              · have hc1 := (runN_le (F := F) (x := s / 4 % 9) (y := s / 4 / 9) (u := dx w) (w := dy w) hff.2.1 hff.2.2).mp (by omega)
                have hnx : nxF m 8 F s (4 * f + w) = 4 * (s / 4 + m 11 f * (9 * dy w + dx w)) + (s + m 10 f) % 4 := by
                  unfold nxF
                  rw [hq4, hq5, if_pos hc1]
                have hnv := nxF_c hI hdn (v := 4 * f + w) hvs (by omega) (by omega) (by rw [hq4, hq5]; exact hc1)
                rw [hq4, hq5] at hnv
                have hnv : VS m 8 (4 * (s / 4 + m 11 f * (9 * dy w + dx w)) + (s + m 10 f) % 4) := hnv
                have hmb := mul_b (k := m 11 f) (u := dx w) (by omega) hdx
                have hmb2 := mul_b (k := m 11 f) (u := dy w) (by omega) hdy
                have hme : m 11 f * (9 * dy w + dx w) = 9 * (m 11 f * dy w) + m 11 f * dx w := by rw [Int.mul_add, Int.mul_left_comm]
                have htl : 0 ≤ 4 * (s / 4 + m 11 f * (9 * dy w + dx w)) + (s + m 10 f) % 4 ∧ 4 * (s / 4 + m 11 f * (9 * dy w + dx w)) + (s + m 10 f) % 4 < 324 := ⟨hnv.1, hnv.lt hdn⟩
                refine go_iload_n dX4_goOn_59 rfl ?_
                refine go_aload_n dX4_goOn_60 rfl ?_
                refine go_getf_p (b := 11) dX4_goOn_61 fl_4_118 ob_8 rfl pt_8_7 ?_
                refine go_iload dX4_goOn_64 rfl ?_
                refine go_iaload dX4_goOn_66 ar_11 (by omega) (by omega) (fun he_66 => ?_)
                rw [show (m2 11 f : Int) = (m 11 f) from by rw [hfr2.1 11 (by omega)]] at he_66 ⊢
                refine go_stepX dX4_goOn_67 sl_4_102 ?_
                refine go_iload dX4_goOn_70 rfl ?_
                refine go_dx dX4_goOn_72 (by omega) (by omega) ?_
                refine go_stepY dX4_goOn_73 sl_4_105 ?_
                refine go_iload dX4_goOn_76 rfl ?_
                refine go_dy dX4_goOn_78 (by omega) (by omega) ?_
                refine go_callSp_i (as := [vi (dx w), vi (dy w)]) (S := [vi (m 11 f), vi (s / 4)]) (ev_X11_cellOf (m := m2) (x := (dx w)) (y := (dy w)) (by omega) (by omega)) rfl dX4_goOn_79 cs_4_73 rfl rfl (by decide) (Nat.le_of_ble_eq_true rfl) (fun r_79 hr_79 ho_79 => ?_)
                subst hr_79
                refine go_imul dX4_goOn_82 ?_
                refine go_iadd dX4_goOn_83 ?_
                refine go_istore (L' := [vr 81, vr 8, vi s, vi (s / 4), vi f, vi ((s + m 10 f) % 4), vi w, vi ((s / 4) + ((m 11 f) * (9 * dy w + dx w)))]) dX4_goOn_84 (by decide) rfl rfl ?_
                refine go_aload_n dX4_goOn_86 rfl ?_
                refine go_iconst dX4_goOn_87 ?_
                refine go_iload dX4_goOn_88 rfl ?_
                refine go_imul dX4_goOn_90 ?_
                refine go_iload dX4_goOn_91 rfl ?_
                refine go_iadd dX4_goOn_93 ?_
                refine go_iload_n dX4_goOn_94 rfl ?_
                refine go_iconst dX4_goOn_95 ?_
                refine go_iload dX4_goOn_96 rfl ?_
                refine go_imul dX4_goOn_98 ?_
                refine go_iload dX4_goOn_99 rfl ?_
                refine go_iadd dX4_goOn_101 ?_
                refine go_callV_v (as := [vi ((4 * ((s / 4) + ((m 11 f) * (9 * dy w + dx w)))) + ((s + m 10 f) % 4)), vi s, vi ((4 * f) + w)]) (S := []) (b := 81) (ev_X4_reach (m := m2) (t := ((4 * ((s / 4) + ((m 11 f) * (9 * dy w + dx w)))) + ((s + m 10 f) % 4))) (s := s) (v := ((4 * f) + w)) htl ⟨hs00, hsl⟩ (by first | assumption | omega | exact ⟨by omega, by omega⟩ | (constructor <;> omega)) hfar (by omega)) rfl dX4_goOn_102 cv_4_121 rfl rfl ob_81 rfl (by decide) (Nat.le_of_ble_eq_true rfl) (fun m_102 hr_102 => ?_)
                have hst : BIm m m_102 F s0 h (4 * f + w + 1) ∧ FrS m m_102 ∧ m_102 85 = m 85 ∧ m_102 84 = m 84 ∧ h < m_102 81 8 ∧ m_102 88 h = s := by
                  by_cases e : m2 82 (4 * (s / 4 + m 11 f * (9 * dy w + dx w)) + (s + m 10 f) % 4) = -1
                  · have hroom := BI_room hb2 htl.1 htl.2 e
                    rw [if_pos ⟨e, hroom⟩] at hr_102
                    have hN := BI_new hb2 (by omega) hq2 (by omega) (by omega) (by rw [hs2]; exact hnx) htl e
                    rw [hs2] at hN
                    subst hr_102
                    refine ⟨?_, (((((hfr2.w (by decide) (by decide) (by decide)).w (by decide) (by decide) (by decide)).w (by decide) (by decide) (by decide)).w (by decide) (by decide) (by decide)).q), ?_, ?_, ?_, ?_⟩
                    · unfold BIm
                      have r88 : wr (wr (wr (wr (wr m2 82 (4 * (s / 4 + m 11 f * (9 * dy w + dx w)) + (s + m 10 f) % 4) (m2 82 s + 1)) 86 (4 * (s / 4 + m 11 f * (9 * dy w + dx w)) + (s + m 10 f) % 4) s) 87 (4 * (s / 4 + m 11 f * (9 * dy w + dx w)) + (s + m 10 f) % 4) (4 * f + w)) 88 (m2 81 8) (4 * (s / 4 + m 11 f * (9 * dy w + dx w)) + (s + m 10 f) % 4)) 81 8 (m2 81 8 + 1) = _ := rfl
                      simp (disch := decide) only [wr_row, wr_rowat, wr_self]
                      exact hN
                    · simp (disch := decide) only [wr_row]; exact e85b
                    · simp (disch := decide) only [wr_row]; exact e84b
                    · rw [wr_self]; omega
                    · rw [wr_na (by decide), wr_ni (by omega)]; simp (disch := decide) only [wr_na]; exact hs2
                  · rw [if_neg (fun z => e z.1)] at hr_102
                    have hO := BI_old hb2 (by omega) hq2 (by omega) (by omega) (by rw [hs2, hnx]; exact htl) (by rw [hs2, hnx]; exact e)
                    subst hr_102
                    exact ⟨hO, hfr2, e85b, e84b, hq2, hs2⟩
                obtain ⟨k1, k2, k3, k4, k5, k6⟩ := hst
                refine go_iinc (L' := [vr 81, vr 8, vi s, vi (s / 4), vi f, vi ((s + m 10 f) % 4), vi (w + 1), vi ((s / 4) + ((m 11 f) * (9 * dy w + dx w)))]) dX4_goOn_105 rfl (by decide) rfl rfl ?_
                refine go_goto (tgt := 32) dX4_goOn_108 (by decide) ?_
                refine go_drop (j := 7) (L' := [vr 81, vr 8, vi s, vi (s / 4), vi f, vi ((s + m 10 f) % 4), vi (w + 1), un]) rfl ?_
                exact ih_32 m_102 (w + 1) (by first | assumption | omega | rfl) (by first | assumption | omega | rfl) (by
                      rw [show 4 * f + (w + 1) = 4 * f + w + 1 by omega]
                      first
                      | exact k1
                      | (refine BI_no hb2 ?_
                         rw [hs2]
                         unfold nxF
                         rw [hq4, hq5, if_neg]
                         intro hc1
                         have := (runN_le (F := F) (x := s / 4 % 9) (y := s / 4 / 9) (u := dx w) (w := dy w) hff.2.1 hff.2.2).mpr hc1
                         omega)) (by first | assumption | omega | rfl) (by first | assumption | omega | rfl) (by first | assumption | omega | rfl) (by first | assumption | omega | rfl) (by first | assumption | omega | rfl) (by omega)
        exact lp_32 _ m1 0 (by first | assumption | omega | rfl) (by first | assumption | omega | rfl) (by rw [Int.add_zero]; exact hb1) (by first | assumption | omega | rfl) (by first | assumption | omega | rfl) (by first | assumption | omega | rfl) (by first | assumption | omega | rfl) (by first | assumption | omega | rfl) (Nat.lt_succ_self _)
  exact lp_7 _ m 0 (by first | assumption | omega | rfl) (by first | assumption | omega | rfl) hbi FrS.rf rfl rfl (by first | assumption | omega | rfl) hs.symm (Nat.lt_succ_self _)
