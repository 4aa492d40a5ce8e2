theorem nxF_e {m m' : Mem} {d : Nat} {F : Int → Int → Bool} (h2 : m' (d + 2) = m (d + 2)) (h3 : m' (d + 3) = m (d + 3)) : nxF m' d F = nxF m d F := by
  funext s v
  unfold nxF
  rw [h2, h3]
theorem BIm_e {m m' m1 : Mem} {F : Int → Int → Bool} {s0 h hc : Int} (h8 : m' 8 = m 8) (h2 : m' 10 = m 10) (h3 : m' 11 = m 11) (hb : BIm m m1 F s0 h hc) : BIm m' m1 F s0 h hc := by
  unfold BIm at hb ⊢
  rw [nxF_e (m := m) (d := 8) h2 h3, h8]
  exact hb
def stdC (m : Mem) (p : Int) : Int := 4 * (9 * m 21 p + m 20 p) + m 22 p
def golC (m : Mem) (q : Int) : Int := 4 * (9 * m 16 q + m 15 q) + m 17 q
theorem stdC_v {m : Mem} {p B : Int} (hdn : DnOk m 8) (hst : StOk m 8 18 B) (h0 : 0 ≤ p) (h1 : p < m 8 3) : VS m 8 (stdC m p) := by
  have h := hst.2.2.2.1 p h0 h1
  have hw := hdn.1
  have hx : 0 ≤ m 20 p ∧ m 20 p < m 8 0 := ⟨h.1, h.2.1⟩
  have hy : 0 ≤ m 21 p ∧ m 21 p < m 8 1 := ⟨h.2.2.1, h.2.2.2.1⟩
  have hu : 0 ≤ m 22 p ∧ m 22 p ≤ 3 := ⟨h.2.2.2.2.1, h.2.2.2.2.2.1⟩
  unfold stdC
  refine ⟨by omega, ?_, ?_⟩
  · rw [show (4 * (9 * m 21 p + m 20 p) + m 22 p) / 4 = 9 * m 21 p + m 20 p by omega]; omega
  · rw [show (4 * (9 * m 21 p + m 20 p) + m 22 p) / 4 = 9 * m 21 p + m 20 p by omega]; omega
theorem golC_v {m : Mem} {q : Int} (hdn : DnOk m 8) (h0 : 0 ≤ q) (h1 : q < m 8 4) : VS m 8 (golC m q) := by
  have h := hdn.2.2.2.2.2.2.2 q h0 h1
  have hw := hdn.1
  have hx : 0 ≤ m 15 q ∧ m 15 q < m 8 0 := ⟨h.1, h.2.1⟩
  have hy : 0 ≤ m 16 q ∧ m 16 q < m 8 1 := ⟨h.2.2.1, h.2.2.2.1⟩
  have hu : 0 ≤ m 17 q ∧ m 17 q ≤ 3 := ⟨h.2.2.2.2.1, h.2.2.2.2.2⟩
  unfold golC
  refine ⟨by omega, ?_, ?_⟩
  · rw [show (4 * (9 * m 16 q + m 15 q) + m 17 q) / 4 = 9 * m 16 q + m 15 q by omega]; omega
  · rw [show (4 * (9 * m 16 q + m 15 q) + m 17 q) / 4 = 9 * m 16 q + m 15 q by omega]; omega
theorem BF_rng {nx : Int → Int → Int} {C s0 : Int} {far fr mv : Int → Int} (h : BF nx C s0 far fr mv) {t : Int} (h0 : 0 ≤ t) (h1 : t < 324) : -1 ≤ far t ∧ far t < 324 := by
  rcases h t h0 h1 with h | ⟨a, b, -⟩
  · omega
  · omega
theorem BF_no {nx : Int → Int → Int} {C s0 : Int} {far fr mv : Int → Int} (h : BF nx C s0 far fr mv) {t : Int} (h0 : 0 ≤ t) (h1 : t < 324) (e : far t = -1) : ∀ n K : Nat, ¬ Rch nx C s0 n t K := by
  rcases h t h0 h1 with h | ⟨a, b, -⟩
  · exact h.2
  · omega
theorem BF_bst {nx : Int → Int → Int} {C s0 : Int} {far fr mv : Int → Int} (h : BF nx C s0 far fr mv) {t : Int} (h0 : 0 ≤ t) (h1 : t < 324) (e : far t ≠ -1) : 0 ≤ far t ∧ ∃ K, Bst nx C s0 (far t).toNat t K := by
  rcases h t h0 h1 with h | ⟨a, b, K, hK, -⟩
  · exact absurd h.1 e
  · exact ⟨a, K, hK⟩
def KwI (nx : Int → Int → Int) (C s0 k w : Int) (row : Int → Int) (n : Nat) (Kg : Nat) : Prop := ∃ Kw : Nat, Bst nx C s0 (k + 1).toNat w Kw ∧ ext Kw row (k + 1) n = Kg
def SpPost (m m' : Mem) (p a : Int) : Prop := BF (nx8 m p a) (4 * m 8 2) (stdC m p) (m' 82) (m' 86) (m' 87) ∧ FrS m m'
abbrev seenB (f : Int → Int) (c : Int) : Bool := decide (fnd (fun u => decide (f (4 * c + u) ≠ -1)) 4 ≠ -1)
def KwPost (m : Mem) (nx : Int → Int → Int) (C s0 t r : Int) (m' : Mem) : Prop := (m 82 t = -1 ∧ r = -1 ∧ m' = m) ∨ (m 82 t ≠ -1 ∧ ∃ n : Nat, n < 324 ∧ r = (n : Int) ∧ m' 81 2 = (n : Int) ∧ Bst nx C s0 n t (ext 1 (m' 83) 0 n) ∧ (∀ k : Int, 0 ≤ k → k < (n : Int) → 0 ≤ m' 83 k ∧ m' 83 k < C) ∧ ∀ b : Nat, b ≠ 81 → b ≠ 83 → m' b = m b)
abbrev Rch8 (m : Mem) (p a : Int) (n : Nat) (t : Int) (K : Nat) : Prop := Rch (nx8 m p a) (4 * m 8 2) (stdC m p) n t K
abbrev Bst8 (m : Mem) (p a : Int) (n : Nat) (t : Int) (K : Nat) : Prop := Bst (nx8 m p a) (4 * m 8 2) (stdC m p) n t K
def WyPost (m : Mem) (p q r : Int) (m' : Mem) : Prop := (¬ ((0 ≤ p ∧ p < m 8 3) ∧ 0 ≤ q ∧ q < m 8 4) ∧ r = -1 ∧ m' = m) ∨ (((0 ≤ p ∧ p < m 8 3) ∧ 0 ≤ q ∧ q < m 8 4) ∧ (∀ b : Nat, b < 81 ∨ 89 ≤ b → m' b = m b) ∧
  ((r = -1 ∧ (∀ n K : Nat, ¬ Rch8 m p (-1) n (golC m q) K) ∧ m' 81 2 = m 81 2 ∧ m' 83 = m 83) ∨
   (∃ n : Nat, n < 324 ∧ r = (n : Int) ∧ m' 81 2 = (n : Int) ∧ Bst8 m p (-1) n (golC m q) (ext 1 (m' 83) 0 n) ∧ ∀ k : Int, 0 ≤ k → k < (n : Int) → 0 ≤ m' 83 k ∧ m' 83 k < 4 * m 8 2)))
def BoPost (m : Mem) (p o q r : Int) (m' : Mem) : Prop := (¬ ((0 ≤ p ∧ p < m 8 3) ∧ (0 ≤ o ∧ o < m 8 3) ∧ p ≠ o ∧ 0 ≤ q ∧ q < m 8 4) ∧ r = -1 ∧ m' = m) ∨ (((0 ≤ p ∧ p < m 8 3) ∧ (0 ≤ o ∧ o < m 8 3) ∧ p ≠ o ∧ 0 ≤ q ∧ q < m 8 4) ∧ FrS m m' ∧
  ((∃ n1 K1 n2 K2 : Nat, Bst8 m p o n1 (golC m q) K1 ∧ Bst8 m o p n2 (golC m q) K2 ∧ r = max (n1 : Int) n2) ∨ (r = -1 ∧ ((∀ n K : Nat, ¬ Rch8 m p o n (golC m q) K) ∨ (∀ n K : Nat, ¬ Rch8 m o p n (golC m q) K)))))
def SsPost (m : Mem) (p r : Int) (m' : Mem) : Prop := (¬ (0 ≤ p ∧ p < m 8 3) ∧ r = -1 ∧ m' = m) ∨ ((0 ≤ p ∧ p < m 8 3) ∧ FrS m m' ∧ ∃ P : Int → Bool, (∀ c : Int, 0 ≤ c → c < 81 → (P c = true ↔ ∃ (u : Int) (n K : Nat), 0 ≤ u ∧ u < 4 ∧ Rch8 m p (-1) n (4 * c + u) K)) ∧ r = cntI P 81)
theorem SpPost.e {m m1 m' : Mem} {p a : Int} (h : FrS m m1) (hs : SpPost m1 m' p a) : SpPost m m' p a := by
  have e : nx8 m1 p a = nx8 m p a := by
    unfold nx8
    have ef : freeB m1 8 18 p a = freeB m 8 18 p a := by
      funext x y
      unfold freeB insC
      rw [h.1 8 (by omega), h.1 (18 + 1) (by omega), h.1 (18 + 2) (by omega), h.1 (18 + 3) (by omega)]
    rw [ef]
    exact nxF_e (h.1 10 (by omega)) (h.1 11 (by omega))
  refine ⟨?_, h.tr hs.2⟩
  have := hs.1
  rw [e, h.1 8 (by omega)] at this
  unfold stdC at this ⊢
  rw [h.1 20 (by omega), h.1 21 (by omega), h.1 22 (by omega)] at this
  exact this

theorem dX4_spread_0 : decode mX4_spread.2.1 0 = .ok (.aload_n 0, 1) := by decide +kernel
theorem dX4_spread_1 : decode mX4_spread.2.1 1 = .ok (.aload_n 1, 1) := by decide +kernel
theorem dX4_spread_2 : decode mX4_spread.2.1 2 = .ok (.iload_n 2, 1) := by decide +kernel
theorem dX4_spread_3 : decode mX4_spread.2.1 3 = .ok (.iload_n 3, 1) := by decide +kernel
theorem dX4_spread_4 : decode mX4_spread.2.1 4 = .ok (.invokevirtual 41, 3) := by decide +kernel
theorem dX4_spread_7 : decode mX4_spread.2.1 7 = .ok (.aload_n 0, 1) := by decide +kernel
theorem dX4_spread_8 : decode mX4_spread.2.1 8 = .ok (.aload_n 1, 1) := by decide +kernel
theorem dX4_spread_9 : decode mX4_spread.2.1 9 = .ok (.getfield 45, 3) := by decide +kernel
theorem dX4_spread_12 : decode mX4_spread.2.1 12 = .ok (.invokevirtual 51, 3) := by decide +kernel
theorem dX4_spread_15 : decode mX4_spread.2.1 15 = .ok (.aload_n 0, 1) := by decide +kernel
theorem dX4_spread_16 : decode mX4_spread.2.1 16 = .ok (.getfield 9, 3) := by decide +kernel
theorem dX4_spread_19 : decode mX4_spread.2.1 19 = .ok (.iconst (-1), 1) := by decide +kernel
theorem dX4_spread_20 : decode mX4_spread.2.1 20 = .ok (.invokestatic 55, 3) := by decide +kernel
theorem dX4_spread_23 : decode mX4_spread.2.1 23 = .ok (.iconst 4, 1) := by decide +kernel
theorem dX4_spread_24 : decode mX4_spread.2.1 24 = .ok (.aload_n 1, 1) := by decide +kernel
theorem dX4_spread_25 : decode mX4_spread.2.1 25 = .ok (.getfield 61, 3) := by decide +kernel
theorem dX4_spread_28 : decode mX4_spread.2.1 28 = .ok (.getfield 65, 3) := by decide +kernel
theorem dX4_spread_31 : decode mX4_spread.2.1 31 = .ok (.iload_n 2, 1) := by decide +kernel
theorem dX4_spread_32 : decode mX4_spread.2.1 32 = .ok (.iaload, 1) := by decide +kernel
theorem dX4_spread_33 : decode mX4_spread.2.1 33 = .ok (.aload_n 1, 1) := by decide +kernel
theorem dX4_spread_34 : decode mX4_spread.2.1 34 = .ok (.getfield 61, 3) := by decide +kernel
theorem dX4_spread_37 : decode mX4_spread.2.1 37 = .ok (.getfield 70, 3) := by decide +kernel
theorem dX4_spread_40 : decode mX4_spread.2.1 40 = .ok (.iload_n 2, 1) := by decide +kernel
theorem dX4_spread_41 : decode mX4_spread.2.1 41 = .ok (.iaload, 1) := by decide +kernel
theorem dX4_spread_42 : decode mX4_spread.2.1 42 = .ok (.invokestatic 73, 3) := by decide +kernel
theorem dX4_spread_45 : decode mX4_spread.2.1 45 = .ok (.imul, 1) := by decide +kernel
theorem dX4_spread_46 : decode mX4_spread.2.1 46 = .ok (.aload_n 1, 1) := by decide +kernel
theorem dX4_spread_47 : decode mX4_spread.2.1 47 = .ok (.getfield 61, 3) := by decide +kernel
theorem dX4_spread_50 : decode mX4_spread.2.1 50 = .ok (.getfield 77, 3) := by decide +kernel
theorem dX4_spread_53 : decode mX4_spread.2.1 53 = .ok (.iload_n 2, 1) := by decide +kernel
theorem dX4_spread_54 : decode mX4_spread.2.1 54 = .ok (.iaload, 1) := by decide +kernel
theorem dX4_spread_55 : decode mX4_spread.2.1 55 = .ok (.iadd, 1) := by decide +kernel
theorem dX4_spread_56 : decode mX4_spread.2.1 56 = .ok (.istore 4, 2) := by decide +kernel
theorem dX4_spread_58 : decode mX4_spread.2.1 58 = .ok (.aload_n 0, 1) := by decide +kernel
theorem dX4_spread_59 : decode mX4_spread.2.1 59 = .ok (.getfield 9, 3) := by decide +kernel
theorem dX4_spread_62 : decode mX4_spread.2.1 62 = .ok (.iload 4, 2) := by decide +kernel
theorem dX4_spread_64 : decode mX4_spread.2.1 64 = .ok (.iconst 0, 1) := by decide +kernel
theorem dX4_spread_65 : decode mX4_spread.2.1 65 = .ok (.iastore, 1) := by decide +kernel
theorem dX4_spread_66 : decode mX4_spread.2.1 66 = .ok (.aload_n 0, 1) := by decide +kernel
theorem dX4_spread_67 : decode mX4_spread.2.1 67 = .ok (.getfield 35, 3) := by decide +kernel
theorem dX4_spread_70 : decode mX4_spread.2.1 70 = .ok (.iconst 0, 1) := by decide +kernel
theorem dX4_spread_71 : decode mX4_spread.2.1 71 = .ok (.iload 4, 2) := by decide +kernel
theorem dX4_spread_73 : decode mX4_spread.2.1 73 = .ok (.iastore, 1) := by decide +kernel
theorem dX4_spread_74 : decode mX4_spread.2.1 74 = .ok (.aload_n 0, 1) := by decide +kernel
theorem dX4_spread_75 : decode mX4_spread.2.1 75 = .ok (.iconst 1, 1) := by decide +kernel
theorem dX4_spread_76 : decode mX4_spread.2.1 76 = .ok (.putfield 38, 3) := by decide +kernel
theorem dX4_spread_79 : decode mX4_spread.2.1 79 = .ok (.iconst 0, 1) := by decide +kernel
theorem dX4_spread_80 : decode mX4_spread.2.1 80 = .ok (.istore 5, 2) := by decide +kernel
theorem dX4_spread_82 : decode mX4_spread.2.1 82 = .ok (.iload 5, 2) := by decide +kernel
theorem dX4_spread_84 : decode mX4_spread.2.1 84 = .ok (.aload_n 0, 1) := by decide +kernel
theorem dX4_spread_85 : decode mX4_spread.2.1 85 = .ok (.getfield 38, 3) := by decide +kernel
theorem dX4_spread_88 : decode mX4_spread.2.1 88 = .ok (.if_icmp .ge 32, 3) := by decide +kernel
theorem dX4_spread_91 : decode mX4_spread.2.1 91 = .ok (.iload 5, 2) := by decide +kernel
theorem dX4_spread_93 : decode mX4_spread.2.1 93 = .ok (.sipush 324, 3) := by decide +kernel
theorem dX4_spread_96 : decode mX4_spread.2.1 96 = .ok (.if_icmp .ge 24, 3) := by decide +kernel
theorem dX4_spread_99 : decode mX4_spread.2.1 99 = .ok (.aload_n 0, 1) := by decide +kernel
theorem dX4_spread_100 : decode mX4_spread.2.1 100 = .ok (.aload_n 1, 1) := by decide +kernel
theorem dX4_spread_101 : decode mX4_spread.2.1 101 = .ok (.getfield 45, 3) := by decide +kernel
theorem dX4_spread_104 : decode mX4_spread.2.1 104 = .ok (.aload_n 0, 1) := by decide +kernel
theorem dX4_spread_105 : decode mX4_spread.2.1 105 = .ok (.getfield 35, 3) := by decide +kernel
theorem dX4_spread_108 : decode mX4_spread.2.1 108 = .ok (.iload 5, 2) := by decide +kernel
theorem dX4_spread_110 : decode mX4_spread.2.1 110 = .ok (.iaload, 1) := by decide +kernel
theorem dX4_spread_111 : decode mX4_spread.2.1 111 = .ok (.invokevirtual 80, 3) := by decide +kernel
theorem dX4_spread_114 : decode mX4_spread.2.1 114 = .ok (.iinc 5 1, 3) := by decide +kernel
theorem dX4_spread_117 : decode mX4_spread.2.1 117 = .ok (.goto (-35), 3) := by decide +kernel
theorem dX4_spread_120 : decode mX4_spread.2.1 120 = .ok (.return_, 1) := by decide +kernel
set_option maxRecDepth 4000 in
theorem ev_X4_spread {m : Mem} {p : Int} {a : Int} {B : Int} (hdn : DnOk m 8) (hst : StOk m 8 18 B) (hp : 0 ≤ p ∧ p < m 8 3) (ha : InR a) : Ev 0 4 mX4_spread [vr 81, vr 7, vi p, vi a] m (fun r m' => SpPost m m' p a) := by
  refine Ev.of (L := [vr 81, vr 7, vi p, vi a, un, un]) (by decide +kernel) rfl (Nat.le_of_ble_eq_true rfl) rfl (fun t ht => by cases ht) (fun hcan => ?_)
  obtain ⟨⟨hd0, hd1⟩, ⟨hd2, hd3⟩, ⟨hd4, hd5⟩, ⟨hd6, hd7⟩, ⟨hd8, hd9⟩, hdf, hdp, hdq⟩ := id hdn
  obtain ⟨⟨hs0, hs1⟩, ⟨hs2, hs3⟩, hsw, hsp, hsd, hsz⟩ := id hst
  have hpp := hsp p hp.1 hp.2
  have hpp : (0 ≤ m 20 p ∧ m 20 p < m 8 0) ∧ (0 ≤ m 21 p ∧ m 21 p < m 8 1) ∧ 0 ≤ m 22 p ∧ m 22 p ≤ 3 := ⟨⟨hpp.1, hpp.2.1⟩, ⟨hpp.2.2.1, hpp.2.2.2.1⟩, hpp.2.2.2.2.1, hpp.2.2.2.2.2.1⟩
  have hvs := stdC_v hdn hst hp.1 hp.2
  have hsl := hvs.lt hdn
  have hs00 := hvs.1
  have hIm : ∀ x y : Int, freeB m 8 18 p a x y = true → insC m 8 x y := fun x y h => freeB_in h
  refine go_aload_n dX4_spread_0 rfl ?_
  refine go_aload_n dX4_spread_1 rfl ?_
  refine go_iload_n dX4_spread_2 rfl ?_
  refine go_iload_n dX4_spread_3 rfl ?_
  refine go_callV_v (as := [vr 7, vi p, vi a]) (S := []) (b := 81) (ev_X4_shutCells (m := m) (p := p) (a := a) (B := B) (by first | assumption | omega | exact ⟨by omega, by omega⟩ | (constructor <;> omega)) (by first | assumption | omega | exact ⟨by omega, by omega⟩ | (constructor <;> omega)) (by first | assumption | omega | exact ⟨by omega, by omega⟩ | (constructor <;> omega)) (by first | assumption | omega | exact ⟨by omega, by omega⟩ | (constructor <;> omega))) rfl dX4_spread_4 cv_4_41 rfl rfl ob_81 rfl (by decide) (Nat.le_of_ble_eq_true rfl) (fun m_4 hr_4 => ?_)
  refine go_aload_n dX4_spread_7 rfl ?_
  refine go_aload_n dX4_spread_8 rfl ?_
  refine go_getf_p (b := 8) dX4_spread_9 fl_4_45 ob_7 rfl pt_7_0 ?_
  refine go_callV_v (as := [vr 8]) (S := []) (b := 81) (ev_X4_measureRuns (m := m_4) (F := (freeB m 8 18 p a)) (hr_4.2.dn hdn) (fun x y hi => by
        unfold insC at hi
        rw [hr_4.2.1 8 (by omega)] at hi
        rw [hr_4.1 (9 * y + x) (by omega) (by omega)]
        exact shut_free hdn hst hi) (by unfold insC; rw [hr_4.2.1 8 (by omega)]; exact hIm)) rfl dX4_spread_12 cv_4_51 rfl rfl ob_81 rfl (by decide) (Nat.le_of_ble_eq_true rfl) (fun m_12 hr_12 => ?_)
  have hf12 : FrS m m_12 := ⟨fun b hb => by rw [hr_12.2 b (by omega)]; exact hr_4.2.1 b hb, fun j hj => by rw [hr_12.2 81 (by decide)]; exact hr_4.2.2 j hj⟩
  have hRn : ∀ x y s : Int, 0 ≤ x → x < m 8 0 → 0 ≤ y → y < m 8 1 → 0 ≤ s → s < 4 → m_12 85 (4 * (9 * y + x) + s) = runN (freeB m 8 18 p a) x y (dx s) (dy s) := fun x y s a b c d e f => hr_12.1 x y s a (by rw [hr_4.2.1 8 (by omega)]; exact b) c (by rw [hr_4.2.1 8 (by omega)]; exact d) e f
  refine go_aload_n dX4_spread_15 rfl ?_
  refine go_getf_p (b := 82) dX4_spread_16 fl_4_9 ob_81 rfl pt_81_0 ?_
  refine go_iconst dX4_spread_19 ?_
  refine go_callS_v (as := [vr 82, vi (-1)]) (S := []) (ev_J7_fill_53178 (m := m_12) (a := 82) (x := (-1)) (n := 324) ar_82 (by first | assumption | omega | exact ⟨by omega, by omega⟩ | (constructor <;> omega))) rfl dX4_spread_20 cs_4_55 rfl rfl (by decide) (Nat.le_of_ble_eq_true rfl) (fun m_20 hr_20 => ?_)
  have hr_20 : m_20 = (fill m_12 82 324 (-1)) := hr_20
  subst hr_20
  have hrf : ∀ b : Nat, b ≠ 82 → (fill m_12 82 324 (-1)) b = m_12 b := fun b hb => by funext j; unfold fill; rw [if_neg (fun h => hb h.1)]
  refine go_iconst dX4_spread_23 ?_
  refine go_aload_n dX4_spread_24 rfl ?_
  refine go_getf_p (b := 18) dX4_spread_25 fl_4_61 ob_7 rfl pt_7_1 ?_
  refine go_getf_p (b := 20) dX4_spread_28 fl_4_65 ob_18 rfl pt_18_3 ?_
  refine go_iload_n dX4_spread_31 rfl ?_
  refine go_iaload dX4_spread_32 ar_20 (by omega) (by omega) (fun he_32 => ?_)
  rw [show ((fill m_12 82 324 (-1)) 20 p : Int) = (m 20 p) from by rw [hrf 20 (by decide), hf12.1 20 (by omega)]] at he_32 ⊢
  refine go_aload_n dX4_spread_33 rfl ?_
  refine go_getf_p (b := 18) dX4_spread_34 fl_4_61 ob_7 rfl pt_7_1 ?_
  refine go_getf_p (b := 21) dX4_spread_37 fl_4_70 ob_18 rfl pt_18_4 ?_
  refine go_iload_n dX4_spread_40 rfl ?_
  refine go_iaload dX4_spread_41 ar_21 (by omega) (by omega) (fun he_41 => ?_)
  rw [show ((fill m_12 82 324 (-1)) 21 p : Int) = (m 21 p) from by rw [hrf 21 (by decide), hf12.1 21 (by omega)]] at he_41 ⊢
  refine go_callSp_i (as := [vi (m 20 p), vi (m 21 p)]) (S := [vi 4]) (ev_X11_cellOf (m := (fill m_12 82 324 (-1))) (x := (m 20 p)) (y := (m 21 p)) (by first | assumption | omega | exact ⟨by omega, by omega⟩ | (constructor <;> omega)) (by first | assumption | omega | exact ⟨by omega, by omega⟩ | (constructor <;> omega))) rfl dX4_spread_42 cs_4_73 rfl rfl (by decide) (Nat.le_of_ble_eq_true rfl) (fun r_42 hr_42 ho_42 => ?_)
  subst hr_42
  refine go_imul dX4_spread_45 ?_
  refine go_aload_n dX4_spread_46 rfl ?_
  refine go_getf_p (b := 18) dX4_spread_47 fl_4_61 ob_7 rfl pt_7_1 ?_
  refine go_getf_p (b := 22) dX4_spread_50 fl_4_77 ob_18 rfl pt_18_5 ?_
  refine go_iload_n dX4_spread_53 rfl ?_
  refine go_iaload dX4_spread_54 ar_22 (by omega) (by omega) (fun he_54 => ?_)
  rw [show ((fill m_12 82 324 (-1)) 22 p : Int) = (m 22 p) from by rw [hrf 22 (by decide), hf12.1 22 (by omega)]] at he_54 ⊢
  refine go_iadd dX4_spread_55 ?_
  rw [show ((4 * (9 * m 21 p + m 20 p)) + (m 22 p) : Int) = (stdC m p) from rfl]
  refine go_istore (L' := [vr 81, vr 7, vi p, vi a, vi (stdC m p), un]) dX4_spread_56 (by decide) rfl rfl ?_
  refine go_aload_n dX4_spread_58 rfl ?_
  refine go_getf_p (b := 82) dX4_spread_59 fl_4_9 ob_81 rfl pt_81_0 ?_
  refine go_iload dX4_spread_62 rfl ?_
  refine go_iconst dX4_spread_64 ?_
  refine go_iastore dX4_spread_65 ar_82 (by omega) (by omega) ⟨by omega, by omega⟩ ?_
  refine go_aload_n dX4_spread_66 rfl ?_
  refine go_getf_p (b := 88) dX4_spread_67 fl_4_35 ob_81 rfl pt_81_7 ?_
  refine go_iconst dX4_spread_70 ?_
  refine go_iload dX4_spread_71 rfl ?_
  refine go_iastore dX4_spread_73 ar_88 (by omega) (by omega) ⟨by omega, by omega⟩ ?_
  refine go_aload_n dX4_spread_74 rfl ?_
  refine go_iconst dX4_spread_75 ?_
  refine go_putf_i (ki := 8) dX4_spread_76 fw_4_38 ob_81 rfl rfl ⟨by omega, by omega⟩ ?_
  refine go_iconst dX4_spread_79 ?_
  refine go_istore (L' := [vr 81, vr 7, vi p, vi a, vi (stdC m p), vi 0]) dX4_spread_80 (by decide) rfl rfl ?_
  refine go_drop (j := 2) (L' := [vr 81, vr 7, un, vi a, vi (stdC m p), vi 0]) rfl ?_
  refine go_drop (j := 3) (L' := [vr 81, vr 7, un, un, vi (stdC m p), vi 0]) rfl ?_
  refine go_drop (j := 4) (L' := [vr 81, vr 7, un, un, un, vi 0]) rfl ?_
  have lp_82 : ∀ (n_82 : Nat) (m1 : Mem) (h : Int) , (0 ≤ h) → (BIm m m1 (freeB m 8 18 p a) (stdC m p) h 0) → (FrS m m1) → (m1 85 = m_12 85) → (324 - h).toNat < n_82 → Go 0 4 mX4_spread (fun r m' => SpPost m m' p a) 82 [vr 81, vr 7, un, un, un, vi h] [] m1 := by
    intro n_82
    induction n_82 with
    | zero => intro m1 h hh0 hb hfr e85 hmu; exact absurd hmu (Nat.not_lt_zero _)
    | succ n_82 ih_82 =>
      intro m1 h hh0 hb hfr e85 hmu
      have hqb := hb.1
      have hhb := hb.2.1
      have hqv : ∀ i : Int, 0 ≤ i → i < m1 81 8 → VS m 8 (m1 88 i) ∧ True := fun i a b => by
        obtain ⟨-, -, G, g1, -⟩ := hb
        exact ⟨Rch_v hIm hdn hvs _ _ _ (g1 i a b).2.2, trivial⟩
      have hqv : ∀ i : Int, 0 ≤ i → i < m1 81 8 → VS m 8 (m1 88 i) := fun i a b => (hqv i a b).1
      refine go_iload dX4_spread_82 rfl ?_
      refine go_aload_n dX4_spread_84 rfl ?_
      refine go_getf_i (ki := 8) dX4_spread_85 fl_4_38 ob_81 rfl rfl (fun hf_85 => ?_)
      refine go_icmp_ge (tgt := 120) dX4_spread_88 (by decide) ⟨by omega, by omega⟩ ⟨by omega, by omega⟩ (fun h_88 => ?_) (fun h_88 => ?_)
      · refine go_ret (v := 0) rfl dX4_spread_120 rfl ?_
        have eh : h = m1 81 8 := by omega
        refine ⟨?_, hfr⟩
        have hb' := hb
        unfold BIm at hb'
        rw [eh] at hb'
        exact BI_fin hb' (by omega) (fun s c s0 s1 hR c0 c1 hn => by
          obtain ⟨n, K, hR⟩ := hR
          have h2 := nxF_v hIm hdn (Rch_v hIm hdn hvs _ _ _ hR) c0 c1 hn
          exact ⟨h2.1, h2.lt hdn⟩)
      · refine go_iload dX4_spread_91 rfl ?_
        refine go_sipush dX4_spread_93 (by decide) ?_
        refine go_icmp_ge (tgt := 120) dX4_spread_96 (by decide) ⟨by omega, by omega⟩ ⟨by omega, by omega⟩ (fun h_96 => ?_) (fun h_96 => ?_)
        · refine go_ret (v := 0) rfl dX4_spread_120 rfl ?_
          have eh : h = m1 81 8 := by omega
          refine ⟨?_, hfr⟩
          have hb' := hb
          unfold BIm at hb'
          rw [eh] at hb'
          exact BI_fin hb' (by omega) (fun s c s0 s1 hR c0 c1 hn => by
            obtain ⟨n, K, hR⟩ := hR
            have h2 := nxF_v hIm hdn (Rch_v hIm hdn hvs _ _ _ hR) c0 c1 hn
            exact ⟨h2.1, h2.lt hdn⟩)
        · refine go_aload_n dX4_spread_99 rfl ?_
          refine go_aload_n dX4_spread_100 rfl ?_
          refine go_getf_p (b := 8) dX4_spread_101 fl_4_45 ob_7 rfl pt_7_0 ?_
          refine go_aload_n dX4_spread_104 rfl ?_
          refine go_getf_p (b := 88) dX4_spread_105 fl_4_35 ob_81 rfl pt_81_7 ?_
          refine go_iload dX4_spread_108 rfl ?_
          refine go_iaload dX4_spread_110 ar_88 (by omega) (by omega) (fun he_110 => ?_)
          refine go_callV_v (as := [vr 8, vi (m1 88 h)]) (S := []) (b := 81) (ev_X4_goOn (m := m1) (s := (m1 88 h)) (F := (freeB m 8 18 p a)) (s0 := (stdC m p)) (h := h) (m0 := m) (hfr.dn hdn) (by unfold insC; rw [hfr.1 8 (by omega)]; exact hIm) (fun x y s a b c d e f => by rw [hfr.1 8 (by omega)] at b d; rw [e85]; exact hRn x y s a b c d e f) (BIm_e (hfr.1 8 (by omega)) (hfr.1 10 (by omega)) (hfr.1 11 (by omega)) hb) h_88 rfl (by have hq := hqv h hh0 h_88; unfold VS at hq ⊢; rw [hfr.1 8 (by omega)]; exact hq)) rfl dX4_spread_111 cv_4_80 rfl rfl ob_81 rfl (by decide) (Nat.le_of_ble_eq_true rfl) (fun m_111 hr_111 => ?_)
          have hb2 : BIm m m_111 (freeB m 8 18 p a) (stdC m p) (h + 1) 0 := BIm_e (hfr.1 8 (by omega)).symm (hfr.1 10 (by omega)).symm (hfr.1 11 (by omega)).symm hr_111.1
          refine go_iinc (L' := [vr 81, vr 7, un, un, un, vi (h + 1)]) dX4_spread_114 rfl (by decide) rfl rfl ?_
          refine go_goto (tgt := 82) dX4_spread_117 (by decide) ?_
          exact ih_82 m_111 (h + 1) (by first | assumption | omega | rfl) hb2 (hfr.tr hr_111.2.1) (hr_111.2.2.1.trans e85) (by omega)
  exact lp_82 _ (wr (wr (wr (fill m_12 82 324 (-1)) 82 (stdC m p) 0) 88 0 (stdC m p)) 81 8 1) 0 (by first | assumption | omega | rfl) (by
        unfold BIm
        rw [show (wr (wr (wr (fill m_12 82 324 (-1)) 82 (stdC m p) 0) 88 0 (stdC m p)) 81 8 1) 81 8 = 1 from wr_self _ _ _ _]
        refine BI_start (X := fun _ => 0) ⟨hs00, hsl⟩ ?_ (fun s a b => ?_)
        · rw [wr_na (by decide), wr_self]
        · rw [wr_na (by decide), wr_na (by decide)]
          by_cases e : s = stdC m p
          · rw [e, wr_self, if_pos rfl]
          · rw [wr_ni e, if_neg e]; unfold fill; rw [if_pos ⟨rfl, a, b⟩]) (FrS.q (FrS.w (FrS.w ⟨fun b hb => by rw [hrf b (by omega)]; exact hf12.1 b hb, fun j hj => by rw [hrf 81 (by decide)]; exact hf12.2 j hj⟩ (by decide) (by decide) (by decide)) (by decide) (by decide) (by decide))) (by rw [wr_row (by decide), wr_row (by decide), wr_row (by decide), hrf 85 (by decide)]) (Nat.lt_succ_self _)
theorem dX4_keepWayTo_0 : decode mX4_keepWayTo.2.1 0 = .ok (.aload_n 0, 1) := by decide +kernel
theorem dX4_keepWayTo_1 : decode mX4_keepWayTo.2.1 1 = .ok (.getfield 9, 3) := by decide +kernel
theorem dX4_keepWayTo_4 : decode mX4_keepWayTo.2.1 4 = .ok (.iload_n 1, 1) := by decide +kernel
theorem dX4_keepWayTo_5 : decode mX4_keepWayTo.2.1 5 = .ok (.iaload, 1) := by decide +kernel
theorem dX4_keepWayTo_6 : decode mX4_keepWayTo.2.1 6 = .ok (.iconst (-1), 1) := by decide +kernel
theorem dX4_keepWayTo_7 : decode mX4_keepWayTo.2.1 7 = .ok (.if_icmp .ne 5, 3) := by decide +kernel
theorem dX4_keepWayTo_10 : decode mX4_keepWayTo.2.1 10 = .ok (.iconst (-1), 1) := by decide +kernel
theorem dX4_keepWayTo_11 : decode mX4_keepWayTo.2.1 11 = .ok (.ireturn, 1) := by decide +kernel
theorem dX4_keepWayTo_12 : decode mX4_keepWayTo.2.1 12 = .ok (.aload_n 0, 1) := by decide +kernel
theorem dX4_keepWayTo_13 : decode mX4_keepWayTo.2.1 13 = .ok (.aload_n 0, 1) := by decide +kernel
theorem dX4_keepWayTo_14 : decode mX4_keepWayTo.2.1 14 = .ok (.getfield 9, 3) := by decide +kernel
theorem dX4_keepWayTo_17 : decode mX4_keepWayTo.2.1 17 = .ok (.iload_n 1, 1) := by decide +kernel
theorem dX4_keepWayTo_18 : decode mX4_keepWayTo.2.1 18 = .ok (.iaload, 1) := by decide +kernel
theorem dX4_keepWayTo_19 : decode mX4_keepWayTo.2.1 19 = .ok (.putfield 18, 3) := by decide +kernel
theorem dX4_keepWayTo_22 : decode mX4_keepWayTo.2.1 22 = .ok (.iload_n 1, 1) := by decide +kernel
theorem dX4_keepWayTo_23 : decode mX4_keepWayTo.2.1 23 = .ok (.istore_n 2, 1) := by decide +kernel
theorem dX4_keepWayTo_24 : decode mX4_keepWayTo.2.1 24 = .ok (.aload_n 0, 1) := by decide +kernel
theorem dX4_keepWayTo_25 : decode mX4_keepWayTo.2.1 25 = .ok (.getfield 18, 3) := by decide +kernel
theorem dX4_keepWayTo_28 : decode mX4_keepWayTo.2.1 28 = .ok (.iconst 1, 1) := by decide +kernel
theorem dX4_keepWayTo_29 : decode mX4_keepWayTo.2.1 29 = .ok (.isub, 1) := by decide +kernel
theorem dX4_keepWayTo_30 : decode mX4_keepWayTo.2.1 30 = .ok (.istore_n 3, 1) := by decide +kernel
theorem dX4_keepWayTo_31 : decode mX4_keepWayTo.2.1 31 = .ok (.iload_n 3, 1) := by decide +kernel
theorem dX4_keepWayTo_32 : decode mX4_keepWayTo.2.1 32 = .ok (.ifCond .lt 28, 3) := by decide +kernel
theorem dX4_keepWayTo_35 : decode mX4_keepWayTo.2.1 35 = .ok (.aload_n 0, 1) := by decide +kernel
theorem dX4_keepWayTo_36 : decode mX4_keepWayTo.2.1 36 = .ok (.getfield 15, 3) := by decide +kernel
theorem dX4_keepWayTo_39 : decode mX4_keepWayTo.2.1 39 = .ok (.iload_n 3, 1) := by decide +kernel
theorem dX4_keepWayTo_40 : decode mX4_keepWayTo.2.1 40 = .ok (.aload_n 0, 1) := by decide +kernel
theorem dX4_keepWayTo_41 : decode mX4_keepWayTo.2.1 41 = .ok (.getfield 32, 3) := by decide +kernel
theorem dX4_keepWayTo_44 : decode mX4_keepWayTo.2.1 44 = .ok (.iload_n 2, 1) := by decide +kernel
theorem dX4_keepWayTo_45 : decode mX4_keepWayTo.2.1 45 = .ok (.iaload, 1) := by decide +kernel
theorem dX4_keepWayTo_46 : decode mX4_keepWayTo.2.1 46 = .ok (.iastore, 1) := by decide +kernel
theorem dX4_keepWayTo_47 : decode mX4_keepWayTo.2.1 47 = .ok (.aload_n 0, 1) := by decide +kernel
theorem dX4_keepWayTo_48 : decode mX4_keepWayTo.2.1 48 = .ok (.getfield 29, 3) := by decide +kernel
theorem dX4_keepWayTo_51 : decode mX4_keepWayTo.2.1 51 = .ok (.iload_n 2, 1) := by decide +kernel
theorem dX4_keepWayTo_52 : decode mX4_keepWayTo.2.1 52 = .ok (.iaload, 1) := by decide +kernel
theorem dX4_keepWayTo_53 : decode mX4_keepWayTo.2.1 53 = .ok (.istore_n 2, 1) := by decide +kernel
theorem dX4_keepWayTo_54 : decode mX4_keepWayTo.2.1 54 = .ok (.iinc 3 (-1), 3) := by decide +kernel
theorem dX4_keepWayTo_57 : decode mX4_keepWayTo.2.1 57 = .ok (.goto (-26), 3) := by decide +kernel
theorem dX4_keepWayTo_60 : decode mX4_keepWayTo.2.1 60 = .ok (.aload_n 0, 1) := by decide +kernel
theorem dX4_keepWayTo_61 : decode mX4_keepWayTo.2.1 61 = .ok (.getfield 18, 3) := by decide +kernel
theorem dX4_keepWayTo_64 : decode mX4_keepWayTo.2.1 64 = .ok (.ireturn, 1) := by decide +kernel
set_option maxRecDepth 4000 in
theorem ev_X4_keepWayTo {m : Mem} {nx : Int → Int → Int} {C : Int} {s0 : Int} {t : Int} (hbf : BF nx C s0 (m 82) (m 86) (m 87)) (hC : C ≤ 24) (ht : 0 ≤ t ∧ t < 324) : Ev 0 1 mX4_keepWayTo [vr 81, vi t] m (fun r m' => KwPost m nx C s0 t r m') := by
  refine Ev.of (L := [vr 81, vi t, un, un]) (by decide +kernel) rfl (Nat.le_of_ble_eq_true rfl) rfl (fun t ht => by cases ht; first | exact Or.inl rfl | exact Or.inr (Or.inl rfl) | exact Or.inr (Or.inr rfl)) (fun hcan => ?_)
  refine go_aload_n dX4_keepWayTo_0 rfl ?_
  refine go_getf_p (b := 82) dX4_keepWayTo_1 fl_4_9 ob_81 rfl pt_81_0 ?_
  refine go_iload_n dX4_keepWayTo_4 rfl ?_
  refine go_iaload dX4_keepWayTo_5 ar_82 (by omega) (by omega) (fun he_5 => ?_)
  refine go_iconst dX4_keepWayTo_6 ?_
  refine go_icmp_ne (tgt := 12) dX4_keepWayTo_7 (by decide) ⟨by omega, by omega⟩ ⟨by omega, by omega⟩ (fun h_7 => ?_) (fun h_7 => ?_)
  · obtain ⟨ht0, ht1, Kg, hKg, -⟩ := (hbf t ht.1 ht.2).resolve_left (fun h => h_7 h.1)
    refine go_aload_n dX4_keepWayTo_12 rfl ?_
    refine go_aload_n dX4_keepWayTo_13 rfl ?_
    refine go_getf_p (b := 82) dX4_keepWayTo_14 fl_4_9 ob_81 rfl pt_81_0 ?_
    refine go_iload_n dX4_keepWayTo_17 rfl ?_
    refine go_iaload dX4_keepWayTo_18 ar_82 (by omega) (by omega) (fun he_18 => ?_)
    refine go_putf_i (ki := 2) dX4_keepWayTo_19 fw_4_18 ob_81 rfl rfl ⟨by omega, by omega⟩ ?_
    refine go_iload_n dX4_keepWayTo_22 rfl ?_
    refine go_istore_n (L' := [vr 81, vi t, vi t, un]) dX4_keepWayTo_23 (by decide) rfl rfl ?_
    refine go_aload_n dX4_keepWayTo_24 rfl ?_
    refine go_getf_i (ki := 2) dX4_keepWayTo_25 fl_4_18 ob_81 rfl rfl (fun hf_25 => ?_)
    rw [show ((wr m 81 2 (m 82 t)) 81 2 : Int) = (m 82 t) from by rw [wr_self]] at hf_25 ⊢
    refine go_iconst dX4_keepWayTo_28 ?_
    refine go_isub dX4_keepWayTo_29 ?_
    refine go_istore_n (L' := [vr 81, vi t, vi t, vi ((m 82 t) - 1)]) dX4_keepWayTo_30 (by decide) rfl rfl ?_
    refine go_drop (j := 1) (L' := [vr 81, un, vi t, vi ((m 82 t) - 1)]) rfl ?_
    have lp_31 : ∀ (n_31 : Nat) (m1 : Mem) (w : Int) (k : Int) , (-1 ≤ k) → (k < m 82 t) → (0 ≤ w ∧ w < 324) → (m 82 w = k + 1) → (∀ b : Nat, b ≠ 81 → b ≠ 83 → m1 b = m b) → (m1 81 2 = m 82 t) → (∀ j : Int, k < j → j < m 82 t → 0 ≤ m1 83 j ∧ m1 83 j < C) → (KwI nx C s0 k w (m1 83) (m 82 t - 1 - k).toNat Kg) → (k + 1).toNat < n_31 → Go 0 1 mX4_keepWayTo (fun r m' => KwPost m nx C s0 t r m') 31 [vr 81, un, vi w, vi k] [] m1 := by
      intro n_31
      induction n_31 with
      | zero => intro m1 w k hk0 hk1 hw hfw hfr h81 hdg hKw hmu; exact absurd hmu (Nat.not_lt_zero _)
      | succ n_31 ih_31 =>
        intro m1 w k hk0 hk1 hw hfw hfr h81 hdg hKw hmu
        have hmv : 0 ≤ k → (0 ≤ m 87 w ∧ m 87 w < C) ∧ (0 ≤ m 86 w ∧ m 86 w < 324) ∧ m 82 (m 86 w) = k := fun hk => by
          obtain ⟨-, -, K, -, h⟩ := (hbf w hw.1 hw.2).resolve_left (fun h => by omega)
          obtain ⟨K', z1, z2, z3, -⟩ := h (by omega)
          exact ⟨z1, z2, by omega⟩
        refine go_iload_n dX4_keepWayTo_31 rfl ?_
        refine go_if_lt (tgt := 60) dX4_keepWayTo_32 (by decide) ⟨by omega, by omega⟩ (fun h_32 => ?_) (fun h_32 => ?_)
        · refine go_aload_n dX4_keepWayTo_60 rfl ?_
          refine go_getf_i (ki := 2) dX4_keepWayTo_61 fl_4_18 ob_81 rfl rfl (fun hf_61 => ?_)
          rw [show (m1 81 2 : Int) = (m 82 t) from h81] at hf_61 ⊢
          refine go_ret (v := (m 82 t)) rfl dX4_keepWayTo_64 (okI ⟨by omega, by omega⟩) ?_
          refine Or.inr ⟨h_7, (m 82 t).toNat, by omega, by omega, by rw [h81]; omega, ?_, fun j a b => hdg j (by omega) (by omega), hfr⟩
          obtain ⟨Kw, g1, g2⟩ := hKw
          have ek : k = -1 := by omega
          rw [ek, show (-1 + 1 : Int).toNat = 0 from rfl] at g1
          obtain ⟨-, e1⟩ := g1.1
          rw [ek, e1, show (m 82 t - 1 - -1).toNat = (m 82 t).toNat by omega, show (-1 + 1 : Int) = 0 from rfl] at g2
          rw [g2]
          exact hKg
        · have hmv := hmv (by omega)
          have hfk : k < 324 := by omega
          refine go_aload_n dX4_keepWayTo_35 rfl ?_
          refine go_getf_p (b := 83) dX4_keepWayTo_36 fl_4_15 ob_81 rfl pt_81_1 ?_
          refine go_iload_n dX4_keepWayTo_39 rfl ?_
          refine go_aload_n dX4_keepWayTo_40 rfl ?_
          refine go_getf_p (b := 87) dX4_keepWayTo_41 fl_4_32 ob_81 rfl pt_81_6 ?_
          refine go_iload_n dX4_keepWayTo_44 rfl ?_
          refine go_iaload dX4_keepWayTo_45 ar_87 (by omega) (by omega) (fun he_45 => ?_)
          rw [show (m1 87 w : Int) = (m 87 w) from by rw [hfr 87 (by decide) (by decide)]] at he_45 ⊢
          refine go_iastore dX4_keepWayTo_46 ar_83 (by omega) (by omega) ⟨by omega, by omega⟩ ?_
          refine go_aload_n dX4_keepWayTo_47 rfl ?_
          refine go_getf_p (b := 86) dX4_keepWayTo_48 fl_4_29 ob_81 rfl pt_81_5 ?_
          refine go_iload_n dX4_keepWayTo_51 rfl ?_
          refine go_iaload dX4_keepWayTo_52 ar_86 (by omega) (by omega) (fun he_52 => ?_)
          rw [show ((wr m1 83 k (m 87 w)) 86 w : Int) = (m 86 w) from by rw [wr_na (by decide), hfr 86 (by decide) (by decide)]] at he_52 ⊢
          refine go_istore_n (L' := [vr 81, un, vi (m 86 w), vi k]) dX4_keepWayTo_53 (by decide) rfl rfl ?_
          refine go_iinc (L' := [vr 81, un, vi (m 86 w), vi (k + (-1))]) dX4_keepWayTo_54 rfl (by decide) rfl rfl ?_
          refine go_goto (tgt := 31) dX4_keepWayTo_57 (by decide) ?_
          exact ih_31 (wr m1 83 k (m 87 w)) (m 86 w) (k + (-1)) (by first | assumption | omega | rfl) (by first | assumption | omega | rfl) hmv.2.1 (by rw [hmv.2.2]; omega) (fun b h1 h2 => by rw [wr_row h2]; exact hfr b h1 h2) (by rw [wr_na (by decide)]; exact h81) (fun j a b => by
                by_cases e : j = k
                · rw [e, wr_self]; exact hmv.1
                · rw [wr_ni e]; exact hdg j (by omega) b) (by
                obtain ⟨Kw, g1, g2⟩ := hKw
                obtain ⟨-, -, K, b1, b2⟩ := (hbf w hw.1 hw.2).resolve_left (fun h => by omega)
                obtain ⟨K', z1, z2, z3, z4, z5, z6⟩ := b2 (by omega)
                rw [show (m 82 w).toNat = (k + 1).toNat by rw [hfw]] at b1
                have eK := (Bst_u hC g1 b1).2
                refine ⟨K', ?_, ?_⟩
                · rw [show k + -1 + 1 = m 82 w - 1 by omega]; exact z5
                · rw [show (m 82 t - 1 - (k + -1)).toNat = (m 82 t - 1 - k).toNat + 1 by omega, ext_cons, show k + -1 + 1 = k by omega, wr_self, ← z6, ← eK, ← g2]
                  exact ext_congr (fun j a b => wr_ni (by omega))) (by omega)
    exact lp_31 _ (wr m 81 2 (m 82 t)) t ((m 82 t) - 1) (by first | assumption | omega | rfl) (by first | assumption | omega | rfl) (by first | assumption | omega | rfl) (by first | assumption | omega | rfl) (fun b h1 h2 => wr_row h1) (wr_self _ _ _ _) (fun j a b => by omega) ⟨Kg, by rw [show m 82 t - 1 + 1 = m 82 t by omega]; exact hKg, by rw [show (m 82 t - 1 - (m 82 t - 1)).toNat = 0 by omega]; rfl⟩ (Nat.lt_succ_self _)
  · refine go_iconst dX4_keepWayTo_10 ?_
    exact go_ret (v := (-1)) rfl dX4_keepWayTo_11 (okI ⟨by omega, by omega⟩) (Or.inl ⟨by omega, rfl, rfl⟩)
theorem dX4_countCells_0 : decode mX4_countCells.2.1 0 = .ok (.iconst 0, 1) := by decide +kernel
theorem dX4_countCells_1 : decode mX4_countCells.2.1 1 = .ok (.istore_n 1, 1) := by decide +kernel
theorem dX4_countCells_2 : decode mX4_countCells.2.1 2 = .ok (.iconst 0, 1) := by decide +kernel
theorem dX4_countCells_3 : decode mX4_countCells.2.1 3 = .ok (.istore_n 2, 1) := by decide +kernel
theorem dX4_countCells_4 : decode mX4_countCells.2.1 4 = .ok (.iload_n 2, 1) := by decide +kernel
theorem dX4_countCells_5 : decode mX4_countCells.2.1 5 = .ok (.bipush 81, 2) := by decide +kernel
theorem dX4_countCells_7 : decode mX4_countCells.2.1 7 = .ok (.if_icmp .ge 58, 3) := by decide +kernel
theorem dX4_countCells_10 : decode mX4_countCells.2.1 10 = .ok (.iconst 0, 1) := by decide +kernel
theorem dX4_countCells_11 : decode mX4_countCells.2.1 11 = .ok (.istore_n 3, 1) := by decide +kernel
theorem dX4_countCells_12 : decode mX4_countCells.2.1 12 = .ok (.iconst 0, 1) := by decide +kernel
theorem dX4_countCells_13 : decode mX4_countCells.2.1 13 = .ok (.istore 4, 2) := by decide +kernel
theorem dX4_countCells_15 : decode mX4_countCells.2.1 15 = .ok (.iload 4, 2) := by decide +kernel
theorem dX4_countCells_17 : decode mX4_countCells.2.1 17 = .ok (.iconst 4, 1) := by decide +kernel
theorem dX4_countCells_18 : decode mX4_countCells.2.1 18 = .ok (.if_icmp .ge 34, 3) := by decide +kernel
theorem dX4_countCells_21 : decode mX4_countCells.2.1 21 = .ok (.iload_n 3, 1) := by decide +kernel
theorem dX4_countCells_22 : decode mX4_countCells.2.1 22 = .ok (.ifCond .ne 18, 3) := by decide +kernel
theorem dX4_countCells_25 : decode mX4_countCells.2.1 25 = .ok (.aload_n 0, 1) := by decide +kernel
theorem dX4_countCells_26 : decode mX4_countCells.2.1 26 = .ok (.getfield 9, 3) := by decide +kernel
theorem dX4_countCells_29 : decode mX4_countCells.2.1 29 = .ok (.iconst 4, 1) := by decide +kernel
theorem dX4_countCells_30 : decode mX4_countCells.2.1 30 = .ok (.iload_n 2, 1) := by decide +kernel
theorem dX4_countCells_31 : decode mX4_countCells.2.1 31 = .ok (.imul, 1) := by decide +kernel
theorem dX4_countCells_32 : decode mX4_countCells.2.1 32 = .ok (.iload 4, 2) := by decide +kernel
theorem dX4_countCells_34 : decode mX4_countCells.2.1 34 = .ok (.iadd, 1) := by decide +kernel
theorem dX4_countCells_35 : decode mX4_countCells.2.1 35 = .ok (.iaload, 1) := by decide +kernel
theorem dX4_countCells_36 : decode mX4_countCells.2.1 36 = .ok (.iconst (-1), 1) := by decide +kernel
theorem dX4_countCells_37 : decode mX4_countCells.2.1 37 = .ok (.if_icmp .eq 7, 3) := by decide +kernel
theorem dX4_countCells_40 : decode mX4_countCells.2.1 40 = .ok (.iconst 1, 1) := by decide +kernel
theorem dX4_countCells_41 : decode mX4_countCells.2.1 41 = .ok (.goto 4, 3) := by decide +kernel
theorem dX4_countCells_44 : decode mX4_countCells.2.1 44 = .ok (.iconst 0, 1) := by decide +kernel
theorem dX4_countCells_45 : decode mX4_countCells.2.1 45 = .ok (.istore_n 3, 1) := by decide +kernel
theorem dX4_countCells_46 : decode mX4_countCells.2.1 46 = .ok (.iinc 4 1, 3) := by decide +kernel
theorem dX4_countCells_49 : decode mX4_countCells.2.1 49 = .ok (.goto (-34), 3) := by decide +kernel
theorem dX4_countCells_52 : decode mX4_countCells.2.1 52 = .ok (.iload_n 3, 1) := by decide +kernel
theorem dX4_countCells_53 : decode mX4_countCells.2.1 53 = .ok (.ifCond .eq 6, 3) := by decide +kernel
theorem dX4_countCells_56 : decode mX4_countCells.2.1 56 = .ok (.iinc 1 1, 3) := by decide +kernel
theorem dX4_countCells_59 : decode mX4_countCells.2.1 59 = .ok (.iinc 2 1, 3) := by decide +kernel
theorem dX4_countCells_62 : decode mX4_countCells.2.1 62 = .ok (.goto (-58), 3) := by decide +kernel
theorem dX4_countCells_65 : decode mX4_countCells.2.1 65 = .ok (.iload_n 1, 1) := by decide +kernel
theorem dX4_countCells_66 : decode mX4_countCells.2.1 66 = .ok (.ireturn, 1) := by decide +kernel
set_option maxRecDepth 4000 in
theorem ev_X4_countCells {m : Mem}   : Ev 0 1 mX4_countCells [vr 81] m (fun r m' => m' = m ∧ (r = cntI (seenB (m 82)) 81)) := by
  refine Ev.of (L := [vr 81, un, un, un, un]) (by decide +kernel) rfl (Nat.le_of_ble_eq_true rfl) rfl (fun t ht => by cases ht; first | exact Or.inl rfl | exact Or.inr (Or.inl rfl) | exact Or.inr (Or.inr rfl)) (fun hcan => ?_)
  refine go_iconst dX4_countCells_0 ?_
  refine go_istore_n (L' := [vr 81, vi 0, un, un, un]) dX4_countCells_1 (by decide) rfl rfl ?_
  refine go_iconst dX4_countCells_2 ?_
  refine go_istore_n (L' := [vr 81, vi 0, vi 0, un, un]) dX4_countCells_3 (by decide) rfl rfl ?_
  have lp_4 : ∀ (n_4 : Nat) (n : Int) (c : Int) , (0 ≤ c) → (c ≤ 81) → (n = cntI (seenB (m 82)) c) → (81 - c).toNat < n_4 → Go 0 1 mX4_countCells (fun r m' => m' = m ∧ (r = cntI (seenB (m 82)) 81)) 4 [vr 81, vi n, vi c, un, un] [] m := by
    intro n_4
    induction n_4 with
    | zero => intro n c hc0 hc1 hn hmu; exact absurd hmu (Nat.not_lt_zero _)
    | succ n_4 ih_4 =>
      intro n c hc0 hc1 hn hmu
      have hnb := cntI_b (seenB (m 82)) hc0
      rw [← hn] at hnb
      refine go_iload_n dX4_countCells_4 rfl ?_
      refine go_bipush dX4_countCells_5 (by decide) ?_
      refine go_icmp_ge (tgt := 65) dX4_countCells_7 (by decide) ⟨by omega, by omega⟩ ⟨by omega, by omega⟩ (fun h_7 => ?_) (fun h_7 => ?_)
      · refine go_iload_n dX4_countCells_65 rfl ?_
        exact go_ret (v := n) rfl dX4_countCells_66 (okI ⟨by omega, by omega⟩) ⟨rfl, (by rw [hn, show c = 81 by omega])⟩
      · refine go_iconst dX4_countCells_10 ?_
        refine go_istore_n (L' := [vr 81, vi n, vi c, vi 0, un]) dX4_countCells_11 (by decide) rfl rfl ?_
        refine go_iconst dX4_countCells_12 ?_
        refine go_istore (L' := [vr 81, vi n, vi c, vi 0, vi 0]) dX4_countCells_13 (by decide) rfl rfl ?_
        have lp_15 : ∀ (n_15 : Nat) (b : Int) (u : Int) , (0 ≤ u) → (u ≤ 4) → ((b = 1 ∧ fnd (fun u => decide (m 82 (4 * c + u) ≠ -1)) u ≠ -1) ∨ (b = 0 ∧ fnd (fun u => decide (m 82 (4 * c + u) ≠ -1)) u = -1)) → (4 - u).toNat < n_15 → Go 0 1 mX4_countCells (fun r m' => m' = m ∧ (r = cntI (seenB (m 82)) 81)) 15 [vr 81, vi n, vi c, vi b, vi u] [] m := by
          intro n_15
          induction n_15 with
          | zero => intro b u hu0 hu1 hb hmu; exact absurd hmu (Nat.not_lt_zero _)
          | succ n_15 ih_15 =>
            intro b u hu0 hu1 hb hmu
            have hfo := fndN_or (P := fun u => decide (m 82 (4 * c + u) ≠ -1)) hu0
            have hb01 : b = 0 ∨ b = 1 := by omega
            refine go_iload dX4_countCells_15 rfl ?_
            refine go_iconst dX4_countCells_17 ?_
            refine go_icmp_ge (tgt := 52) dX4_countCells_18 (by decide) ⟨by omega, by omega⟩ ⟨by omega, by omega⟩ (fun h_18 => ?_) (fun h_18 => ?_)
            · refine go_iload_n dX4_countCells_52 rfl ?_
              refine go_if_eq (tgt := 59) dX4_countCells_53 (by decide) ⟨by omega, by omega⟩ (fun h_53 => ?_) (fun h_53 => ?_)
              · refine go_iinc (L' := [vr 81, vi n, vi (c + 1), vi b, vi u]) dX4_countCells_59 rfl (by decide) rfl rfl ?_
                refine go_goto (tgt := 4) dX4_countCells_62 (by decide) ?_
                refine go_drop (j := 3) (L' := [vr 81, vi n, vi (c + 1), un, vi u]) rfl ?_
                refine go_drop (j := 4) (L' := [vr 81, vi n, vi (c + 1), un, un]) rfl ?_
                exact ih_4 n (c + 1) (by first | assumption | omega | rfl) (by first | assumption | omega | rfl) (by
                      rw [cntI_s _ hc0, ← hn]
                      have eu : u = 4 := (by omega)
                      rw [eu] at hb
                      first
                      | (rw [if_pos (decide_eq_true (show fnd (fun u => decide (m 82 (4 * c + u) ≠ -1)) 4 ≠ -1 from (hb.resolve_right (fun h => h_53 h.1)).2))])
                      | (rw [if_neg (fun h => (of_decide_eq_true h) (hb.resolve_left (fun h => by omega)).2)]; omega)) (by omega)
              · refine go_iinc (L' := [vr 81, vi (n + 1), vi c, vi b, vi u]) dX4_countCells_56 rfl (by decide) rfl rfl ?_
                refine go_iinc (L' := [vr 81, vi (n + 1), vi (c + 1), vi b, vi u]) dX4_countCells_59 rfl (by decide) rfl rfl ?_
                refine go_goto (tgt := 4) dX4_countCells_62 (by decide) ?_
                refine go_drop (j := 3) (L' := [vr 81, vi (n + 1), vi (c + 1), un, vi u]) rfl ?_
                refine go_drop (j := 4) (L' := [vr 81, vi (n + 1), vi (c + 1), un, un]) rfl ?_
                exact ih_4 (n + 1) (c + 1) (by first | assumption | omega | rfl) (by first | assumption | omega | rfl) (by
                      rw [cntI_s _ hc0, ← hn]
                      have eu : u = 4 := (by omega)
                      rw [eu] at hb
                      first
                      | (rw [if_pos (decide_eq_true (show fnd (fun u => decide (m 82 (4 * c + u) ≠ -1)) 4 ≠ -1 from (hb.resolve_right (fun h => h_53 h.1)).2))])
                      | (rw [if_neg (fun h => (of_decide_eq_true h) (hb.resolve_left (fun h => by omega)).2)]; omega)) (by omega)
            · refine go_iload_n dX4_countCells_21 rfl ?_
              refine go_if_ne (tgt := 40) dX4_countCells_22 (by decide) ⟨by omega, by omega⟩ (fun h_22 => ?_) (fun h_22 => ?_)
              · refine go_iconst dX4_countCells_40 ?_
                refine go_goto (tgt := 45) dX4_countCells_41 (by decide) ?_
                refine go_istore_n (L' := [vr 81, vi n, vi c, vi 1, vi u]) dX4_countCells_45 (by decide) rfl rfl ?_
                refine go_iinc (L' := [vr 81, vi n, vi c, vi 1, vi (u + 1)]) dX4_countCells_46 rfl (by decide) rfl rfl ?_
                refine go_goto (tgt := 15) dX4_countCells_49 (by decide) ?_
                exact ih_15 1 (u + 1) (by first | assumption | omega | rfl) (by first | assumption | omega | rfl) (by
                      first
                      | (refine Or.inl ⟨rfl, hfo.mpr (Or.inl ?_)⟩
                         rcases hb with h | h
                         · exact h.2
                         · omega)
                      | exact Or.inl ⟨rfl, hfo.mpr (Or.inr (decide_eq_true h_37))⟩
                      | (refine Or.inr ⟨rfl, Classical.byContradiction (fun hn => ?_)⟩
                         rcases hfo.mp hn with h | h
                         · rcases hb with q | q
                           · omega
                           · exact h q.2
                         · exact (of_decide_eq_true h) h_37)) (by omega)
              · refine go_aload_n dX4_countCells_25 rfl ?_
                refine go_getf_p (b := 82) dX4_countCells_26 fl_4_9 ob_81 rfl pt_81_0 ?_
                refine go_iconst dX4_countCells_29 ?_
                refine go_iload_n dX4_countCells_30 rfl ?_
                refine go_imul dX4_countCells_31 ?_
                refine go_iload dX4_countCells_32 rfl ?_
                refine go_iadd dX4_countCells_34 ?_
                refine go_iaload dX4_countCells_35 ar_82 (by omega) (by omega) (fun he_35 => ?_)
                refine go_iconst dX4_countCells_36 ?_
                refine go_icmp_eq (tgt := 44) dX4_countCells_37 (by decide) ⟨by omega, by omega⟩ ⟨by omega, by omega⟩ (fun h_37 => ?_) (fun h_37 => ?_)
                · refine go_iconst dX4_countCells_44 ?_
                  refine go_istore_n (L' := [vr 81, vi n, vi c, vi 0, vi u]) dX4_countCells_45 (by decide) rfl rfl ?_
                  refine go_iinc (L' := [vr 81, vi n, vi c, vi 0, vi (u + 1)]) dX4_countCells_46 rfl (by decide) rfl rfl ?_
                  refine go_goto (tgt := 15) dX4_countCells_49 (by decide) ?_
                  exact ih_15 0 (u + 1) (by first | assumption | omega | rfl) (by first | assumption | omega | rfl) (by
                        first
                        | (refine Or.inl ⟨rfl, hfo.mpr (Or.inl ?_)⟩
                           rcases hb with h | h
                           · exact h.2
                           · omega)
                        | exact Or.inl ⟨rfl, hfo.mpr (Or.inr (decide_eq_true h_37))⟩
                        | (refine Or.inr ⟨rfl, Classical.byContradiction (fun hn => ?_)⟩
                           rcases hfo.mp hn with h | h
                           · rcases hb with q | q
                             · omega
                             · exact h q.2
                           · exact (of_decide_eq_true h) h_37)) (by omega)
                · refine go_iconst dX4_countCells_40 ?_
                  refine go_goto (tgt := 45) dX4_countCells_41 (by decide) ?_
                  refine go_istore_n (L' := [vr 81, vi n, vi c, vi 1, vi u]) dX4_countCells_45 (by decide) rfl rfl ?_
                  refine go_iinc (L' := [vr 81, vi n, vi c, vi 1, vi (u + 1)]) dX4_countCells_46 rfl (by decide) rfl rfl ?_
                  refine go_goto (tgt := 15) dX4_countCells_49 (by decide) ?_
                  exact ih_15 1 (u + 1) (by first | assumption | omega | rfl) (by first | assumption | omega | rfl) (by
                        first
                        | (refine Or.inl ⟨rfl, hfo.mpr (Or.inl ?_)⟩
                           rcases hb with h | h
                           · exact h.2
                           · omega)
                        | exact Or.inl ⟨rfl, hfo.mpr (Or.inr (decide_eq_true h_37))⟩
                        | (refine Or.inr ⟨rfl, Classical.byContradiction (fun hn => ?_)⟩
                           rcases hfo.mp hn with h | h
                           · rcases hb with q | q
                             · omega
                             · exact h q.2
                           · exact (of_decide_eq_true h) h_37)) (by omega)
        exact lp_15 _ 0 0 (by first | assumption | omega | rfl) (by first | assumption | omega | rfl) (Or.inr ⟨rfl, rfl⟩) (Nat.lt_succ_self _)
  exact lp_4 _ 0 0 (by first | assumption | omega | rfl) (by first | assumption | omega | rfl) rfl (Nat.lt_succ_self _)
theorem dX11_way_0 : decode mX11_way.2.1 0 = .ok (.aload_n 0, 1) := by decide +kernel
theorem dX11_way_1 : decode mX11_way.2.1 1 = .ok (.getfield 24, 3) := by decide +kernel
theorem dX11_way_4 : decode mX11_way.2.1 4 = .ok (.iload_n 1, 1) := by decide +kernel
theorem dX11_way_5 : decode mX11_way.2.1 5 = .ok (.invokevirtual 129, 3) := by decide +kernel
theorem dX11_way_8 : decode mX11_way.2.1 8 = .ok (.ifCond .eq 14, 3) := by decide +kernel
theorem dX11_way_11 : decode mX11_way.2.1 11 = .ok (.aload_n 0, 1) := by decide +kernel
theorem dX11_way_12 : decode mX11_way.2.1 12 = .ok (.getfield 24, 3) := by decide +kernel
theorem dX11_way_15 : decode mX11_way.2.1 15 = .ok (.iload_n 2, 1) := by decide +kernel
theorem dX11_way_16 : decode mX11_way.2.1 16 = .ok (.invokevirtual 177, 3) := by decide +kernel
theorem dX11_way_19 : decode mX11_way.2.1 19 = .ok (.ifCond .ne 5, 3) := by decide +kernel
theorem dX11_way_22 : decode mX11_way.2.1 22 = .ok (.iconst (-1), 1) := by decide +kernel
theorem dX11_way_23 : decode mX11_way.2.1 23 = .ok (.ireturn, 1) := by decide +kernel
theorem dX11_way_24 : decode mX11_way.2.1 24 = .ok (.aload_n 0, 1) := by decide +kernel
theorem dX11_way_25 : decode mX11_way.2.1 25 = .ok (.getfield 61, 3) := by decide +kernel
theorem dX11_way_28 : decode mX11_way.2.1 28 = .ok (.aload_n 0, 1) := by decide +kernel
theorem dX11_way_29 : decode mX11_way.2.1 29 = .ok (.getfield 24, 3) := by decide +kernel
theorem dX11_way_32 : decode mX11_way.2.1 32 = .ok (.iload_n 1, 1) := by decide +kernel
theorem dX11_way_33 : decode mX11_way.2.1 33 = .ok (.iconst (-1), 1) := by decide +kernel
theorem dX11_way_34 : decode mX11_way.2.1 34 = .ok (.invokevirtual 280, 3) := by decide +kernel
theorem dX11_way_37 : decode mX11_way.2.1 37 = .ok (.aload_n 0, 1) := by decide +kernel
theorem dX11_way_38 : decode mX11_way.2.1 38 = .ok (.getfield 61, 3) := by decide +kernel
theorem dX11_way_41 : decode mX11_way.2.1 41 = .ok (.aload_n 0, 1) := by decide +kernel
theorem dX11_way_42 : decode mX11_way.2.1 42 = .ok (.getfield 24, 3) := by decide +kernel
theorem dX11_way_45 : decode mX11_way.2.1 45 = .ok (.getfield 28, 3) := by decide +kernel
theorem dX11_way_48 : decode mX11_way.2.1 48 = .ok (.iload_n 2, 1) := by decide +kernel
theorem dX11_way_49 : decode mX11_way.2.1 49 = .ok (.invokevirtual 284, 3) := by decide +kernel
theorem dX11_way_52 : decode mX11_way.2.1 52 = .ok (.invokevirtual 287, 3) := by decide +kernel
theorem dX11_way_55 : decode mX11_way.2.1 55 = .ok (.ireturn, 1) := by decide +kernel
set_option maxRecDepth 4000 in
theorem ev_X11_way {m : Mem} {p : Int} {q : Int} {B : Int} (hdn : DnOk m 8) (hst : StOk m 8 18 B) (hp : InR p) (hq : InR q) : Ev 0 5 mX11_way [vr 0, vi p, vi q] m (fun r m' => WyPost m p q r m') := by
  refine Ev.of (L := [vr 0, vi p, vi q]) (by decide +kernel) rfl (Nat.le_of_ble_eq_true rfl) rfl (fun t ht => by cases ht; first | exact Or.inl rfl | exact Or.inr (Or.inl rfl) | exact Or.inr (Or.inr rfl)) (fun hcan => ?_)
  refine go_aload_n dX11_way_0 rfl ?_
  refine go_getf_p (b := 7) dX11_way_1 fl_11_24 ob_0 rfl pt_0_1 ?_
  refine go_iload_n dX11_way_4 rfl ?_
  refine go_callVp_z (as := [vi p]) (S := []) (b := 7) (ev_X10_hasPerson (m := m) (w := 7) (f := p) (d := 8) (st := 18) isWd_7 (by first | assumption | omega | exact ⟨by omega, by omega⟩ | (constructor <;> omega))) rfl dX11_way_5 cv_11_129 rfl rfl ob_7 rfl (by decide) (Nat.le_of_ble_eq_true rfl) (fun r_5 hr_5 ho_5 => ?_)
  refine go_if_eq (tgt := 22) dX11_way_8 (by decide) ⟨by omega, by omega⟩ (fun h_8 => ?_) (fun h_8 => ?_)
  · refine go_iconst dX11_way_22 ?_
    exact go_ret (v := (-1)) rfl dX11_way_23 (okI ⟨by omega, by omega⟩) (Or.inl ⟨by omega, rfl, rfl⟩)
  · refine go_aload_n dX11_way_11 rfl ?_
    refine go_getf_p (b := 7) dX11_way_12 fl_11_24 ob_0 rfl pt_0_1 ?_
    refine go_iload_n dX11_way_15 rfl ?_
    refine go_callVp_z (as := [vi q]) (S := []) (b := 7) (ev_X10_hasPoint (m := m) (w := 7) (f := q) (d := 8) (st := 18) isWd_7 (by first | assumption | omega | exact ⟨by omega, by omega⟩ | (constructor <;> omega))) rfl dX11_way_16 cv_11_177 rfl rfl ob_7 rfl (by decide) (Nat.le_of_ble_eq_true rfl) (fun r_16 hr_16 ho_16 => ?_)
    refine go_if_ne (tgt := 24) dX11_way_19 (by decide) ⟨by omega, by omega⟩ (fun h_19 => ?_) (fun h_19 => ?_)
    · refine go_aload_n dX11_way_24 rfl ?_
      refine go_getf_p (b := 81) dX11_way_25 fl_11_61 ob_0 rfl pt_0_6 ?_
      refine go_aload_n dX11_way_28 rfl ?_
      refine go_getf_p (b := 7) dX11_way_29 fl_11_24 ob_0 rfl pt_0_1 ?_
      refine go_iload_n dX11_way_32 rfl ?_
      refine go_iconst dX11_way_33 ?_
      refine go_callV_v (as := [vr 7, vi p, vi (-1)]) (S := []) (b := 81) (ev_X4_spread (m := m) (p := p) (a := (-1)) (B := B) (by first | assumption | omega | exact ⟨by omega, by omega⟩ | (constructor <;> omega)) (by first | assumption | omega | exact ⟨by omega, by omega⟩ | (constructor <;> omega)) (by first | assumption | omega | exact ⟨by omega, by omega⟩ | (constructor <;> omega)) (by first | assumption | omega | exact ⟨by omega, by omega⟩ | (constructor <;> omega))) rfl dX11_way_34 cv_11_280 rfl rfl ob_81 rfl (by decide) (Nat.le_of_ble_eq_true rfl) (fun m_34 hr_34 => ?_)
      have hgv := golC_v hdn (q := q) (by omega) (by omega)
      have hgl := hgv.lt hdn
      have hgg := hgv.1
      have hd2 := hdn.2.2.1
      refine go_aload_n dX11_way_37 rfl ?_
      refine go_getf_p (b := 81) dX11_way_38 fl_11_61 ob_0 rfl pt_0_6 ?_
      refine go_aload_n dX11_way_41 rfl ?_
      refine go_getf_p (b := 7) dX11_way_42 fl_11_24 ob_0 rfl pt_0_1 ?_
      refine go_getf_p (b := 8) dX11_way_45 fl_11_28 ob_7 rfl pt_7_0 ?_
      refine go_iload_n dX11_way_48 rfl ?_
      refine go_callVp_i (as := [vi q]) (S := [vr 81]) (b := 8) (ev_X1_standOfPoint (m := m_34) (d := 8) (q := q) isDn_8 (hr_34.2.dn hdn) (by rw [hr_34.2.1 8 (by omega)]; omega)) rfl dX11_way_49 cv_11_284 rfl rfl ob_8 rfl (by decide) (Nat.le_of_ble_eq_true rfl) (fun r_49 hr_49 ho_49 => ?_)
      have eg : r_49 = golC m q := by rw [hr_49]; unfold golC; rw [hr_34.2.1 (8 + 8) (by omega), hr_34.2.1 (8 + 7) (by omega), hr_34.2.1 (8 + 9) (by omega)]
      refine go_callV_i (as := [vi r_49]) (S := []) (b := 81) (ev_X4_keepWayTo (m := m_34) (t := r_49) (nx := (nx8 m p (-1))) (C := (4 * m 8 2)) (s0 := (stdC m p)) hr_34.1 (by omega) (by rw [eg]; exact ⟨hgg, hgl⟩)) rfl dX11_way_52 cv_11_287 rfl rfl ob_81 rfl (by decide) (Nat.le_of_ble_eq_true rfl) (fun r_52 m_52 hr_52 ho_52 => ?_)
      rw [eg] at hr_52
      refine go_ret (v := r_52) rfl dX11_way_55 (okI ⟨by omega, by omega⟩) ?_
      refine Or.inr ⟨by omega, ?_, ?_⟩
      · intro b hb
        rcases hr_52 with ⟨-, -, e⟩ | ⟨-, n, -, -, -, -, -, e⟩
        · rw [e]; exact hr_34.2.1 b (by omega)
        · rw [e b (by omega) (by omega)]; exact hr_34.2.1 b (by omega)
      · rcases hr_52 with ⟨z, e1, e⟩ | ⟨z, n, n1, n2, n3, n4, n5, e⟩
        · left
          have hbn := (hr_34.1 _ hgg hgl).resolve_right (fun h => by omega)
          refine ⟨e1, hbn.2, by rw [e]; exact hr_34.2.2 2 (by decide), by rw [e]; exact hr_34.2.1 83 (by omega)⟩
        · right
          exact ⟨n, n1, n2, n3, n4, n5⟩
    · refine go_iconst dX11_way_22 ?_
      exact go_ret (v := (-1)) rfl dX11_way_23 (okI ⟨by omega, by omega⟩) (Or.inl ⟨by omega, rfl, rfl⟩)
theorem dX11_both_0 : decode mX11_both.2.1 0 = .ok (.aload_n 0, 1) := by decide +kernel
theorem dX11_both_1 : decode mX11_both.2.1 1 = .ok (.getfield 24, 3) := by decide +kernel
theorem dX11_both_4 : decode mX11_both.2.1 4 = .ok (.iload_n 1, 1) := by decide +kernel
theorem dX11_both_5 : decode mX11_both.2.1 5 = .ok (.invokevirtual 129, 3) := by decide +kernel
theorem dX11_both_8 : decode mX11_both.2.1 8 = .ok (.ifCond .eq 30, 3) := by decide +kernel
theorem dX11_both_11 : decode mX11_both.2.1 11 = .ok (.aload_n 0, 1) := by decide +kernel
theorem dX11_both_12 : decode mX11_both.2.1 12 = .ok (.getfield 24, 3) := by decide +kernel
theorem dX11_both_15 : decode mX11_both.2.1 15 = .ok (.iload_n 2, 1) := by decide +kernel
theorem dX11_both_16 : decode mX11_both.2.1 16 = .ok (.invokevirtual 129, 3) := by decide +kernel
theorem dX11_both_19 : decode mX11_both.2.1 19 = .ok (.ifCond .eq 19, 3) := by decide +kernel
theorem dX11_both_22 : decode mX11_both.2.1 22 = .ok (.iload_n 1, 1) := by decide +kernel
theorem dX11_both_23 : decode mX11_both.2.1 23 = .ok (.iload_n 2, 1) := by decide +kernel
theorem dX11_both_24 : decode mX11_both.2.1 24 = .ok (.if_icmp .eq 14, 3) := by decide +kernel
theorem dX11_both_27 : decode mX11_both.2.1 27 = .ok (.aload_n 0, 1) := by decide +kernel
theorem dX11_both_28 : decode mX11_both.2.1 28 = .ok (.getfield 24, 3) := by decide +kernel
theorem dX11_both_31 : decode mX11_both.2.1 31 = .ok (.iload_n 3, 1) := by decide +kernel
theorem dX11_both_32 : decode mX11_both.2.1 32 = .ok (.invokevirtual 177, 3) := by decide +kernel
theorem dX11_both_35 : decode mX11_both.2.1 35 = .ok (.ifCond .ne 5, 3) := by decide +kernel
theorem dX11_both_38 : decode mX11_both.2.1 38 = .ok (.iconst (-1), 1) := by decide +kernel
theorem dX11_both_39 : decode mX11_both.2.1 39 = .ok (.ireturn, 1) := by decide +kernel
theorem dX11_both_40 : decode mX11_both.2.1 40 = .ok (.aload_n 0, 1) := by decide +kernel
theorem dX11_both_41 : decode mX11_both.2.1 41 = .ok (.getfield 24, 3) := by decide +kernel
theorem dX11_both_44 : decode mX11_both.2.1 44 = .ok (.getfield 28, 3) := by decide +kernel
theorem dX11_both_47 : decode mX11_both.2.1 47 = .ok (.iload_n 3, 1) := by decide +kernel
theorem dX11_both_48 : decode mX11_both.2.1 48 = .ok (.invokevirtual 284, 3) := by decide +kernel
theorem dX11_both_51 : decode mX11_both.2.1 51 = .ok (.istore 4, 2) := by decide +kernel
theorem dX11_both_53 : decode mX11_both.2.1 53 = .ok (.aload_n 0, 1) := by decide +kernel
theorem dX11_both_54 : decode mX11_both.2.1 54 = .ok (.getfield 61, 3) := by decide +kernel
theorem dX11_both_57 : decode mX11_both.2.1 57 = .ok (.aload_n 0, 1) := by decide +kernel
theorem dX11_both_58 : decode mX11_both.2.1 58 = .ok (.getfield 24, 3) := by decide +kernel
theorem dX11_both_61 : decode mX11_both.2.1 61 = .ok (.iload_n 1, 1) := by decide +kernel
theorem dX11_both_62 : decode mX11_both.2.1 62 = .ok (.iload_n 2, 1) := by decide +kernel
theorem dX11_both_63 : decode mX11_both.2.1 63 = .ok (.invokevirtual 280, 3) := by decide +kernel
theorem dX11_both_66 : decode mX11_both.2.1 66 = .ok (.aload_n 0, 1) := by decide +kernel
theorem dX11_both_67 : decode mX11_both.2.1 67 = .ok (.getfield 61, 3) := by decide +kernel
theorem dX11_both_70 : decode mX11_both.2.1 70 = .ok (.getfield 296, 3) := by decide +kernel
theorem dX11_both_73 : decode mX11_both.2.1 73 = .ok (.iload 4, 2) := by decide +kernel
theorem dX11_both_75 : decode mX11_both.2.1 75 = .ok (.iaload, 1) := by decide +kernel
theorem dX11_both_76 : decode mX11_both.2.1 76 = .ok (.istore 5, 2) := by decide +kernel
theorem dX11_both_78 : decode mX11_both.2.1 78 = .ok (.aload_n 0, 1) := by decide +kernel
theorem dX11_both_79 : decode mX11_both.2.1 79 = .ok (.getfield 61, 3) := by decide +kernel
theorem dX11_both_82 : decode mX11_both.2.1 82 = .ok (.aload_n 0, 1) := by decide +kernel
theorem dX11_both_83 : decode mX11_both.2.1 83 = .ok (.getfield 24, 3) := by decide +kernel
theorem dX11_both_86 : decode mX11_both.2.1 86 = .ok (.iload_n 2, 1) := by decide +kernel
theorem dX11_both_87 : decode mX11_both.2.1 87 = .ok (.iload_n 1, 1) := by decide +kernel
theorem dX11_both_88 : decode mX11_both.2.1 88 = .ok (.invokevirtual 280, 3) := by decide +kernel
theorem dX11_both_91 : decode mX11_both.2.1 91 = .ok (.aload_n 0, 1) := by decide +kernel
theorem dX11_both_92 : decode mX11_both.2.1 92 = .ok (.getfield 61, 3) := by decide +kernel
theorem dX11_both_95 : decode mX11_both.2.1 95 = .ok (.getfield 296, 3) := by decide +kernel
theorem dX11_both_98 : decode mX11_both.2.1 98 = .ok (.iload 4, 2) := by decide +kernel
theorem dX11_both_100 : decode mX11_both.2.1 100 = .ok (.iaload, 1) := by decide +kernel
theorem dX11_both_101 : decode mX11_both.2.1 101 = .ok (.istore 6, 2) := by decide +kernel
theorem dX11_both_103 : decode mX11_both.2.1 103 = .ok (.iload 5, 2) := by decide +kernel
theorem dX11_both_105 : decode mX11_both.2.1 105 = .ok (.iconst (-1), 1) := by decide +kernel
theorem dX11_both_106 : decode mX11_both.2.1 106 = .ok (.if_icmp .eq 9, 3) := by decide +kernel
theorem dX11_both_109 : decode mX11_both.2.1 109 = .ok (.iload 6, 2) := by decide +kernel
theorem dX11_both_111 : decode mX11_both.2.1 111 = .ok (.iconst (-1), 1) := by decide +kernel
theorem dX11_both_112 : decode mX11_both.2.1 112 = .ok (.if_icmp .ne 7, 3) := by decide +kernel
theorem dX11_both_115 : decode mX11_both.2.1 115 = .ok (.iconst (-1), 1) := by decide +kernel
theorem dX11_both_116 : decode mX11_both.2.1 116 = .ok (.goto 10, 3) := by decide +kernel
theorem dX11_both_119 : decode mX11_both.2.1 119 = .ok (.iload 5, 2) := by decide +kernel
theorem dX11_both_121 : decode mX11_both.2.1 121 = .ok (.iload 6, 2) := by decide +kernel
theorem dX11_both_123 : decode mX11_both.2.1 123 = .ok (.invokestatic 299, 3) := by decide +kernel
theorem dX11_both_126 : decode mX11_both.2.1 126 = .ok (.ireturn, 1) := by decide +kernel
set_option maxRecDepth 4000 in
theorem ev_X11_both {m : Mem} {p : Int} {o : Int} {q : Int} {B : Int} (hdn : DnOk m 8) (hst : StOk m 8 18 B) (hp : InR p) (ho : InR o) (hq : InR q) : Ev 0 5 mX11_both [vr 0, vi p, vi o, vi q] m (fun r m' => BoPost m p o q r m') := by
  refine Ev.of (L := [vr 0, vi p, vi o, vi q, un, un, un]) (by decide +kernel) rfl (Nat.le_of_ble_eq_true rfl) rfl (fun t ht => by cases ht; first | exact Or.inl rfl | exact Or.inr (Or.inl rfl) | exact Or.inr (Or.inr rfl)) (fun hcan => ?_)
  refine go_aload_n dX11_both_0 rfl ?_
  refine go_getf_p (b := 7) dX11_both_1 fl_11_24 ob_0 rfl pt_0_1 ?_
  refine go_iload_n dX11_both_4 rfl ?_
  refine go_callVp_z (as := [vi p]) (S := []) (b := 7) (ev_X10_hasPerson (m := m) (w := 7) (f := p) (d := 8) (st := 18) isWd_7 (by first | assumption | omega | exact ⟨by omega, by omega⟩ | (constructor <;> omega))) rfl dX11_both_5 cv_11_129 rfl rfl ob_7 rfl (by decide) (Nat.le_of_ble_eq_true rfl) (fun r_5 hr_5 ho_5 => ?_)
  refine go_if_eq (tgt := 38) dX11_both_8 (by decide) ⟨by omega, by omega⟩ (fun h_8 => ?_) (fun h_8 => ?_)
  · refine go_iconst dX11_both_38 ?_
    exact go_ret (v := (-1)) rfl dX11_both_39 (okI ⟨by omega, by omega⟩) (Or.inl ⟨by omega, rfl, rfl⟩)
  · refine go_aload_n dX11_both_11 rfl ?_
    refine go_getf_p (b := 7) dX11_both_12 fl_11_24 ob_0 rfl pt_0_1 ?_
    refine go_iload_n dX11_both_15 rfl ?_
    refine go_callVp_z (as := [vi o]) (S := []) (b := 7) (ev_X10_hasPerson (m := m) (w := 7) (f := o) (d := 8) (st := 18) isWd_7 (by first | assumption | omega | exact ⟨by omega, by omega⟩ | (constructor <;> omega))) rfl dX11_both_16 cv_11_129 rfl rfl ob_7 rfl (by decide) (Nat.le_of_ble_eq_true rfl) (fun r_16 hr_16 ho_16 => ?_)
    refine go_if_eq (tgt := 38) dX11_both_19 (by decide) ⟨by omega, by omega⟩ (fun h_19 => ?_) (fun h_19 => ?_)
    · refine go_iconst dX11_both_38 ?_
      exact go_ret (v := (-1)) rfl dX11_both_39 (okI ⟨by omega, by omega⟩) (Or.inl ⟨by omega, rfl, rfl⟩)
    · refine go_iload_n dX11_both_22 rfl ?_
      refine go_iload_n dX11_both_23 rfl ?_
      refine go_icmp_eq (tgt := 38) dX11_both_24 (by decide) ⟨by omega, by omega⟩ ⟨by omega, by omega⟩ (fun h_24 => ?_) (fun h_24 => ?_)
      · refine go_iconst dX11_both_38 ?_
        exact go_ret (v := (-1)) rfl dX11_both_39 (okI ⟨by omega, by omega⟩) (Or.inl ⟨by omega, rfl, rfl⟩)
      · refine go_aload_n dX11_both_27 rfl ?_
        refine go_getf_p (b := 7) dX11_both_28 fl_11_24 ob_0 rfl pt_0_1 ?_
        refine go_iload_n dX11_both_31 rfl ?_
        refine go_callVp_z (as := [vi q]) (S := []) (b := 7) (ev_X10_hasPoint (m := m) (w := 7) (f := q) (d := 8) (st := 18) isWd_7 (by first | assumption | omega | exact ⟨by omega, by omega⟩ | (constructor <;> omega))) rfl dX11_both_32 cv_11_177 rfl rfl ob_7 rfl (by decide) (Nat.le_of_ble_eq_true rfl) (fun r_32 hr_32 ho_32 => ?_)
        refine go_if_ne (tgt := 40) dX11_both_35 (by decide) ⟨by omega, by omega⟩ (fun h_35 => ?_) (fun h_35 => ?_)
        · refine go_aload_n dX11_both_40 rfl ?_
          refine go_getf_p (b := 7) dX11_both_41 fl_11_24 ob_0 rfl pt_0_1 ?_
          refine go_getf_p (b := 8) dX11_both_44 fl_11_28 ob_7 rfl pt_7_0 ?_
          refine go_iload_n dX11_both_47 rfl ?_
          refine go_callVp_i (as := [vi q]) (S := []) (b := 8) (ev_X1_standOfPoint (m := m) (d := 8) (q := q) isDn_8 hdn (by omega)) rfl dX11_both_48 cv_11_284 rfl rfl ob_8 rfl (by decide) (Nat.le_of_ble_eq_true rfl) (fun r_48 hr_48 ho_48 => ?_)
          have eg : r_48 = golC m q := hr_48
          have hgv := golC_v hdn (q := q) (by omega) (by omega)
          have hgl := hgv.lt hdn
          have hgg := hgv.1
          subst eg
          refine go_istore (L' := [vr 0, vi p, vi o, vi q, vi (golC m q), un, un]) dX11_both_51 (by decide) rfl rfl ?_
          refine go_aload_n dX11_both_53 rfl ?_
          refine go_getf_p (b := 81) dX11_both_54 fl_11_61 ob_0 rfl pt_0_6 ?_
          refine go_aload_n dX11_both_57 rfl ?_
          refine go_getf_p (b := 7) dX11_both_58 fl_11_24 ob_0 rfl pt_0_1 ?_
          refine go_iload_n dX11_both_61 rfl ?_
          refine go_iload_n dX11_both_62 rfl ?_
          refine go_callV_v (as := [vr 7, vi p, vi o]) (S := []) (b := 81) (ev_X4_spread (m := m) (p := p) (a := o) (B := B) (by first | assumption | omega | exact ⟨by omega, by omega⟩ | (constructor <;> omega)) (by first | assumption | omega | exact ⟨by omega, by omega⟩ | (constructor <;> omega)) (by first | assumption | omega | exact ⟨by omega, by omega⟩ | (constructor <;> omega)) (by first | assumption | omega | exact ⟨by omega, by omega⟩ | (constructor <;> omega))) rfl dX11_both_63 cv_11_280 rfl rfl ob_81 rfl (by decide) (Nat.le_of_ble_eq_true rfl) (fun m_63 hr_63 => ?_)
          have hb1r := BF_rng hr_63.1 hgg hgl
          refine go_aload_n dX11_both_66 rfl ?_
          refine go_getf_p (b := 81) dX11_both_67 fl_11_61 ob_0 rfl pt_0_6 ?_
          refine go_getf_p (b := 82) dX11_both_70 fl_11_296 ob_81 rfl pt_81_0 ?_
          refine go_iload dX11_both_73 rfl ?_
          refine go_iaload dX11_both_75 ar_82 (by omega) (by omega) (fun he_75 => ?_)
          refine go_istore (L' := [vr 0, vi p, vi o, vi q, vi (golC m q), vi (m_63 82 (golC m q)), un]) dX11_both_76 (by decide) rfl rfl ?_
          refine go_aload_n dX11_both_78 rfl ?_
          refine go_getf_p (b := 81) dX11_both_79 fl_11_61 ob_0 rfl pt_0_6 ?_
          refine go_aload_n dX11_both_82 rfl ?_
          refine go_getf_p (b := 7) dX11_both_83 fl_11_24 ob_0 rfl pt_0_1 ?_
          refine go_iload_n dX11_both_86 rfl ?_
          refine go_iload_n dX11_both_87 rfl ?_
          refine go_callV_v (as := [vr 7, vi o, vi p]) (S := []) (b := 81) (ev_X4_spread (m := m_63) (p := o) (a := p) (B := B) (hr_63.2.dn hdn) (hr_63.2.st hst) (by rw [hr_63.2.1 8 (by omega)]; omega) (by first | assumption | omega | exact ⟨by omega, by omega⟩ | (constructor <;> omega))) rfl dX11_both_88 cv_11_280 rfl rfl ob_81 rfl (by decide) (Nat.le_of_ble_eq_true rfl) (fun m_88 hr_88 => ?_)
          have hr_88 := hr_88.e hr_63.2
          have hb2r := BF_rng hr_88.1 hgg hgl
          refine go_aload_n dX11_both_91 rfl ?_
          refine go_getf_p (b := 81) dX11_both_92 fl_11_61 ob_0 rfl pt_0_6 ?_
          refine go_getf_p (b := 82) dX11_both_95 fl_11_296 ob_81 rfl pt_81_0 ?_
          refine go_iload dX11_both_98 rfl ?_
          refine go_iaload dX11_both_100 ar_82 (by omega) (by omega) (fun he_100 => ?_)
          refine go_istore (L' := [vr 0, vi p, vi o, vi q, vi (golC m q), vi (m_63 82 (golC m q)), vi (m_88 82 (golC m q))]) dX11_both_101 (by decide) rfl rfl ?_
          refine go_iload dX11_both_103 rfl ?_
          refine go_iconst dX11_both_105 ?_
          refine go_icmp_eq (tgt := 115) dX11_both_106 (by decide) ⟨by omega, by omega⟩ ⟨by omega, by omega⟩ (fun h_106 => ?_) (fun h_106 => ?_)
          · refine go_iconst dX11_both_115 ?_
            refine go_goto (tgt := 126) dX11_both_116 (by decide) ?_
            refine go_ret (v := (-1)) rfl dX11_both_126 (okI ⟨by omega, by omega⟩) ?_
            refine Or.inr ⟨by omega, hr_88.2, ?_⟩
            first
            | (refine Or.inr ⟨rfl, Or.inl ?_⟩
               exact BF_no hr_63.1 hgg hgl (by omega))
            | (refine Or.inr ⟨rfl, Or.inr ?_⟩
               exact BF_no hr_88.1 hgg hgl (by omega))
            | (obtain ⟨a1, K1, a3⟩ := BF_bst hr_63.1 hgg hgl (by omega)
               obtain ⟨c1, K2, c3⟩ := BF_bst hr_88.1 hgg hgl (by omega)
               refine Or.inl ⟨_, K1, _, K2, a3, c3, ?_⟩
               rw [Int.toNat_of_nonneg a1, Int.toNat_of_nonneg c1])
          · refine go_iload dX11_both_109 rfl ?_
            refine go_iconst dX11_both_111 ?_
            refine go_icmp_ne (tgt := 119) dX11_both_112 (by decide) ⟨by omega, by omega⟩ ⟨by omega, by omega⟩ (fun h_112 => ?_) (fun h_112 => ?_)
            · refine go_iload dX11_both_119 rfl ?_
              refine go_iload dX11_both_121 rfl ?_
              refine go_max dX11_both_123 jl_11_299 ⟨by omega, by omega⟩ ⟨by omega, by omega⟩ (by decide) (Nat.le_of_ble_eq_true rfl) ?_
              refine go_ret (v := (max (m_63 82 (golC m q)) (m_88 82 (golC m q)))) rfl dX11_both_126 (okI ⟨by omega, by omega⟩) ?_
              refine Or.inr ⟨by omega, hr_88.2, ?_⟩
              first
              | (refine Or.inr ⟨rfl, Or.inl ?_⟩
                 exact BF_no hr_63.1 hgg hgl (by omega))
              | (refine Or.inr ⟨rfl, Or.inr ?_⟩
                 exact BF_no hr_88.1 hgg hgl (by omega))
              | (obtain ⟨a1, K1, a3⟩ := BF_bst hr_63.1 hgg hgl (by omega)
                 obtain ⟨c1, K2, c3⟩ := BF_bst hr_88.1 hgg hgl (by omega)
                 refine Or.inl ⟨_, K1, _, K2, a3, c3, ?_⟩
                 rw [Int.toNat_of_nonneg a1, Int.toNat_of_nonneg c1])
            · refine go_iconst dX11_both_115 ?_
              refine go_goto (tgt := 126) dX11_both_116 (by decide) ?_
              refine go_ret (v := (-1)) rfl dX11_both_126 (okI ⟨by omega, by omega⟩) ?_
              refine Or.inr ⟨by omega, hr_88.2, ?_⟩
              first
              | (refine Or.inr ⟨rfl, Or.inl ?_⟩
                 exact BF_no hr_63.1 hgg hgl (by omega))
              | (refine Or.inr ⟨rfl, Or.inr ?_⟩
                 exact BF_no hr_88.1 hgg hgl (by omega))
              | (obtain ⟨a1, K1, a3⟩ := BF_bst hr_63.1 hgg hgl (by omega)
                 obtain ⟨c1, K2, c3⟩ := BF_bst hr_88.1 hgg hgl (by omega)
                 refine Or.inl ⟨_, K1, _, K2, a3, c3, ?_⟩
                 rw [Int.toNat_of_nonneg a1, Int.toNat_of_nonneg c1])
        · refine go_iconst dX11_both_38 ?_
          exact go_ret (v := (-1)) rfl dX11_both_39 (okI ⟨by omega, by omega⟩) (Or.inl ⟨by omega, rfl, rfl⟩)
theorem dX11_sees_0 : decode mX11_sees.2.1 0 = .ok (.aload_n 0, 1) := by decide +kernel
theorem dX11_sees_1 : decode mX11_sees.2.1 1 = .ok (.getfield 24, 3) := by decide +kernel
theorem dX11_sees_4 : decode mX11_sees.2.1 4 = .ok (.iload_n 1, 1) := by decide +kernel
theorem dX11_sees_5 : decode mX11_sees.2.1 5 = .ok (.invokevirtual 129, 3) := by decide +kernel
theorem dX11_sees_8 : decode mX11_sees.2.1 8 = .ok (.ifCond .ne 5, 3) := by decide +kernel
theorem dX11_sees_11 : decode mX11_sees.2.1 11 = .ok (.iconst (-1), 1) := by decide +kernel
theorem dX11_sees_12 : decode mX11_sees.2.1 12 = .ok (.ireturn, 1) := by decide +kernel
theorem dX11_sees_13 : decode mX11_sees.2.1 13 = .ok (.aload_n 0, 1) := by decide +kernel
theorem dX11_sees_14 : decode mX11_sees.2.1 14 = .ok (.getfield 61, 3) := by decide +kernel
theorem dX11_sees_17 : decode mX11_sees.2.1 17 = .ok (.aload_n 0, 1) := by decide +kernel
theorem dX11_sees_18 : decode mX11_sees.2.1 18 = .ok (.getfield 24, 3) := by decide +kernel
theorem dX11_sees_21 : decode mX11_sees.2.1 21 = .ok (.iload_n 1, 1) := by decide +kernel
theorem dX11_sees_22 : decode mX11_sees.2.1 22 = .ok (.iconst (-1), 1) := by decide +kernel
theorem dX11_sees_23 : decode mX11_sees.2.1 23 = .ok (.invokevirtual 280, 3) := by decide +kernel
theorem dX11_sees_26 : decode mX11_sees.2.1 26 = .ok (.aload_n 0, 1) := by decide +kernel
theorem dX11_sees_27 : decode mX11_sees.2.1 27 = .ok (.getfield 61, 3) := by decide +kernel
theorem dX11_sees_30 : decode mX11_sees.2.1 30 = .ok (.invokevirtual 302, 3) := by decide +kernel
theorem dX11_sees_33 : decode mX11_sees.2.1 33 = .ok (.ireturn, 1) := by decide +kernel
set_option maxRecDepth 4000 in
theorem ev_X11_sees {m : Mem} {p : Int} {B : Int} (hdn : DnOk m 8) (hst : StOk m 8 18 B) (hp : InR p) : Ev 0 5 mX11_sees [vr 0, vi p] m (fun r m' => SsPost m p r m') := by
  refine Ev.of (L := [vr 0, vi p]) (by decide +kernel) rfl (Nat.le_of_ble_eq_true rfl) rfl (fun t ht => by cases ht; first | exact Or.inl rfl | exact Or.inr (Or.inl rfl) | exact Or.inr (Or.inr rfl)) (fun hcan => ?_)
  refine go_aload_n dX11_sees_0 rfl ?_
  refine go_getf_p (b := 7) dX11_sees_1 fl_11_24 ob_0 rfl pt_0_1 ?_
  refine go_iload_n dX11_sees_4 rfl ?_
  refine go_callVp_z (as := [vi p]) (S := []) (b := 7) (ev_X10_hasPerson (m := m) (w := 7) (f := p) (d := 8) (st := 18) isWd_7 (by first | assumption | omega | exact ⟨by omega, by omega⟩ | (constructor <;> omega))) rfl dX11_sees_5 cv_11_129 rfl rfl ob_7 rfl (by decide) (Nat.le_of_ble_eq_true rfl) (fun r_5 hr_5 ho_5 => ?_)
  refine go_if_ne (tgt := 13) dX11_sees_8 (by decide) ⟨by omega, by omega⟩ (fun h_8 => ?_) (fun h_8 => ?_)
  · refine go_aload_n dX11_sees_13 rfl ?_
    refine go_getf_p (b := 81) dX11_sees_14 fl_11_61 ob_0 rfl pt_0_6 ?_
    refine go_aload_n dX11_sees_17 rfl ?_
    refine go_getf_p (b := 7) dX11_sees_18 fl_11_24 ob_0 rfl pt_0_1 ?_
    refine go_iload_n dX11_sees_21 rfl ?_
    refine go_iconst dX11_sees_22 ?_
    refine go_callV_v (as := [vr 7, vi p, vi (-1)]) (S := []) (b := 81) (ev_X4_spread (m := m) (p := p) (a := (-1)) (B := B) (by first | assumption | omega | exact ⟨by omega, by omega⟩ | (constructor <;> omega)) (by first | assumption | omega | exact ⟨by omega, by omega⟩ | (constructor <;> omega)) (by first | assumption | omega | exact ⟨by omega, by omega⟩ | (constructor <;> omega)) (by first | assumption | omega | exact ⟨by omega, by omega⟩ | (constructor <;> omega))) rfl dX11_sees_23 cv_11_280 rfl rfl ob_81 rfl (by decide) (Nat.le_of_ble_eq_true rfl) (fun m_23 hr_23 => ?_)
    refine go_aload_n dX11_sees_26 rfl ?_
    refine go_getf_p (b := 81) dX11_sees_27 fl_11_61 ob_0 rfl pt_0_6 ?_
    refine go_callVp_i (as := []) (S := []) (b := 81) (ev_X4_countCells (m := m_23)  ) rfl dX11_sees_30 cv_11_302 rfl rfl ob_81 rfl (by decide) (Nat.le_of_ble_eq_true rfl) (fun r_30 hr_30 ho_30 => ?_)
    refine go_ret (v := r_30) rfl dX11_sees_33 (okI ⟨by omega, by omega⟩) ?_
    refine Or.inr ⟨by omega, hr_23.2, seenB (m_23 82), fun c c0 c1 => ?_, hr_30⟩
    unfold seenB
    rw [decide_eq_true_eq]
    constructor
    · intro h
      rcases fnd_cases (fun u => decide (m_23 82 (4 * c + u) ≠ -1)) 4 with ⟨e, -⟩ | ⟨u0, u1, u2, -⟩
      · exact absurd e h
      · have hu := of_decide_eq_true u2
        obtain ⟨-, -, K, b, -⟩ := (hr_23.1 (4 * c + fnd (fun u => decide (m_23 82 (4 * c + u) ≠ -1)) 4) (by omega) (by omega)).resolve_left (fun z => hu z.1)
        exact ⟨_, _, K, u0, u1, b.1⟩
    · rintro ⟨u, n, K, u0, u1, hR⟩ he
      rcases fnd_cases (fun u => decide (m_23 82 (4 * c + u) ≠ -1)) 4 with ⟨-, e⟩ | ⟨u0, -, -, -⟩
      · have h1 := e u u0 u1
        have h2 : m_23 82 (4 * c + u) = -1 := Decidable.of_not_not (of_decide_eq_false h1)
        exact ((hr_23.1 (4 * c + u) (by omega) (by omega)).resolve_right (fun z => by omega)).2 n K hR
      · omega
  · refine go_iconst dX11_sees_11 ?_
    exact go_ret (v := (-1)) rfl dX11_sees_12 (okI ⟨by omega, by omega⟩) (Or.inl ⟨by omega, rfl, rfl⟩)
