/-! ===== the calls, one by one: ways, what undoes, tracks, a slip ===== -/
theorem Bst_n {nx : Int → Int → Int} {C s0 t : Int} (hC : C ≤ 24) {n n' K K' : Nat} (h : Bst nx C s0 n t K) (h' : Rch nx C s0 n' t K') : n ≤ n' := by
  have a := (Rch_b hC n t K h.1).1
  have b := (Rch_b hC n' t K' h').2
  have c := h.2 n' K' h'
  apply Classical.byContradiction
  intro z
  have z1 : n' + 1 ≤ n := by omega
  have d : 24 ^ (n' + 1) ≤ 24 ^ n := Nat.pow_le_pow_right (by omega) z1
  rw [Nat.pow_succ] at d
  omega
theorem To_R {nx : Int → Int → Int} {C s g : Int} {n : Nat} (h : To nx C g n s) : ∃ K, Rch nx C s n g K := by
  obtain ⟨K, hK⟩ := T2R (s0 := s) (k := 0) (K := 1) ⟨rfl, rfl⟩ h
  exact ⟨K, by rw [Nat.zero_add] at hK; exact hK⟩
theorem freeB_sy {m : Mem} {d st : Nat} (p a x y : Int) : freeB m d st p a x y = freeB m d st a p x y := by
  unfold freeB
  have : (fun o : Int => decide (o ≠ p ∧ o ≠ a ∧ m (st + 2) o = x ∧ m (st + 3) o = y)) = (fun o : Int => decide (o ≠ a ∧ o ≠ p ∧ m (st + 2) o = x ∧ m (st + 3) o = y)) := by
    funext o
    apply decide_eq_decide.mpr
    exact ⟨fun h => ⟨h.2.1, h.1, h.2.2⟩, fun h => ⟨h.2.1, h.1, h.2.2⟩⟩
  rw [this]
theorem nx8_sy {m : Mem} (p a : Int) : nx8 m p a = nx8 m a p := by
  have : freeB m 8 18 p a = freeB m 8 18 a p := funext (fun x => funext (fun y => freeB_sy p a x y))
  unfold nx8
  rw [this]
theorem putL_at {m m' : Mem} {a a' : Nat} : ∀ {l : List Int} {s : Int}, putL m a s l → putL m' a' s l → ∀ j : Int, s ≤ j → j < s + (l.length : Int) → m a j = m' a' j := by
  intro l
  induction l with
  | nil => intro s _ _ j h0 h1; simp at h1; omega
  | cons v l ih =>
    intro s h h' j h0 h1
    by_cases e : j = s
    · subst e; rw [h.1, h'.1]
    · exact ih h.2 h'.2 j (by omega) (by rw [List.length_cons] at h1; omega)
theorem mstN_bb (c : Int → Int) (n : Nat) : 0 ≤ mstN c n ∧ mstN c n ≤ n := by
  induction n with
  | zero => exact ⟨Int.le_refl _, Int.le_refl _⟩
  | succ n ih =>
    show 0 ≤ (if c (mstN c n) < c ((n : Int) + 1) then (n : Int) + 1 else mstN c n) ∧ (if c (mstN c n) < c ((n : Int) + 1) then (n : Int) + 1 else mstN c n) ≤ ((n + 1 : Nat) : Int)
    by_cases q : c (mstN c n) < c ((n : Int) + 1)
    · rw [if_pos q]; omega
    · rw [if_neg q]; omega
theorem mstN_c {c c' : Int → Int} : ∀ {n : Nat}, (∀ j : Int, 0 ≤ j → j ≤ n → c j = c' j) → mstN c n = mstN c' n := by
  intro n
  induction n with
  | zero => intro _; rfl
  | succ n ih =>
    intro h
    have e := ih (fun j a b => h j a (by omega))
    have b := mstN_bb c' n
    show (if c (mstN c n) < c ((n : Int) + 1) then (n : Int) + 1 else mstN c n) = (if c' (mstN c' n) < c' ((n : Int) + 1) then (n : Int) + 1 else mstN c' n)
    rw [e, h (mstN c' n) b.1 (by omega), h ((n : Int) + 1) (by omega) (by omega)]
theorem wT_ln : ∀ l : List Int, (wT l).length = l.length := by
  intro l
  induction l with
  | nil => rfl
  | cons c l ih => show (wT l ++ [96 + c]).length = _; rw [List.length_append, ih]; rfl
theorem slT_len {G : Mem} {l : List Int} {p : Int} (h : l.length ≤ 7) : (slT G l p).length ≤ 25 := by
  unfold slT
  by_cases q : G 23 p = 0
  · rw [if_pos q]; simp [wT_ln]; omega
  · rw [if_neg q]; simp [wT_ln]; omega
section
variable {m : Mem} {B : Int}
theorem c_way {p q : Int} (h : Inv m B) (hp : InR p) (hq : InR q) : Duo mX11_way mX12_way [vi p, vi q] m (fun m2 => Inv m2 B) := by
  have hC : 4 * m 8 2 ≤ 24 := by have := h.dn.2.2.1; omega
  refine ⟨_, _, (by omega : 5 ≤ 70), ev_X11_way h.dn h.st hp hq, fun r m1 hq1 => ?_⟩
  rcases hq1 with ⟨o, hr, hm⟩ | ⟨o, f1, hc⟩
  · subst hm
    refine ⟨_, _, (by omega : 8 ≤ 70), ev_X12_way h.bg h.dn h.st hp hq, fun r2 m2 hq2 => ?_⟩
    rcases hq2 with ⟨-, hr2, hm2⟩ | ⟨o2, -⟩
    · subst hm2; exact ⟨by rw [hr2, hr], h.t0⟩
    · exact absurd o2 o
  · have e6 : m1 216 = m 216 := f1 216 (by omega)
    refine ⟨_, _, (by omega : 8 ≤ 70), ev_X12_way (G := m) (B := B) (by rw [e6]; exact h.bg) h.dn h.st hp hq, fun r2 m2 hq2 => ?_⟩
    rcases hq2 with ⟨o2, -⟩ | ⟨-, g1, g2, hc2⟩
    · exact absurd o o2
    · have k : ∀ (b : Nat) (j : Int), (b < 81 ∨ 89 ≤ b) → b ≠ 225 → b ≠ 227 → ¬ (b = 214 ∧ (j = 0 ∨ j = 29)) → m2 b j = m b j := fun b j h1 h2 h3 h4 => by
        by_cases z : b = 214
        · subst z; rw [g2 j (by omega), wr_ni (by omega), f1 214 (by omega)]
        · rw [g1 b z h2 h3, f1 b h1]
      have mk : WyR m2 → Inv m2 B := fun hw => ⟨h.w.c (Int.le_refl _) (fun q j z => k q j (by omega) (by omega) (by omega) (by omega)), h.hi.c h.dn (Int.le_refl _) (fun q j z => k q j (by omega) (by omega) (by omega) (by omega)), fun n a0 b0 => (h.im n a0 b0).c a0 b0 (Int.le_refl _) (fun q j z => k q j (by omega) (by omega) (by omega) (by omega)), h.tp.c2 (fun q j z => k q j (by omega) (by omega) (by omega) (by omega)), h.kw.c (fun j => k 3 j (by omega) (by omega) (by omega) (by omega)), h.fa.c (fun q j z => k q j (by omega) (by omega) (by omega) (by omega)), hw, h.ud.c (fun q j z => k q j (by omega) (by omega) (by omega) (by omega)), h.tr.c (fun q j z => k q j (by omega) (by omega) (by omega) (by omega)), h.to.c (fun q j z => k q j (by omega) (by omega) (by omega) (by omega)), h.sl.c (fun q j z => k q j (by omega) (by omega) (by omega) (by omega))⟩
      have e81 : m2 81 = m1 81 := g1 81 (by omega) (by omega) (by omega)
      have e83 : m2 83 = m1 83 := g1 83 (by omega) (by omega) (by omega)
      rcases hc with ⟨hr, hno, w1, w2⟩ | ⟨n, hn, hr, w1, hb, hx⟩
      · rcases hc2 with ⟨hr2, -, v1, v2⟩ | ⟨n2, -, -, -, hb2, -⟩
        · refine ⟨by rw [hr2, hr], mk (h.wy.c (fun b j z => ?_))⟩
          rcases z with ⟨rfl, rfl⟩ | rfl | ⟨rfl, rfl⟩ | rfl
          · rw [e81]; exact w1
          · rw [e83, w2]
          · rw [v1, f1 214 (by omega)]
          · rw [v2, f1 227 (by omega)]
        · exact absurd hb2.1 (hno _ _)
      · rcases hc2 with ⟨-, hno, -⟩ | ⟨n2, hn2, hr2, v1, hb2, hx2⟩
        · exact absurd hb.1 (hno _ _)
        · obtain ⟨en, eK⟩ := Bst_u hC hb hb2
          subst en
          have he := (ext_inj (fun j a b => by have := hx j a (by omega); omega) (fun j a b => by have := hx2 j a (by omega); omega) eK).2
          refine ⟨by rw [hr2, hr], mk ⟨by rw [e81, w1, v1], by rw [e81, w1]; omega, fun j a b => ?_⟩⟩
          rw [e81, w1] at b
          rw [e83]
          exact he j a (by omega)
theorem c_both {p o q : Int} (h : Inv m B) (hp : InR p) (ho : InR o) (hq : InR q) : Duo mX11_both mX12_both [vi p, vi o, vi q] m (fun m2 => Inv m2 B) := by
  have hC : 4 * m 8 2 ≤ 24 := by have := h.dn.2.2.1; omega
  refine ⟨_, _, (by omega : 5 ≤ 70), ev_X11_both h.dn h.st hp ho hq, fun r m1 hq1 => ?_⟩
  have fr : FrS m m1 := by
    rcases hq1 with ⟨-, -, hm⟩ | ⟨-, f, -⟩
    · rw [hm]; exact FrS.rf
    · exact f
  have e6 : m1 216 = m 216 := fr.1 216 (by omega)
  refine ⟨_, _, (by omega : 8 ≤ 70), ev_X12_both (G := m) (B := B) (by rw [e6]; exact h.bg) h.dn h.st hp ho hq, fun r2 m2 hq2 => ?_⟩
  obtain ⟨g1, g2, hc2⟩ := hq2
  refine ⟨?_, h.all (Int.le_refl _) (fun b j z => ?_)⟩
  · rcases hq1 with ⟨z, hr, -⟩ | ⟨z, -, hc⟩
    · rcases hc2 with ⟨-, hr2⟩ | ⟨z2, -⟩
      · rw [hr2, hr]
      · exact absurd z2 z
    · rcases hc2 with ⟨z2, -⟩ | ⟨-, hc2⟩
      · exact absurd z z2
      · unfold Bst8 Rch8 at hc
        rw [nx8_sy o p] at hc
        rcases hc with ⟨n1, K1, n2, K2, b1, b2, hr⟩ | ⟨hr, hno⟩
        · rcases hc2 with ⟨j1, j2, ⟨t1, u1⟩, ⟨t2, u2⟩, hr2⟩ | ⟨hr2, hno2⟩
          · obtain ⟨L1, q1⟩ := To_R t1
            obtain ⟨L2, q2⟩ := To_R t2
            have x1 := Bst_n hC b1 q1
            have x2 := Bst_n hC b2 q2
            have y1 : ¬ n1 < j1 := fun z => u1 n1 z (R2T b1.1)
            have y2 : ¬ n2 < j2 := fun z => u2 n2 z (R2T b2.1)
            rw [hr2, hr, show j1 = n1 by omega, show j2 = n2 by omega]
          · rcases hno2 with hno2 | hno2
            · exact absurd (R2T b1.1) (hno2 _)
            · exact absurd (R2T b2.1) (hno2 _)
        · rcases hc2 with ⟨j1, j2, ⟨t1, u1⟩, ⟨t2, u2⟩, hr2⟩ | ⟨hr2, -⟩
          · obtain ⟨L1, q1⟩ := To_R t1
            obtain ⟨L2, q2⟩ := To_R t2
            rcases hno with hno | hno
            · exact absurd q1 (hno _ _)
            · exact absurd q2 (hno _ _)
          · rw [hr2, hr]
  · by_cases y : b = 214
    · subst y; rw [g2, wr_ni (by omega), fr.1 214 (by omega)]
    · by_cases y2 : b = 81
      · subst y2; rw [g1 81 (by omega) (by omega), fr.2 j (by omega)]
      · rw [g1 b y (by omega), fr.1 b (by omega)]
theorem cntI_c {P P' : Int → Bool} {n : Int} (h : ∀ j : Int, 0 ≤ j → j < n → P j = P' j) : cntI P n = cntI P' n := sumI_congr (fun j a b => by rw [h j a b])
theorem c_sees {p : Int} (h : Inv m B) (hp : InR p) : Duo mX11_sees mX12_sees [vi p] m (fun m2 => Inv m2 B) := by
  refine ⟨_, _, (by omega : 5 ≤ 70), ev_X11_sees h.dn h.st hp, fun r m1 hq1 => ?_⟩
  have fr : FrS m m1 := by
    rcases hq1 with ⟨-, -, hm⟩ | ⟨-, f, -⟩
    · rw [hm]; exact FrS.rf
    · exact f
  have e6 : m1 216 = m 216 := fr.1 216 (by omega)
  refine ⟨_, _, (by omega : 7 ≤ 70), ev_X12_sees (G := m) (B := B) (by rw [e6]; exact h.bg) h.dn h.st hp, fun r2 m2 hq2 => ?_⟩
  obtain ⟨g1, g2, hc2⟩ := hq2
  refine ⟨?_, h.all (Int.le_refl _) (fun b j z => ?_)⟩
  · rcases hq1 with ⟨z, hr, -⟩ | ⟨z, -, P, hP, hr⟩
    · rcases hc2 with ⟨-, hr2⟩ | ⟨z2, -⟩
      · rw [hr2, hr]
      · exact absurd z2 z
    · rcases hc2 with ⟨z2, -⟩ | ⟨-, P2, hP2, hr2⟩
      · exact absurd z z2
      · rw [hr2, hr]
        refine cntI_c (fun c a b => ?_)
        have e := (hP2 c a b).trans (hP c a b).symm
        cases x : P c <;> cases y : P2 c
        · rfl
        · rw [x, y] at e; exact absurd (e.mp rfl) (by decide)
        · rw [x, y] at e; exact absurd (e.mpr rfl) (by decide)
        · rfl
  · by_cases y : b = 214
    · subst y; rw [g2, wr_ni (by omega), fr.1 214 (by omega)]
    · by_cases y2 : b = 81
      · subst y2; rw [g1 81 (by omega) (by omega) (by omega), fr.2 j (by omega)]
      · rw [g1 b y (by omega) (by omega), fr.1 b (by omega)]
theorem c_undoes {f : Int} (h : Inv m B) (hf : InR f) : Duo mX11_undoes mX12_undoes [vi f] m (fun m2 => Inv m2 B) := by
  refine ⟨_, _, (by omega : 9 ≤ 70), ev_X11_undoes h.dn hf, fun r m1 hq1 => ?_⟩
  rcases hq1 with ⟨o, hc⟩ | ⟨o, hr, hm⟩
  · have f1 : ∀ b : Nat, b < 89 ∨ 92 ≤ b → m1 b = m b := by
      rcases hc with ⟨n, l, -, -, -, -, -, -, -, f1⟩ | ⟨-, -, f1⟩
      · exact f1
      · exact fun b hb => f1 b (by omega)
    have e6 : m1 216 = m 216 := f1 216 (by omega)
    refine ⟨_, _, (by omega : 3 ≤ 70), ev_X12_undoes (G := m) (by rw [e6]; exact h.bg) h.dn hf, fun r2 m2 hq2 => ?_⟩
    rcases hq2 with ⟨o2, -⟩ | ⟨-, g1, g2, hc2⟩
    · exact absurd o o2
    · have k : ∀ (b : Nat) (j : Int), (b < 89 ∨ 92 ≤ b) → b ≠ 228 → b ≠ 229 → ¬ (b = 214 ∧ (j = 0 ∨ j = 31)) → m2 b j = m b j := fun b j h1 h2 h3 h4 => by
        by_cases z : b = 214
        · subst z; rw [g2 j (by omega), wr_ni (by omega), f1 214 (by omega)]
        · rw [g1 b z h2 h3, f1 b h1]
      have mk : UdR m2 → Inv m2 B := fun hw => ⟨h.w.c (Int.le_refl _) (fun q j z => k q j (by omega) (by omega) (by omega) (by omega)), h.hi.c h.dn (Int.le_refl _) (fun q j z => k q j (by omega) (by omega) (by omega) (by omega)), fun n a0 b0 => (h.im n a0 b0).c a0 b0 (Int.le_refl _) (fun q j z => k q j (by omega) (by omega) (by omega) (by omega)), h.tp.c2 (fun q j z => k q j (by omega) (by omega) (by omega) (by omega)), h.kw.c (fun j => k 3 j (by omega) (by omega) (by omega) (by omega)), h.fa.c (fun q j z => k q j (by omega) (by omega) (by omega) (by omega)), h.wy.c (fun q j z => k q j (by omega) (by omega) (by omega) (by omega)), hw, h.tr.c (fun q j z => k q j (by omega) (by omega) (by omega) (by omega)), h.to.c (fun q j z => k q j (by omega) (by omega) (by omega) (by omega)), h.sl.c (fun q j z => k q j (by omega) (by omega) (by omega) (by omega))⟩
      have e89 : m2 89 = m1 89 := g1 89 (by omega) (by omega) (by omega)
      have e90 : m2 90 = m1 90 := g1 90 (by omega) (by omega) (by omega)
      rcases hc with ⟨n, l, n1, n3, hr, hs, hl, w1, w2, -⟩ | ⟨hr, hno, f2⟩
      · rcases hc2 with ⟨n', l', n1', n3', hr2, hs', hl', v1, v2⟩ | ⟨-, hno, -⟩
        · have en : n = n' := by
            apply Classical.byContradiction
            intro z
            rcases Nat.lt_or_gt_of_ne z with z | z
            · rw [hl' n n1 z] at hs; cases hs
            · rw [hl n' n1' z] at hs'; cases hs'
          subst en
          rw [hs] at hs'
          cases hs'
          have hlen := FS_len n _ _ _ l hs
          refine ⟨by rw [hr2, hr], mk ⟨by rw [e89, w1, v1], by rw [e89, w1]; omega, fun j a b => ?_⟩⟩
          rw [e89, w1] at b
          rw [e90]
          exact putL_at w2 v2 j a (by omega)
        · rw [hno n n1 n3] at hs; cases hs
      · rcases hc2 with ⟨n', l', n1', n3', -, hs', -⟩ | ⟨hr2, -, v1, v2⟩
        · rw [hno n' n1' n3'] at hs'; cases hs'
        · refine ⟨by rw [hr2, hr], mk (h.ud.c (fun b j z => ?_))⟩
          rcases z with ⟨rfl, rfl⟩ | rfl | ⟨rfl, rfl⟩ | rfl
          · rw [e89, f2 89 (by omega)]
          · rw [e90, f2 90 (by omega)]
          · rw [v1, f1 214 (by omega)]
          · rw [v2, f1 229 (by omega)]
  · subst hm
    refine ⟨_, _, (by omega : 3 ≤ 70), ev_X12_undoes h.bg h.dn hf, fun r2 m2 hq2 => ?_⟩
    rcases hq2 with ⟨-, hr2, hm2⟩ | ⟨o2, -⟩
    · subst hm2; exact ⟨by rw [hr2, hr], h.t0⟩
    · exact absurd o2 o
theorem TpX.zero {m : Mem} (h1 : m 1 1 = 0) (h2 : m 214 2 = 0) : TpX m m := ⟨by rw [h1, h2], by rw [h1]; omega, fun j a b => by rw [h1] at b; omega⟩
theorem c_tracks (h : Inv m B) : Duo mX11_tracks mX12_tracks [] m (fun m2 => Inv m2 B) := by
  refine ⟨_, _, (by omega : 6 ≤ 70), ev_X11_tracks h.tp.2.1 h.dn, fun r m1 hq1 => ?_⟩
  obtain ⟨mf, hq1, hm⟩ := hq1
  have f0 : ∀ b : Nat, b < 92 ∨ 97 ≤ b → mf b = m b := by
    rcases hq1 with ⟨-, -, hf⟩ | ⟨-, -, hf, -⟩
    · rw [hf]; exact fun _ _ => rfl
    · exact hf
  have f1 : ∀ b : Nat, b ≠ 1 → (b < 92 ∨ 97 ≤ b) → m1 b = m b := fun b h1 h2 => by rw [hm, wr_row h1, f0 b h2]
  have f2 : ∀ j : Int, j ≠ 1 → m1 1 j = m 1 j := fun j hj => by rw [hm, wr_ni hj, f0 1 (by omega)]
  have f3 : m1 1 1 = 0 := by rw [hm, wr_self]
  have e6 : m1 216 = m 216 := f1 216 (by omega) (by omega)
  have e4 : m1 214 = m 214 := f1 214 (by omega) (by omega)
  have e5 : m1 215 = m 215 := f1 215 (by omega) (by omega)
  refine ⟨_, _, (by omega : 4 ≤ 70), ev_X12_tracks (G := m) (by rw [e6]; exact h.bg) h.dn h.tp.2.1 (by rw [e4]; exact h.tp.1) (by rw [e5]; exact h.tp.2.2), fun r2 m2 hq2 => ?_⟩
  have gg : (∀ b : Nat, b ≠ 214 → b ≠ 230 → m2 b = m1 b) ∧ ∀ j : Int, j ≠ 34 → j ≠ 35 → m2 214 j = wr (wr m1 214 0 0) 214 2 0 214 j := by
    rcases hq2 with ⟨-, -, hm2⟩ | ⟨-, -, ⟨-, hm2⟩ | ⟨-, -, -, -, g1, g2⟩⟩
    · rw [hm2]; exact ⟨fun b h1 _ => by rw [wr_row h1, wr_row h1], fun _ _ _ => rfl⟩
    · rw [hm2]; exact ⟨fun b h1 _ => by rw [wr_row h1, wr_row h1], fun _ _ _ => rfl⟩
    · exact ⟨g1, g2⟩
  obtain ⟨g1, g2⟩ := gg
  have k : ∀ (b : Nat) (j : Int), (b < 92 ∨ 97 ≤ b) → b ≠ 230 → ¬ (b = 1 ∧ j = 1) → ¬ (b = 214 ∧ (j = 0 ∨ j = 2 ∨ j = 34 ∨ j = 35)) → m2 b j = m b j := fun b j h1 h2 h3 h4 => by
    by_cases z : b = 214
    · subst z; rw [g2 j (by omega) (by omega), wr_ni (by omega), wr_ni (by omega), e4]
    · rw [g1 b z h2]
      by_cases y : b = 1
      · subst y; exact f2 j (by omega)
      · rw [f1 b y h1]
  have t2 : TpX m2 m2 := TpX.zero (by rw [g1 1 (by omega) (by omega), f3]) (by rw [g2 2 (by omega) (by omega), wr_self])
  have mk : TrR m2 → Inv m2 B := fun hw => ⟨h.w.c (Int.le_refl _) (fun q j z => k q j (by omega) (by omega) (by omega) (by omega)), h.hi.c h.dn (Int.le_refl _) (fun q j z => k q j (by omega) (by omega) (by omega) (by omega)), fun n a0 b0 => (h.im n a0 b0).c a0 b0 (Int.le_refl _) (fun q j z => k q j (by omega) (by omega) (by omega) (by omega)), t2, h.kw.c (fun j => k 3 j (by omega) (by omega) (by omega) (by omega)), h.fa.c (fun q j z => k q j (by omega) (by omega) (by omega) (by omega)), h.wy.c (fun q j z => k q j (by omega) (by omega) (by omega) (by omega)), h.ud.c (fun q j z => k q j (by omega) (by omega) (by omega) (by omega)), hw, h.to.c (fun q j z => k q j (by omega) (by omega) (by omega) (by omega)), h.sl.c (fun q j z => k q j (by omega) (by omega) (by omega) (by omega))⟩
  have e92 : m2 92 = mf 92 := by rw [g1 92 (by omega) (by omega), hm, wr_row (by omega)]
  have e93 : m2 93 = mf 93 := by rw [g1 93 (by omega) (by omega), hm, wr_row (by omega)]
  have e94 : m2 94 = mf 94 := by rw [g1 94 (by omega) (by omega), hm, wr_row (by omega)]
  have same : mf 92 = m 92 → mf 93 = m 93 → mf 94 = m 94 → m2 214 34 = m 214 34 → m2 214 35 = m 214 35 → m2 230 = m 230 → TrR m2 := fun a1 a2 a3 a4 a5 a6 => h.tr.c (fun b j z => by
    rcases z with ⟨rfl, rfl⟩ | rfl | rfl | ⟨rfl, rfl | rfl⟩ | rfl
    · rw [e92, a1]
    · rw [e93, a2]
    · rw [e94, a3]
    · exact a4
    · exact a5
    · rw [a6])
  have wr2 : m2 = wr (wr m1 214 0 0) 214 2 0 → m2 214 34 = m 214 34 ∧ m2 214 35 = m 214 35 ∧ m2 230 = m 230 := fun z => by
    rw [z]
    exact ⟨by rw [wr_ni (by omega), wr_ni (by omega), e4], by rw [wr_ni (by omega), wr_ni (by omega), e4], by rw [wr_row (by omega), wr_row (by omega), f1 230 (by omega) (by omega)]⟩
  rcases hq1 with ⟨o, hr, hf⟩ | ⟨o, hr, -, hc⟩
  · rcases hq2 with ⟨-, hr2, hm2⟩ | ⟨o2, -⟩
    · have z := wr2 hm2
      exact ⟨by rw [hr2, hr], mk (same (by rw [hf]) (by rw [hf]) (by rw [hf]) z.1 z.2.1 z.2.2)⟩
    · exact absurd o2 o
  · rcases hq2 with ⟨o2, -⟩ | ⟨-, hr2, hc2⟩
    · exact absurd o o2
    · refine ⟨by rw [hr2, hr], mk ?_⟩
      rcases hc with ⟨z, a1, a2, a3⟩ | ⟨z, a1, a2⟩
      · rcases hc2 with ⟨-, hm2⟩ | ⟨z2, -⟩
        · have y := wr2 hm2
          exact same a1 a2 a3 y.1 y.2.1 y.2.2
        · omega
      · rcases hc2 with ⟨z2, -⟩ | ⟨-, b1, b2, b3, -, -⟩
        · omega
        · obtain ⟨-, v1, v2, -⟩ := o
          refine ⟨by rw [e92, a1, b1], by rw [e92, a1]; omega, fun j x y => ?_, ?_⟩
          · rw [e92, a1] at y
            rw [e93, (a2 j x y).1, b3 j x y]
          · rw [e92, a1, b2, if_neg (by omega), e94]
            exact mstN_c (fun j x y => ((a2 j x (by omega)).2).symm)
theorem c_slip {p : Int} (h : Inv m B) (hp : InR p) : Duo mX11_slip mX12_slip [vi p] m (fun m2 => Inv m2 B) := by
  have hl : ∃ l : List Int, 0 ≤ p → p < m 8 3 → (((1 ≤ l.length ∧ l.length ≤ 7) ∧ Lt l ∧ m 12 p = fr 32 l) ∧ m 221 (6 + p) = fr 27 l) := by
    by_cases o : 0 ≤ p ∧ p < m 8 3
    · obtain ⟨l, a, b, c, d⟩ := h.nm.2.1 p o.1 o.2
      exact ⟨l, fun _ _ => ⟨⟨a, b, c⟩, d⟩⟩
    · exact ⟨[], fun a b => absurd ⟨a, b⟩ o⟩
  obtain ⟨l, hl⟩ := hl
  refine ⟨_, _, (by omega : 6 ≤ 70), ev_X11_slip (l := l) h.dn h.st hp (fun a b => (hl a b).1), fun r m1 hq1 => ?_⟩
  rcases hq1 with ⟨o, hr, hm⟩ | ⟨o, hr, f1, f2, f3, f4⟩
  · subst hm
    refine ⟨_, _, (by omega : 12 ≤ 70), ev_X12_slip (l := l) h.bg h.dn h.st hp (fun a b => ⟨(hl a b).1.1, (hl a b).1.2.1, (hl a b).2⟩), fun r2 m2 hq2 => ?_⟩
    rcases hq2 with ⟨-, hr2, hm2⟩ | ⟨o2, -⟩
    · subst hm2; exact ⟨by rw [hr2, hr], h.t0⟩
    · exact absurd o2 o
  · have k1 : ∀ b : Nat, b ≠ 213 → b ≠ 0 → m1 b = m b := fun b h1 h2 => by rw [f1 b h1 h2, wr_row h2]
    have k2 : ∀ j : Int, j ≠ 13 → m1 0 j = m 0 j := fun j hj => by rw [f2 j hj, wr_ni hj]
    rw [wr_self] at f3
    have e6 : m1 216 = m 216 := k1 216 (by omega) (by omega)
    have e21 : m1 221 = m 221 := k1 221 (by omega) (by omega)
    refine ⟨_, _, (by omega : 12 ≤ 70), ev_X12_slip (G := m) (B := B) (l := l) (by rw [e6]; exact h.bg) h.dn h.st hp (fun a b => ⟨(hl a b).1.1, (hl a b).1.2.1, by rw [e21]; exact (hl a b).2⟩), fun r2 m2 hq2 => ?_⟩
    rcases hq2 with ⟨o2, -⟩ | ⟨-, hr2, g1, g2, g3, g4⟩
    · exact absurd o o2
    · rw [wr_self] at g3
      have k : ∀ (b : Nat) (j : Int), b ≠ 213 → b ≠ 231 → ¬ (b = 0 ∧ j = 13) → ¬ (b = 214 ∧ (j = 0 ∨ j = 37)) → m2 b j = m b j := fun b j h1 h2 h3 h4 => by
        by_cases z : b = 214
        · subst z; rw [g2 j (by omega), wr_ni (by omega), wr_ni (by omega), k1 214 (by omega) (by omega)]
        · rw [g1 b h2 z, wr_row z, wr_row z]
          by_cases y : b = 0
          · subst y; exact k2 j (by omega)
          · rw [k1 b h1 y]
      have e0 : m2 0 = m1 0 := by rw [g1 0 (by omega) (by omega), wr_row (by omega), wr_row (by omega)]
      have e13 : m2 213 = m1 213 := by rw [g1 213 (by omega) (by omega), wr_row (by omega), wr_row (by omega)]
      have h25 := slT_len (G := m) (p := p) (hl o.1 o.2).1.1.2
      refine ⟨by rw [hr2, hr], h.w.c (Int.le_refl _) (fun q j z => k q j (by omega) (by omega) (by omega) (by omega)), h.hi.c h.dn (Int.le_refl _) (fun q j z => k q j (by omega) (by omega) (by omega) (by omega)), fun n a0 b0 => (h.im n a0 b0).c a0 b0 (Int.le_refl _) (fun q j z => k q j (by omega) (by omega) (by omega) (by omega)), h.tp.c2 (fun q j z => k q j (by omega) (by omega) (by omega) (by omega)), h.kw.c (fun j => k 3 j (by omega) (by omega) (by omega) (by omega)), h.fa.c (fun q j z => k q j (by omega) (by omega) (by omega) (by omega)), h.wy.c (fun q j z => k q j (by omega) (by omega) (by omega) (by omega)), h.ud.c (fun q j z => k q j (by omega) (by omega) (by omega) (by omega)), h.tr.c (fun q j z => k q j (by omega) (by omega) (by omega) (by omega)), h.to.c (fun q j z => k q j (by omega) (by omega) (by omega) (by omega)), ⟨by rw [e0, f3, g3], by rw [e0, f3]; omega, fun j a b => ?_⟩⟩
      rw [e0, f3] at b
      rw [e13, f4 j, g4 j, wr_self, wr_self]
      rw [if_pos ⟨a, b⟩, if_pos ⟨a, b⟩]
end
