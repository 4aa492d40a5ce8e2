/-! ===== the reference: tracks; by which figures one is as he was ===== -/
theorem tx_b (m : Mem) (i : Int) : 0 ≤ tx m i ∧ tx m i ≤ 255 := iand255 _
theorem trN_ne {m : Mem} : ∀ {n : Nat}, trN m n ≠ 0 → ∀ k : Int, 0 ≤ k → k < n → cntI (tkP m k) (4 * m 8 2) ≠ 0 := by
  intro n
  induction n with
  | zero => intro _ k h0 h1; omega
  | succ n ih =>
    intro h k h0 h1 e
    have h2 : trN m n * cntI (tkP m (n : Int)) (4 * m 8 2) ≠ 0 := h
    by_cases q : k < n
    · refine ih (fun z => h2 (by rw [z]; omega)) k h0 q e
    · have : k = n := by omega
      subst this
      exact h2 (by rw [e]; omega)
def TkP (m G : Mem) (r : Int) (m' : Mem) : Prop := (¬ trV G ∧ r = -1 ∧ m' = wr (wr m 214 0 0) 214 2 0) ∨ (trV G ∧ r = trN G (G 1 1 / 2 - 1).toNat ∧ ((r = 0 ∧ m' = wr (wr m 214 0 0) 214 2 0) ∨ (0 < r ∧ m' 214 34 = G 1 1 / 2 - 1 ∧ m' 214 35 = mstN (fun k => cntI (tkP G k) (4 * G 8 2)) (G 1 1 / 2 - 1 - 1).toNat ∧ (∀ k : Int, 0 ≤ k → k < G 1 1 / 2 - 1 → m' 230 k = fnd (tkP G k) (4 * G 8 2)) ∧
  (∀ b : Nat, b ≠ 214 → b ≠ 230 → m' b = m b) ∧ ∀ j : Int, j ≠ 34 → j ≠ 35 → m' 214 j = wr (wr m 214 0 0) 214 2 0 214 j)))
/-! rows of figures as numbers -/
def dg (C : Int) : Nat → Int → List Int
  | 0, _ => []
  | n + 1, r => dg C n (r / C) ++ [r % C]
def nu (C : Int) : List Int → Int
  | [] => 0
  | v :: l => v * C ^ l.length + nu C l
def SX (cl : Int → Int) : List Int → Int
  | [] => 0
  | v :: l => cl (v / 4) * dx (v % 4) + SX cl l
def SY (cl : Int → Int) : List Int → Int
  | [] => 0
  | v :: l => cl (v / 4) * dy (v % 4) + SY cl l
def ST (q : Int → Int) : List Int → Int
  | [] => 0
  | v :: l => q (v / 4) + ST q l
def VL (cl q : Int → Int) (l : List Int) (x y t : Int) : Prop := x + SX cl l = 0 ∧ y + SY cl l = 0 ∧ (t + ST q l) % 4 = 0
def In (C : Int) (l : List Int) : Prop := ∀ v ∈ l, 0 ≤ v ∧ v < C
theorem VL_c {cl q : Int → Int} {v : Int} {l : List Int} {x y t : Int} : VL cl q (v :: l) x y t ↔ VL cl q l (x + cl (v / 4) * dx (v % 4)) (y + cl (v / 4) * dy (v % 4)) (t + q (v / 4)) := by
  unfold VL
  show x + (cl (v / 4) * dx (v % 4) + SX cl l) = 0 ∧ y + (cl (v / 4) * dy (v % 4) + SY cl l) = 0 ∧ (t + (q (v / 4) + ST q l)) % 4 = 0 ↔ _
  rw [Int.add_assoc, Int.add_assoc, Int.add_assoc]
theorem nu_b {C : Int} (hC : 0 < C) : ∀ {l : List Int}, In C l → 0 ≤ nu C l ∧ nu C l < C ^ l.length := by
  intro l
  induction l with
  | nil => intro _; exact ⟨Int.le_refl 0, by show (0 : Int) < C ^ 0; rw [Int.pow_zero]; omega⟩
  | cons v l ih =>
    intro h
    have h1 := ih (fun w hw => h w (List.mem_cons_of_mem _ hw))
    have h2 := h v List.mem_cons_self
    have hp : 0 < C ^ l.length := Int.pow_pos hC
    show 0 ≤ v * C ^ l.length + nu C l ∧ v * C ^ l.length + nu C l < C ^ (l.length + 1)
    rw [Int.pow_succ, Int.mul_comm (C ^ l.length) C]
    have e1 : 0 ≤ v * C ^ l.length := Int.mul_nonneg h2.1 (by omega)
    have e2 : (v + 1) * C ^ l.length ≤ C * C ^ l.length := Int.mul_le_mul_of_nonneg_right (by omega) (by omega)
    rw [Int.add_mul, Int.one_mul] at e2
    omega
theorem nu_lt {C v v' : Int} {l l' : List Int} (hC : 0 < C) (h : In C l) (h' : In C l') (hl : l.length = l'.length) (hv : v < v') : nu C (v :: l) < nu C (v' :: l') := by
  have h1 := nu_b hC h
  have h2 := nu_b hC h'
  show v * C ^ l.length + nu C l < v' * C ^ l'.length + nu C l'
  rw [← hl]
  rw [← hl] at h2
  have e2 : (v + 1) * C ^ l.length ≤ v' * C ^ l.length := Int.mul_le_mul_of_nonneg_right (by omega) (by have : 0 < C ^ l.length := Int.pow_pos hC; omega)
  rw [Int.add_mul, Int.one_mul] at e2
  omega
theorem nu_app {C v : Int} : ∀ {l : List Int}, nu C (l ++ [v]) = C * nu C l + v := by
  intro l
  induction l with
  | nil => show v * C ^ 0 + 0 = C * 0 + v; rw [Int.pow_zero]; omega
  | cons w l ih =>
    show w * C ^ (l ++ [v]).length + nu C (l ++ [v]) = C * (w * C ^ l.length + nu C l) + v
    rw [ih, List.length_append, show ([v] : List Int).length = 1 from rfl, Int.pow_succ, Int.mul_add, ← Int.mul_assoc w, Int.mul_comm (w * C ^ l.length) C]
    omega
theorem dg_len {C : Int} : ∀ {n : Nat} {r : Int}, (dg C n r).length = n := by
  intro n
  induction n with
  | zero => intro r; rfl
  | succ n ih => intro r; show (dg C n (r / C) ++ [r % C]).length = n + 1; rw [List.length_append, ih]; rfl
theorem dg_in {C : Int} (hC : 0 < C) : ∀ {n : Nat} {r : Int}, 0 ≤ r → r < C ^ n → In C (dg C n r) := by
  intro n
  induction n with
  | zero => intro r _ _ v hv; cases hv
  | succ n ih =>
    intro r h0 h1 v hv
    have hv : v ∈ dg C n (r / C) ++ [r % C] := hv
    rcases List.mem_append.mp hv with h | h
    · refine ih (Int.ediv_nonneg h0 (by omega)) ?_ v h
      rw [Int.pow_succ] at h1
      exact Int.ediv_lt_of_lt_mul hC h1
    · have : v = r % C := by simpa using h
      rw [this]; exact ⟨Int.emod_nonneg _ (by omega), Int.emod_lt_of_pos _ hC⟩
theorem dg_nu {C : Int} (hC : 0 < C) : ∀ {n : Nat} {r : Int}, 0 ≤ r → r < C ^ n → nu C (dg C n r) = r := by
  intro n
  induction n with
  | zero => intro r h0 h1; rw [Int.pow_zero] at h1; show (0 : Int) = r; omega
  | succ n ih =>
    intro r h0 h1
    show nu C (dg C n (r / C) ++ [r % C]) = r
    rw [Int.pow_succ] at h1
    rw [nu_app, ih (Int.ediv_nonneg h0 (by omega)) (Int.ediv_lt_of_lt_mul hC h1)]
    exact Int.mul_ediv_add_emod r C
theorem nu_inj {C : Int} (hC : 0 < C) : ∀ {l l' : List Int}, In C l → In C l' → l.length = l'.length → nu C l = nu C l' → l = l' := by
  intro l
  induction l with
  | nil => intro l' _ _ hl _; cases l' with
    | nil => rfl
    | cons a b => cases hl
  | cons v l ih =>
    intro l' h h' hl he
    cases l' with
    | nil => cases hl
    | cons v' l' =>
      have hl2 : l.length = l'.length := by simpa using hl
      have i1 : In C l := fun w hw => h w (List.mem_cons_of_mem _ hw)
      have i2 : In C l' := fun w hw => h' w (List.mem_cons_of_mem _ hw)
      have ev : v = v' := by
        by_cases a : v < v'
        · have := nu_lt hC i1 i2 hl2 a; omega
        · by_cases b : v' < v
          · have := nu_lt hC i2 i1 hl2.symm b; omega
          · omega
      subst ev
      have : nu C l = nu C l' := by
        have he : v * C ^ l.length + nu C l = v * C ^ l'.length + nu C l' := he
        rw [hl2] at he; omega
      rw [ih i1 i2 hl2 this]
theorem FS_min {C : Int} {cl q : Int → Int} (hC : 0 < C) : ∀ (n : Nat) (x y t : Int), (FS C cl q n x y t = none ∧ ∀ l, l.length = n → In C l → ¬ VL cl q l x y t) ∨ (∃ l, FS C cl q n x y t = some l ∧ l.length = n ∧ In C l ∧ VL cl q l x y t ∧ ∀ l', l'.length = n → In C l' → VL cl q l' x y t → nu C l ≤ nu C l') := by
  intro n
  induction n with
  | zero =>
    intro x y t
    by_cases h : x = 0 ∧ y = 0 ∧ t % 4 = 0
    · right
      refine ⟨[], by show (if _ then some [] else none) = some []; rw [if_pos h], rfl, (fun v hv => by cases hv), ?_, fun l' hl _ _ => ?_⟩
      · unfold VL SX SY ST; omega
      · cases l' with
        | nil => exact Int.le_refl _
        | cons a b => cases hl
    · left
      refine ⟨by show (if _ then some [] else none) = none; rw [if_neg h], fun l hl _ hv => ?_⟩
      cases l with
      | nil => unfold VL SX SY ST at hv; omega
      | cons a b => cases hl
  | succ n ih =>
    intro x y t
    rcases FS_cases C cl q n x y t with ⟨h1, h2⟩ | ⟨v, l, h0, h1, h2, h3, h4⟩
    · left
      refine ⟨h1, fun l hl hi hv => ?_⟩
      cases l with
      | nil => cases hl
      | cons a b =>
        have hb : b.length = n := by simpa using hl
        have ha := hi a List.mem_cons_self
        rcases ih (x + cl (a / 4) * dx (a % 4)) (y + cl (a / 4) * dy (a % 4)) (t + q (a / 4)) with ⟨-, k⟩ | ⟨l, k, -⟩
        · exact k b hb (fun w hw => hi w (List.mem_cons_of_mem _ hw)) (VL_c.mp hv)
        · have := h2 a ha.1 ha.2
          rw [show FSn C cl q n x y t a = some l from k] at this; cases this
    · right
      rcases ih (x + cl (v / 4) * dx (v % 4)) (y + cl (v / 4) * dy (v % 4)) (t + q (v / 4)) with ⟨k, -⟩ | ⟨l2, k1, k2, k3, k4, k5⟩
      · rw [show FSn C cl q n x y t v = none from k] at h2; cases h2
      · have e : l2 = l := by
          have := h2.symm.trans k1
          cases this; rfl
        subst e
        refine ⟨v :: l2, h4, by rw [List.length_cons, k2], ?_, VL_c.mpr k4, fun l' hl hi hv => ?_⟩
        · intro w hw
          rcases List.mem_cons.mp hw with e | e
          · rw [e]; exact ⟨h0, h1⟩
          · exact k3 w e
        · cases l' with
          | nil => cases hl
          | cons a b =>
            have hb : b.length = n := by simpa using hl
            have ha := hi a List.mem_cons_self
            have ib : In C b := fun w hw => hi w (List.mem_cons_of_mem _ hw)
            by_cases q1 : a < v
            · exfalso
              rcases ih (x + cl (a / 4) * dx (a % 4)) (y + cl (a / 4) * dy (a % 4)) (t + q (a / 4)) with ⟨-, kk⟩ | ⟨l9, kk, -⟩
              · exact kk b hb ib (VL_c.mp hv)
              · have := h3 a ha.1 q1
                rw [show FSn C cl q n x y t a = some l9 from kk] at this; cases this
            · by_cases q2 : v < a
              · exact Int.le_of_lt (nu_lt hC k3 ib (by omega) q2)
              · have : a = v := by omega
                subst this
                have := k5 b hb ib (VL_c.mp hv)
                show a * C ^ l2.length + nu C l2 ≤ a * C ^ b.length + nu C b
                rw [k2, hb]; omega
theorem FS_none {C : Int} {cl q : Int → Int} (hC : 0 < C) {n : Nat} {x y t : Int} (h : ∀ r : Int, 0 ≤ r → r < C ^ n → ¬ VL cl q (dg C n r) x y t) : FS C cl q n x y t = none := by
  rcases FS_min hC n x y t with ⟨a, -⟩ | ⟨l, -, k2, k3, k4, -⟩
  · exact a
  · exfalso
    have hb := nu_b hC k3
    rw [k2] at hb
    have e : dg C n (nu C l) = l := nu_inj hC (dg_in hC hb.1 hb.2) k3 (by rw [dg_len, k2]) (dg_nu hC hb.1 hb.2)
    exact h _ hb.1 hb.2 (by rw [e]; exact k4)
theorem FS_some {C : Int} {cl q : Int → Int} (hC : 0 < C) {n : Nat} {x y t r : Int} (h0 : 0 ≤ r) (h1 : r < C ^ n) (hv : VL cl q (dg C n r) x y t) (h : ∀ j : Int, 0 ≤ j → j < r → ¬ VL cl q (dg C n j) x y t) : FS C cl q n x y t = some (dg C n r) := by
  rcases FS_min hC n x y t with ⟨-, a⟩ | ⟨l, k1, k2, k3, k4, k5⟩
  · exact absurd hv (a _ dg_len (dg_in hC h0 h1))
  · have hb := nu_b hC k3
    rw [k2] at hb
    have e : dg C n (nu C l) = l := nu_inj hC (dg_in hC hb.1 hb.2) k3 (by rw [dg_len, k2]) (dg_nu hC hb.1 hb.2)
    have le := k5 _ dg_len (dg_in hC h0 h1) hv
    rw [dg_nu hC h0 h1] at le
    have : nu C l = r := by
      by_cases z : nu C l < r
      · exact absurd (by rw [e]; exact k4) (h _ hb.1 z)
      · omega
    rw [k1, ← e, this]
theorem SX_app {cl : Int → Int} {v : Int} {l : List Int} : SX cl (v :: l) = cl (v / 4) * dx (v % 4) + SX cl l := rfl
theorem SY_app {cl : Int → Int} {v : Int} {l : List Int} : SY cl (v :: l) = cl (v / 4) * dy (v % 4) + SY cl l := rfl
theorem ST_app {q : Int → Int} {v : Int} {l : List Int} : ST q (v :: l) = q (v / 4) + ST q l := rfl
theorem pw_b {C : Int} (h0 : 0 ≤ C) (h1 : C ≤ 24) {n : Nat} (hn : n ≤ 3) : 0 ≤ C ^ n ∧ C ^ n ≤ 13824 := by
  have key : ∀ k : Nat, 0 ≤ C ^ k ∧ C ^ k ≤ 24 ^ k := by
    intro k
    induction k with
    | zero => rw [Int.pow_zero, Int.pow_zero]; omega
    | succ k ih =>
      rw [Int.pow_succ, Int.pow_succ]
      exact ⟨Int.mul_nonneg ih.1 h0, Int.le_trans (Int.mul_le_mul_of_nonneg_left h1 ih.1) (Int.mul_le_mul_of_nonneg_right ih.2 (by omega))⟩
  have := key n
  have h3 : (24 : Int) ^ n ≤ 13824 := by
    have : n = 0 ∨ n = 1 ∨ n = 2 ∨ n = 3 := by omega
    rcases this with rfl | rfl | rfl | rfl <;> decide
  omega
def UdP (m G : Mem) (f r : Int) (m' : Mem) : Prop := (¬ (0 ≤ f ∧ f < G 8 2) ∧ r = -1 ∧ m' = wr m 214 0 0) ∨ ((0 ≤ f ∧ f < G 8 2) ∧ (∀ b : Nat, b ≠ 214 → b ≠ 228 → b ≠ 229 → m' b = m b) ∧ (∀ j : Int, j ≠ 31 → m' 214 j = wr m 214 0 0 214 j) ∧
  ((∃ (n : Nat) (l : List Int), 1 ≤ n ∧ n ≤ 3 ∧ r = (n : Int) ∧ FSm G n (G 11 f) 0 (G 10 f) = some l ∧ (∀ j : Nat, 1 ≤ j → j < n → FSm G j (G 11 f) 0 (G 10 f) = none) ∧ m' 214 31 = (n : Int) ∧ putL m' 229 0 l) ∨
   (r = -1 ∧ (∀ j : Nat, 1 ≤ j → j ≤ 3 → FSm G j (G 11 f) 0 (G 10 f) = none) ∧ m' 214 31 = m 214 31 ∧ m' 229 = m 229)))
theorem dg_s {C r : Int} {k : Int} {l : List Int} (h : 0 ≤ k) : dg C (k + 1).toNat r ++ l = dg C k.toNat (r / C) ++ ((r % C) :: l) := by
  rw [show (k + 1).toNat = k.toNat + 1 by omega]
  show (dg C k.toNat (r / C) ++ [r % C]) ++ l = _
  rw [List.append_assoc]; rfl

theorem dX12_acrossBy_0 : decode mX12_acrossBy.2.1 0 = .ok (.iload_n 1, 1) := by decide +kernel
theorem dX12_acrossBy_1 : decode mX12_acrossBy.2.1 1 = .ok (.iconst 4, 1) := by decide +kernel
theorem dX12_acrossBy_2 : decode mX12_acrossBy.2.1 2 = .ok (.irem, 1) := by decide +kernel
theorem dX12_acrossBy_3 : decode mX12_acrossBy.2.1 3 = .ok (.ifCond .ne 17, 3) := by decide +kernel
theorem dX12_acrossBy_6 : decode mX12_acrossBy.2.1 6 = .ok (.aload_n 0, 1) := by decide +kernel
theorem dX12_acrossBy_7 : decode mX12_acrossBy.2.1 7 = .ok (.getfield 98, 3) := by decide +kernel
theorem dX12_acrossBy_10 : decode mX12_acrossBy.2.1 10 = .ok (.bipush 11, 2) := by decide +kernel
theorem dX12_acrossBy_12 : decode mX12_acrossBy.2.1 12 = .ok (.iload_n 1, 1) := by decide +kernel
theorem dX12_acrossBy_13 : decode mX12_acrossBy.2.1 13 = .ok (.iconst 4, 1) := by decide +kernel
theorem dX12_acrossBy_14 : decode mX12_acrossBy.2.1 14 = .ok (.idiv, 1) := by decide +kernel
theorem dX12_acrossBy_15 : decode mX12_acrossBy.2.1 15 = .ok (.iadd, 1) := by decide +kernel
theorem dX12_acrossBy_16 : decode mX12_acrossBy.2.1 16 = .ok (.iaload, 1) := by decide +kernel
theorem dX12_acrossBy_17 : decode mX12_acrossBy.2.1 17 = .ok (.goto 26, 3) := by decide +kernel
theorem dX12_acrossBy_20 : decode mX12_acrossBy.2.1 20 = .ok (.iload_n 1, 1) := by decide +kernel
theorem dX12_acrossBy_21 : decode mX12_acrossBy.2.1 21 = .ok (.iconst 4, 1) := by decide +kernel
theorem dX12_acrossBy_22 : decode mX12_acrossBy.2.1 22 = .ok (.irem, 1) := by decide +kernel
theorem dX12_acrossBy_23 : decode mX12_acrossBy.2.1 23 = .ok (.iconst 2, 1) := by decide +kernel
theorem dX12_acrossBy_24 : decode mX12_acrossBy.2.1 24 = .ok (.if_icmp .ne 18, 3) := by decide +kernel
theorem dX12_acrossBy_27 : decode mX12_acrossBy.2.1 27 = .ok (.aload_n 0, 1) := by decide +kernel
theorem dX12_acrossBy_28 : decode mX12_acrossBy.2.1 28 = .ok (.getfield 98, 3) := by decide +kernel
theorem dX12_acrossBy_31 : decode mX12_acrossBy.2.1 31 = .ok (.bipush 11, 2) := by decide +kernel
theorem dX12_acrossBy_33 : decode mX12_acrossBy.2.1 33 = .ok (.iload_n 1, 1) := by decide +kernel
theorem dX12_acrossBy_34 : decode mX12_acrossBy.2.1 34 = .ok (.iconst 4, 1) := by decide +kernel
theorem dX12_acrossBy_35 : decode mX12_acrossBy.2.1 35 = .ok (.idiv, 1) := by decide +kernel
theorem dX12_acrossBy_36 : decode mX12_acrossBy.2.1 36 = .ok (.iadd, 1) := by decide +kernel
theorem dX12_acrossBy_37 : decode mX12_acrossBy.2.1 37 = .ok (.iaload, 1) := by decide +kernel
theorem dX12_acrossBy_38 : decode mX12_acrossBy.2.1 38 = .ok (.ineg, 1) := by decide +kernel
theorem dX12_acrossBy_39 : decode mX12_acrossBy.2.1 39 = .ok (.goto 4, 3) := by decide +kernel
theorem dX12_acrossBy_42 : decode mX12_acrossBy.2.1 42 = .ok (.iconst 0, 1) := by decide +kernel
theorem dX12_acrossBy_43 : decode mX12_acrossBy.2.1 43 = .ok (.ireturn, 1) := by decide +kernel
set_option maxRecDepth 4000 in
theorem ev_X12_acrossBy {m : Mem} {G : Mem} {d : Nat} {st : Nat} {v : Int} (hb : Bg G d st (m 216)) (hdn : DnOk G d) (hv : 0 ≤ v ∧ v < 4 * G d 2) : Ev 0 1 mX12_acrossBy [vr 214, vi v] m (fun r m' => m' = m ∧ (r = G (d + 3) (v / 4) * dx (v % 4))) := by
  refine Ev.of (L := [vr 214, vi v]) (by decide +kernel) rfl (Nat.le_of_ble_eq_true rfl) rfl (fun t ht => by cases ht; first | exact Or.inl rfl | exact Or.inr (Or.inl rfl) | exact Or.inr (Or.inr rfl)) (fun hcan => ?_)
  obtain ⟨⟨hd0, hd1⟩, ⟨hd2, hd3⟩, ⟨hd4, hd5⟩, ⟨hd6, hd7⟩, ⟨hd8, hd9⟩, hdf, hdp, hdq⟩ := id hdn
  have hsd := sdx (n := G (d + 3) (v / 4)) (s := v % 4) (by omega) (by omega)
  have hff := hdf (v / 4) (by omega) (by omega)
  refine go_iload_n dX12_acrossBy_0 rfl ?_
  refine go_iconst dX12_acrossBy_1 ?_
  refine go_irem dX12_acrossBy_2 ⟨by omega, by omega⟩ ⟨by omega, by omega⟩ (by omega) (by omega) ?_
  refine go_if_ne (tgt := 20) dX12_acrossBy_3 (by decide) ⟨by omega, by omega⟩ (fun h_3 => ?_) (fun h_3 => ?_)
  · refine go_iload_n dX12_acrossBy_20 rfl ?_
    refine go_iconst dX12_acrossBy_21 ?_
    refine go_irem dX12_acrossBy_22 ⟨by omega, by omega⟩ ⟨by omega, by omega⟩ (by omega) (by omega) ?_
    refine go_iconst dX12_acrossBy_23 ?_
    refine go_icmp_ne (tgt := 42) dX12_acrossBy_24 (by decide) ⟨by omega, by omega⟩ ⟨by omega, by omega⟩ (fun h_24 => ?_) (fun h_24 => ?_)
    · refine go_iconst dX12_acrossBy_42 ?_
      exact go_ret (v := 0) rfl dX12_acrossBy_43 (okI ⟨by omega, by omega⟩) ⟨rfl, (by first | assumption | rfl | omega)⟩
    · refine go_aload_n dX12_acrossBy_27 rfl ?_
      refine go_getf_p (b := 216) dX12_acrossBy_28 fl_12_98 ob_214 rfl pt_214_14 ?_
      refine go_bipush dX12_acrossBy_31 (by decide) ?_
      refine go_iload_n dX12_acrossBy_33 rfl ?_
      refine go_iconst dX12_acrossBy_34 ?_
      refine go_idiv dX12_acrossBy_35 ⟨by omega, by omega⟩ ⟨by omega, by omega⟩ (by omega) (by omega) ?_
      refine go_iadd dX12_acrossBy_36 ?_
      refine go_iaload dX12_acrossBy_37 ar_216 (by omega) (by omega) (fun he_37 => ?_)
      rw [show (m 216 (11 + (v / 4)) : Int) = (G (d + 3) (v / 4)) from (hb.go (f := (v / 4)) (by omega) (by omega))] at he_37 ⊢
      refine go_ineg dX12_acrossBy_38 ?_
      refine go_goto (tgt := 43) dX12_acrossBy_39 (by decide) ?_
      exact go_ret (v := (-(G (d + 3) (v / 4)))) rfl dX12_acrossBy_43 (okI ⟨by omega, by omega⟩) ⟨rfl, (by first | assumption | rfl | omega)⟩
  · refine go_aload_n dX12_acrossBy_6 rfl ?_
    refine go_getf_p (b := 216) dX12_acrossBy_7 fl_12_98 ob_214 rfl pt_214_14 ?_
    refine go_bipush dX12_acrossBy_10 (by decide) ?_
    refine go_iload_n dX12_acrossBy_12 rfl ?_
    refine go_iconst dX12_acrossBy_13 ?_
    refine go_idiv dX12_acrossBy_14 ⟨by omega, by omega⟩ ⟨by omega, by omega⟩ (by omega) (by omega) ?_
    refine go_iadd dX12_acrossBy_15 ?_
    refine go_iaload dX12_acrossBy_16 ar_216 (by omega) (by omega) (fun he_16 => ?_)
    rw [show (m 216 (11 + (v / 4)) : Int) = (G (d + 3) (v / 4)) from (hb.go (f := (v / 4)) (by omega) (by omega))] at he_16 ⊢
    refine go_goto (tgt := 43) dX12_acrossBy_17 (by decide) ?_
    exact go_ret (v := (G (d + 3) (v / 4))) rfl dX12_acrossBy_43 (okI ⟨by omega, by omega⟩) ⟨rfl, (by first | assumption | rfl | omega)⟩
theorem dX12_downBy_0 : decode mX12_downBy.2.1 0 = .ok (.iload_n 1, 1) := by decide +kernel
theorem dX12_downBy_1 : decode mX12_downBy.2.1 1 = .ok (.iconst 4, 1) := by decide +kernel
theorem dX12_downBy_2 : decode mX12_downBy.2.1 2 = .ok (.irem, 1) := by decide +kernel
theorem dX12_downBy_3 : decode mX12_downBy.2.1 3 = .ok (.iconst 1, 1) := by decide +kernel
theorem dX12_downBy_4 : decode mX12_downBy.2.1 4 = .ok (.if_icmp .ne 17, 3) := by decide +kernel
theorem dX12_downBy_7 : decode mX12_downBy.2.1 7 = .ok (.aload_n 0, 1) := by decide +kernel
theorem dX12_downBy_8 : decode mX12_downBy.2.1 8 = .ok (.getfield 98, 3) := by decide +kernel
theorem dX12_downBy_11 : decode mX12_downBy.2.1 11 = .ok (.bipush 11, 2) := by decide +kernel
theorem dX12_downBy_13 : decode mX12_downBy.2.1 13 = .ok (.iload_n 1, 1) := by decide +kernel
theorem dX12_downBy_14 : decode mX12_downBy.2.1 14 = .ok (.iconst 4, 1) := by decide +kernel
theorem dX12_downBy_15 : decode mX12_downBy.2.1 15 = .ok (.idiv, 1) := by decide +kernel
theorem dX12_downBy_16 : decode mX12_downBy.2.1 16 = .ok (.iadd, 1) := by decide +kernel
theorem dX12_downBy_17 : decode mX12_downBy.2.1 17 = .ok (.iaload, 1) := by decide +kernel
theorem dX12_downBy_18 : decode mX12_downBy.2.1 18 = .ok (.goto 26, 3) := by decide +kernel
theorem dX12_downBy_21 : decode mX12_downBy.2.1 21 = .ok (.iload_n 1, 1) := by decide +kernel
theorem dX12_downBy_22 : decode mX12_downBy.2.1 22 = .ok (.iconst 4, 1) := by decide +kernel
theorem dX12_downBy_23 : decode mX12_downBy.2.1 23 = .ok (.irem, 1) := by decide +kernel
theorem dX12_downBy_24 : decode mX12_downBy.2.1 24 = .ok (.iconst 3, 1) := by decide +kernel
theorem dX12_downBy_25 : decode mX12_downBy.2.1 25 = .ok (.if_icmp .ne 18, 3) := by decide +kernel
theorem dX12_downBy_28 : decode mX12_downBy.2.1 28 = .ok (.aload_n 0, 1) := by decide +kernel
theorem dX12_downBy_29 : decode mX12_downBy.2.1 29 = .ok (.getfield 98, 3) := by decide +kernel
theorem dX12_downBy_32 : decode mX12_downBy.2.1 32 = .ok (.bipush 11, 2) := by decide +kernel
theorem dX12_downBy_34 : decode mX12_downBy.2.1 34 = .ok (.iload_n 1, 1) := by decide +kernel
theorem dX12_downBy_35 : decode mX12_downBy.2.1 35 = .ok (.iconst 4, 1) := by decide +kernel
theorem dX12_downBy_36 : decode mX12_downBy.2.1 36 = .ok (.idiv, 1) := by decide +kernel
theorem dX12_downBy_37 : decode mX12_downBy.2.1 37 = .ok (.iadd, 1) := by decide +kernel
theorem dX12_downBy_38 : decode mX12_downBy.2.1 38 = .ok (.iaload, 1) := by decide +kernel
theorem dX12_downBy_39 : decode mX12_downBy.2.1 39 = .ok (.ineg, 1) := by decide +kernel
theorem dX12_downBy_40 : decode mX12_downBy.2.1 40 = .ok (.goto 4, 3) := by decide +kernel
theorem dX12_downBy_43 : decode mX12_downBy.2.1 43 = .ok (.iconst 0, 1) := by decide +kernel
theorem dX12_downBy_44 : decode mX12_downBy.2.1 44 = .ok (.ireturn, 1) := by decide +kernel
set_option maxRecDepth 4000 in
theorem ev_X12_downBy {m : Mem} {G : Mem} {d : Nat} {st : Nat} {v : Int} (hb : Bg G d st (m 216)) (hdn : DnOk G d) (hv : 0 ≤ v ∧ v < 4 * G d 2) : Ev 0 1 mX12_downBy [vr 214, vi v] m (fun r m' => m' = m ∧ (r = G (d + 3) (v / 4) * dy (v % 4))) := by
  refine Ev.of (L := [vr 214, vi v]) (by decide +kernel) rfl (Nat.le_of_ble_eq_true rfl) rfl (fun t ht => by cases ht; first | exact Or.inl rfl | exact Or.inr (Or.inl rfl) | exact Or.inr (Or.inr rfl)) (fun hcan => ?_)
  obtain ⟨⟨hd0, hd1⟩, ⟨hd2, hd3⟩, ⟨hd4, hd5⟩, ⟨hd6, hd7⟩, ⟨hd8, hd9⟩, hdf, hdp, hdq⟩ := id hdn
  have hsd := sdx (n := G (d + 3) (v / 4)) (s := v % 4) (by omega) (by omega)
  have hff := hdf (v / 4) (by omega) (by omega)
  refine go_iload_n dX12_downBy_0 rfl ?_
  refine go_iconst dX12_downBy_1 ?_
  refine go_irem dX12_downBy_2 ⟨by omega, by omega⟩ ⟨by omega, by omega⟩ (by omega) (by omega) ?_
  refine go_iconst dX12_downBy_3 ?_
  refine go_icmp_ne (tgt := 21) dX12_downBy_4 (by decide) ⟨by omega, by omega⟩ ⟨by omega, by omega⟩ (fun h_4 => ?_) (fun h_4 => ?_)
  · refine go_iload_n dX12_downBy_21 rfl ?_
    refine go_iconst dX12_downBy_22 ?_
    refine go_irem dX12_downBy_23 ⟨by omega, by omega⟩ ⟨by omega, by omega⟩ (by omega) (by omega) ?_
    refine go_iconst dX12_downBy_24 ?_
    refine go_icmp_ne (tgt := 43) dX12_downBy_25 (by decide) ⟨by omega, by omega⟩ ⟨by omega, by omega⟩ (fun h_25 => ?_) (fun h_25 => ?_)
    · refine go_iconst dX12_downBy_43 ?_
      exact go_ret (v := 0) rfl dX12_downBy_44 (okI ⟨by omega, by omega⟩) ⟨rfl, (by first | assumption | rfl | omega)⟩
    · refine go_aload_n dX12_downBy_28 rfl ?_
      refine go_getf_p (b := 216) dX12_downBy_29 fl_12_98 ob_214 rfl pt_214_14 ?_
      refine go_bipush dX12_downBy_32 (by decide) ?_
      refine go_iload_n dX12_downBy_34 rfl ?_
      refine go_iconst dX12_downBy_35 ?_
      refine go_idiv dX12_downBy_36 ⟨by omega, by omega⟩ ⟨by omega, by omega⟩ (by omega) (by omega) ?_
      refine go_iadd dX12_downBy_37 ?_
      refine go_iaload dX12_downBy_38 ar_216 (by omega) (by omega) (fun he_38 => ?_)
      rw [show (m 216 (11 + (v / 4)) : Int) = (G (d + 3) (v / 4)) from (hb.go (f := (v / 4)) (by omega) (by omega))] at he_38 ⊢
      refine go_ineg dX12_downBy_39 ?_
      refine go_goto (tgt := 44) dX12_downBy_40 (by decide) ?_
      exact go_ret (v := (-(G (d + 3) (v / 4)))) rfl dX12_downBy_44 (okI ⟨by omega, by omega⟩) ⟨rfl, (by first | assumption | rfl | omega)⟩
  · refine go_aload_n dX12_downBy_7 rfl ?_
    refine go_getf_p (b := 216) dX12_downBy_8 fl_12_98 ob_214 rfl pt_214_14 ?_
    refine go_bipush dX12_downBy_11 (by decide) ?_
    refine go_iload_n dX12_downBy_13 rfl ?_
    refine go_iconst dX12_downBy_14 ?_
    refine go_idiv dX12_downBy_15 ⟨by omega, by omega⟩ ⟨by omega, by omega⟩ (by omega) (by omega) ?_
    refine go_iadd dX12_downBy_16 ?_
    refine go_iaload dX12_downBy_17 ar_216 (by omega) (by omega) (fun he_17 => ?_)
    rw [show (m 216 (11 + (v / 4)) : Int) = (G (d + 3) (v / 4)) from (hb.go (f := (v / 4)) (by omega) (by omega))] at he_17 ⊢
    refine go_goto (tgt := 44) dX12_downBy_18 (by decide) ?_
    exact go_ret (v := (G (d + 3) (v / 4))) rfl dX12_downBy_44 (okI ⟨by omega, by omega⟩) ⟨rfl, (by first | assumption | rfl | omega)⟩
theorem dX12_isStep_0 : decode mX12_isStep.2.1 0 = .ok (.aload_n 0, 1) := by decide +kernel
theorem dX12_isStep_1 : decode mX12_isStep.2.1 1 = .ok (.getfield 7, 3) := by decide +kernel
theorem dX12_isStep_4 : decode mX12_isStep.2.1 4 = .ok (.iconst 2, 1) := by decide +kernel
theorem dX12_isStep_5 : decode mX12_isStep.2.1 5 = .ok (.iload_n 1, 1) := by decide +kernel
theorem dX12_isStep_6 : decode mX12_isStep.2.1 6 = .ok (.imul, 1) := by decide +kernel
theorem dX12_isStep_7 : decode mX12_isStep.2.1 7 = .ok (.iaload, 1) := by decide +kernel
theorem dX12_isStep_8 : decode mX12_isStep.2.1 8 = .ok (.aload_n 0, 1) := by decide +kernel
theorem dX12_isStep_9 : decode mX12_isStep.2.1 9 = .ok (.iload_n 2, 1) := by decide +kernel
theorem dX12_isStep_10 : decode mX12_isStep.2.1 10 = .ok (.invokevirtual 334, 3) := by decide +kernel
theorem dX12_isStep_13 : decode mX12_isStep.2.1 13 = .ok (.iadd, 1) := by decide +kernel
theorem dX12_isStep_14 : decode mX12_isStep.2.1 14 = .ok (.aload_n 0, 1) := by decide +kernel
theorem dX12_isStep_15 : decode mX12_isStep.2.1 15 = .ok (.getfield 7, 3) := by decide +kernel
theorem dX12_isStep_18 : decode mX12_isStep.2.1 18 = .ok (.iconst 2, 1) := by decide +kernel
theorem dX12_isStep_19 : decode mX12_isStep.2.1 19 = .ok (.iload_n 1, 1) := by decide +kernel
theorem dX12_isStep_20 : decode mX12_isStep.2.1 20 = .ok (.imul, 1) := by decide +kernel
theorem dX12_isStep_21 : decode mX12_isStep.2.1 21 = .ok (.iconst 2, 1) := by decide +kernel
theorem dX12_isStep_22 : decode mX12_isStep.2.1 22 = .ok (.iadd, 1) := by decide +kernel
theorem dX12_isStep_23 : decode mX12_isStep.2.1 23 = .ok (.iaload, 1) := by decide +kernel
theorem dX12_isStep_24 : decode mX12_isStep.2.1 24 = .ok (.if_icmp .ne 36, 3) := by decide +kernel
theorem dX12_isStep_27 : decode mX12_isStep.2.1 27 = .ok (.aload_n 0, 1) := by decide +kernel
theorem dX12_isStep_28 : decode mX12_isStep.2.1 28 = .ok (.getfield 7, 3) := by decide +kernel
theorem dX12_isStep_31 : decode mX12_isStep.2.1 31 = .ok (.iconst 2, 1) := by decide +kernel
theorem dX12_isStep_32 : decode mX12_isStep.2.1 32 = .ok (.iload_n 1, 1) := by decide +kernel
theorem dX12_isStep_33 : decode mX12_isStep.2.1 33 = .ok (.imul, 1) := by decide +kernel
theorem dX12_isStep_34 : decode mX12_isStep.2.1 34 = .ok (.iconst 1, 1) := by decide +kernel
theorem dX12_isStep_35 : decode mX12_isStep.2.1 35 = .ok (.iadd, 1) := by decide +kernel
theorem dX12_isStep_36 : decode mX12_isStep.2.1 36 = .ok (.iaload, 1) := by decide +kernel
theorem dX12_isStep_37 : decode mX12_isStep.2.1 37 = .ok (.aload_n 0, 1) := by decide +kernel
theorem dX12_isStep_38 : decode mX12_isStep.2.1 38 = .ok (.iload_n 2, 1) := by decide +kernel
theorem dX12_isStep_39 : decode mX12_isStep.2.1 39 = .ok (.invokevirtual 337, 3) := by decide +kernel
theorem dX12_isStep_42 : decode mX12_isStep.2.1 42 = .ok (.iadd, 1) := by decide +kernel
theorem dX12_isStep_43 : decode mX12_isStep.2.1 43 = .ok (.aload_n 0, 1) := by decide +kernel
theorem dX12_isStep_44 : decode mX12_isStep.2.1 44 = .ok (.getfield 7, 3) := by decide +kernel
theorem dX12_isStep_47 : decode mX12_isStep.2.1 47 = .ok (.iconst 2, 1) := by decide +kernel
theorem dX12_isStep_48 : decode mX12_isStep.2.1 48 = .ok (.iload_n 1, 1) := by decide +kernel
theorem dX12_isStep_49 : decode mX12_isStep.2.1 49 = .ok (.imul, 1) := by decide +kernel
theorem dX12_isStep_50 : decode mX12_isStep.2.1 50 = .ok (.iconst 3, 1) := by decide +kernel
theorem dX12_isStep_51 : decode mX12_isStep.2.1 51 = .ok (.iadd, 1) := by decide +kernel
theorem dX12_isStep_52 : decode mX12_isStep.2.1 52 = .ok (.iaload, 1) := by decide +kernel
theorem dX12_isStep_53 : decode mX12_isStep.2.1 53 = .ok (.if_icmp .ne 7, 3) := by decide +kernel
theorem dX12_isStep_56 : decode mX12_isStep.2.1 56 = .ok (.iconst 1, 1) := by decide +kernel
theorem dX12_isStep_57 : decode mX12_isStep.2.1 57 = .ok (.goto 4, 3) := by decide +kernel
theorem dX12_isStep_60 : decode mX12_isStep.2.1 60 = .ok (.iconst 0, 1) := by decide +kernel
theorem dX12_isStep_61 : decode mX12_isStep.2.1 61 = .ok (.ireturn, 1) := by decide +kernel
set_option maxRecDepth 4000 in
theorem ev_X12_isStep {m : Mem} {G : Mem} {nt : Int} {k : Int} {v : Int} (hb : Bg G 8 18 (m 216)) (hdn : DnOk G 8) (ht : ∀ i : Int, 0 ≤ i → i < nt → m 215 i = tx G i) (hnt : nt ≤ 940) (hk : 0 ≤ k ∧ 2 * k + 3 < nt) (hv : 0 ≤ v ∧ v < 4 * G 8 2) : Ev 0 2 mX12_isStep [vr 214, vi k, vi v] m (fun r m' => m' = m ∧ ((r = 1 ∧ tkP G k v = true) ∨ (r = 0 ∧ tkP G k v = false))) := by
  refine Ev.of (L := [vr 214, vi k, vi v]) (by decide +kernel) rfl (Nat.le_of_ble_eq_true rfl) rfl (fun t ht => by cases ht; first | exact Or.inl rfl | exact Or.inr (Or.inl rfl) | exact Or.inr (Or.inr rfl)) (fun hcan => ?_)
  obtain ⟨⟨hd0, hd1⟩, ⟨hd2, hd3⟩, ⟨hd4, hd5⟩, ⟨hd6, hd7⟩, ⟨hd8, hd9⟩, hdf, hdp, hdq⟩ := id hdn
  have t0 := tx_b G (2 * k)
  have t1 := tx_b G (2 * k + 1)
  have t2 := tx_b G (2 * k + 2)
  have t3 := tx_b G (2 * k + 3)
  have hff := hdf (v / 4) (by omega) (by omega)
  have hsd := sdx (n := G (8 + 3) (v / 4)) (s := v % 4) (by omega) (by omega)
  refine go_aload_n dX12_isStep_0 rfl ?_
  refine go_getf_p (b := 215) dX12_isStep_1 fl_12_7 ob_214 rfl pt_214_1 ?_
  refine go_iconst dX12_isStep_4 ?_
  refine go_iload_n dX12_isStep_5 rfl ?_
  refine go_imul dX12_isStep_6 ?_
  refine go_iaload dX12_isStep_7 ar_215 (by omega) (by omega) (fun he_7 => ?_)
  rw [show (m 215 (2 * k) : Int) = (tx G (2 * k)) from ht _ (by omega) (by omega)] at he_7 ⊢
  refine go_aload_n dX12_isStep_8 rfl ?_
  refine go_iload_n dX12_isStep_9 rfl ?_
  refine go_callVp_i (as := [vi v]) (S := [vi (tx G (2 * k))]) (b := 214) (ev_X12_acrossBy (m := m) (v := v) (G := G) (d := 8) (st := 18) (by first | exact hb | exact hb.w (by decide) | exact (hb.w (by decide)).w (by decide)) (by first | assumption | omega | exact ⟨by omega, by omega⟩ | (constructor <;> omega)) (by first | assumption | omega | exact ⟨by omega, by omega⟩ | (constructor <;> omega))) rfl dX12_isStep_10 cv_12_334 rfl rfl ob_214 rfl (by decide) (Nat.le_of_ble_eq_true rfl) (fun r_10 hr_10 ho_10 => ?_)
  refine go_iadd dX12_isStep_13 ?_
  refine go_aload_n dX12_isStep_14 rfl ?_
  refine go_getf_p (b := 215) dX12_isStep_15 fl_12_7 ob_214 rfl pt_214_1 ?_
  refine go_iconst dX12_isStep_18 ?_
  refine go_iload_n dX12_isStep_19 rfl ?_
  refine go_imul dX12_isStep_20 ?_
  refine go_iconst dX12_isStep_21 ?_
  refine go_iadd dX12_isStep_22 ?_
  refine go_iaload dX12_isStep_23 ar_215 (by omega) (by omega) (fun he_23 => ?_)
  rw [show (m 215 ((2 * k) + 2) : Int) = (tx G (2 * k + 2)) from ht _ (by omega) (by omega)] at he_23 ⊢
  refine go_icmp_ne (tgt := 60) dX12_isStep_24 (by decide) ⟨by omega, by omega⟩ ⟨by omega, by omega⟩ (fun h_24 => ?_) (fun h_24 => ?_)
  · refine go_iconst dX12_isStep_60 ?_
    exact go_ret (v := 0) rfl dX12_isStep_61 (okZ (by first | exact Or.inl rfl | exact Or.inr rfl | assumption | omega)) ⟨rfl, (by unfold tkP stP; first | (left; exact ⟨rfl, decide_eq_true (by omega)⟩) | (right; exact ⟨rfl, decide_eq_false (by omega)⟩))⟩
  · refine go_aload_n dX12_isStep_27 rfl ?_
    refine go_getf_p (b := 215) dX12_isStep_28 fl_12_7 ob_214 rfl pt_214_1 ?_
    refine go_iconst dX12_isStep_31 ?_
    refine go_iload_n dX12_isStep_32 rfl ?_
    refine go_imul dX12_isStep_33 ?_
    refine go_iconst dX12_isStep_34 ?_
    refine go_iadd dX12_isStep_35 ?_
    refine go_iaload dX12_isStep_36 ar_215 (by omega) (by omega) (fun he_36 => ?_)
    rw [show (m 215 ((2 * k) + 1) : Int) = (tx G (2 * k + 1)) from ht _ (by omega) (by omega)] at he_36 ⊢
    refine go_aload_n dX12_isStep_37 rfl ?_
    refine go_iload_n dX12_isStep_38 rfl ?_
    refine go_callVp_i (as := [vi v]) (S := [vi (tx G (2 * k + 1))]) (b := 214) (ev_X12_downBy (m := m) (v := v) (G := G) (d := 8) (st := 18) (by first | exact hb | exact hb.w (by decide) | exact (hb.w (by decide)).w (by decide)) (by first | assumption | omega | exact ⟨by omega, by omega⟩ | (constructor <;> omega)) (by first | assumption | omega | exact ⟨by omega, by omega⟩ | (constructor <;> omega))) rfl dX12_isStep_39 cv_12_337 rfl rfl ob_214 rfl (by decide) (Nat.le_of_ble_eq_true rfl) (fun r_39 hr_39 ho_39 => ?_)
    refine go_iadd dX12_isStep_42 ?_
    refine go_aload_n dX12_isStep_43 rfl ?_
    refine go_getf_p (b := 215) dX12_isStep_44 fl_12_7 ob_214 rfl pt_214_1 ?_
    refine go_iconst dX12_isStep_47 ?_
    refine go_iload_n dX12_isStep_48 rfl ?_
    refine go_imul dX12_isStep_49 ?_
    refine go_iconst dX12_isStep_50 ?_
    refine go_iadd dX12_isStep_51 ?_
    refine go_iaload dX12_isStep_52 ar_215 (by omega) (by omega) (fun he_52 => ?_)
    rw [show (m 215 ((2 * k) + 3) : Int) = (tx G (2 * k + 3)) from ht _ (by omega) (by omega)] at he_52 ⊢
    refine go_icmp_ne (tgt := 60) dX12_isStep_53 (by decide) ⟨by omega, by omega⟩ ⟨by omega, by omega⟩ (fun h_53 => ?_) (fun h_53 => ?_)
    · refine go_iconst dX12_isStep_60 ?_
      exact go_ret (v := 0) rfl dX12_isStep_61 (okZ (by first | exact Or.inl rfl | exact Or.inr rfl | assumption | omega)) ⟨rfl, (by unfold tkP stP; first | (left; exact ⟨rfl, decide_eq_true (by omega)⟩) | (right; exact ⟨rfl, decide_eq_false (by omega)⟩))⟩
    · refine go_iconst dX12_isStep_56 ?_
      refine go_goto (tgt := 61) dX12_isStep_57 (by decide) ?_
      exact go_ret (v := 1) rfl dX12_isStep_61 (okZ (by first | exact Or.inl rfl | exact Or.inr rfl | assumption | omega)) ⟨rfl, (by unfold tkP stP; first | (left; exact ⟨rfl, decide_eq_true (by omega)⟩) | (right; exact ⟨rfl, decide_eq_false (by omega)⟩))⟩
theorem dX12_stepsOf_0 : decode mX12_stepsOf.2.1 0 = .ok (.iconst 0, 1) := by decide +kernel
theorem dX12_stepsOf_1 : decode mX12_stepsOf.2.1 1 = .ok (.istore_n 2, 1) := by decide +kernel
theorem dX12_stepsOf_2 : decode mX12_stepsOf.2.1 2 = .ok (.iconst 0, 1) := by decide +kernel
theorem dX12_stepsOf_3 : decode mX12_stepsOf.2.1 3 = .ok (.istore_n 3, 1) := by decide +kernel
theorem dX12_stepsOf_4 : decode mX12_stepsOf.2.1 4 = .ok (.iload_n 3, 1) := by decide +kernel
theorem dX12_stepsOf_5 : decode mX12_stepsOf.2.1 5 = .ok (.iconst 4, 1) := by decide +kernel
theorem dX12_stepsOf_6 : decode mX12_stepsOf.2.1 6 = .ok (.aload_n 0, 1) := by decide +kernel
theorem dX12_stepsOf_7 : decode mX12_stepsOf.2.1 7 = .ok (.getfield 98, 3) := by decide +kernel
theorem dX12_stepsOf_10 : decode mX12_stepsOf.2.1 10 = .ok (.iconst 2, 1) := by decide +kernel
theorem dX12_stepsOf_11 : decode mX12_stepsOf.2.1 11 = .ok (.iaload, 1) := by decide +kernel
theorem dX12_stepsOf_12 : decode mX12_stepsOf.2.1 12 = .ok (.imul, 1) := by decide +kernel
theorem dX12_stepsOf_13 : decode mX12_stepsOf.2.1 13 = .ok (.if_icmp .ge 21, 3) := by decide +kernel
theorem dX12_stepsOf_16 : decode mX12_stepsOf.2.1 16 = .ok (.aload_n 0, 1) := by decide +kernel
theorem dX12_stepsOf_17 : decode mX12_stepsOf.2.1 17 = .ok (.iload_n 1, 1) := by decide +kernel
theorem dX12_stepsOf_18 : decode mX12_stepsOf.2.1 18 = .ok (.iload_n 3, 1) := by decide +kernel
theorem dX12_stepsOf_19 : decode mX12_stepsOf.2.1 19 = .ok (.invokevirtual 346, 3) := by decide +kernel
theorem dX12_stepsOf_22 : decode mX12_stepsOf.2.1 22 = .ok (.ifCond .eq 6, 3) := by decide +kernel
theorem dX12_stepsOf_25 : decode mX12_stepsOf.2.1 25 = .ok (.iinc 2 1, 3) := by decide +kernel
theorem dX12_stepsOf_28 : decode mX12_stepsOf.2.1 28 = .ok (.iinc 3 1, 3) := by decide +kernel
theorem dX12_stepsOf_31 : decode mX12_stepsOf.2.1 31 = .ok (.goto (-27), 3) := by decide +kernel
theorem dX12_stepsOf_34 : decode mX12_stepsOf.2.1 34 = .ok (.iload_n 2, 1) := by decide +kernel
theorem dX12_stepsOf_35 : decode mX12_stepsOf.2.1 35 = .ok (.ireturn, 1) := by decide +kernel
set_option maxRecDepth 4000 in
theorem ev_X12_stepsOf {m : Mem} {G : Mem} {nt : Int} {k : Int} (hb : Bg G 8 18 (m 216)) (hdn : DnOk G 8) (ht : ∀ i : Int, 0 ≤ i → i < nt → m 215 i = tx G i) (hnt : nt ≤ 940) (hk : 0 ≤ k ∧ 2 * k + 3 < nt) : Ev 0 3 mX12_stepsOf [vr 214, vi k] m (fun r m' => m' = m ∧ (r = cntI (tkP G k) (4 * G 8 2))) := by
  refine Ev.of (L := [vr 214, vi k, un, un]) (by decide +kernel) rfl (Nat.le_of_ble_eq_true rfl) rfl (fun t ht => by cases ht; first | exact Or.inl rfl | exact Or.inr (Or.inl rfl) | exact Or.inr (Or.inr rfl)) (fun hcan => ?_)
  obtain ⟨⟨hd0, hd1⟩, ⟨hd2, hd3⟩, ⟨hd4, hd5⟩, ⟨hd6, hd7⟩, ⟨hd8, hd9⟩, hdf, hdp, hdq⟩ := id hdn
  refine go_iconst dX12_stepsOf_0 ?_
  refine go_istore_n (L' := [vr 214, vi k, vi 0, un]) dX12_stepsOf_1 (by decide) rfl rfl ?_
  refine go_iconst dX12_stepsOf_2 ?_
  refine go_istore_n (L' := [vr 214, vi k, vi 0, vi 0]) dX12_stepsOf_3 (by decide) rfl rfl ?_
  have lp_4 : ∀ (n_4 : Nat) (c : Int) (v : Int) , (0 ≤ v) → (v ≤ 4 * G 8 2) → (c = cntI (tkP G k) v) → (4 * G 8 2 - v).toNat < n_4 → Go 0 3 mX12_stepsOf (fun r m' => m' = m ∧ (r = cntI (tkP G k) (4 * G 8 2))) 4 [vr 214, vi k, vi c, vi v] [] m := by
    intro n_4
    induction n_4 with
    | zero => intro c v hv0 hv1 hc hmu; exact absurd hmu (Nat.not_lt_zero _)
    | succ n_4 ih_4 =>
      intro c v hv0 hv1 hc hmu
      have hcb := cntI_b (tkP G k) hv0
      rw [← hc] at hcb
      refine go_iload_n dX12_stepsOf_4 rfl ?_
      refine go_iconst dX12_stepsOf_5 ?_
      refine go_aload_n dX12_stepsOf_6 rfl ?_
      refine go_getf_p (b := 216) dX12_stepsOf_7 fl_12_98 ob_214 rfl pt_214_14 ?_
      refine go_iconst dX12_stepsOf_10 ?_
      refine go_iaload dX12_stepsOf_11 ar_216 (by omega) (by omega) (fun he_11 => ?_)
      rw [show (m 216 2 : Int) = (G 8 2) from hb.n2] at he_11 ⊢
      refine go_imul dX12_stepsOf_12 ?_
      refine go_icmp_ge (tgt := 34) dX12_stepsOf_13 (by decide) ⟨by omega, by omega⟩ ⟨by omega, by omega⟩ (fun h_13 => ?_) (fun h_13 => ?_)
      · refine go_iload_n dX12_stepsOf_34 rfl ?_
        exact go_ret (v := c) rfl dX12_stepsOf_35 (okI ⟨by omega, by omega⟩) ⟨rfl, (by rw [hc, show v = 4 * G 8 2 by omega])⟩
      · refine go_aload_n dX12_stepsOf_16 rfl ?_
        refine go_iload_n dX12_stepsOf_17 rfl ?_
        refine go_iload_n dX12_stepsOf_18 rfl ?_
        refine go_callVp_z (as := [vi k, vi v]) (S := []) (b := 214) (ev_X12_isStep (m := m) (k := k) (v := v) (G := G) (nt := nt) (by first | exact hb | exact hb.w (by decide) | exact (hb.w (by decide)).w (by decide)) (by first | assumption | omega | exact ⟨by omega, by omega⟩ | (constructor <;> omega)) ht (by first | assumption | omega | exact ⟨by omega, by omega⟩ | (constructor <;> omega)) (by first | assumption | omega | exact ⟨by omega, by omega⟩ | (constructor <;> omega)) (by first | assumption | omega | exact ⟨by omega, by omega⟩ | (constructor <;> omega))) rfl dX12_stepsOf_19 cv_12_346 rfl rfl ob_214 rfl (by decide) (Nat.le_of_ble_eq_true rfl) (fun r_19 hr_19 ho_19 => ?_)
        refine go_if_eq (tgt := 28) dX12_stepsOf_22 (by decide) ⟨by omega, by omega⟩ (fun h_22 => ?_) (fun h_22 => ?_)
        · refine go_iinc (L' := [vr 214, vi k, vi c, vi (v + 1)]) dX12_stepsOf_28 rfl (by decide) rfl rfl ?_
          refine go_goto (tgt := 4) dX12_stepsOf_31 (by decide) ?_
          exact ih_4 c (v + 1) (by first | assumption | omega | rfl) (by first | assumption | omega | rfl) (by rw [cntI_s _ hv0, ← hc]; first | (rw [if_pos (show tkP G k v = true from (hr_19.resolve_right (fun h => by omega)).2)]) | (rw [if_neg (show ¬ tkP G k v = true from by rw [(hr_19.resolve_left (fun h => by omega)).2]; decide)]; omega)) (by omega)
        · refine go_iinc (L' := [vr 214, vi k, vi (c + 1), vi v]) dX12_stepsOf_25 rfl (by decide) rfl rfl ?_
          refine go_iinc (L' := [vr 214, vi k, vi (c + 1), vi (v + 1)]) dX12_stepsOf_28 rfl (by decide) rfl rfl ?_
          refine go_goto (tgt := 4) dX12_stepsOf_31 (by decide) ?_
          exact ih_4 (c + 1) (v + 1) (by first | assumption | omega | rfl) (by first | assumption | omega | rfl) (by rw [cntI_s _ hv0, ← hc]; first | (rw [if_pos (show tkP G k v = true from (hr_19.resolve_right (fun h => by omega)).2)]) | (rw [if_neg (show ¬ tkP G k v = true from by rw [(hr_19.resolve_left (fun h => by omega)).2]; decide)]; omega)) (by omega)
  exact lp_4 _ 0 0 (by first | assumption | omega | rfl) (by first | assumption | omega | rfl) (sumI_0 _).symm (Nat.lt_succ_self _)
theorem dX12_tracks_0 : decode mX12_tracks.2.1 0 = .ok (.aload_n 0, 1) := by decide +kernel
theorem dX12_tracks_1 : decode mX12_tracks.2.1 1 = .ok (.iconst 0, 1) := by decide +kernel
theorem dX12_tracks_2 : decode mX12_tracks.2.1 2 = .ok (.putfield 1, 3) := by decide +kernel
theorem dX12_tracks_5 : decode mX12_tracks.2.1 5 = .ok (.aload_n 0, 1) := by decide +kernel
theorem dX12_tracks_6 : decode mX12_tracks.2.1 6 = .ok (.invokevirtual 89, 3) := by decide +kernel
theorem dX12_tracks_9 : decode mX12_tracks.2.1 9 = .ok (.istore_n 1, 1) := by decide +kernel
theorem dX12_tracks_10 : decode mX12_tracks.2.1 10 = .ok (.iload_n 1, 1) := by decide +kernel
theorem dX12_tracks_11 : decode mX12_tracks.2.1 11 = .ok (.iconst 2, 1) := by decide +kernel
theorem dX12_tracks_12 : decode mX12_tracks.2.1 12 = .ok (.irem, 1) := by decide +kernel
theorem dX12_tracks_13 : decode mX12_tracks.2.1 13 = .ok (.ifCond .ne 15, 3) := by decide +kernel
theorem dX12_tracks_16 : decode mX12_tracks.2.1 16 = .ok (.iload_n 1, 1) := by decide +kernel
theorem dX12_tracks_17 : decode mX12_tracks.2.1 17 = .ok (.iconst 2, 1) := by decide +kernel
theorem dX12_tracks_18 : decode mX12_tracks.2.1 18 = .ok (.idiv, 1) := by decide +kernel
theorem dX12_tracks_19 : decode mX12_tracks.2.1 19 = .ok (.iconst 2, 1) := by decide +kernel
theorem dX12_tracks_20 : decode mX12_tracks.2.1 20 = .ok (.bipush 7, 2) := by decide +kernel
theorem dX12_tracks_22 : decode mX12_tracks.2.1 22 = .ok (.invokestatic 75, 3) := by decide +kernel
theorem dX12_tracks_25 : decode mX12_tracks.2.1 25 = .ok (.ifCond .ne 5, 3) := by decide +kernel
theorem dX12_tracks_28 : decode mX12_tracks.2.1 28 = .ok (.iconst (-1), 1) := by decide +kernel
theorem dX12_tracks_29 : decode mX12_tracks.2.1 29 = .ok (.ireturn, 1) := by decide +kernel
theorem dX12_tracks_30 : decode mX12_tracks.2.1 30 = .ok (.iconst 0, 1) := by decide +kernel
theorem dX12_tracks_31 : decode mX12_tracks.2.1 31 = .ok (.istore_n 2, 1) := by decide +kernel
theorem dX12_tracks_32 : decode mX12_tracks.2.1 32 = .ok (.iload_n 2, 1) := by decide +kernel
theorem dX12_tracks_33 : decode mX12_tracks.2.1 33 = .ok (.iload_n 1, 1) := by decide +kernel
theorem dX12_tracks_34 : decode mX12_tracks.2.1 34 = .ok (.if_icmp .ge 32, 3) := by decide +kernel
theorem dX12_tracks_37 : decode mX12_tracks.2.1 37 = .ok (.aload_n 0, 1) := by decide +kernel
theorem dX12_tracks_38 : decode mX12_tracks.2.1 38 = .ok (.aload_n 0, 1) := by decide +kernel
theorem dX12_tracks_39 : decode mX12_tracks.2.1 39 = .ok (.getfield 7, 3) := by decide +kernel
theorem dX12_tracks_42 : decode mX12_tracks.2.1 42 = .ok (.iload_n 2, 1) := by decide +kernel
theorem dX12_tracks_43 : decode mX12_tracks.2.1 43 = .ok (.iaload, 1) := by decide +kernel
theorem dX12_tracks_44 : decode mX12_tracks.2.1 44 = .ok (.aload_n 0, 1) := by decide +kernel
theorem dX12_tracks_45 : decode mX12_tracks.2.1 45 = .ok (.getfield 7, 3) := by decide +kernel
theorem dX12_tracks_48 : decode mX12_tracks.2.1 48 = .ok (.iload_n 2, 1) := by decide +kernel
theorem dX12_tracks_49 : decode mX12_tracks.2.1 49 = .ok (.iconst 1, 1) := by decide +kernel
theorem dX12_tracks_50 : decode mX12_tracks.2.1 50 = .ok (.iadd, 1) := by decide +kernel
theorem dX12_tracks_51 : decode mX12_tracks.2.1 51 = .ok (.iaload, 1) := by decide +kernel
theorem dX12_tracks_52 : decode mX12_tracks.2.1 52 = .ok (.invokevirtual 232, 3) := by decide +kernel
theorem dX12_tracks_55 : decode mX12_tracks.2.1 55 = .ok (.ifCond .ne 5, 3) := by decide +kernel
theorem dX12_tracks_58 : decode mX12_tracks.2.1 58 = .ok (.iconst (-1), 1) := by decide +kernel
theorem dX12_tracks_59 : decode mX12_tracks.2.1 59 = .ok (.ireturn, 1) := by decide +kernel
theorem dX12_tracks_60 : decode mX12_tracks.2.1 60 = .ok (.iinc 2 2, 3) := by decide +kernel
theorem dX12_tracks_63 : decode mX12_tracks.2.1 63 = .ok (.goto (-31), 3) := by decide +kernel
theorem dX12_tracks_66 : decode mX12_tracks.2.1 66 = .ok (.iload_n 1, 1) := by decide +kernel
theorem dX12_tracks_67 : decode mX12_tracks.2.1 67 = .ok (.iconst 2, 1) := by decide +kernel
theorem dX12_tracks_68 : decode mX12_tracks.2.1 68 = .ok (.idiv, 1) := by decide +kernel
theorem dX12_tracks_69 : decode mX12_tracks.2.1 69 = .ok (.iconst 1, 1) := by decide +kernel
theorem dX12_tracks_70 : decode mX12_tracks.2.1 70 = .ok (.isub, 1) := by decide +kernel
theorem dX12_tracks_71 : decode mX12_tracks.2.1 71 = .ok (.istore_n 2, 1) := by decide +kernel
theorem dX12_tracks_72 : decode mX12_tracks.2.1 72 = .ok (.iconst 1, 1) := by decide +kernel
theorem dX12_tracks_73 : decode mX12_tracks.2.1 73 = .ok (.istore_n 3, 1) := by decide +kernel
theorem dX12_tracks_74 : decode mX12_tracks.2.1 74 = .ok (.iconst 0, 1) := by decide +kernel
theorem dX12_tracks_75 : decode mX12_tracks.2.1 75 = .ok (.istore 4, 2) := by decide +kernel
theorem dX12_tracks_77 : decode mX12_tracks.2.1 77 = .ok (.iload 4, 2) := by decide +kernel
theorem dX12_tracks_79 : decode mX12_tracks.2.1 79 = .ok (.iload_n 2, 1) := by decide +kernel
theorem dX12_tracks_80 : decode mX12_tracks.2.1 80 = .ok (.if_icmp .ge 18, 3) := by decide +kernel
theorem dX12_tracks_83 : decode mX12_tracks.2.1 83 = .ok (.iload_n 3, 1) := by decide +kernel
theorem dX12_tracks_84 : decode mX12_tracks.2.1 84 = .ok (.aload_n 0, 1) := by decide +kernel
theorem dX12_tracks_85 : decode mX12_tracks.2.1 85 = .ok (.iload 4, 2) := by decide +kernel
theorem dX12_tracks_87 : decode mX12_tracks.2.1 87 = .ok (.invokevirtual 349, 3) := by decide +kernel
theorem dX12_tracks_90 : decode mX12_tracks.2.1 90 = .ok (.imul, 1) := by decide +kernel
theorem dX12_tracks_91 : decode mX12_tracks.2.1 91 = .ok (.istore_n 3, 1) := by decide +kernel
theorem dX12_tracks_92 : decode mX12_tracks.2.1 92 = .ok (.iinc 4 1, 3) := by decide +kernel
theorem dX12_tracks_95 : decode mX12_tracks.2.1 95 = .ok (.goto (-18), 3) := by decide +kernel
theorem dX12_tracks_98 : decode mX12_tracks.2.1 98 = .ok (.iload_n 3, 1) := by decide +kernel
theorem dX12_tracks_99 : decode mX12_tracks.2.1 99 = .ok (.ifCond .ne 5, 3) := by decide +kernel
theorem dX12_tracks_102 : decode mX12_tracks.2.1 102 = .ok (.iconst 0, 1) := by decide +kernel
theorem dX12_tracks_103 : decode mX12_tracks.2.1 103 = .ok (.ireturn, 1) := by decide +kernel
theorem dX12_tracks_104 : decode mX12_tracks.2.1 104 = .ok (.aload_n 0, 1) := by decide +kernel
theorem dX12_tracks_105 : decode mX12_tracks.2.1 105 = .ok (.iload_n 2, 1) := by decide +kernel
theorem dX12_tracks_106 : decode mX12_tracks.2.1 106 = .ok (.putfield 352, 3) := by decide +kernel
theorem dX12_tracks_109 : decode mX12_tracks.2.1 109 = .ok (.aload_n 0, 1) := by decide +kernel
theorem dX12_tracks_110 : decode mX12_tracks.2.1 110 = .ok (.iconst 0, 1) := by decide +kernel
theorem dX12_tracks_111 : decode mX12_tracks.2.1 111 = .ok (.putfield 145, 3) := by decide +kernel
theorem dX12_tracks_114 : decode mX12_tracks.2.1 114 = .ok (.iconst 0, 1) := by decide +kernel
theorem dX12_tracks_115 : decode mX12_tracks.2.1 115 = .ok (.istore 4, 2) := by decide +kernel
theorem dX12_tracks_117 : decode mX12_tracks.2.1 117 = .ok (.iload 4, 2) := by decide +kernel
theorem dX12_tracks_119 : decode mX12_tracks.2.1 119 = .ok (.iload_n 2, 1) := by decide +kernel
theorem dX12_tracks_120 : decode mX12_tracks.2.1 120 = .ok (.if_icmp .ge 70, 3) := by decide +kernel
theorem dX12_tracks_123 : decode mX12_tracks.2.1 123 = .ok (.aload_n 0, 1) := by decide +kernel
theorem dX12_tracks_124 : decode mX12_tracks.2.1 124 = .ok (.iload 4, 2) := by decide +kernel
theorem dX12_tracks_126 : decode mX12_tracks.2.1 126 = .ok (.invokevirtual 349, 3) := by decide +kernel
theorem dX12_tracks_129 : decode mX12_tracks.2.1 129 = .ok (.aload_n 0, 1) := by decide +kernel
theorem dX12_tracks_130 : decode mX12_tracks.2.1 130 = .ok (.aload_n 0, 1) := by decide +kernel
theorem dX12_tracks_131 : decode mX12_tracks.2.1 131 = .ok (.getfield 145, 3) := by decide +kernel
theorem dX12_tracks_134 : decode mX12_tracks.2.1 134 = .ok (.invokevirtual 349, 3) := by decide +kernel
theorem dX12_tracks_137 : decode mX12_tracks.2.1 137 = .ok (.if_icmp .le 9, 3) := by decide +kernel
theorem dX12_tracks_140 : decode mX12_tracks.2.1 140 = .ok (.aload_n 0, 1) := by decide +kernel
theorem dX12_tracks_141 : decode mX12_tracks.2.1 141 = .ok (.iload 4, 2) := by decide +kernel
theorem dX12_tracks_143 : decode mX12_tracks.2.1 143 = .ok (.putfield 145, 3) := by decide +kernel
theorem dX12_tracks_146 : decode mX12_tracks.2.1 146 = .ok (.aload_n 0, 1) := by decide +kernel
theorem dX12_tracks_147 : decode mX12_tracks.2.1 147 = .ok (.getfield 142, 3) := by decide +kernel
theorem dX12_tracks_150 : decode mX12_tracks.2.1 150 = .ok (.iload 4, 2) := by decide +kernel
theorem dX12_tracks_152 : decode mX12_tracks.2.1 152 = .ok (.iconst 0, 1) := by decide +kernel
theorem dX12_tracks_153 : decode mX12_tracks.2.1 153 = .ok (.iastore, 1) := by decide +kernel
theorem dX12_tracks_154 : decode mX12_tracks.2.1 154 = .ok (.aload_n 0, 1) := by decide +kernel
theorem dX12_tracks_155 : decode mX12_tracks.2.1 155 = .ok (.iload 4, 2) := by decide +kernel
theorem dX12_tracks_157 : decode mX12_tracks.2.1 157 = .ok (.aload_n 0, 1) := by decide +kernel
theorem dX12_tracks_158 : decode mX12_tracks.2.1 158 = .ok (.getfield 142, 3) := by decide +kernel
theorem dX12_tracks_161 : decode mX12_tracks.2.1 161 = .ok (.iload 4, 2) := by decide +kernel
theorem dX12_tracks_163 : decode mX12_tracks.2.1 163 = .ok (.iaload, 1) := by decide +kernel
theorem dX12_tracks_164 : decode mX12_tracks.2.1 164 = .ok (.invokevirtual 346, 3) := by decide +kernel
theorem dX12_tracks_167 : decode mX12_tracks.2.1 167 = .ok (.ifCond .ne 17, 3) := by decide +kernel
theorem dX12_tracks_170 : decode mX12_tracks.2.1 170 = .ok (.aload_n 0, 1) := by decide +kernel
theorem dX12_tracks_171 : decode mX12_tracks.2.1 171 = .ok (.getfield 142, 3) := by decide +kernel
theorem dX12_tracks_174 : decode mX12_tracks.2.1 174 = .ok (.iload 4, 2) := by decide +kernel
theorem dX12_tracks_176 : decode mX12_tracks.2.1 176 = .ok (.dup2, 1) := by decide +kernel
theorem dX12_tracks_177 : decode mX12_tracks.2.1 177 = .ok (.iaload, 1) := by decide +kernel
theorem dX12_tracks_178 : decode mX12_tracks.2.1 178 = .ok (.iconst 1, 1) := by decide +kernel
theorem dX12_tracks_179 : decode mX12_tracks.2.1 179 = .ok (.iadd, 1) := by decide +kernel
theorem dX12_tracks_180 : decode mX12_tracks.2.1 180 = .ok (.iastore, 1) := by decide +kernel
theorem dX12_tracks_181 : decode mX12_tracks.2.1 181 = .ok (.goto (-27), 3) := by decide +kernel
theorem dX12_tracks_184 : decode mX12_tracks.2.1 184 = .ok (.iinc 4 1, 3) := by decide +kernel
theorem dX12_tracks_187 : decode mX12_tracks.2.1 187 = .ok (.goto (-70), 3) := by decide +kernel
theorem dX12_tracks_190 : decode mX12_tracks.2.1 190 = .ok (.iload_n 3, 1) := by decide +kernel
theorem dX12_tracks_191 : decode mX12_tracks.2.1 191 = .ok (.ireturn, 1) := by decide +kernel
set_option maxRecDepth 4000 in
theorem ev_X12_tracks {m : Mem} {G : Mem} (hb : Bg G 8 18 (m 216)) (hdn : DnOk G 8) (hsz : 0 ≤ G 1 1 ∧ G 1 1 ≤ 940) (hs2 : m 214 2 = G 1 1) (ht : ∀ i : Int, 0 ≤ i → i < G 1 1 → m 215 i = tx G i) : Ev 0 4 mX12_tracks [vr 214] m (fun r m' => TkP m G r m') := by
  refine Ev.of (L := [vr 214, un, un, un, un]) (by decide +kernel) rfl (Nat.le_of_ble_eq_true rfl) rfl (fun t ht => by cases ht; first | exact Or.inl rfl | exact Or.inr (Or.inl rfl) | exact Or.inr (Or.inr rfl)) (fun hcan => ?_)
  obtain ⟨⟨hd0, hd1⟩, ⟨hd2, hd3⟩, ⟨hd4, hd5⟩, ⟨hd6, hd7⟩, ⟨hd8, hd9⟩, hdf, hdp, hdq⟩ := id hdn
  refine go_aload_n dX12_tracks_0 rfl ?_
  refine go_iconst dX12_tracks_1 ?_
  refine go_putf_i (ki := 0) dX12_tracks_2 fw_12_1 ob_214 rfl rfl ⟨by omega, by omega⟩ ?_
  refine go_aload_n dX12_tracks_5 rfl ?_
  refine go_callV_i (as := []) (S := []) (b := 214) (ev_X12_take (m := (wr m 214 0 0))  ) rfl dX12_tracks_6 cv_12_89 rfl rfl ob_214 rfl (by decide) (Nat.le_of_ble_eq_true rfl) (fun r_6 m_6 hr_6 ho_6 => ?_)
  obtain ⟨ha_6, hm_6⟩ := hr_6
  rw [wr_ni (by decide), hs2] at ha_6
  subst ha_6
  have hMb : Bg G 8 18 (m_6 216) := by rw [hm_6]; exact (hb.w (by decide)).w (by decide)
  have ht6 : ∀ i : Int, 0 ≤ i → i < G 1 1 → m_6 215 i = tx G i := fun i a b => by rw [hm_6, wr_na (by decide), wr_na (by decide)]; exact ht i a b
  refine go_istore_n (L' := [vr 214, vi (G 1 1), un, un, un]) dX12_tracks_9 (by decide) rfl rfl ?_
  refine go_iload_n dX12_tracks_10 rfl ?_
  refine go_iconst dX12_tracks_11 ?_
  refine go_irem dX12_tracks_12 ⟨by omega, by omega⟩ ⟨by omega, by omega⟩ (by omega) (by omega) ?_
  refine go_if_ne (tgt := 28) dX12_tracks_13 (by decide) ⟨by omega, by omega⟩ (fun h_13 => ?_) (fun h_13 => ?_)
  · refine go_iconst dX12_tracks_28 ?_
    exact go_ret (v := (-1)) rfl dX12_tracks_29 (okI ⟨by omega, by omega⟩) (Or.inl ⟨fun hv => by have h1 := hv.1; have h2 := hv.2.1; have h3 := hv.2.2.1; omega, rfl, hm_6⟩)
  · refine go_iload_n dX12_tracks_16 rfl ?_
    refine go_iconst dX12_tracks_17 ?_
    refine go_idiv dX12_tracks_18 ⟨by omega, by omega⟩ ⟨by omega, by omega⟩ (by omega) (by omega) ?_
    refine go_iconst dX12_tracks_19 ?_
    refine go_bipush dX12_tracks_20 (by decide) ?_
    refine go_callSp_z (as := [vi ((G 1 1) / 2), vi 2, vi 7]) (S := []) (ev_X12_isIn (m := m_6) (n := ((G 1 1) / 2)) (lo := 2) (hi := 7) (by first | assumption | omega | exact ⟨by omega, by omega⟩ | (constructor <;> omega)) (by first | assumption | omega | exact ⟨by omega, by omega⟩ | (constructor <;> omega)) (by first | assumption | omega | exact ⟨by omega, by omega⟩ | (constructor <;> omega))) rfl dX12_tracks_22 cs_12_75 rfl rfl (by decide) (Nat.le_of_ble_eq_true rfl) (fun r_22 hr_22 ho_22 => ?_)
    refine go_if_ne (tgt := 30) dX12_tracks_25 (by decide) ⟨by omega, by omega⟩ (fun h_25 => ?_) (fun h_25 => ?_)
    · refine go_iconst dX12_tracks_30 ?_
      refine go_istore_n (L' := [vr 214, vi (G 1 1), vi 0, un, un]) dX12_tracks_31 (by decide) rfl rfl ?_
      have lp_32 : ∀ (n_32 : Nat) (k : Int) , (0 ≤ k) → (k ≤ G 1 1) → (k % 2 = 0) → (∀ j : Int, 0 ≤ j → 2 * j < k → insC G 8 (tx G (2 * j)) (tx G (2 * j + 1))) → (G 1 1 - k).toNat < n_32 → Go 0 4 mX12_tracks (fun r m' => TkP m G r m') 32 [vr 214, vi (G 1 1), vi k, un, un] [] m_6 := by
        intro n_32
        induction n_32 with
        | zero => intro k hk0 hk1 hk2 hin hmu; exact absurd hmu (Nat.not_lt_zero _)
        | succ n_32 ih_32 =>
          intro k hk0 hk1 hk2 hin hmu
          refine go_iload_n dX12_tracks_32 rfl ?_
          refine go_iload_n dX12_tracks_33 rfl ?_
          refine go_icmp_ge (tgt := 66) dX12_tracks_34 (by decide) ⟨by omega, by omega⟩ ⟨by omega, by omega⟩ (fun h_34 => ?_) (fun h_34 => ?_)
          · have htv : trV G := ⟨by omega, by omega, by omega, fun j a b => hin j a (by omega)⟩
            refine go_iload_n dX12_tracks_66 rfl ?_
            refine go_iconst dX12_tracks_67 ?_
            refine go_idiv dX12_tracks_68 ⟨by omega, by omega⟩ ⟨by omega, by omega⟩ (by omega) (by omega) ?_
            refine go_iconst dX12_tracks_69 ?_
            refine go_isub dX12_tracks_70 ?_
            refine go_istore_n (L' := [vr 214, vi (G 1 1), vi (((G 1 1) / 2) - 1), un, un]) dX12_tracks_71 (by decide) rfl rfl ?_
            refine go_iconst dX12_tracks_72 ?_
            refine go_istore_n (L' := [vr 214, vi (G 1 1), vi (((G 1 1) / 2) - 1), vi 1, un]) dX12_tracks_73 (by decide) rfl rfl ?_
            refine go_iconst dX12_tracks_74 ?_
            refine go_istore (L' := [vr 214, vi (G 1 1), vi (((G 1 1) / 2) - 1), vi 1, vi 0]) dX12_tracks_75 (by decide) rfl rfl ?_
            refine go_drop (j := 1) (L' := [vr 214, un, vi (((G 1 1) / 2) - 1), vi 1, vi 0]) rfl ?_
            have lp_77 : ∀ (n_77 : Nat) (w : Int) (k : Int) , (0 ≤ k) → (k ≤ G 1 1 / 2 - 1) → (w = trN G k.toNat) → (G 1 1 / 2 - 1 - k).toNat < n_77 → Go 0 4 mX12_tracks (fun r m' => TkP m G r m') 77 [vr 214, un, vi (((G 1 1) / 2) - 1), vi w, vi k] [] m_6 := by
              intro n_77
              induction n_77 with
              | zero => intro w k hk0 hk1 hw hmu; exact absurd hmu (Nat.not_lt_zero _)
              | succ n_77 ih_77 =>
                intro w k hk0 hk1 hw hmu
                have hwb := trN_b hd4 hd5 k.toNat
                rw [← hw] at hwb
                have hpw := pow24 k.toNat (by omega)
                refine go_iload dX12_tracks_77 rfl ?_
                refine go_iload_n dX12_tracks_79 rfl ?_
                refine go_icmp_ge (tgt := 98) dX12_tracks_80 (by decide) ⟨by omega, by omega⟩ ⟨by omega, by omega⟩ (fun h_80 => ?_) (fun h_80 => ?_)
                · refine go_iload_n dX12_tracks_98 rfl ?_
                  have hwe : w = trN G (G 1 1 / 2 - 1).toNat := by rw [hw, show k = G 1 1 / 2 - 1 by omega]
                  refine go_if_ne (tgt := 104) dX12_tracks_99 (by decide) ⟨by omega, by omega⟩ (fun h_99 => ?_) (fun h_99 => ?_)
                  · have hne := trN_ne (m := G) (n := (G 1 1 / 2 - 1).toNat) (by omega)
                    refine go_aload_n dX12_tracks_104 rfl ?_
                    refine go_iload_n dX12_tracks_105 rfl ?_
                    refine go_putf_i (ki := 34) dX12_tracks_106 fw_12_352 ob_214 rfl rfl ⟨by omega, by omega⟩ ?_
                    refine go_aload_n dX12_tracks_109 rfl ?_
                    refine go_iconst dX12_tracks_110 ?_
                    refine go_putf_i (ki := 35) dX12_tracks_111 fw_12_145 ob_214 rfl rfl ⟨by omega, by omega⟩ ?_
                    refine go_iconst dX12_tracks_114 ?_
                    refine go_istore (L' := [vr 214, un, vi (((G 1 1) / 2) - 1), vi w, vi 0]) dX12_tracks_115 (by decide) rfl rfl ?_
                    have lp_117 : ∀ (n_117 : Nat) (m1 : Mem) (k : Int) , (0 ≤ k) → (k ≤ G 1 1 / 2 - 1) → ((∀ b : Nat, b ≠ 214 → b ≠ 230 → m1 b = m_6 b) ∧ (∀ j : Int, j ≠ 34 → j ≠ 35 → m1 214 j = m_6 214 j) ∧ m1 214 34 = G 1 1 / 2 - 1) → (m1 214 35 = mstN (fun k => cntI (tkP G k) (4 * G 8 2)) (k - 1).toNat) → (∀ j : Int, 0 ≤ j → j < k → m1 230 j = fnd (tkP G j) (4 * G 8 2)) → (G 1 1 / 2 - 1 - k).toNat < n_117 → Go 0 4 mX12_tracks (fun r m' => TkP m G r m') 117 [vr 214, un, vi (((G 1 1) / 2) - 1), vi w, vi k] [] m1 := by
                      intro n_117
                      induction n_117 with
                      | zero => intro m1 k hk0 hk1 hf1 htl hrw hmu; exact absurd hmu (Nat.not_lt_zero _)
                      | succ n_117 ih_117 =>
                        intro m1 k hk0 hk1 hf1 htl hrw hmu
                        have hmb := mstN_b (fun k => cntI (tkP G k) (4 * G 8 2)) (k - 1).toNat
                        have hms : 1 ≤ k → _ := fun h => mstN_s (c := (fun k => cntI (tkP G k) (4 * G 8 2))) h
                        refine go_iload dX12_tracks_117 rfl ?_
                        refine go_iload_n dX12_tracks_119 rfl ?_
                        refine go_icmp_ge (tgt := 190) dX12_tracks_120 (by decide) ⟨by omega, by omega⟩ ⟨by omega, by omega⟩ (fun h_120 => ?_) (fun h_120 => ?_)
                        · refine go_iload_n dX12_tracks_190 rfl ?_
                          refine go_ret (v := w) rfl dX12_tracks_191 (okI ⟨by omega, by omega⟩) ?_
                          refine Or.inr ⟨htv, by omega, Or.inr ⟨by omega, hf1.2.2, ?_, fun j a b => hrw j a (by omega), fun b h1 h2 => ?_, fun j h1 h2 => ?_⟩⟩
                          · rw [htl, show k - 1 = G 1 1 / 2 - 1 - 1 by omega]
                          · rw [hf1.1 b h1 h2, hm_6, wr_row h1, wr_row h1]
                          · rw [hf1.2.1 j h1 h2, hm_6]
                        · have cut_146 : ∀ (mA : Mem)  , ((∀ b : Nat, b ≠ 214 → b ≠ 230 → mA b = m_6 b) ∧ (∀ j : Int, j ≠ 34 → j ≠ 35 → mA 214 j = m_6 214 j) ∧ mA 214 34 = G 1 1 / 2 - 1) → (mA 214 35 = mstN (fun k => cntI (tkP G k) (4 * G 8 2)) k.toNat) → (∀ j : Int, 0 ≤ j → j < k → mA 230 j = fnd (tkP G j) (4 * G 8 2)) → Go 0 4 mX12_tracks (fun r m' => TkP m G r m') 146 [vr 214, un, vi (((G 1 1) / 2) - 1), vi w, vi k] [] mA := by
                            intro mA hA1 hA2 hA3
                            refine go_aload_n dX12_tracks_146 rfl ?_
                            refine go_getf_p (b := 230) dX12_tracks_147 fl_12_142 ob_214 rfl pt_214_33 ?_
                            refine go_iload dX12_tracks_150 rfl ?_
                            refine go_iconst dX12_tracks_152 ?_
                            refine go_iastore dX12_tracks_153 ar_230 (by omega) (by omega) ⟨by omega, by omega⟩ ?_
                            have lp_154 : ∀ (n_154 : Nat) (m2 : Mem)  (v : Int), (0 ≤ v) → (v ≤ fnd (tkP G k) (4 * G 8 2)) → (m2 = wr mA 230 k v) → (fnd (tkP G k) (4 * G 8 2) - v).toNat < n_154 → Go 0 4 mX12_tracks (fun r m' => TkP m G r m') 154 [vr 214, un, vi (((G 1 1) / 2) - 1), vi w, vi k] [] m2 := by
                              intro n_154
                              induction n_154 with
                              | zero => intro m2 v hv0 hv1 hm2 hmu; exact absurd hmu (Nat.not_lt_zero _)
                              | succ n_154 ih_154 =>
                                intro m2 v hv0 hv1 hm2 hmu
                                subst hm2
                                have hfc := fnd_cases (tkP G k) (4 * G 8 2)
                                have hfn : fnd (tkP G k) (4 * G 8 2) ≠ -1 := fun e => hne k hk0 (by omega) ((cntI_0 (by omega)).mpr (by rcases hfc with h | h; exact h.2; omega))
                                refine go_aload_n dX12_tracks_154 rfl ?_
                                refine go_iload dX12_tracks_155 rfl ?_
                                refine go_aload_n dX12_tracks_157 rfl ?_
                                refine go_getf_p (b := 230) dX12_tracks_158 fl_12_142 ob_214 rfl pt_214_33 ?_
                                refine go_iload dX12_tracks_161 rfl ?_
                                refine go_iaload dX12_tracks_163 ar_230 (by omega) (by omega) (fun he_163 => ?_)
                                rw [show ((wr mA 230 k v) 230 k : Int) = v from by rw [wr_self]] at he_163 ⊢
                                refine go_callVp_z (as := [vi k, vi v]) (S := []) (b := 214) (ev_X12_isStep (m := (wr mA 230 k v)) (k := k) (v := v) (G := G) (nt := (G 1 1)) (by rw [wr_row (by decide), hA1.1 216 (by decide) (by decide)]; exact hMb) (by first | assumption | omega | exact ⟨by omega, by omega⟩ | (constructor <;> omega)) (fun i a b => by rw [wr_row (by decide), hA1.1 215 (by decide) (by decide)]; exact ht6 i a b) (by first | assumption | omega | exact ⟨by omega, by omega⟩ | (constructor <;> omega)) (by first | assumption | omega | exact ⟨by omega, by omega⟩ | (constructor <;> omega)) (by first | assumption | omega | exact ⟨by omega, by omega⟩ | (constructor <;> omega))) rfl dX12_tracks_164 cv_12_346 rfl rfl ob_214 rfl (by decide) (Nat.le_of_ble_eq_true rfl) (fun r_164 hr_164 ho_164 => ?_)
                                refine go_if_ne (tgt := 184) dX12_tracks_167 (by decide) ⟨by omega, by omega⟩ (fun h_167 => ?_) (fun h_167 => ?_)
                                · refine go_iinc (L' := [vr 214, un, vi (((G 1 1) / 2) - 1), vi w, vi (k + 1)]) dX12_tracks_184 rfl (by decide) rfl rfl ?_
                                  refine go_goto (tgt := 117) dX12_tracks_187 (by decide) ?_
                                  exact ih_117 (wr mA 230 k v) (k + 1) (by first | assumption | omega | rfl) (by first | assumption | omega | rfl) ⟨fun b h1 h2 => by rw [wr_row h2]; exact hA1.1 b h1 h2, fun j h1 h2 => by rw [wr_na (by decide)]; exact hA1.2.1 j h1 h2, by rw [wr_na (by decide)]; exact hA1.2.2⟩ (by rw [wr_na (by decide), hA2, show k + 1 - 1 = k by omega]) (fun j a b => by by_cases q : j = k; (have hf2 := hfc.resolve_left (fun h => hfn h.1); rw [q, wr_self]; by_cases z : v = fnd (tkP G k) (4 * G 8 2); exact z; (have h9 := (hr_164.resolve_right (fun h => by omega)).2; rw [hf2.2.2.2 v hv0 (by omega)] at h9; cases h9)); (rw [wr_ni q]; exact hA3 j a (by omega))) (by omega)
                                · refine go_aload_n dX12_tracks_170 rfl ?_
                                  refine go_getf_p (b := 230) dX12_tracks_171 fl_12_142 ob_214 rfl pt_214_33 ?_
                                  refine go_iload dX12_tracks_174 rfl ?_
                                  refine go_dup2_ir dX12_tracks_176 ?_
                                  refine go_iaload dX12_tracks_177 ar_230 (by omega) (by omega) (fun he_177 => ?_)
                                  rw [show ((wr mA 230 k v) 230 k : Int) = v from by rw [wr_self]] at he_177 ⊢
                                  refine go_iconst dX12_tracks_178 ?_
                                  refine go_iadd dX12_tracks_179 ?_
                                  refine go_iastore dX12_tracks_180 ar_230 (by omega) (by omega) ⟨by omega, by omega⟩ ?_
                                  refine go_goto (tgt := 154) dX12_tracks_181 (by decide) ?_
                                  exact ih_154 (wr (wr mA 230 k v) 230 k (v + 1)) (v + 1) (by first | assumption | omega | rfl) (by have hf2 := hfc.resolve_left (fun h => hfn h.1); by_cases q : v = fnd (tkP G k) (4 * G 8 2); (have h9 := (hr_164.resolve_left (fun h => by omega)).2; rw [q, hf2.2.2.1] at h9; cases h9); omega) wr_wr (by have hf2 := hfc.resolve_left (fun h => hfn h.1); by_cases q : v = fnd (tkP G k) (4 * G 8 2); (have h9 := (hr_164.resolve_left (fun h => by omega)).2; rw [q, hf2.2.2.1] at h9; cases h9); omega)
                            exact lp_154 _ (wr mA 230 k 0) 0 (by first | assumption | omega | rfl) (by have hfc := fnd_cases (tkP G k) (4 * G 8 2); have hfn : fnd (tkP G k) (4 * G 8 2) ≠ -1 := fun e => hne k hk0 (by omega) ((cntI_0 (by omega)).mpr (by rcases hfc with h | h; exact h.2; omega)); omega) (by first | assumption | omega | rfl) (Nat.lt_succ_self _)
                          refine go_aload_n dX12_tracks_123 rfl ?_
                          refine go_iload dX12_tracks_124 rfl ?_
                          refine go_callVp_i (as := [vi k]) (S := []) (b := 214) (ev_X12_stepsOf (m := m1) (k := k) (G := G) (nt := (G 1 1)) (by rw [hf1.1 216 (by decide) (by decide)]; exact hMb) (by first | assumption | omega | exact ⟨by omega, by omega⟩ | (constructor <;> omega)) (fun i a b => by rw [hf1.1 215 (by decide) (by decide)]; exact ht6 i a b) (by first | assumption | omega | exact ⟨by omega, by omega⟩ | (constructor <;> omega)) (by first | assumption | omega | exact ⟨by omega, by omega⟩ | (constructor <;> omega))) rfl dX12_tracks_126 cv_12_349 rfl rfl ob_214 rfl (by decide) (Nat.le_of_ble_eq_true rfl) (fun r_126 hr_126 ho_126 => ?_)
                          refine go_aload_n dX12_tracks_129 rfl ?_
                          refine go_aload_n dX12_tracks_130 rfl ?_
                          refine go_getf_i (ki := 35) dX12_tracks_131 fl_12_145 ob_214 rfl rfl (fun hf_131 => ?_)
                          rw [show (m1 214 35 : Int) = (mstN (fun k => cntI (tkP G k) (4 * G 8 2)) (k - 1).toNat) from htl] at hf_131 ⊢
                          refine go_callVp_i (as := [vi (mstN (fun k => cntI (tkP G k) (4 * G 8 2)) (k - 1).toNat)]) (S := [vi r_126]) (b := 214) (ev_X12_stepsOf (m := m1) (k := (mstN (fun k => cntI (tkP G k) (4 * G 8 2)) (k - 1).toNat)) (G := G) (nt := (G 1 1)) (by rw [hf1.1 216 (by decide) (by decide)]; exact hMb) (by first | assumption | omega | exact ⟨by omega, by omega⟩ | (constructor <;> omega)) (fun i a b => by rw [hf1.1 215 (by decide) (by decide)]; exact ht6 i a b) (by first | assumption | omega | exact ⟨by omega, by omega⟩ | (constructor <;> omega)) (by first | assumption | omega | exact ⟨by omega, by omega⟩ | (constructor <;> omega))) rfl dX12_tracks_134 cv_12_349 rfl rfl ob_214 rfl (by decide) (Nat.le_of_ble_eq_true rfl) (fun r_134 hr_134 ho_134 => ?_)
                          refine go_icmp_le (tgt := 146) dX12_tracks_137 (by decide) ⟨by omega, by omega⟩ ⟨by omega, by omega⟩ (fun h_137 => ?_) (fun h_137 => ?_)
                          · exact cut_146 m1 (by first | exact hf1 | exact ⟨fun b h1 h2 => by rw [wr_row h1]; exact hf1.1 b h1 h2, fun j h1 h2 => by rw [wr_ni h2]; exact hf1.2.1 j h1 h2, by rw [wr_ni (by decide)]; exact hf1.2.2⟩) (by by_cases q : 1 ≤ k; (rw [hms q]; first | (rw [htl, if_neg (by omega)]) | (rw [wr_self, if_pos (by omega)])); (have q0 : k = 0 := (by omega); subst q0; first | exact htl | (exfalso; rw [show mstN (fun k => cntI (tkP G k) (4 * G 8 2)) (0 - 1 : Int).toNat = 0 from rfl] at hr_134; omega))) (by first | exact hrw | exact fun j a b => by rw [wr_na (by decide)]; exact hrw j a b)
                          · refine go_aload_n dX12_tracks_140 rfl ?_
                            refine go_iload dX12_tracks_141 rfl ?_
                            refine go_putf_i (ki := 35) dX12_tracks_143 fw_12_145 ob_214 rfl rfl ⟨by omega, by omega⟩ ?_
                            exact cut_146 (wr m1 214 35 k) (by first | exact hf1 | exact ⟨fun b h1 h2 => by rw [wr_row h1]; exact hf1.1 b h1 h2, fun j h1 h2 => by rw [wr_ni h2]; exact hf1.2.1 j h1 h2, by rw [wr_ni (by decide)]; exact hf1.2.2⟩) (by by_cases q : 1 ≤ k; (rw [hms q]; first | (rw [htl, if_neg (by omega)]) | (rw [wr_self, if_pos (by omega)])); (have q0 : k = 0 := (by omega); subst q0; first | exact htl | (exfalso; rw [show mstN (fun k => cntI (tkP G k) (4 * G 8 2)) (0 - 1 : Int).toNat = 0 from rfl] at hr_134; omega))) (by first | exact hrw | exact fun j a b => by rw [wr_na (by decide)]; exact hrw j a b)
                    exact lp_117 _ (wr (wr m_6 214 34 (((G 1 1) / 2) - 1)) 214 35 0) 0 (by first | assumption | omega | rfl) (by first | assumption | omega | rfl) ⟨fun b h1 h2 => by rw [wr_row h1, wr_row h1], fun j h1 h2 => by rw [wr_ni h2, wr_ni h1], by rw [wr_ni (by decide), wr_self]⟩ (by rw [wr_self]; rfl) (fun j a b => by omega) (Nat.lt_succ_self _)
                  · refine go_iconst dX12_tracks_102 ?_
                    exact go_ret (v := 0) rfl dX12_tracks_103 (okI ⟨by omega, by omega⟩) (Or.inr ⟨htv, by omega, Or.inl ⟨rfl, hm_6⟩⟩)
                · refine go_iload_n dX12_tracks_83 rfl ?_
                  refine go_aload_n dX12_tracks_84 rfl ?_
                  refine go_iload dX12_tracks_85 rfl ?_
                  refine go_callVp_i (as := [vi k]) (S := [vi w]) (b := 214) (ev_X12_stepsOf (m := m_6) (k := k) (G := G) (nt := (G 1 1)) hMb (by first | assumption | omega | exact ⟨by omega, by omega⟩ | (constructor <;> omega)) ht6 (by first | assumption | omega | exact ⟨by omega, by omega⟩ | (constructor <;> omega)) (by first | assumption | omega | exact ⟨by omega, by omega⟩ | (constructor <;> omega))) rfl dX12_tracks_87 cv_12_349 rfl rfl ob_214 rfl (by decide) (Nat.le_of_ble_eq_true rfl) (fun r_87 hr_87 ho_87 => ?_)
                  refine go_imul dX12_tracks_90 ?_
                  refine go_istore_n (L' := [vr 214, un, vi (((G 1 1) / 2) - 1), vi (w * r_87), vi k]) dX12_tracks_91 (by decide) rfl rfl ?_
                  refine go_iinc (L' := [vr 214, un, vi (((G 1 1) / 2) - 1), vi (w * r_87), vi (k + 1)]) dX12_tracks_92 rfl (by decide) rfl rfl ?_
                  refine go_goto (tgt := 77) dX12_tracks_95 (by decide) ?_
                  exact ih_77 (w * r_87) (k + 1) (by first | assumption | omega | rfl) (by first | assumption | omega | rfl) (by rw [trN_s hk0, ← hw, hr_87]) (by omega)
            exact lp_77 _ 1 0 (by first | assumption | omega | rfl) (by first | assumption | omega | rfl) rfl (Nat.lt_succ_self _)
          · have t0 := tx_b G k
            have t1 := tx_b G (k + 1)
            refine go_aload_n dX12_tracks_37 rfl ?_
            refine go_aload_n dX12_tracks_38 rfl ?_
            refine go_getf_p (b := 215) dX12_tracks_39 fl_12_7 ob_214 rfl pt_214_1 ?_
            refine go_iload_n dX12_tracks_42 rfl ?_
            refine go_iaload dX12_tracks_43 ar_215 (by omega) (by omega) (fun he_43 => ?_)
            rw [show (m_6 215 k : Int) = (tx G k) from ht6 _ (by omega) (by omega)] at he_43 ⊢
            refine go_aload_n dX12_tracks_44 rfl ?_
            refine go_getf_p (b := 215) dX12_tracks_45 fl_12_7 ob_214 rfl pt_214_1 ?_
            refine go_iload_n dX12_tracks_48 rfl ?_
            refine go_iconst dX12_tracks_49 ?_
            refine go_iadd dX12_tracks_50 ?_
            refine go_iaload dX12_tracks_51 ar_215 (by omega) (by omega) (fun he_51 => ?_)
            rw [show (m_6 215 (k + 1) : Int) = (tx G (k + 1)) from ht6 _ (by omega) (by omega)] at he_51 ⊢
            refine go_callVp_z (as := [vi (tx G k), vi (tx G (k + 1))]) (S := []) (b := 214) (ev_X12_isCell (m := m_6) (x := (tx G k)) (y := (tx G (k + 1))) (G := G) (d := 8) (st := 18) hMb (by first | assumption | omega | exact ⟨by omega, by omega⟩ | (constructor <;> omega)) (by first | assumption | omega | exact ⟨by omega, by omega⟩ | (constructor <;> omega)) (by first | assumption | omega | exact ⟨by omega, by omega⟩ | (constructor <;> omega))) rfl dX12_tracks_52 cv_12_232 rfl rfl ob_214 rfl (by decide) (Nat.le_of_ble_eq_true rfl) (fun r_52 hr_52 ho_52 => ?_)
            refine go_if_ne (tgt := 60) dX12_tracks_55 (by decide) ⟨by omega, by omega⟩ (fun h_55 => ?_) (fun h_55 => ?_)
            · refine go_iinc (L' := [vr 214, vi (G 1 1), vi (k + 2), un, un]) dX12_tracks_60 rfl (by decide) rfl rfl ?_
              refine go_goto (tgt := 32) dX12_tracks_63 (by decide) ?_
              exact ih_32 (k + 2) (by first | assumption | omega | rfl) (by first | assumption | omega | rfl) (by first | assumption | omega | rfl) (fun j a b => by by_cases q : 2 * j < k; exact hin j a q; (rw [show 2 * j = k by omega]; omega)) (by omega)
            · refine go_iconst dX12_tracks_58 ?_
              exact go_ret (v := (-1)) rfl dX12_tracks_59 (okI ⟨by omega, by omega⟩) (Or.inl ⟨fun hv => by have h1 := hv.2.2.2 (k / 2) (by omega) (by omega); rw [show 2 * (k / 2) = k by omega] at h1; omega, rfl, hm_6⟩)
      exact lp_32 _ 0 (by first | assumption | omega | rfl) (by first | assumption | omega | rfl) (by first | assumption | omega | rfl) (fun j a b => by omega) (Nat.lt_succ_self _)
    · refine go_iconst dX12_tracks_28 ?_
      exact go_ret (v := (-1)) rfl dX12_tracks_29 (okI ⟨by omega, by omega⟩) (Or.inl ⟨fun hv => by have h1 := hv.1; have h2 := hv.2.1; have h3 := hv.2.2.1; omega, rfl, hm_6⟩)
theorem dX12_doesUndo_0 : decode mX12_doesUndo.2.1 0 = .ok (.iconst 4, 1) := by decide +kernel
theorem dX12_doesUndo_1 : decode mX12_doesUndo.2.1 1 = .ok (.aload_n 0, 1) := by decide +kernel
theorem dX12_doesUndo_2 : decode mX12_doesUndo.2.1 2 = .ok (.getfield 98, 3) := by decide +kernel
theorem dX12_doesUndo_5 : decode mX12_doesUndo.2.1 5 = .ok (.iconst 2, 1) := by decide +kernel
theorem dX12_doesUndo_6 : decode mX12_doesUndo.2.1 6 = .ok (.iaload, 1) := by decide +kernel
theorem dX12_doesUndo_7 : decode mX12_doesUndo.2.1 7 = .ok (.imul, 1) := by decide +kernel
theorem dX12_doesUndo_8 : decode mX12_doesUndo.2.1 8 = .ok (.istore 4, 2) := by decide +kernel
theorem dX12_doesUndo_10 : decode mX12_doesUndo.2.1 10 = .ok (.aload_n 0, 1) := by decide +kernel
theorem dX12_doesUndo_11 : decode mX12_doesUndo.2.1 11 = .ok (.getfield 98, 3) := by decide +kernel
theorem dX12_doesUndo_14 : decode mX12_doesUndo.2.1 14 = .ok (.bipush 11, 2) := by decide +kernel
theorem dX12_doesUndo_16 : decode mX12_doesUndo.2.1 16 = .ok (.iload_n 1, 1) := by decide +kernel
theorem dX12_doesUndo_17 : decode mX12_doesUndo.2.1 17 = .ok (.iadd, 1) := by decide +kernel
theorem dX12_doesUndo_18 : decode mX12_doesUndo.2.1 18 = .ok (.iaload, 1) := by decide +kernel
theorem dX12_doesUndo_19 : decode mX12_doesUndo.2.1 19 = .ok (.istore 5, 2) := by decide +kernel
theorem dX12_doesUndo_21 : decode mX12_doesUndo.2.1 21 = .ok (.iconst 0, 1) := by decide +kernel
theorem dX12_doesUndo_22 : decode mX12_doesUndo.2.1 22 = .ok (.istore 6, 2) := by decide +kernel
theorem dX12_doesUndo_24 : decode mX12_doesUndo.2.1 24 = .ok (.aload_n 0, 1) := by decide +kernel
theorem dX12_doesUndo_25 : decode mX12_doesUndo.2.1 25 = .ok (.getfield 98, 3) := by decide +kernel
theorem dX12_doesUndo_28 : decode mX12_doesUndo.2.1 28 = .ok (.iconst 5, 1) := by decide +kernel
theorem dX12_doesUndo_29 : decode mX12_doesUndo.2.1 29 = .ok (.iload_n 1, 1) := by decide +kernel
theorem dX12_doesUndo_30 : decode mX12_doesUndo.2.1 30 = .ok (.iadd, 1) := by decide +kernel
theorem dX12_doesUndo_31 : decode mX12_doesUndo.2.1 31 = .ok (.iaload, 1) := by decide +kernel
theorem dX12_doesUndo_32 : decode mX12_doesUndo.2.1 32 = .ok (.istore 7, 2) := by decide +kernel
theorem dX12_doesUndo_34 : decode mX12_doesUndo.2.1 34 = .ok (.iload_n 3, 1) := by decide +kernel
theorem dX12_doesUndo_35 : decode mX12_doesUndo.2.1 35 = .ok (.istore 8, 2) := by decide +kernel
theorem dX12_doesUndo_37 : decode mX12_doesUndo.2.1 37 = .ok (.iload_n 2, 1) := by decide +kernel
theorem dX12_doesUndo_38 : decode mX12_doesUndo.2.1 38 = .ok (.iconst 1, 1) := by decide +kernel
theorem dX12_doesUndo_39 : decode mX12_doesUndo.2.1 39 = .ok (.isub, 1) := by decide +kernel
theorem dX12_doesUndo_40 : decode mX12_doesUndo.2.1 40 = .ok (.istore 9, 2) := by decide +kernel
theorem dX12_doesUndo_42 : decode mX12_doesUndo.2.1 42 = .ok (.iload 9, 2) := by decide +kernel
theorem dX12_doesUndo_44 : decode mX12_doesUndo.2.1 44 = .ok (.ifCond .lt 81, 3) := by decide +kernel
theorem dX12_doesUndo_47 : decode mX12_doesUndo.2.1 47 = .ok (.aload_n 0, 1) := by decide +kernel
theorem dX12_doesUndo_48 : decode mX12_doesUndo.2.1 48 = .ok (.getfield 136, 3) := by decide +kernel
theorem dX12_doesUndo_51 : decode mX12_doesUndo.2.1 51 = .ok (.iload 9, 2) := by decide +kernel
theorem dX12_doesUndo_53 : decode mX12_doesUndo.2.1 53 = .ok (.iload 8, 2) := by decide +kernel
theorem dX12_doesUndo_55 : decode mX12_doesUndo.2.1 55 = .ok (.iload 4, 2) := by decide +kernel
theorem dX12_doesUndo_57 : decode mX12_doesUndo.2.1 57 = .ok (.irem, 1) := by decide +kernel
theorem dX12_doesUndo_58 : decode mX12_doesUndo.2.1 58 = .ok (.iastore, 1) := by decide +kernel
theorem dX12_doesUndo_59 : decode mX12_doesUndo.2.1 59 = .ok (.iload 8, 2) := by decide +kernel
theorem dX12_doesUndo_61 : decode mX12_doesUndo.2.1 61 = .ok (.iload 4, 2) := by decide +kernel
theorem dX12_doesUndo_63 : decode mX12_doesUndo.2.1 63 = .ok (.idiv, 1) := by decide +kernel
theorem dX12_doesUndo_64 : decode mX12_doesUndo.2.1 64 = .ok (.istore 8, 2) := by decide +kernel
theorem dX12_doesUndo_66 : decode mX12_doesUndo.2.1 66 = .ok (.iload 5, 2) := by decide +kernel
theorem dX12_doesUndo_68 : decode mX12_doesUndo.2.1 68 = .ok (.aload_n 0, 1) := by decide +kernel
theorem dX12_doesUndo_69 : decode mX12_doesUndo.2.1 69 = .ok (.aload_n 0, 1) := by decide +kernel
theorem dX12_doesUndo_70 : decode mX12_doesUndo.2.1 70 = .ok (.getfield 136, 3) := by decide +kernel
theorem dX12_doesUndo_73 : decode mX12_doesUndo.2.1 73 = .ok (.iload 9, 2) := by decide +kernel
theorem dX12_doesUndo_75 : decode mX12_doesUndo.2.1 75 = .ok (.iaload, 1) := by decide +kernel
theorem dX12_doesUndo_76 : decode mX12_doesUndo.2.1 76 = .ok (.invokevirtual 334, 3) := by decide +kernel
theorem dX12_doesUndo_79 : decode mX12_doesUndo.2.1 79 = .ok (.iadd, 1) := by decide +kernel
theorem dX12_doesUndo_80 : decode mX12_doesUndo.2.1 80 = .ok (.istore 5, 2) := by decide +kernel
theorem dX12_doesUndo_82 : decode mX12_doesUndo.2.1 82 = .ok (.iload 6, 2) := by decide +kernel
theorem dX12_doesUndo_84 : decode mX12_doesUndo.2.1 84 = .ok (.aload_n 0, 1) := by decide +kernel
theorem dX12_doesUndo_85 : decode mX12_doesUndo.2.1 85 = .ok (.aload_n 0, 1) := by decide +kernel
theorem dX12_doesUndo_86 : decode mX12_doesUndo.2.1 86 = .ok (.getfield 136, 3) := by decide +kernel
theorem dX12_doesUndo_89 : decode mX12_doesUndo.2.1 89 = .ok (.iload 9, 2) := by decide +kernel
theorem dX12_doesUndo_91 : decode mX12_doesUndo.2.1 91 = .ok (.iaload, 1) := by decide +kernel
theorem dX12_doesUndo_92 : decode mX12_doesUndo.2.1 92 = .ok (.invokevirtual 337, 3) := by decide +kernel
theorem dX12_doesUndo_95 : decode mX12_doesUndo.2.1 95 = .ok (.iadd, 1) := by decide +kernel
theorem dX12_doesUndo_96 : decode mX12_doesUndo.2.1 96 = .ok (.istore 6, 2) := by decide +kernel
theorem dX12_doesUndo_98 : decode mX12_doesUndo.2.1 98 = .ok (.iload 7, 2) := by decide +kernel
theorem dX12_doesUndo_100 : decode mX12_doesUndo.2.1 100 = .ok (.aload_n 0, 1) := by decide +kernel
theorem dX12_doesUndo_101 : decode mX12_doesUndo.2.1 101 = .ok (.getfield 98, 3) := by decide +kernel
theorem dX12_doesUndo_104 : decode mX12_doesUndo.2.1 104 = .ok (.iconst 5, 1) := by decide +kernel
theorem dX12_doesUndo_105 : decode mX12_doesUndo.2.1 105 = .ok (.aload_n 0, 1) := by decide +kernel
theorem dX12_doesUndo_106 : decode mX12_doesUndo.2.1 106 = .ok (.getfield 136, 3) := by decide +kernel
theorem dX12_doesUndo_109 : decode mX12_doesUndo.2.1 109 = .ok (.iload 9, 2) := by decide +kernel
theorem dX12_doesUndo_111 : decode mX12_doesUndo.2.1 111 = .ok (.iaload, 1) := by decide +kernel
theorem dX12_doesUndo_112 : decode mX12_doesUndo.2.1 112 = .ok (.iconst 4, 1) := by decide +kernel
theorem dX12_doesUndo_113 : decode mX12_doesUndo.2.1 113 = .ok (.idiv, 1) := by decide +kernel
theorem dX12_doesUndo_114 : decode mX12_doesUndo.2.1 114 = .ok (.iadd, 1) := by decide +kernel
theorem dX12_doesUndo_115 : decode mX12_doesUndo.2.1 115 = .ok (.iaload, 1) := by decide +kernel
theorem dX12_doesUndo_116 : decode mX12_doesUndo.2.1 116 = .ok (.iadd, 1) := by decide +kernel
theorem dX12_doesUndo_117 : decode mX12_doesUndo.2.1 117 = .ok (.istore 7, 2) := by decide +kernel
theorem dX12_doesUndo_119 : decode mX12_doesUndo.2.1 119 = .ok (.iinc 9 (-1), 3) := by decide +kernel
theorem dX12_doesUndo_122 : decode mX12_doesUndo.2.1 122 = .ok (.goto (-80), 3) := by decide +kernel
theorem dX12_doesUndo_125 : decode mX12_doesUndo.2.1 125 = .ok (.iload 5, 2) := by decide +kernel
theorem dX12_doesUndo_127 : decode mX12_doesUndo.2.1 127 = .ok (.ifCond .ne 19, 3) := by decide +kernel
theorem dX12_doesUndo_130 : decode mX12_doesUndo.2.1 130 = .ok (.iload 6, 2) := by decide +kernel
theorem dX12_doesUndo_132 : decode mX12_doesUndo.2.1 132 = .ok (.ifCond .ne 14, 3) := by decide +kernel
theorem dX12_doesUndo_135 : decode mX12_doesUndo.2.1 135 = .ok (.iload 7, 2) := by decide +kernel
theorem dX12_doesUndo_137 : decode mX12_doesUndo.2.1 137 = .ok (.iconst 4, 1) := by decide +kernel
theorem dX12_doesUndo_138 : decode mX12_doesUndo.2.1 138 = .ok (.irem, 1) := by decide +kernel
theorem dX12_doesUndo_139 : decode mX12_doesUndo.2.1 139 = .ok (.ifCond .ne 7, 3) := by decide +kernel
theorem dX12_doesUndo_142 : decode mX12_doesUndo.2.1 142 = .ok (.iconst 1, 1) := by decide +kernel
theorem dX12_doesUndo_143 : decode mX12_doesUndo.2.1 143 = .ok (.goto 4, 3) := by decide +kernel
theorem dX12_doesUndo_146 : decode mX12_doesUndo.2.1 146 = .ok (.iconst 0, 1) := by decide +kernel
theorem dX12_doesUndo_147 : decode mX12_doesUndo.2.1 147 = .ok (.ireturn, 1) := by decide +kernel
set_option maxRecDepth 4000 in
theorem ev_X12_doesUndo {m : Mem} {G : Mem} {f : Int} {n : Int} {row : Int} (hb : Bg G 8 18 (m 216)) (hdn : DnOk G 8) (hf : 0 ≤ f ∧ f < G 8 2) (hn : 1 ≤ n ∧ n ≤ 3) (hr : 0 ≤ row ∧ row ≤ 13824) : Ev 0 2 mX12_doesUndo [vr 214, vi f, vi n, vi row] m (fun r m' => (∀ b : Nat, b ≠ 228 → m' b = m b) ∧ putL m' 228 0 (dg (4 * G 8 2) n.toNat row) ∧ ((r = 1 ∧ VL (G 11) (G 10) (dg (4 * G 8 2) n.toNat row) (G 11 f) 0 (G 10 f)) ∨ (r = 0 ∧ ¬ VL (G 11) (G 10) (dg (4 * G 8 2) n.toNat row) (G 11 f) 0 (G 10 f)))) := by
  refine Ev.of (L := [vr 214, vi f, vi n, vi row, un, un, un, un, un, un]) (by decide +kernel) rfl (Nat.le_of_ble_eq_true rfl) rfl (fun t ht => by cases ht; first | exact Or.inl rfl | exact Or.inr (Or.inl rfl) | exact Or.inr (Or.inr rfl)) (fun hcan => ?_)
  obtain ⟨⟨hd0, hd1⟩, ⟨hd2, hd3⟩, ⟨hd4, hd5⟩, ⟨hd6, hd7⟩, ⟨hd8, hd9⟩, hdf, hdp, hdq⟩ := id hdn
  have hff := hdf f hf.1 hf.2
  refine go_iconst dX12_doesUndo_0 ?_
  refine go_aload_n dX12_doesUndo_1 rfl ?_
  refine go_getf_p (b := 216) dX12_doesUndo_2 fl_12_98 ob_214 rfl pt_214_14 ?_
  refine go_iconst dX12_doesUndo_5 ?_
  refine go_iaload dX12_doesUndo_6 ar_216 (by omega) (by omega) (fun he_6 => ?_)
  rw [show (m 216 2 : Int) = (G 8 2) from hb.n2] at he_6 ⊢
  refine go_imul dX12_doesUndo_7 ?_
  refine go_istore (L' := [vr 214, vi f, vi n, vi row, vi (4 * (G 8 2)), un, un, un, un, un]) dX12_doesUndo_8 (by decide) rfl rfl ?_
  refine go_aload_n dX12_doesUndo_10 rfl ?_
  refine go_getf_p (b := 216) dX12_doesUndo_11 fl_12_98 ob_214 rfl pt_214_14 ?_
  refine go_bipush dX12_doesUndo_14 (by decide) ?_
  refine go_iload_n dX12_doesUndo_16 rfl ?_
  refine go_iadd dX12_doesUndo_17 ?_
  refine go_iaload dX12_doesUndo_18 ar_216 (by omega) (by omega) (fun he_18 => ?_)
  rw [show (m 216 (11 + f) : Int) = (G (8 + 3) f) from (hb.go (f := f) (by omega) (by omega))] at he_18 ⊢
  refine go_istore (L' := [vr 214, vi f, vi n, vi row, vi (4 * (G 8 2)), vi (G (8 + 3) f), un, un, un, un]) dX12_doesUndo_19 (by decide) rfl rfl ?_
  refine go_iconst dX12_doesUndo_21 ?_
  refine go_istore (L' := [vr 214, vi f, vi n, vi row, vi (4 * (G 8 2)), vi (G (8 + 3) f), vi 0, un, un, un]) dX12_doesUndo_22 (by decide) rfl rfl ?_
  refine go_aload_n dX12_doesUndo_24 rfl ?_
  refine go_getf_p (b := 216) dX12_doesUndo_25 fl_12_98 ob_214 rfl pt_214_14 ?_
  refine go_iconst dX12_doesUndo_28 ?_
  refine go_iload_n dX12_doesUndo_29 rfl ?_
  refine go_iadd dX12_doesUndo_30 ?_
  refine go_iaload dX12_doesUndo_31 ar_216 (by omega) (by omega) (fun he_31 => ?_)
  rw [show (m 216 (5 + f) : Int) = (G (8 + 2) f) from (hb.qu (f := f) (by omega) (by omega))] at he_31 ⊢
  refine go_istore (L' := [vr 214, vi f, vi n, vi row, vi (4 * (G 8 2)), vi (G (8 + 3) f), vi 0, vi (G (8 + 2) f), un, un]) dX12_doesUndo_32 (by decide) rfl rfl ?_
  refine go_iload_n dX12_doesUndo_34 rfl ?_
  refine go_istore (L' := [vr 214, vi f, vi n, vi row, vi (4 * (G 8 2)), vi (G (8 + 3) f), vi 0, vi (G (8 + 2) f), vi row, un]) dX12_doesUndo_35 (by decide) rfl rfl ?_
  refine go_iload_n dX12_doesUndo_37 rfl ?_
  refine go_iconst dX12_doesUndo_38 ?_
  refine go_isub dX12_doesUndo_39 ?_
  refine go_istore (L' := [vr 214, vi f, vi n, vi row, vi (4 * (G 8 2)), vi (G (8 + 3) f), vi 0, vi (G (8 + 2) f), vi row, vi (n - 1)]) dX12_doesUndo_40 (by decide) rfl rfl ?_
  refine go_drop (j := 1) (L' := [vr 214, un, vi n, vi row, vi (4 * (G 8 2)), vi (G (8 + 3) f), vi 0, vi (G (8 + 2) f), vi row, vi (n - 1)]) rfl ?_
  refine go_drop (j := 2) (L' := [vr 214, un, un, vi row, vi (4 * (G 8 2)), vi (G (8 + 3) f), vi 0, vi (G (8 + 2) f), vi row, vi (n - 1)]) rfl ?_
  refine go_drop (j := 3) (L' := [vr 214, un, un, un, vi (4 * (G 8 2)), vi (G (8 + 3) f), vi 0, vi (G (8 + 2) f), vi row, vi (n - 1)]) rfl ?_
  have lp_42 : ∀ (n_42 : Nat) (m1 : Mem) (x : Int) (y : Int) (t : Int) (rest : Int) (k : Int) (l : List Int), (-1 ≤ k) → (k < n) → (0 ≤ rest ∧ rest ≤ 13824) → (dg (4 * G 8 2) n.toNat row = dg (4 * G 8 2) (k + 1).toNat rest ++ l) → (putL m1 228 (k + 1) l) → (x = G (8 + 3) f + SX (G (8 + 3)) l) → (y = 0 + SY (G (8 + 3)) l) → (t = G (8 + 2) f + ST (G (8 + 2)) l) → (-5 * (n - k) ≤ x ∧ x ≤ 5 * (n - k)) → (-5 * (n - k) ≤ y ∧ y ≤ 5 * (n - k)) → (0 ≤ t ∧ t ≤ 7 * (n - k)) → (∀ b : Nat, b ≠ 228 → m1 b = m b) → (k + 1).toNat < n_42 → Go 0 2 mX12_doesUndo (fun r m' => (∀ b : Nat, b ≠ 228 → m' b = m b) ∧ putL m' 228 0 (dg (4 * G 8 2) n.toNat row) ∧ ((r = 1 ∧ VL (G 11) (G 10) (dg (4 * G 8 2) n.toNat row) (G 11 f) 0 (G 10 f)) ∨ (r = 0 ∧ ¬ VL (G 11) (G 10) (dg (4 * G 8 2) n.toNat row) (G 11 f) 0 (G 10 f)))) 42 [vr 214, un, un, un, vi (4 * (G 8 2)), vi x, vi y, vi t, vi rest, vi k] [] m1 := by
    intro n_42
    induction n_42 with
    | zero => intro m1 x y t rest k l hk0 hk1 hre hdg hpl hx hy ht hxb hyb htb hfr hmu; exact absurd hmu (Nat.not_lt_zero _)
    | succ n_42 ih_42 =>
      intro m1 x y t rest k l hk0 hk1 hre hdg hpl hx hy ht hxb hyb htb hfr hmu
      have hb1 : Bg G 8 18 (m1 216) := by rw [hfr 216 (by decide)]; exact hb
      refine go_iload dX12_doesUndo_42 rfl ?_
      refine go_if_lt (tgt := 125) dX12_doesUndo_44 (by decide) ⟨by omega, by omega⟩ (fun h_44 => ?_) (fun h_44 => ?_)
      · refine go_iload dX12_doesUndo_125 rfl ?_
        refine go_if_ne (tgt := 146) dX12_doesUndo_127 (by decide) ⟨by omega, by omega⟩ (fun h_127 => ?_) (fun h_127 => ?_)
        · refine go_iconst dX12_doesUndo_146 ?_
          refine go_ret (v := 0) rfl dX12_doesUndo_147 (okZ (by first | exact Or.inl rfl | exact Or.inr rfl | assumption | omega)) ?_
          have e : dg (4 * G 8 2) n.toNat row = l := by rw [hdg, show k + 1 = 0 by omega]; rfl
          refine ⟨hfr, by rw [e]; rw [show k + 1 = 0 by omega] at hpl; exact hpl, ?_⟩
          rw [e]
          have hx : x = G 11 f + SX (G 11) l := hx
          have hy : y = 0 + SY (G 11) l := hy
          have ht : t = G 10 f + ST (G 10) l := ht
          unfold VL
          rw [← hx, ← hy, ← ht]
          first | (left; exact ⟨rfl, by omega, by omega, by omega⟩) | (right; exact ⟨rfl, by omega⟩)
        · refine go_iload dX12_doesUndo_130 rfl ?_
          refine go_if_ne (tgt := 146) dX12_doesUndo_132 (by decide) ⟨by omega, by omega⟩ (fun h_132 => ?_) (fun h_132 => ?_)
          · refine go_iconst dX12_doesUndo_146 ?_
            refine go_ret (v := 0) rfl dX12_doesUndo_147 (okZ (by first | exact Or.inl rfl | exact Or.inr rfl | assumption | omega)) ?_
            have e : dg (4 * G 8 2) n.toNat row = l := by rw [hdg, show k + 1 = 0 by omega]; rfl
            refine ⟨hfr, by rw [e]; rw [show k + 1 = 0 by omega] at hpl; exact hpl, ?_⟩
            rw [e]
            have hx : x = G 11 f + SX (G 11) l := hx
            have hy : y = 0 + SY (G 11) l := hy
            have ht : t = G 10 f + ST (G 10) l := ht
            unfold VL
            rw [← hx, ← hy, ← ht]
            first | (left; exact ⟨rfl, by omega, by omega, by omega⟩) | (right; exact ⟨rfl, by omega⟩)
          · refine go_iload dX12_doesUndo_135 rfl ?_
            refine go_iconst dX12_doesUndo_137 ?_
            refine go_irem dX12_doesUndo_138 ⟨by omega, by omega⟩ ⟨by omega, by omega⟩ (by omega) (by omega) ?_
            refine go_if_ne (tgt := 146) dX12_doesUndo_139 (by decide) ⟨by omega, by omega⟩ (fun h_139 => ?_) (fun h_139 => ?_)
            · refine go_iconst dX12_doesUndo_146 ?_
              refine go_ret (v := 0) rfl dX12_doesUndo_147 (okZ (by first | exact Or.inl rfl | exact Or.inr rfl | assumption | omega)) ?_
              have e : dg (4 * G 8 2) n.toNat row = l := by rw [hdg, show k + 1 = 0 by omega]; rfl
              refine ⟨hfr, by rw [e]; rw [show k + 1 = 0 by omega] at hpl; exact hpl, ?_⟩
              rw [e]
              have hx : x = G 11 f + SX (G 11) l := hx
              have hy : y = 0 + SY (G 11) l := hy
              have ht : t = G 10 f + ST (G 10) l := ht
              unfold VL
              rw [← hx, ← hy, ← ht]
              first | (left; exact ⟨rfl, by omega, by omega, by omega⟩) | (right; exact ⟨rfl, by omega⟩)
            · refine go_iconst dX12_doesUndo_142 ?_
              refine go_goto (tgt := 147) dX12_doesUndo_143 (by decide) ?_
              refine go_ret (v := 1) rfl dX12_doesUndo_147 (okZ (by first | exact Or.inl rfl | exact Or.inr rfl | assumption | omega)) ?_
              have e : dg (4 * G 8 2) n.toNat row = l := by rw [hdg, show k + 1 = 0 by omega]; rfl
              refine ⟨hfr, by rw [e]; rw [show k + 1 = 0 by omega] at hpl; exact hpl, ?_⟩
              rw [e]
              have hx : x = G 11 f + SX (G 11) l := hx
              have hy : y = 0 + SY (G 11) l := hy
              have ht : t = G 10 f + ST (G 10) l := ht
              unfold VL
              rw [← hx, ← hy, ← ht]
              first | (left; exact ⟨rfl, by omega, by omega, by omega⟩) | (right; exact ⟨rfl, by omega⟩)
      · have hm0 := Int.emod_nonneg rest (show (4 * G 8 2) ≠ 0 by omega)
        have hm1 := Int.emod_lt_of_pos rest (show 0 < (4 * G 8 2) by omega)
        have hq0 := Int.ediv_nonneg (a := rest) (b := (4 * G 8 2)) (by omega) (by omega)
        have hq1 := Int.ediv_le_self (a := rest) (4 * G 8 2) (by omega)
        have hfv := hdf (rest % (4 * G 8 2) / 4) (by omega) (by omega)
        have hsd := sdx (n := G (8 + 3) (rest % (4 * G 8 2) / 4)) (s := rest % (4 * G 8 2) % 4) (by omega) (by omega)
        refine go_aload_n dX12_doesUndo_47 rfl ?_
        refine go_getf_p (b := 228) dX12_doesUndo_48 fl_12_136 ob_214 rfl pt_214_30 ?_
        refine go_iload dX12_doesUndo_51 rfl ?_
        refine go_iload dX12_doesUndo_53 rfl ?_
        refine go_iload dX12_doesUndo_55 rfl ?_
        refine go_irem dX12_doesUndo_57 ⟨by omega, by omega⟩ ⟨by omega, by omega⟩ (by omega) (by omega) ?_
        refine go_iastore dX12_doesUndo_58 ar_228 (by omega) (by omega) ⟨by omega, by omega⟩ ?_
        refine go_iload dX12_doesUndo_59 rfl ?_
        refine go_iload dX12_doesUndo_61 rfl ?_
        refine go_idiv dX12_doesUndo_63 ⟨by omega, by omega⟩ ⟨by omega, by omega⟩ (by omega) (by omega) ?_
        refine go_istore (L' := [vr 214, un, un, un, vi (4 * (G 8 2)), vi x, vi y, vi t, vi (rest / (4 * (G 8 2))), vi k]) dX12_doesUndo_64 (by decide) rfl rfl ?_
        refine go_iload dX12_doesUndo_66 rfl ?_
        refine go_aload_n dX12_doesUndo_68 rfl ?_
        refine go_aload_n dX12_doesUndo_69 rfl ?_
        refine go_getf_p (b := 228) dX12_doesUndo_70 fl_12_136 ob_214 rfl pt_214_30 ?_
        refine go_iload dX12_doesUndo_73 rfl ?_
        refine go_iaload dX12_doesUndo_75 ar_228 (by omega) (by omega) (fun he_75 => ?_)
        rw [show ((wr m1 228 k (rest % (4 * (G 8 2)))) 228 k : Int) = (rest % (4 * (G 8 2))) from by rw [wr_self]] at he_75 ⊢
        refine go_callVp_i (as := [vi (rest % (4 * (G 8 2)))]) (S := [vi x]) (b := 214) (ev_X12_acrossBy (m := (wr m1 228 k (rest % (4 * (G 8 2))))) (v := (rest % (4 * (G 8 2)))) (G := G) (d := 8) (st := 18) (hb1.w (by decide)) (by first | assumption | omega | exact ⟨by omega, by omega⟩ | (constructor <;> omega)) (by first | assumption | omega | exact ⟨by omega, by omega⟩ | (constructor <;> omega))) rfl dX12_doesUndo_76 cv_12_334 rfl rfl ob_214 rfl (by decide) (Nat.le_of_ble_eq_true rfl) (fun r_76 hr_76 ho_76 => ?_)
        refine go_iadd dX12_doesUndo_79 ?_
        refine go_istore (L' := [vr 214, un, un, un, vi (4 * (G 8 2)), vi (x + r_76), vi y, vi t, vi (rest / (4 * (G 8 2))), vi k]) dX12_doesUndo_80 (by decide) rfl rfl ?_
        refine go_iload dX12_doesUndo_82 rfl ?_
        refine go_aload_n dX12_doesUndo_84 rfl ?_
        refine go_aload_n dX12_doesUndo_85 rfl ?_
        refine go_getf_p (b := 228) dX12_doesUndo_86 fl_12_136 ob_214 rfl pt_214_30 ?_
        refine go_iload dX12_doesUndo_89 rfl ?_
        refine go_iaload dX12_doesUndo_91 ar_228 (by omega) (by omega) (fun he_91 => ?_)
        rw [show ((wr m1 228 k (rest % (4 * (G 8 2)))) 228 k : Int) = (rest % (4 * (G 8 2))) from by rw [wr_self]] at he_91 ⊢
        refine go_callVp_i (as := [vi (rest % (4 * (G 8 2)))]) (S := [vi y]) (b := 214) (ev_X12_downBy (m := (wr m1 228 k (rest % (4 * (G 8 2))))) (v := (rest % (4 * (G 8 2)))) (G := G) (d := 8) (st := 18) (hb1.w (by decide)) (by first | assumption | omega | exact ⟨by omega, by omega⟩ | (constructor <;> omega)) (by first | assumption | omega | exact ⟨by omega, by omega⟩ | (constructor <;> omega))) rfl dX12_doesUndo_92 cv_12_337 rfl rfl ob_214 rfl (by decide) (Nat.le_of_ble_eq_true rfl) (fun r_92 hr_92 ho_92 => ?_)
        refine go_iadd dX12_doesUndo_95 ?_
        refine go_istore (L' := [vr 214, un, un, un, vi (4 * (G 8 2)), vi (x + r_76), vi (y + r_92), vi t, vi (rest / (4 * (G 8 2))), vi k]) dX12_doesUndo_96 (by decide) rfl rfl ?_
        refine go_iload dX12_doesUndo_98 rfl ?_
        refine go_aload_n dX12_doesUndo_100 rfl ?_
        refine go_getf_p (b := 216) dX12_doesUndo_101 fl_12_98 ob_214 rfl pt_214_14 ?_
        refine go_iconst dX12_doesUndo_104 ?_
        refine go_aload_n dX12_doesUndo_105 rfl ?_
        refine go_getf_p (b := 228) dX12_doesUndo_106 fl_12_136 ob_214 rfl pt_214_30 ?_
        refine go_iload dX12_doesUndo_109 rfl ?_
        refine go_iaload dX12_doesUndo_111 ar_228 (by omega) (by omega) (fun he_111 => ?_)
        rw [show ((wr m1 228 k (rest % (4 * (G 8 2)))) 228 k : Int) = (rest % (4 * (G 8 2))) from by rw [wr_self]] at he_111 ⊢
        refine go_iconst dX12_doesUndo_112 ?_
        refine go_idiv dX12_doesUndo_113 ⟨by omega, by omega⟩ ⟨by omega, by omega⟩ (by omega) (by omega) ?_
        refine go_iadd dX12_doesUndo_114 ?_
        refine go_iaload dX12_doesUndo_115 ar_216 (by omega) (by omega) (fun he_115 => ?_)
        rw [show ((wr m1 228 k (rest % (4 * (G 8 2)))) 216 (5 + ((rest % (4 * (G 8 2))) / 4)) : Int) = (G (8 + 2) (rest % (4 * G 8 2) / 4)) from by rw [wr_na (by decide)]; exact hb1.qu (by omega) (by omega)] at he_115 ⊢
        refine go_iadd dX12_doesUndo_116 ?_
        refine go_istore (L' := [vr 214, un, un, un, vi (4 * (G 8 2)), vi (x + r_76), vi (y + r_92), vi (t + (G (8 + 2) (rest % (4 * G 8 2) / 4))), vi (rest / (4 * (G 8 2))), vi k]) dX12_doesUndo_117 (by decide) rfl rfl ?_
        refine go_iinc (L' := [vr 214, un, un, un, vi (4 * (G 8 2)), vi (x + r_76), vi (y + r_92), vi (t + (G (8 + 2) (rest % (4 * G 8 2) / 4))), vi (rest / (4 * (G 8 2))), vi (k + (-1))]) dX12_doesUndo_119 rfl (by decide) rfl rfl ?_
        refine go_goto (tgt := 42) dX12_doesUndo_122 (by decide) ?_
        exact ih_42 (wr m1 228 k (rest % (4 * (G 8 2)))) (x + r_76) (y + r_92) (t + (G (8 + 2) (rest % (4 * G 8 2) / 4))) (rest / (4 * (G 8 2))) (k + (-1)) ((rest % (4 * G 8 2)) :: l) (by first | assumption | omega | rfl) (by first | assumption | omega | rfl) (by first | assumption | omega | rfl) (by rw [hdg, show k + -1 + 1 = k by omega]; exact dg_s (by omega)) (by rw [show k + -1 + 1 = k by omega]; exact ⟨wr_self _ _ _ _, putL_congr (fun j a b => wr_ni (by omega)) hpl⟩) (by rw [SX_app, hr_76]; omega) (by rw [SY_app, hr_92]; omega) (by rw [ST_app]; omega) (by first | assumption | omega | rfl) (by first | assumption | omega | rfl) (by first | assumption | omega | rfl) (fun b h => by rw [wr_row h]; exact hfr b h) (by omega)
  exact lp_42 _ m (G (8 + 3) f) 0 (G (8 + 2) f) row (n - 1) [] (by first | assumption | omega | rfl) (by first | assumption | omega | rfl) (by first | assumption | omega | rfl) (by rw [show n - 1 + 1 = n by omega, List.append_nil]) trivial (by unfold SX; omega) (by unfold SY; omega) (by unfold ST; omega) (by first | assumption | omega | rfl) (by first | assumption | omega | rfl) (by first | assumption | omega | rfl) (fun b h => rfl) (Nat.lt_succ_self _)
theorem dX12_undoes_0 : decode mX12_undoes.2.1 0 = .ok (.aload_n 0, 1) := by decide +kernel
theorem dX12_undoes_1 : decode mX12_undoes.2.1 1 = .ok (.iconst 0, 1) := by decide +kernel
theorem dX12_undoes_2 : decode mX12_undoes.2.1 2 = .ok (.putfield 1, 3) := by decide +kernel
theorem dX12_undoes_5 : decode mX12_undoes.2.1 5 = .ok (.aload_n 0, 1) := by decide +kernel
theorem dX12_undoes_6 : decode mX12_undoes.2.1 6 = .ok (.iload_n 1, 1) := by decide +kernel
theorem dX12_undoes_7 : decode mX12_undoes.2.1 7 = .ok (.invokevirtual 251, 3) := by decide +kernel
theorem dX12_undoes_10 : decode mX12_undoes.2.1 10 = .ok (.ifCond .ne 5, 3) := by decide +kernel
theorem dX12_undoes_13 : decode mX12_undoes.2.1 13 = .ok (.iconst (-1), 1) := by decide +kernel
theorem dX12_undoes_14 : decode mX12_undoes.2.1 14 = .ok (.ireturn, 1) := by decide +kernel
theorem dX12_undoes_15 : decode mX12_undoes.2.1 15 = .ok (.iconst 1, 1) := by decide +kernel
theorem dX12_undoes_16 : decode mX12_undoes.2.1 16 = .ok (.istore_n 2, 1) := by decide +kernel
theorem dX12_undoes_17 : decode mX12_undoes.2.1 17 = .ok (.iconst 1, 1) := by decide +kernel
theorem dX12_undoes_18 : decode mX12_undoes.2.1 18 = .ok (.istore_n 3, 1) := by decide +kernel
theorem dX12_undoes_19 : decode mX12_undoes.2.1 19 = .ok (.iload_n 3, 1) := by decide +kernel
theorem dX12_undoes_20 : decode mX12_undoes.2.1 20 = .ok (.iconst 3, 1) := by decide +kernel
theorem dX12_undoes_21 : decode mX12_undoes.2.1 21 = .ok (.if_icmp .gt 85, 3) := by decide +kernel
theorem dX12_undoes_24 : decode mX12_undoes.2.1 24 = .ok (.iload_n 2, 1) := by decide +kernel
theorem dX12_undoes_25 : decode mX12_undoes.2.1 25 = .ok (.iconst 4, 1) := by decide +kernel
theorem dX12_undoes_26 : decode mX12_undoes.2.1 26 = .ok (.aload_n 0, 1) := by decide +kernel
theorem dX12_undoes_27 : decode mX12_undoes.2.1 27 = .ok (.getfield 98, 3) := by decide +kernel
theorem dX12_undoes_30 : decode mX12_undoes.2.1 30 = .ok (.iconst 2, 1) := by decide +kernel
theorem dX12_undoes_31 : decode mX12_undoes.2.1 31 = .ok (.iaload, 1) := by decide +kernel
theorem dX12_undoes_32 : decode mX12_undoes.2.1 32 = .ok (.imul, 1) := by decide +kernel
theorem dX12_undoes_33 : decode mX12_undoes.2.1 33 = .ok (.imul, 1) := by decide +kernel
theorem dX12_undoes_34 : decode mX12_undoes.2.1 34 = .ok (.istore_n 2, 1) := by decide +kernel
theorem dX12_undoes_35 : decode mX12_undoes.2.1 35 = .ok (.iconst 0, 1) := by decide +kernel
theorem dX12_undoes_36 : decode mX12_undoes.2.1 36 = .ok (.istore 4, 2) := by decide +kernel
theorem dX12_undoes_38 : decode mX12_undoes.2.1 38 = .ok (.iload 4, 2) := by decide +kernel
theorem dX12_undoes_40 : decode mX12_undoes.2.1 40 = .ok (.iload_n 2, 1) := by decide +kernel
theorem dX12_undoes_41 : decode mX12_undoes.2.1 41 = .ok (.if_icmp .ge 59, 3) := by decide +kernel
theorem dX12_undoes_44 : decode mX12_undoes.2.1 44 = .ok (.aload_n 0, 1) := by decide +kernel
theorem dX12_undoes_45 : decode mX12_undoes.2.1 45 = .ok (.iload_n 1, 1) := by decide +kernel
theorem dX12_undoes_46 : decode mX12_undoes.2.1 46 = .ok (.iload_n 3, 1) := by decide +kernel
theorem dX12_undoes_47 : decode mX12_undoes.2.1 47 = .ok (.iload 4, 2) := by decide +kernel
theorem dX12_undoes_49 : decode mX12_undoes.2.1 49 = .ok (.invokevirtual 340, 3) := by decide +kernel
theorem dX12_undoes_52 : decode mX12_undoes.2.1 52 = .ok (.ifCond .ne 6, 3) := by decide +kernel
theorem dX12_undoes_55 : decode mX12_undoes.2.1 55 = .ok (.goto 39, 3) := by decide +kernel
theorem dX12_undoes_58 : decode mX12_undoes.2.1 58 = .ok (.iconst 0, 1) := by decide +kernel
theorem dX12_undoes_59 : decode mX12_undoes.2.1 59 = .ok (.istore 5, 2) := by decide +kernel
theorem dX12_undoes_61 : decode mX12_undoes.2.1 61 = .ok (.iload 5, 2) := by decide +kernel
theorem dX12_undoes_63 : decode mX12_undoes.2.1 63 = .ok (.iload_n 3, 1) := by decide +kernel
theorem dX12_undoes_64 : decode mX12_undoes.2.1 64 = .ok (.if_icmp .ge 23, 3) := by decide +kernel
theorem dX12_undoes_67 : decode mX12_undoes.2.1 67 = .ok (.aload_n 0, 1) := by decide +kernel
theorem dX12_undoes_68 : decode mX12_undoes.2.1 68 = .ok (.getfield 139, 3) := by decide +kernel
theorem dX12_undoes_71 : decode mX12_undoes.2.1 71 = .ok (.iload 5, 2) := by decide +kernel
theorem dX12_undoes_73 : decode mX12_undoes.2.1 73 = .ok (.aload_n 0, 1) := by decide +kernel
theorem dX12_undoes_74 : decode mX12_undoes.2.1 74 = .ok (.getfield 136, 3) := by decide +kernel
theorem dX12_undoes_77 : decode mX12_undoes.2.1 77 = .ok (.iload 5, 2) := by decide +kernel
theorem dX12_undoes_79 : decode mX12_undoes.2.1 79 = .ok (.iaload, 1) := by decide +kernel
theorem dX12_undoes_80 : decode mX12_undoes.2.1 80 = .ok (.iastore, 1) := by decide +kernel
theorem dX12_undoes_81 : decode mX12_undoes.2.1 81 = .ok (.iinc 5 1, 3) := by decide +kernel
theorem dX12_undoes_84 : decode mX12_undoes.2.1 84 = .ok (.goto (-23), 3) := by decide +kernel
theorem dX12_undoes_87 : decode mX12_undoes.2.1 87 = .ok (.aload_n 0, 1) := by decide +kernel
theorem dX12_undoes_88 : decode mX12_undoes.2.1 88 = .ok (.iload_n 3, 1) := by decide +kernel
theorem dX12_undoes_89 : decode mX12_undoes.2.1 89 = .ok (.putfield 343, 3) := by decide +kernel
theorem dX12_undoes_92 : decode mX12_undoes.2.1 92 = .ok (.iload_n 3, 1) := by decide +kernel
theorem dX12_undoes_93 : decode mX12_undoes.2.1 93 = .ok (.ireturn, 1) := by decide +kernel
theorem dX12_undoes_94 : decode mX12_undoes.2.1 94 = .ok (.iinc 4 1, 3) := by decide +kernel
theorem dX12_undoes_97 : decode mX12_undoes.2.1 97 = .ok (.goto (-59), 3) := by decide +kernel
theorem dX12_undoes_100 : decode mX12_undoes.2.1 100 = .ok (.iinc 3 1, 3) := by decide +kernel
theorem dX12_undoes_103 : decode mX12_undoes.2.1 103 = .ok (.goto (-84), 3) := by decide +kernel
theorem dX12_undoes_106 : decode mX12_undoes.2.1 106 = .ok (.iconst (-1), 1) := by decide +kernel
theorem dX12_undoes_107 : decode mX12_undoes.2.1 107 = .ok (.ireturn, 1) := by decide +kernel
set_option maxRecDepth 4000 in
theorem ev_X12_undoes {m : Mem} {G : Mem} {f : Int} (hb : Bg G 8 18 (m 216)) (hdn : DnOk G 8) (hf : InR f) : Ev 0 3 mX12_undoes [vr 214, vi f] m (fun r m' => UdP m G f r m') := by
  refine Ev.of (L := [vr 214, vi f, un, un, un, un]) (by decide +kernel) rfl (Nat.le_of_ble_eq_true rfl) rfl (fun t ht => by cases ht; first | exact Or.inl rfl | exact Or.inr (Or.inl rfl) | exact Or.inr (Or.inr rfl)) (fun hcan => ?_)
  obtain ⟨⟨hd0, hd1⟩, ⟨hd2, hd3⟩, ⟨hd4, hd5⟩, ⟨hd6, hd7⟩, ⟨hd8, hd9⟩, hdf, hdp, hdq⟩ := id hdn
  refine go_aload_n dX12_undoes_0 rfl ?_
  refine go_iconst dX12_undoes_1 ?_
  refine go_putf_i (ki := 0) dX12_undoes_2 fw_12_1 ob_214 rfl rfl ⟨by omega, by omega⟩ ?_
  refine go_aload_n dX12_undoes_5 rfl ?_
  refine go_iload_n dX12_undoes_6 rfl ?_
  refine go_callVp_z (as := [vi f]) (S := []) (b := 214) (ev_X12_isFigure (m := (wr m 214 0 0)) (f := f) (G := G) (by first | exact hb | exact hb.w (by decide) | exact (hb.w (by decide)).w (by decide)) (by first | assumption | omega | exact ⟨by omega, by omega⟩ | (constructor <;> omega)) (by first | assumption | omega | exact ⟨by omega, by omega⟩ | (constructor <;> omega))) rfl dX12_undoes_7 cv_12_251 rfl rfl ob_214 rfl (by decide) (Nat.le_of_ble_eq_true rfl) (fun r_7 hr_7 ho_7 => ?_)
  refine go_if_ne (tgt := 15) dX12_undoes_10 (by decide) ⟨by omega, by omega⟩ (fun h_10 => ?_) (fun h_10 => ?_)
  · refine go_iconst dX12_undoes_15 ?_
    refine go_istore_n (L' := [vr 214, vi f, vi 1, un, un, un]) dX12_undoes_16 (by decide) rfl rfl ?_
    refine go_iconst dX12_undoes_17 ?_
    refine go_istore_n (L' := [vr 214, vi f, vi 1, vi 1, un, un]) dX12_undoes_18 (by decide) rfl rfl ?_
    have lp_19 : ∀ (n_19 : Nat) (m1 : Mem) (rw : Int) (n : Int) , (1 ≤ n) → (n ≤ 4) → (rw = (4 * G 8 2) ^ (n - 1).toNat) → (∀ j : Nat, 1 ≤ j → (j : Int) < n → FSm G j (G 11 f) 0 (G 10 f) = none) → (∀ b : Nat, b ≠ 228 → m1 b = wr m 214 0 0 b) → (4 - n).toNat < n_19 → Go 0 3 mX12_undoes (fun r m' => UdP m G f r m') 19 [vr 214, vi f, vi rw, vi n, un, un] [] m1 := by
      intro n_19
      induction n_19 with
      | zero => intro m1 rw n hn0 hn1 hrw hno hfr hmu; exact absurd hmu (Nat.not_lt_zero _)
      | succ n_19 ih_19 =>
        intro m1 rw n hn0 hn1 hrw hno hfr hmu
        have hb1 : Bg G 8 18 (m1 216) := by rw [hfr 216 (by decide)]; exact hb.w (by decide)
        refine go_iload_n dX12_undoes_19 rfl ?_
        refine go_iconst dX12_undoes_20 ?_
        refine go_icmp_gt (tgt := 106) dX12_undoes_21 (by decide) ⟨by omega, by omega⟩ ⟨by omega, by omega⟩ (fun h_21 => ?_) (fun h_21 => ?_)
        · refine go_iconst dX12_undoes_106 ?_
          refine go_ret (v := (-1)) rfl dX12_undoes_107 (okI ⟨by omega, by omega⟩) ?_
          refine Or.inr ⟨by omega, fun b h1 h2 h3 => by rw [hfr b h2, wr_row h1], fun j hj => by rw [hfr 214 (by decide)], Or.inr ⟨rfl, fun j a b => hno j a (by omega), by rw [hfr 214 (by decide), wr_ni (by decide)], by rw [hfr 229 (by decide), wr_row (by decide)]⟩⟩
        · refine go_iload_n dX12_undoes_24 rfl ?_
          refine go_iconst dX12_undoes_25 ?_
          refine go_aload_n dX12_undoes_26 rfl ?_
          refine go_getf_p (b := 216) dX12_undoes_27 fl_12_98 ob_214 rfl pt_214_14 ?_
          refine go_iconst dX12_undoes_30 ?_
          refine go_iaload dX12_undoes_31 ar_216 (by omega) (by omega) (fun he_31 => ?_)
          rw [show (m1 216 2 : Int) = (G 8 2) from hb1.n2] at he_31 ⊢
          refine go_imul dX12_undoes_32 ?_
          refine go_imul dX12_undoes_33 ?_
          refine go_istore_n (L' := [vr 214, vi f, vi (rw * (4 * (G 8 2))), vi n, un, un]) dX12_undoes_34 (by decide) rfl rfl ?_
          have hpn : rw * (4 * G 8 2) = (4 * G 8 2) ^ n.toNat := by rw [hrw, show n.toNat = (n - 1).toNat + 1 by omega, Int.pow_succ]
          have hpb := pw_b (C := (4 * G 8 2)) (by omega) (by omega) (n := n.toNat) (by omega)
          rw [← hpn] at hpb
          refine go_iconst dX12_undoes_35 ?_
          refine go_istore (L' := [vr 214, vi f, vi (rw * (4 * (G 8 2))), vi n, vi 0, un]) dX12_undoes_36 (by decide) rfl rfl ?_
          have lp_38 : ∀ (n_38 : Nat) (m2 : Mem) (row : Int) , (0 ≤ row) → (row ≤ rw * (4 * G 8 2)) → (∀ j : Int, 0 ≤ j → j < row → ¬ VL (G 11) (G 10) (dg (4 * G 8 2) n.toNat j) (G 11 f) 0 (G 10 f)) → (∀ b : Nat, b ≠ 228 → m2 b = wr m 214 0 0 b) → (rw * (4 * G 8 2) - row).toNat < n_38 → Go 0 3 mX12_undoes (fun r m' => UdP m G f r m') 38 [vr 214, vi f, vi (rw * (4 * (G 8 2))), vi n, vi row, un] [] m2 := by
            intro n_38
            induction n_38 with
            | zero => intro m2 row hr0 hr1 hnv hf2 hmu; exact absurd hmu (Nat.not_lt_zero _)
            | succ n_38 ih_38 =>
              intro m2 row hr0 hr1 hnv hf2 hmu
              have hb2 : Bg G 8 18 (m2 216) := by rw [hf2 216 (by decide)]; exact hb.w (by decide)
              refine go_iload dX12_undoes_38 rfl ?_
              refine go_iload_n dX12_undoes_40 rfl ?_
              refine go_icmp_ge (tgt := 100) dX12_undoes_41 (by decide) ⟨by omega, by omega⟩ ⟨by omega, by omega⟩ (fun h_41 => ?_) (fun h_41 => ?_)
              · refine go_iinc (L' := [vr 214, vi f, vi (rw * (4 * (G 8 2))), vi (n + 1), vi row, un]) dX12_undoes_100 rfl (by decide) rfl rfl ?_
                refine go_goto (tgt := 19) dX12_undoes_103 (by decide) ?_
                refine go_drop (j := 4) (L' := [vr 214, vi f, vi (rw * (4 * (G 8 2))), vi (n + 1), un, un]) rfl ?_
                exact ih_19 m2 (rw * (4 * (G 8 2))) (n + 1) (by first | assumption | omega | rfl) (by first | assumption | omega | rfl) (by rw [hpn, show n + 1 - 1 = n by omega]) (fun j a b => by by_cases q : (j : Int) < n; exact hno j a q; (have e : j = n.toNat := (by omega); rw [e]; exact FS_none (by omega) (fun r a b => hnv r a (by omega)))) hf2 (by omega)
              · refine go_aload_n dX12_undoes_44 rfl ?_
                refine go_iload_n dX12_undoes_45 rfl ?_
                refine go_iload_n dX12_undoes_46 rfl ?_
                refine go_iload dX12_undoes_47 rfl ?_
                refine go_callV_z (as := [vi f, vi n, vi row]) (S := []) (b := 214) (ev_X12_doesUndo (m := m2) (f := f) (n := n) (row := row) (G := G) hb2 (by first | assumption | omega | exact ⟨by omega, by omega⟩ | (constructor <;> omega)) (by first | assumption | omega | exact ⟨by omega, by omega⟩ | (constructor <;> omega)) (by first | assumption | omega | exact ⟨by omega, by omega⟩ | (constructor <;> omega)) (by first | assumption | omega | exact ⟨by omega, by omega⟩ | (constructor <;> omega))) rfl dX12_undoes_49 cv_12_340 rfl rfl ob_214 rfl (by decide) (Nat.le_of_ble_eq_true rfl) (fun r_49 m_49 hr_49 ho_49 => ?_)
                refine go_if_ne (tgt := 58) dX12_undoes_52 (by decide) ⟨by omega, by omega⟩ (fun h_52 => ?_) (fun h_52 => ?_)
                · refine go_iconst dX12_undoes_58 ?_
                  refine go_istore (L' := [vr 214, vi f, vi (rw * (4 * (G 8 2))), vi n, vi row, vi 0]) dX12_undoes_59 (by decide) rfl rfl ?_
                  refine go_drop (j := 1) (L' := [vr 214, un, vi (rw * (4 * (G 8 2))), vi n, vi row, vi 0]) rfl ?_
                  refine go_drop (j := 2) (L' := [vr 214, un, un, vi n, vi row, vi 0]) rfl ?_
                  refine go_drop (j := 4) (L' := [vr 214, un, un, vi n, un, vi 0]) rfl ?_
                  have lp_61 : ∀ (n_61 : Nat) (m3 : Mem) (i : Int) , (0 ≤ i) → (i ≤ n) → (∀ j : Int, 0 ≤ j → j < i → m3 229 j = m_49 228 j) → (∀ b : Nat, b ≠ 229 → m3 b = m_49 b) → (n - i).toNat < n_61 → Go 0 3 mX12_undoes (fun r m' => UdP m G f r m') 61 [vr 214, un, un, vi n, un, vi i] [] m3 := by
                    intro n_61
                    induction n_61 with
                    | zero => intro m3 i hi0 hi1 hcp hf3 hmu; exact absurd hmu (Nat.not_lt_zero _)
                    | succ n_61 ih_61 =>
                      intro m3 i hi0 hi1 hcp hf3 hmu
                      refine go_iload dX12_undoes_61 rfl ?_
                      refine go_iload_n dX12_undoes_63 rfl ?_
                      refine go_icmp_ge (tgt := 87) dX12_undoes_64 (by decide) ⟨by omega, by omega⟩ ⟨by omega, by omega⟩ (fun h_64 => ?_) (fun h_64 => ?_)
                      · refine go_aload_n dX12_undoes_87 rfl ?_
                        refine go_iload_n dX12_undoes_88 rfl ?_
                        refine go_putf_i (ki := 31) dX12_undoes_89 fw_12_343 ob_214 rfl rfl ⟨by omega, by omega⟩ ?_
                        refine go_iload_n dX12_undoes_92 rfl ?_
                        refine go_ret (v := n) rfl dX12_undoes_93 (okI ⟨by omega, by omega⟩) ?_
                        have hvl := (hr_49.2.2.resolve_right (fun h => by omega)).2
                        refine Or.inr ⟨by omega, fun b h1 h2 h3 => ?_, fun j hj => ?_, Or.inl ⟨n.toNat, dg (4 * G 8 2) n.toNat row, by omega, by omega, by omega, FS_some (by omega) hr0 (by omega) hvl hnv, fun j a b => hno j a (by omega), by rw [wr_self]; omega, ?_⟩⟩
                        · rw [wr_row h1, hf3 b h3, hr_49.1 b h2, hf2 b h2, wr_row h1]
                        · rw [wr_ni hj, hf3 214 (by decide), hr_49.1 214 (by decide), hf2 214 (by decide)]
                        · refine putL_congr (fun j a b => ?_) hr_49.2.1
                          rw [dg_len] at b
                          rw [wr_na (by decide), hcp j a (by omega)]
                      · refine go_aload_n dX12_undoes_67 rfl ?_
                        refine go_getf_p (b := 229) dX12_undoes_68 fl_12_139 ob_214 rfl pt_214_32 ?_
                        refine go_iload dX12_undoes_71 rfl ?_
                        refine go_aload_n dX12_undoes_73 rfl ?_
                        refine go_getf_p (b := 228) dX12_undoes_74 fl_12_136 ob_214 rfl pt_214_30 ?_
                        refine go_iload dX12_undoes_77 rfl ?_
                        refine go_iaload dX12_undoes_79 ar_228 (by omega) (by omega) (fun he_79 => ?_)
                        rw [show (m3 228 i : Int) = (m_49 228 i) from by rw [hf3 228 (by decide)]] at he_79 ⊢
                        refine go_iastore dX12_undoes_80 ar_229 (by omega) (by omega) ⟨by omega, by omega⟩ ?_
                        refine go_iinc (L' := [vr 214, un, un, vi n, un, vi (i + 1)]) dX12_undoes_81 rfl (by decide) rfl rfl ?_
                        refine go_goto (tgt := 61) dX12_undoes_84 (by decide) ?_
                        exact ih_61 (wr m3 229 i (m_49 228 i)) (i + 1) (by first | assumption | omega | rfl) (by first | assumption | omega | rfl) (fun j a b => by by_cases q : j = i; (rw [q, wr_self]); (rw [wr_ni q]; exact hcp j a (by omega))) (fun b h => by rw [wr_row h]; exact hf3 b h) (by omega)
                  exact lp_61 _ m_49 0 (by first | assumption | omega | rfl) (by first | assumption | omega | rfl) (fun j a b => by omega) (fun b h => rfl) (Nat.lt_succ_self _)
                · refine go_goto (tgt := 94) dX12_undoes_55 (by decide) ?_
                  refine go_iinc (L' := [vr 214, vi f, vi (rw * (4 * (G 8 2))), vi n, vi (row + 1), un]) dX12_undoes_94 rfl (by decide) rfl rfl ?_
                  refine go_goto (tgt := 38) dX12_undoes_97 (by decide) ?_
                  exact ih_38 m_49 (row + 1) (by first | assumption | omega | rfl) (by first | assumption | omega | rfl) (stp hnv (by have h9 := (hr_49.2.2.resolve_left (fun h => by omega)).2; exact h9)) (fun b h => by rw [hr_49.1 b h]; exact hf2 b h) (by omega)
          exact lp_38 _ m1 0 (by first | assumption | omega | rfl) (by first | assumption | omega | rfl) (fun j a b => by omega) hfr (Nat.lt_succ_self _)
    exact lp_19 _ (wr m 214 0 0) 1 1 (by first | assumption | omega | rfl) (by first | assumption | omega | rfl) (by show (1 : Int) = _ ^ 0; rw [Int.pow_zero]) (fun j a b => by omega) (fun b h => rfl) (Nat.lt_succ_self _)
  · refine go_iconst dX12_undoes_13 ?_
    exact go_ret (v := (-1)) rfl dX12_undoes_14 (okI ⟨by omega, by omega⟩) (Or.inl ⟨by omega, rfl, rfl⟩)
