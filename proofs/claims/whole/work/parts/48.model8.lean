/-! ===== the reference reads TOKENS one at a time ===== -/
def kwL : List Int := [4709843, 755084, 211015237, 542723566, 17278420, 624435, 11832691, 19058323, 278194, 165492, 20436616, 759412, 15190664, 498, 1476, 14836, 23104625940, 20452820, 20590506148, 8243, 89, 86148744, 688, 623908, 492210354]
def wdL : List Int := [2438173, 453774, 91029992, 232608281, 8805260, 375400, 6025501, 9678763, 168984, 99677, 10408481, 456887, 7749089, 423, 1111, 10631, 8375161205, 10416350, 7443765193, 5878, 79, 38363444, 583, 374953, 212302449]
def kwC (k : Int) : Int := kwL.getD k.toNat 0
def wdC (k : Int) : Int := wdL.getD k.toNat 0
/-- a word, its last letter first, as a number -/
def fr (B : Int) : List Int → Int
  | [] => 0
  | c :: l => B * fr B l + c
def Lt (l : List Int) : Prop := ∀ c ∈ l, 1 ≤ c ∧ c ≤ 26
def Wr (v w : Int) : Prop := ∃ l : List Int, (1 ≤ l.length ∧ l.length ≤ 7) ∧ Lt l ∧ v = fr 32 l ∧ w = fr 27 l
theorem fr_nn {B : Int} (hB : 27 ≤ B) : ∀ {l : List Int}, Lt l → 0 ≤ fr B l ∧ fr B l < B ^ l.length := by
  intro l
  induction l with
  | nil => intro _; exact ⟨Int.le_refl 0, by show (0 : Int) < B ^ 0; rw [Int.pow_zero]; omega⟩
  | cons c l ih =>
    intro h
    have h1 := ih (fun w hw => h w (List.mem_cons_of_mem _ hw))
    have h2 := h c List.mem_cons_self
    show 0 ≤ B * fr B l + c ∧ B * fr B l + c < B ^ (l.length + 1)
    rw [Int.pow_succ, Int.mul_comm (B ^ l.length) B]
    have e1 : 0 ≤ B * fr B l := Int.mul_nonneg (by omega) h1.1
    have e2 : B * (fr B l + 1) ≤ B * B ^ l.length := Int.mul_le_mul_of_nonneg_left (by omega) (by omega)
    rw [Int.mul_add, Int.mul_one] at e2
    omega
theorem fr_inj {B : Int} (hB : 27 ≤ B) : ∀ {l l' : List Int}, Lt l → Lt l' → fr B l = fr B l' → l = l' := by
  intro l
  induction l with
  | nil =>
    intro l' _ h' he
    cases l' with
    | nil => rfl
    | cons c l' =>
      exfalso
      have h1 := fr_nn hB (l := l') (fun w hw => h' w (List.mem_cons_of_mem _ hw))
      have h2 := h' c List.mem_cons_self
      have he : (0 : Int) = B * fr B l' + c := he
      have e1 : 0 ≤ B * fr B l' := Int.mul_nonneg (by omega) h1.1
      omega
  | cons c l ih =>
    intro l' h h' he
    have i1 : Lt l := fun w hw => h w (List.mem_cons_of_mem _ hw)
    have c1 := h c List.mem_cons_self
    have b1 := fr_nn hB i1
    cases l' with
    | nil =>
      exfalso
      have he : B * fr B l + c = 0 := he
      have e1 : 0 ≤ B * fr B l := Int.mul_nonneg (by omega) b1.1
      omega
    | cons c' l' =>
      have i2 : Lt l' := fun w hw => h' w (List.mem_cons_of_mem _ hw)
      have c2 := h' c' List.mem_cons_self
      have he : B * fr B l + c = B * fr B l' + c' := he
      have m1 : (B * fr B l + c) % B = c := by rw [Int.mul_add_emod_self_left]; exact Int.emod_eq_of_lt (by omega) (by omega)
      have m2 : (B * fr B l' + c') % B = c' := by rw [Int.mul_add_emod_self_left]; exact Int.emod_eq_of_lt (by omega) (by omega)
      have ec : c = c' := by rw [← m1, ← m2, he]
      have ef : fr B l = fr B l' := by
        have : B * fr B l = B * fr B l' := by omega
        exact Int.eq_of_mul_eq_mul_left (by omega) this
      rw [ec, ih i1 i2 ef]
theorem Wr.inj {v w v' w' : Int} (h : Wr v w) (h' : Wr v' w') : v = v' ↔ w = w' := by
  obtain ⟨l, -, l1, l2, l3⟩ := h
  obtain ⟨k, -, k1, k2, k3⟩ := h'
  constructor
  · intro e
    rw [l3, k3, fr_inj (B := 32) (by decide) l1 k1 (by rw [← l2, ← k2, e])]
  · intro e
    rw [l2, k2, fr_inj (B := 27) (by decide) l1 k1 (by rw [← l3, ← k3, e])]
def kwW : List (List Int) := [[19, 14, 23, 15, 4], [12, 12, 1, 23], [5, 18, 21, 7, 9, 6], [14, 15, 19, 18, 5, 16], [20, 14, 9, 15, 16], [19, 25, 1, 19], [19, 11, 3, 9, 11], [19, 20, 19, 5, 18], [18, 21, 15, 8], [20, 19, 1, 5], [8, 20, 21, 15, 19], [20, 19, 5, 23], [8, 20, 18, 15, 14], [18, 15], [4, 14, 1], [20, 15, 14], [20, 8, 7, 9, 18, 16, 21], [20, 14, 5, 16, 19], [4, 5, 12, 20, 20, 5, 19], [19, 1, 8], [25, 2], [8, 20, 1, 5, 18, 2], [16, 21], [4, 9, 1, 19], [18, 5, 2, 13, 21, 14]]
theorem kwW_ok : ∀ k : Nat, k < 25 → kwC (k : Int) = fr 32 (kwW.getD k []) ∧ wdC (k : Int) = fr 27 (kwW.getD k []) ∧ (1 ≤ (kwW.getD k []).length ∧ (kwW.getD k []).length ≤ 7) ∧ ∀ c ∈ kwW.getD k [], 1 ≤ c ∧ c ≤ 26 := by decide +kernel
theorem kw_inj0 : ∀ k : Nat, k < 25 → ∀ j : Nat, j < 25 → kwC (k : Int) = kwC (j : Int) → k = j := by decide +kernel
theorem kw_Wr {k : Int} (h0 : 0 ≤ k) (h1 : k < 25) : Wr (kwC k) (wdC k) := by
  obtain ⟨k, rfl⟩ := Int.eq_ofNat_of_zero_le h0
  obtain ⟨a, b, c, e⟩ := kwW_ok k (by omega)
  exact ⟨_, c, e, a, b⟩
theorem kwd_eq {v k : Int} (h0 : 0 ≤ k) (h1 : k < 25) : kwd kwC v = 200 + k ↔ v = kwC k := by
  unfold kwd
  rcases fnd_cases (fun j => decide (kwC j = v)) 25 with ⟨e, n⟩ | ⟨z0, z1, z2, -⟩
  · rw [if_pos e]
    constructor
    · intro h; omega
    · intro h
      have := of_decide_eq_false (n k h0 h1)
      exact absurd h.symm this
  · rw [if_neg (by omega)]
    have z2 := of_decide_eq_true z2
    constructor
    · intro h
      rw [← z2, show fnd (fun j => decide (kwC j = v)) 25 = k by omega]
    · intro h
      obtain ⟨k, rfl⟩ := Int.eq_ofNat_of_zero_le h0
      obtain ⟨q, hq⟩ := Int.eq_ofNat_of_zero_le z0
      rw [hq] at z2 z1 ⊢
      have := kw_inj0 q (by omega) k (by omega) (by rw [z2, h])
      omega
theorem kwd_3 {v : Int} : kwd kwC v = 3 ↔ ∀ k : Int, 0 ≤ k → k < 25 → v ≠ kwC k := by
  constructor
  · intro h k h0 h1 e
    have := (kwd_eq h0 h1).mpr e
    omega
  · intro h
    rcases kwd_b kwC v with e | ⟨e1, e2⟩
    · exact e
    · exfalso
      have := (kwd_eq (v := v) (k := kwd kwC v - 200) (by omega) (by omega)).mp (by omega)
      exact h _ (by omega) (by omega) this
theorem kwd_c {kw : Int → Int} (h : ∀ k : Int, 0 ≤ k → k < 25 → kw k = kwC k) (v : Int) : kwd kw v = kwd kwC v := by
  unfold kwd
  rw [fnd_congr (P' := fun k => decide (kwC k = v)) (fun j a b => by rw [h j a b])]
theorem lcmpI_R (x y : Int) : InR (lcmpI x y) := by unfold lcmpI; split <;> (try split) <;> exact ⟨by omega, by omega⟩
theorem lcmpI_0 (x y : Int) : lcmpI x y = 0 ↔ x = y := by unfold lcmpI; split <;> (try split) <;> omega
theorem w64_i {x : Int} (h : InL x) : w64 x = x := h.i
theorem w32_i {x : Int} (h : InR x) : w32 x = x := h.i
def wvN (t : Int → Int) (a : Int) : Nat → Int
  | 0 => 0
  | i + 1 => if i < 7 then w64 (27 * wvN t a i + t (a + (i : Int)) - 96) else wvN t a i
def nvN (t : Int → Int) (a : Int) : Nat → Int
  | 0 => 0
  | i + 1 => if i < 3 then w32 (10 * nvN t a i + t (a + (i : Int)) - 48) else nvN t a i
theorem wvN_R (t : Int → Int) (a : Int) (i : Nat) : InL (wvN t a i) := by
  induction i with
  | zero => exact (show InL 0 from ⟨by decide, by decide⟩)
  | succ i ih => show InL (if i < 7 then w64 _ else _); split; exact w64_R _; exact ih
theorem nvN_R (t : Int → Int) (a : Int) (i : Nat) : InR (nvN t a i) := by
  induction i with
  | zero => exact (show InR 0 from ⟨by decide, by decide⟩)
  | succ i ih => show InR (if i < 3 then w32 _ else _); split; exact w32_R _; exact ih
theorem wvN_s {t : Int → Int} {a x : Int} (h : a ≤ x) : wvN t a (x + 1 - a).toNat = if x - a < 7 then w64 (27 * wvN t a (x - a).toNat + t x - 96) else wvN t a (x - a).toNat := by
  rw [(sN h).1]
  show (if (x - a).toNat < 7 then w64 (27 * wvN t a (x - a).toNat + t (a + ((x - a).toNat : Int)) - 96) else _) = _
  rw [(sN h).2]
  by_cases q : x - a < 7
  · rw [if_pos q, if_pos (by omega)]
  · rw [if_neg q, if_neg (by omega)]
theorem nvN_s {t : Int → Int} {a x : Int} (h : a ≤ x) : nvN t a (x + 1 - a).toNat = if x - a < 3 then w32 (10 * nvN t a (x - a).toNat + t x - 48) else nvN t a (x - a).toNat := by
  rw [(sN h).1]
  show (if (x - a).toNat < 3 then w32 (10 * nvN t a (x - a).toNat + t (a + ((x - a).toNat : Int)) - 48) else _) = _
  rw [(sN h).2]
  by_cases q : x - a < 3
  · rw [if_pos q, if_pos (by omega)]
  · rw [if_neg q, if_neg (by omega)]
theorem word_ok {t : Int → Int} {a : Int} : ∀ L : Nat, L ≤ 7 → dcN t a L = 0 → ∃ l : List Int, l.length = L ∧ Lt l ∧ lvN t a L = fr 32 l ∧ wvN t a L = fr 27 l := by
  intro L
  induction L with
  | zero => intro _ _; exact ⟨[], rfl, (fun c hc => by cases hc), rfl, rfl⟩
  | succ L ih =>
    intro hL hd
    have hb := cnt_b t a L
    have hd2 : dcN t a L + (if isL (t (a + (L : Int))) then 0 else 1) = 0 := hd
    have hl : isL (t (a + (L : Int))) := by
      by_cases q : isL (t (a + (L : Int)))
      · exact q
      · rw [if_neg q] at hd2; omega
    rw [if_pos hl] at hd2
    obtain ⟨l, l1, l2, l3, l4⟩ := ih (by omega) (by omega)
    have hlt : Lt ((t (a + (L : Int)) - 96) :: l) := by
      intro c hc
      rcases List.mem_cons.mp hc with e | e
      · rw [e]; unfold isL at hl; omega
      · exact l2 c e
    refine ⟨(t (a + (L : Int)) - 96) :: l, by rw [List.length_cons, l1], hlt, ?_, ?_⟩
    · have hB := fr_nn (B := 32) (by decide) hlt
      rw [List.length_cons, l1] at hB
      have p7 : (32 : Int) ^ (L + 1) ≤ 32 ^ 7 := by
        have : L + 1 = 1 ∨ L + 1 = 2 ∨ L + 1 = 3 ∨ L + 1 = 4 ∨ L + 1 = 5 ∨ L + 1 = 6 ∨ L + 1 = 7 := by omega
        rcases this with e | e | e | e | e | e | e <;> rw [e] <;> decide
      have p8 : (32 : Int) ^ 7 = 34359738368 := by decide
      show (if isL (t (a + (L : Int))) then w64 (32 * lvN t a L + (t (a + (L : Int)) - 97 + 1)) else _) = 32 * fr 32 l + (t (a + (L : Int)) - 96)
      have hB2 : 0 ≤ 32 * fr 32 l + (t (a + (L : Int)) - 96) ∧ 32 * fr 32 l + (t (a + (L : Int)) - 96) < 32 ^ (L + 1) := hB
      rw [if_pos hl, l3, w64_i ⟨by omega, by omega⟩]; omega
    · have hB := fr_nn (B := 27) (by decide) hlt
      rw [List.length_cons, l1] at hB
      have p7 : (27 : Int) ^ (L + 1) ≤ 27 ^ 7 := by
        have : L + 1 = 1 ∨ L + 1 = 2 ∨ L + 1 = 3 ∨ L + 1 = 4 ∨ L + 1 = 5 ∨ L + 1 = 6 ∨ L + 1 = 7 := by omega
        rcases this with e | e | e | e | e | e | e <;> rw [e] <;> decide
      have p8 : (27 : Int) ^ 7 = 10460353203 := by decide
      show (if L < 7 then w64 (27 * wvN t a L + t (a + (L : Int)) - 96) else _) = 27 * fr 27 l + (t (a + (L : Int)) - 96)
      have hB2 : 0 ≤ 27 * fr 27 l + (t (a + (L : Int)) - 96) ∧ 27 * fr 27 l + (t (a + (L : Int)) - 96) < 27 ^ (L + 1) := hB
      rw [if_pos (by omega), l4, w64_i ⟨by omega, by omega⟩]; omega
theorem num_ok {t : Int → Int} {a : Int} : ∀ L : Nat, L ≤ 3 → lcN t a L = 0 → nvN t a L = dvN t a L := by
  intro L
  induction L with
  | zero => intro _ _; rfl
  | succ L ih =>
    intro hL hd
    have hb := cnt_b t a L
    have hd2 : lcN t a L + (if isL (t (a + (L : Int))) then 1 else 0) = 0 := hd
    have hl : ¬ isL (t (a + (L : Int))) := by
      intro q
      rw [if_pos q] at hd2; omega
    rw [if_neg hl] at hd2
    show (if L < 3 then w32 (10 * nvN t a L + t (a + (L : Int)) - 48) else _) = (if isL (t (a + (L : Int))) then _ else w32 (10 * dvN t a L + t (a + (L : Int)) - 48))
    rw [if_pos (by omega), if_neg hl, ih (by omega) (by omega)]
def TE (G : Mem) (t kw : Int → Int) (n lim : Int) : Prop := TkOk G t kw n lim ∧ (∀ k : Int, 0 ≤ k → k < 25 → kw k = kwC k) ∧ (0 ≤ n ∧ n ≤ 940) ∧ (0 ≤ lim ∧ lim ≤ 900) ∧ ∀ j : Int, 0 ≤ t j ∧ t j ≤ 255
def TB (t : Int → Int) (n lim : Int) (m : Mem) : Prop := m 214 3 = n ∧ m 214 4 = lim ∧ ∀ j : Int, 0 ≤ j → j < n → m 215 j = t j
def TKd (K V : Int) (m : Mem) : Prop := (K = 0 ∧ m 214 7 = 0) ∨ (K = 1 ∧ m 214 7 = 1) ∨ (K = 2 ∧ m 214 7 = 3 ∧ m 214 8 = w32 V) ∨ (((K = 3 ∨ (200 ≤ K ∧ K < 225)) ∧ m 214 7 = 2) ∧ Wr V (m 214 12) ∧ K = kwd kwC V) ∨ (isS K ∧ m 214 7 = 4 ∧ m 214 9 = K)
def TG (G : Mem) (t kw : Int → Int) (n lim : Int) (m : Mem) (i : Int) : Prop := TE G t kw n lim ∧ TB t n lim m ∧ (0 ≤ i ∧ i < G 1 11) ∧ m 214 5 = posN t n lim i.toNat
def TM (G : Mem) (t kw : Int → Int) (n lim : Int) (m : Mem) (i : Int) : Prop := TE G t kw n lim ∧ TB t n lim m ∧ (0 ≤ i ∧ i < G 1 11) ∧ (2 ≤ G 4 i → m 214 5 = posN t n lim (i + 1).toNat) ∧ m 214 6 = G 5 i ∧ TKd (G 4 i) (G 6 i) m
def Gx (m m' : Mem) : Prop := (∀ b : Nat, b ≠ 214 → m' b = m b) ∧ ∀ j : Int, j ≠ 5 → j ≠ 6 → j ≠ 7 → j ≠ 8 → j ≠ 9 → j ≠ 12 → m' 214 j = m 214 j
theorem Gx.rf {m : Mem} : Gx m m := ⟨fun _ _ => rfl, fun _ _ _ _ _ _ _ => rfl⟩
theorem Gx.w {m n : Mem} {j x : Int} (h : Gx m n) (hj : j = 5 ∨ j = 6 ∨ j = 7 ∨ j = 8 ∨ j = 9 ∨ j = 12) : Gx m (wr n 214 j x) := ⟨fun b hb => by rw [wr_row hb]; exact h.1 b hb, fun k h1 h2 h3 h4 h5 h6 => by rw [wr_ni (by omega)]; exact h.2 k h1 h2 h3 h4 h5 h6⟩
section
variable {G m m' : Mem} {t kw : Int → Int} {n lim i : Int}
theorem TB.gx (h : TB t n lim m) (hg : Gx m m') : TB t n lim m' := ⟨by rw [hg.2 3 (by decide) (by decide) (by decide) (by decide) (by decide) (by decide)]; exact h.1, by rw [hg.2 4 (by decide) (by decide) (by decide) (by decide) (by decide) (by decide)]; exact h.2.1, fun j a b => by rw [hg.1 215 (by decide)]; exact h.2.2 j a b⟩
theorem TM.mk' (h : TG G t kw n lim m i) (hg : Gx m m') (h5 : 2 ≤ G 4 i → m' 214 5 = posN t n lim (i + 1).toNat) (h6 : m' 214 6 = G 5 i) (hk : TKd (G 4 i) (G 6 i) m') : Gx m m' ∧ TM G t kw n lim m' i := ⟨hg, h.1, h.2.1.gx hg, h.2.2.1, h5, h6, hk⟩
theorem TM.nx (h : TM G t kw n lim m i) (h2 : 2 ≤ G 4 i) : TG G t kw n lim m (i + 1) := ⟨h.1, h.2.1, ⟨by have := h.2.2.1; omega, by have hk := h.1.1.s; exact hk.lt h.2.2.1.2 h2⟩, h.2.2.2.1 h2⟩
theorem TB.w {b : Nat} {j x : Int} (h : TB t n lim m) (hb : b ≠ 215) (hj : b ≠ 214 ∨ (j ≠ 3 ∧ j ≠ 4)) : TB t n lim (wr m b j x) := by
  refine ⟨?_, ?_, fun k a c => by rw [wr_na (fun e => hb e.symm)]; exact h.2.2 k a c⟩
  · by_cases q : (214 : Nat) = b
    · rw [wr_ni (by omega)]; exact h.1
    · rw [wr_na q]; exact h.1
  · by_cases q : (214 : Nat) = b
    · rw [wr_ni (by omega)]; exact h.2.1
    · rw [wr_na q]; exact h.2.1
theorem TG.w {b : Nat} {j x : Int} (h : TG G t kw n lim m i) (hb : b ≠ 215) (hj : b ≠ 214 ∨ (j ≠ 3 ∧ j ≠ 4 ∧ j ≠ 5)) : TG G t kw n lim (wr m b j x) i := by
  refine ⟨h.1, h.2.1.w hb (by omega), h.2.2.1, ?_⟩
  by_cases q : (214 : Nat) = b
  · rw [wr_ni (by omega)]; exact h.2.2.2
  · rw [wr_na q]; exact h.2.2.2
theorem TM.w {b : Nat} {j x : Int} (h : TM G t kw n lim m i) (hb : b ≠ 215) (hj : b ≠ 214 ∨ (j ≠ 3 ∧ j ≠ 4 ∧ j ≠ 5 ∧ j ≠ 6 ∧ j ≠ 7 ∧ j ≠ 8 ∧ j ≠ 9 ∧ j ≠ 12)) : TM G t kw n lim (wr m b j x) i := by
  have e : ∀ k : Int, (k = 3 ∨ k = 4 ∨ k = 5 ∨ k = 6 ∨ k = 7 ∨ k = 8 ∨ k = 9 ∨ k = 12) → wr m b j x 214 k = m 214 k := fun k hk => by
    by_cases q : (214 : Nat) = b
    · exact wr_ni (by omega)
    · exact wr_na q
  refine ⟨h.1, h.2.1.w hb (by omega), h.2.2.1, fun h2 => by rw [e 5 (by omega)]; exact h.2.2.2.1 h2, by rw [e 6 (by omega)]; exact h.2.2.2.2.1, ?_⟩
  unfold TKd
  rw [e 7 (by omega), e 8 (by omega), e 9 (by omega), e 12 (by omega)]
  exact h.2.2.2.2.2
theorem TM.kd (h : TM G t kw n lim m i) : TKd (G 4 i) (G 6 i) m := h.2.2.2.2.2
end
def gdP (t : Int → Int) (lf x x2 gd : Int) : Prop := gd = if (if lf = 1 then dcN t x (x2 - x).toNat else lcN t x (x2 - x).toNat) = 0 then 1 else 0
def onP (t : Int → Int) (lf x x2 : Int) : Prop := x2 = x ∨ ((lf = 1 → 1 ≤ lcN t x (x2 - x).toNat) ∧ (lf = 0 → 1 ≤ dcN t x (x2 - x).toNat))
def rnP (c : Int) : Prop := isL c ∨ isD c
theorem gdP_0 {t : Int → Int} {lf x : Int} : gdP t lf x x 1 := by
  unfold gdP; rw [show (x - x).toNat = 0 by omega]; split <;> rfl
theorem gdP_s {t : Int → Int} {lf x x2 gd g2 : Int} (h : x ≤ x2) (hg : gdP t lf x x2 gd) (hl : (lf = 1 ∨ lf = 0)) (h2 : g2 = if gd ≠ 0 ∧ ((lf = 1 ∧ isL (t x2)) ∨ (lf = 0 ∧ ¬ isL (t x2))) then 1 else 0) : gdP t lf x (x2 + 1) g2 := by
  unfold gdP at *
  have hb := cnt_b t x (x2 - x).toNat
  rw [lcN_s h, dcN_s h, h2, hg]
  rcases hl with e | e
  · rw [if_pos e, if_pos e]
    by_cases q : isL (t x2)
    · rw [if_pos q]
      by_cases z : dcN t x (x2 - x).toNat = 0
      · rw [if_pos z, if_pos ⟨by decide, Or.inl ⟨e, q⟩⟩, if_pos (by omega)]
      · rw [if_neg z, if_neg (fun y => y.1 rfl), if_neg (by omega)]
    · rw [if_neg q, if_neg (fun y => by rcases y.2 with w | w; exact q w.2; omega), if_neg (by omega)]
  · have e1 : ¬ lf = 1 := by omega
    rw [if_neg e1, if_neg e1]
    by_cases q : isL (t x2)
    · rw [if_pos q, if_neg (fun y => by rcases y.2 with w | w; omega; exact w.2 q), if_neg (by omega)]
    · rw [if_neg q]
      by_cases z : lcN t x (x2 - x).toNat = 0
      · rw [if_pos z, if_pos ⟨by decide, Or.inr ⟨e, q⟩⟩, if_pos (by omega)]
      · rw [if_neg z, if_neg (fun y => y.1 rfl), if_neg (by omega)]
theorem onP_s {t : Int → Int} {lf x x2 : Int} (h : x ≤ x2) (hon : onP t lf x x2) (hl : (lf = 1 ∧ isL (t x)) ∨ (lf = 0 ∧ ¬ isL (t x))) : onP t lf x (x2 + 1) := by
  unfold onP at *
  right
  have hb := cnt_b t x (x2 - x).toNat
  rw [lcN_s h, dcN_s h]
  rcases hon with q | ⟨q1, q2⟩
  · subst q
    refine ⟨fun e => ?_, fun e => ?_⟩
    · rcases hl with w | w
      · rw [if_pos w.2]; omega
      · omega
    · rcases hl with w | w
      · omega
      · rw [if_neg w.2]; omega
  · refine ⟨fun e => ?_, fun e => ?_⟩
    · have := q1 e
      split <;> omega
    · have := q2 e
      split <;> omega
def kdP (G : Mem) (t : Int → Int) (i x x2 kd : Int) : Prop := (kd = 1 ∧ G 4 i = 1) ∨ (kd = 2 ∧ (G 4 i = 3 ∨ (200 ≤ G 4 i ∧ G 4 i < 225)) ∧ Wr (G 6 i) (wvN t x (x2 - x).toNat) ∧ G 4 i = kwd kwC (G 6 i)) ∨ (kd = 3 ∧ G 4 i = 2 ∧ nvN t x (x2 - x).toNat = w32 (G 6 i))
theorem kdP_of {G : Mem} {t kw : Int → Int} {i x x2 lf gd kd : Int} (hx : x ≤ x2) (hkw : ∀ k : Int, 0 ≤ k → k < 25 → kw k = kwC k) (hK : G 4 i = runK t kw x x2) (hV : G 6 i = runV t x x2) (hlf : lf = 1 ∨ lf = 0) (hg : gdP t lf x x2 gd) (hon : onP t lf x x2) (hne : x2 ≠ x)
    (hkd : kd = if gd = 0 ∨ (if lf = 1 then 7 else 3) < x2 - x then 1 else if lf = 1 then 2 else 3) : kdP G t i x x2 kd := by
  have hb := cnt_b t x (x2 - x).toNat
  have ho := hon.resolve_left hne
  unfold gdP at hg
  unfold runK at hK
  unfold runV at hV
  unfold kdP
  rcases hlf with e | e
  · have h1 := ho.1 e
    rw [if_pos e] at hg hkd
    rw [if_neg (by omega)] at hK hV
    by_cases z : dcN t x (x2 - x).toNat = 0
    · rw [if_pos z] at hg
      by_cases y : (7 : Int) < x2 - x
      · rw [if_neg (by omega)] at hK
        rw [if_pos (Or.inr y)] at hkd
        exact Or.inl ⟨hkd, hK⟩
      · rw [if_pos (by omega)] at hK
        rw [if_neg (by omega), if_pos e] at hkd
        obtain ⟨l, l1, l2, l3, l4⟩ := word_ok (t := t) (a := x) (x2 - x).toNat (by omega) z
        exact Or.inr (Or.inl ⟨hkd, by rw [hK]; exact kwd_b kw _, ⟨l, by omega, l2, by rw [hV]; exact l3, l4⟩, by rw [hK, hV]; exact kwd_c hkw _⟩)
    · rw [if_neg z] at hg
      rw [if_neg (fun w => z w.1)] at hK
      rw [if_pos (Or.inl hg)] at hkd
      exact Or.inl ⟨hkd, hK⟩
  · have h1 := ho.2 e
    have e1 : ¬ lf = 1 := by omega
    rw [if_neg e1] at hg hkd
    by_cases z : lcN t x (x2 - x).toNat = 0
    · rw [if_pos z] at hg hK hV
      by_cases y : (3 : Int) < x2 - x
      · rw [if_neg (by omega)] at hK
        rw [if_pos (Or.inr y)] at hkd
        exact Or.inl ⟨hkd, hK⟩
      · rw [if_pos (by omega)] at hK
        rw [if_neg (by omega), if_neg (by omega)] at hkd
        refine Or.inr (Or.inr ⟨hkd, hK, ?_⟩)
        rw [hV, num_ok _ (by omega) z]; exact (w32_i (dvN_R _ _ _)).symm
    · rw [if_neg z] at hg hK
      rw [if_neg (by omega)] at hK
      rw [if_pos (Or.inl hg)] at hkd
      exact Or.inl ⟨hkd, hK⟩
def spF (a b c d e f g : Int) : Int :=
  let v := 27 * (a - 96) + b - 96
  let v := if 0 < c then 27 * v + c - 96 else v
  let v := if 0 < d then 27 * v + d - 96 else v
  let v := if 0 < e then 27 * v + e - 96 else v
  let v := if 0 < f then 27 * v + f - 96 else v
  if 0 < g then 27 * v + g - 96 else v
theorem sps {c v w : Int} (h : w = if 0 < c then 27 * v + c - 96 else v) (hc : 0 < c) : 27 * v + c - 96 = w := by rw [h, if_pos hc]

theorem dX12_isLetter_0 : decode mX12_isLetter.2.1 0 = .ok (.iload_n 0, 1) := by decide +kernel
theorem dX12_isLetter_1 : decode mX12_isLetter.2.1 1 = .ok (.bipush 97, 2) := by decide +kernel
theorem dX12_isLetter_3 : decode mX12_isLetter.2.1 3 = .ok (.if_icmp .lt 13, 3) := by decide +kernel
theorem dX12_isLetter_6 : decode mX12_isLetter.2.1 6 = .ok (.iload_n 0, 1) := by decide +kernel
theorem dX12_isLetter_7 : decode mX12_isLetter.2.1 7 = .ok (.bipush 122, 2) := by decide +kernel
theorem dX12_isLetter_9 : decode mX12_isLetter.2.1 9 = .ok (.if_icmp .gt 7, 3) := by decide +kernel
theorem dX12_isLetter_12 : decode mX12_isLetter.2.1 12 = .ok (.iconst 1, 1) := by decide +kernel
theorem dX12_isLetter_13 : decode mX12_isLetter.2.1 13 = .ok (.goto 4, 3) := by decide +kernel
theorem dX12_isLetter_16 : decode mX12_isLetter.2.1 16 = .ok (.iconst 0, 1) := by decide +kernel
theorem dX12_isLetter_17 : decode mX12_isLetter.2.1 17 = .ok (.ireturn, 1) := by decide +kernel
set_option maxRecDepth 4000 in
theorem ev_X12_isLetter {m : Mem} {c : Int} (hc : InR c) : Ev 0 1 mX12_isLetter [vi c] m (fun r m' => m' = m ∧ ((r = 1 ∧ isL c) ∨ (r = 0 ∧ ¬ isL c))) := by
  refine Ev.of (L := [vi c]) (by decide +kernel) rfl (Nat.le_of_ble_eq_true rfl) rfl (fun t ht => by cases ht; first | exact Or.inl rfl | exact Or.inr (Or.inl rfl) | exact Or.inr (Or.inr rfl)) (fun hcan => ?_)
  refine go_iload_n dX12_isLetter_0 rfl ?_
  refine go_bipush dX12_isLetter_1 (by decide) ?_
  refine go_icmp_lt (tgt := 16) dX12_isLetter_3 (by decide) ⟨by omega, by omega⟩ ⟨by omega, by omega⟩ (fun h_3 => ?_) (fun h_3 => ?_)
  · refine go_iconst dX12_isLetter_16 ?_
    exact go_ret (v := 0) rfl dX12_isLetter_17 (okZ (by first | exact Or.inl rfl | exact Or.inr rfl | assumption | omega)) ⟨rfl, (by first | assumption | rfl | omega)⟩
  · refine go_iload_n dX12_isLetter_6 rfl ?_
    refine go_bipush dX12_isLetter_7 (by decide) ?_
    refine go_icmp_gt (tgt := 16) dX12_isLetter_9 (by decide) ⟨by omega, by omega⟩ ⟨by omega, by omega⟩ (fun h_9 => ?_) (fun h_9 => ?_)
    · refine go_iconst dX12_isLetter_16 ?_
      exact go_ret (v := 0) rfl dX12_isLetter_17 (okZ (by first | exact Or.inl rfl | exact Or.inr rfl | assumption | omega)) ⟨rfl, (by first | assumption | rfl | omega)⟩
    · refine go_iconst dX12_isLetter_12 ?_
      refine go_goto (tgt := 17) dX12_isLetter_13 (by decide) ?_
      exact go_ret (v := 1) rfl dX12_isLetter_17 (okZ (by first | exact Or.inl rfl | exact Or.inr rfl | assumption | omega)) ⟨rfl, (by first | assumption | rfl | omega)⟩
theorem dX12_isDigit_0 : decode mX12_isDigit.2.1 0 = .ok (.iload_n 0, 1) := by decide +kernel
theorem dX12_isDigit_1 : decode mX12_isDigit.2.1 1 = .ok (.bipush 48, 2) := by decide +kernel
theorem dX12_isDigit_3 : decode mX12_isDigit.2.1 3 = .ok (.if_icmp .lt 13, 3) := by decide +kernel
theorem dX12_isDigit_6 : decode mX12_isDigit.2.1 6 = .ok (.iload_n 0, 1) := by decide +kernel
theorem dX12_isDigit_7 : decode mX12_isDigit.2.1 7 = .ok (.bipush 57, 2) := by decide +kernel
theorem dX12_isDigit_9 : decode mX12_isDigit.2.1 9 = .ok (.if_icmp .gt 7, 3) := by decide +kernel
theorem dX12_isDigit_12 : decode mX12_isDigit.2.1 12 = .ok (.iconst 1, 1) := by decide +kernel
theorem dX12_isDigit_13 : decode mX12_isDigit.2.1 13 = .ok (.goto 4, 3) := by decide +kernel
theorem dX12_isDigit_16 : decode mX12_isDigit.2.1 16 = .ok (.iconst 0, 1) := by decide +kernel
theorem dX12_isDigit_17 : decode mX12_isDigit.2.1 17 = .ok (.ireturn, 1) := by decide +kernel
set_option maxRecDepth 4000 in
theorem ev_X12_isDigit {m : Mem} {c : Int} (hc : InR c) : Ev 0 1 mX12_isDigit [vi c] m (fun r m' => m' = m ∧ ((r = 1 ∧ isD c) ∨ (r = 0 ∧ ¬ isD c))) := by
  refine Ev.of (L := [vi c]) (by decide +kernel) rfl (Nat.le_of_ble_eq_true rfl) rfl (fun t ht => by cases ht; first | exact Or.inl rfl | exact Or.inr (Or.inl rfl) | exact Or.inr (Or.inr rfl)) (fun hcan => ?_)
  refine go_iload_n dX12_isDigit_0 rfl ?_
  refine go_bipush dX12_isDigit_1 (by decide) ?_
  refine go_icmp_lt (tgt := 16) dX12_isDigit_3 (by decide) ⟨by omega, by omega⟩ ⟨by omega, by omega⟩ (fun h_3 => ?_) (fun h_3 => ?_)
  · refine go_iconst dX12_isDigit_16 ?_
    exact go_ret (v := 0) rfl dX12_isDigit_17 (okZ (by first | exact Or.inl rfl | exact Or.inr rfl | assumption | omega)) ⟨rfl, (by first | assumption | rfl | omega)⟩
  · refine go_iload_n dX12_isDigit_6 rfl ?_
    refine go_bipush dX12_isDigit_7 (by decide) ?_
    refine go_icmp_gt (tgt := 16) dX12_isDigit_9 (by decide) ⟨by omega, by omega⟩ ⟨by omega, by omega⟩ (fun h_9 => ?_) (fun h_9 => ?_)
    · refine go_iconst dX12_isDigit_16 ?_
      exact go_ret (v := 0) rfl dX12_isDigit_17 (okZ (by first | exact Or.inl rfl | exact Or.inr rfl | assumption | omega)) ⟨rfl, (by first | assumption | rfl | omega)⟩
    · refine go_iconst dX12_isDigit_12 ?_
      refine go_goto (tgt := 17) dX12_isDigit_13 (by decide) ?_
      exact go_ret (v := 1) rfl dX12_isDigit_17 (okZ (by first | exact Or.inl rfl | exact Or.inr rfl | assumption | omega)) ⟨rfl, (by first | assumption | rfl | omega)⟩
theorem dX12_tapeAt_0 : decode mX12_tapeAt.2.1 0 = .ok (.iload_n 1, 1) := by decide +kernel
theorem dX12_tapeAt_1 : decode mX12_tapeAt.2.1 1 = .ok (.aload_n 0, 1) := by decide +kernel
theorem dX12_tapeAt_2 : decode mX12_tapeAt.2.1 2 = .ok (.getfield 18, 3) := by decide +kernel
theorem dX12_tapeAt_5 : decode mX12_tapeAt.2.1 5 = .ok (.if_icmp .ge 12, 3) := by decide +kernel
theorem dX12_tapeAt_8 : decode mX12_tapeAt.2.1 8 = .ok (.aload_n 0, 1) := by decide +kernel
theorem dX12_tapeAt_9 : decode mX12_tapeAt.2.1 9 = .ok (.getfield 7, 3) := by decide +kernel
theorem dX12_tapeAt_12 : decode mX12_tapeAt.2.1 12 = .ok (.iload_n 1, 1) := by decide +kernel
theorem dX12_tapeAt_13 : decode mX12_tapeAt.2.1 13 = .ok (.iaload, 1) := by decide +kernel
theorem dX12_tapeAt_14 : decode mX12_tapeAt.2.1 14 = .ok (.goto 4, 3) := by decide +kernel
theorem dX12_tapeAt_17 : decode mX12_tapeAt.2.1 17 = .ok (.iconst 0, 1) := by decide +kernel
theorem dX12_tapeAt_18 : decode mX12_tapeAt.2.1 18 = .ok (.ireturn, 1) := by decide +kernel
set_option maxRecDepth 4000 in
theorem ev_X12_tapeAt {m : Mem} {t : Int → Int} {n : Int} {lim : Int} {x : Int} (htb : TB t n lim m) (hn : 0 ≤ n ∧ n ≤ 940) (hx : 0 ≤ x ∧ x ≤ 940) : Ev 0 1 mX12_tapeAt [vr 214, vi x] m (fun r m' => m' = m ∧ (r = if x < n then t x else 0)) := by
  refine Ev.of (L := [vr 214, vi x]) (by decide +kernel) rfl (Nat.le_of_ble_eq_true rfl) rfl (fun t ht => by cases ht; first | exact Or.inl rfl | exact Or.inr (Or.inl rfl) | exact Or.inr (Or.inr rfl)) (fun hcan => ?_)
  refine go_iload_n dX12_tapeAt_0 rfl ?_
  refine go_aload_n dX12_tapeAt_1 rfl ?_
  refine go_getf_i (ki := 3) dX12_tapeAt_2 fl_12_18 ob_214 rfl rfl (fun hf_2 => ?_)
  rw [show (m 214 3 : Int) = n from htb.1] at hf_2 ⊢
  refine go_icmp_ge (tgt := 17) dX12_tapeAt_5 (by decide) ⟨by omega, by omega⟩ ⟨by omega, by omega⟩ (fun h_5 => ?_) (fun h_5 => ?_)
  · refine go_iconst dX12_tapeAt_17 ?_
    exact go_ret (v := 0) rfl dX12_tapeAt_18 (okI ⟨by omega, by omega⟩) ⟨rfl, (by first | assumption | rfl | omega)⟩
  · refine go_aload_n dX12_tapeAt_8 rfl ?_
    refine go_getf_p (b := 215) dX12_tapeAt_9 fl_12_7 ob_214 rfl pt_214_1 ?_
    refine go_iload_n dX12_tapeAt_12 rfl ?_
    refine go_iaload dX12_tapeAt_13 ar_215 (by omega) (by omega) (fun he_13 => ?_)
    rw [show (m 215 x : Int) = (t x) from (htb.2.2 _ (by omega) (by omega))] at he_13 ⊢
    refine go_goto (tgt := 18) dX12_tapeAt_14 (by decide) ?_
    exact go_ret (v := (t x)) rfl dX12_tapeAt_18 (okI ⟨by omega, by omega⟩) ⟨rfl, (by first | assumption | rfl | omega)⟩
theorem dX12_spelt_0 : decode mX12_spelt.2.1 0 = .ok (.ldc2_w 54, 3) := by decide +kernel
theorem dX12_spelt_3 : decode mX12_spelt.2.1 3 = .ok (.iload_n 0, 1) := by decide +kernel
theorem dX12_spelt_4 : decode mX12_spelt.2.1 4 = .ok (.i2l, 1) := by decide +kernel
theorem dX12_spelt_5 : decode mX12_spelt.2.1 5 = .ok (.ldc2_w 56, 3) := by decide +kernel
theorem dX12_spelt_8 : decode mX12_spelt.2.1 8 = .ok (.lsub, 1) := by decide +kernel
theorem dX12_spelt_9 : decode mX12_spelt.2.1 9 = .ok (.lmul, 1) := by decide +kernel
theorem dX12_spelt_10 : decode mX12_spelt.2.1 10 = .ok (.iload_n 1, 1) := by decide +kernel
theorem dX12_spelt_11 : decode mX12_spelt.2.1 11 = .ok (.i2l, 1) := by decide +kernel
theorem dX12_spelt_12 : decode mX12_spelt.2.1 12 = .ok (.ladd, 1) := by decide +kernel
theorem dX12_spelt_13 : decode mX12_spelt.2.1 13 = .ok (.ldc2_w 56, 3) := by decide +kernel
theorem dX12_spelt_16 : decode mX12_spelt.2.1 16 = .ok (.lsub, 1) := by decide +kernel
theorem dX12_spelt_17 : decode mX12_spelt.2.1 17 = .ok (.lstore 7, 2) := by decide +kernel
theorem dX12_spelt_19 : decode mX12_spelt.2.1 19 = .ok (.iload_n 2, 1) := by decide +kernel
theorem dX12_spelt_20 : decode mX12_spelt.2.1 20 = .ok (.ifCond .le 18, 3) := by decide +kernel
theorem dX12_spelt_23 : decode mX12_spelt.2.1 23 = .ok (.ldc2_w 54, 3) := by decide +kernel
theorem dX12_spelt_26 : decode mX12_spelt.2.1 26 = .ok (.lload 7, 2) := by decide +kernel
theorem dX12_spelt_28 : decode mX12_spelt.2.1 28 = .ok (.lmul, 1) := by decide +kernel
theorem dX12_spelt_29 : decode mX12_spelt.2.1 29 = .ok (.iload_n 2, 1) := by decide +kernel
theorem dX12_spelt_30 : decode mX12_spelt.2.1 30 = .ok (.i2l, 1) := by decide +kernel
theorem dX12_spelt_31 : decode mX12_spelt.2.1 31 = .ok (.ladd, 1) := by decide +kernel
theorem dX12_spelt_32 : decode mX12_spelt.2.1 32 = .ok (.ldc2_w 56, 3) := by decide +kernel
theorem dX12_spelt_35 : decode mX12_spelt.2.1 35 = .ok (.lsub, 1) := by decide +kernel
theorem dX12_spelt_36 : decode mX12_spelt.2.1 36 = .ok (.lstore 7, 2) := by decide +kernel
theorem dX12_spelt_38 : decode mX12_spelt.2.1 38 = .ok (.iload_n 3, 1) := by decide +kernel
theorem dX12_spelt_39 : decode mX12_spelt.2.1 39 = .ok (.ifCond .le 18, 3) := by decide +kernel
theorem dX12_spelt_42 : decode mX12_spelt.2.1 42 = .ok (.ldc2_w 54, 3) := by decide +kernel
theorem dX12_spelt_45 : decode mX12_spelt.2.1 45 = .ok (.lload 7, 2) := by decide +kernel
theorem dX12_spelt_47 : decode mX12_spelt.2.1 47 = .ok (.lmul, 1) := by decide +kernel
theorem dX12_spelt_48 : decode mX12_spelt.2.1 48 = .ok (.iload_n 3, 1) := by decide +kernel
theorem dX12_spelt_49 : decode mX12_spelt.2.1 49 = .ok (.i2l, 1) := by decide +kernel
theorem dX12_spelt_50 : decode mX12_spelt.2.1 50 = .ok (.ladd, 1) := by decide +kernel
theorem dX12_spelt_51 : decode mX12_spelt.2.1 51 = .ok (.ldc2_w 56, 3) := by decide +kernel
theorem dX12_spelt_54 : decode mX12_spelt.2.1 54 = .ok (.lsub, 1) := by decide +kernel
theorem dX12_spelt_55 : decode mX12_spelt.2.1 55 = .ok (.lstore 7, 2) := by decide +kernel
theorem dX12_spelt_57 : decode mX12_spelt.2.1 57 = .ok (.iload 4, 2) := by decide +kernel
theorem dX12_spelt_59 : decode mX12_spelt.2.1 59 = .ok (.ifCond .le 19, 3) := by decide +kernel
theorem dX12_spelt_62 : decode mX12_spelt.2.1 62 = .ok (.ldc2_w 54, 3) := by decide +kernel
theorem dX12_spelt_65 : decode mX12_spelt.2.1 65 = .ok (.lload 7, 2) := by decide +kernel
theorem dX12_spelt_67 : decode mX12_spelt.2.1 67 = .ok (.lmul, 1) := by decide +kernel
theorem dX12_spelt_68 : decode mX12_spelt.2.1 68 = .ok (.iload 4, 2) := by decide +kernel
theorem dX12_spelt_70 : decode mX12_spelt.2.1 70 = .ok (.i2l, 1) := by decide +kernel
theorem dX12_spelt_71 : decode mX12_spelt.2.1 71 = .ok (.ladd, 1) := by decide +kernel
theorem dX12_spelt_72 : decode mX12_spelt.2.1 72 = .ok (.ldc2_w 56, 3) := by decide +kernel
theorem dX12_spelt_75 : decode mX12_spelt.2.1 75 = .ok (.lsub, 1) := by decide +kernel
theorem dX12_spelt_76 : decode mX12_spelt.2.1 76 = .ok (.lstore 7, 2) := by decide +kernel
theorem dX12_spelt_78 : decode mX12_spelt.2.1 78 = .ok (.iload 5, 2) := by decide +kernel
theorem dX12_spelt_80 : decode mX12_spelt.2.1 80 = .ok (.ifCond .le 19, 3) := by decide +kernel
theorem dX12_spelt_83 : decode mX12_spelt.2.1 83 = .ok (.ldc2_w 54, 3) := by decide +kernel
theorem dX12_spelt_86 : decode mX12_spelt.2.1 86 = .ok (.lload 7, 2) := by decide +kernel
theorem dX12_spelt_88 : decode mX12_spelt.2.1 88 = .ok (.lmul, 1) := by decide +kernel
theorem dX12_spelt_89 : decode mX12_spelt.2.1 89 = .ok (.iload 5, 2) := by decide +kernel
theorem dX12_spelt_91 : decode mX12_spelt.2.1 91 = .ok (.i2l, 1) := by decide +kernel
theorem dX12_spelt_92 : decode mX12_spelt.2.1 92 = .ok (.ladd, 1) := by decide +kernel
theorem dX12_spelt_93 : decode mX12_spelt.2.1 93 = .ok (.ldc2_w 56, 3) := by decide +kernel
theorem dX12_spelt_96 : decode mX12_spelt.2.1 96 = .ok (.lsub, 1) := by decide +kernel
theorem dX12_spelt_97 : decode mX12_spelt.2.1 97 = .ok (.lstore 7, 2) := by decide +kernel
theorem dX12_spelt_99 : decode mX12_spelt.2.1 99 = .ok (.iload 6, 2) := by decide +kernel
theorem dX12_spelt_101 : decode mX12_spelt.2.1 101 = .ok (.ifCond .le 19, 3) := by decide +kernel
theorem dX12_spelt_104 : decode mX12_spelt.2.1 104 = .ok (.ldc2_w 54, 3) := by decide +kernel
theorem dX12_spelt_107 : decode mX12_spelt.2.1 107 = .ok (.lload 7, 2) := by decide +kernel
theorem dX12_spelt_109 : decode mX12_spelt.2.1 109 = .ok (.lmul, 1) := by decide +kernel
theorem dX12_spelt_110 : decode mX12_spelt.2.1 110 = .ok (.iload 6, 2) := by decide +kernel
theorem dX12_spelt_112 : decode mX12_spelt.2.1 112 = .ok (.i2l, 1) := by decide +kernel
theorem dX12_spelt_113 : decode mX12_spelt.2.1 113 = .ok (.ladd, 1) := by decide +kernel
theorem dX12_spelt_114 : decode mX12_spelt.2.1 114 = .ok (.ldc2_w 56, 3) := by decide +kernel
theorem dX12_spelt_117 : decode mX12_spelt.2.1 117 = .ok (.lsub, 1) := by decide +kernel
theorem dX12_spelt_118 : decode mX12_spelt.2.1 118 = .ok (.lstore 7, 2) := by decide +kernel
theorem dX12_spelt_120 : decode mX12_spelt.2.1 120 = .ok (.lload 7, 2) := by decide +kernel
theorem dX12_spelt_122 : decode mX12_spelt.2.1 122 = .ok (.lreturn, 1) := by decide +kernel
set_option maxRecDepth 4000 in
theorem ev_X12_spelt {m : Mem} {a : Int} {b : Int} {c : Int} {d : Int} {e : Int} {f : Int} {g : Int} (ha_ : 0 ≤ a ∧ a ≤ 255) (hb_ : 0 ≤ b ∧ b ≤ 255) (hc_ : 0 ≤ c ∧ c ≤ 255) (hd_ : 0 ≤ d ∧ d ≤ 255) (he_ : 0 ≤ e ∧ e ≤ 255) (hf_ : 0 ≤ f ∧ f ≤ 255) (hg_ : 0 ≤ g ∧ g ≤ 255) : Ev 0 1 mX12_spelt [vi a, vi b, vi c, vi d, vi e, vi f, vi g] m (fun r m' => m' = m ∧ (r = spF a b c d e f g)) := by
  refine Ev.of (L := [vi a, vi b, vi c, vi d, vi e, vi f, vi g, un, un]) (by decide +kernel) rfl (Nat.le_of_ble_eq_true rfl) rfl (fun t ht => by cases ht; first | exact Or.inl rfl | exact Or.inr (Or.inl rfl) | exact Or.inr (Or.inr rfl)) (fun hcan => ?_)
  refine go_ldc2 (x := 27) dX12_spelt_0 k_12_54 ?_
  refine go_iload_n dX12_spelt_3 rfl ?_
  refine go_i2l dX12_spelt_4 ⟨by omega, by omega⟩ ?_
  refine go_ldc2 (x := 96) dX12_spelt_5 k_12_56 ?_
  refine go_lsub dX12_spelt_8 ?_
  refine go_lmul dX12_spelt_9 ?_
  refine go_iload_n dX12_spelt_10 rfl ?_
  refine go_i2l dX12_spelt_11 ⟨by omega, by omega⟩ ?_
  refine go_ladd dX12_spelt_12 ?_
  refine go_ldc2 (x := 96) dX12_spelt_13 k_12_56 ?_
  refine go_lsub dX12_spelt_16 ?_
  refine go_lstore (L' := [vi a, vi b, vi c, vi d, vi e, vi f, vi g, vl (((27 * (a - 96)) + b) - 96), un]) dX12_spelt_17 (by decide) rfl rfl ?_
  refine go_iload_n dX12_spelt_19 rfl ?_
  have cut_38 : ∀ (v1 : Int) , (v1 = if 0 < c then 27 * (27 * (a - 96) + b - 96) + c - 96 else (27 * (a - 96) + b - 96)) → Go 0 1 mX12_spelt (fun r m' => m' = m ∧ (r = spF a b c d e f g)) 38 [un, un, un, vi d, vi e, vi f, vi g, vl v1, un] [] m := by
    intro v1 hv1
    refine go_iload_n dX12_spelt_38 rfl ?_
    have cut_57 : ∀ (v2 : Int) , (v2 = if 0 < d then 27 * v1 + d - 96 else v1) → Go 0 1 mX12_spelt (fun r m' => m' = m ∧ (r = spF a b c d e f g)) 57 [un, un, un, un, vi e, vi f, vi g, vl v2, un] [] m := by
      intro v2 hv2
      refine go_iload dX12_spelt_57 rfl ?_
      have cut_78 : ∀ (v3 : Int) , (v3 = if 0 < e then 27 * v2 + e - 96 else v2) → Go 0 1 mX12_spelt (fun r m' => m' = m ∧ (r = spF a b c d e f g)) 78 [un, un, un, un, un, vi f, vi g, vl v3, un] [] m := by
        intro v3 hv3
        refine go_iload dX12_spelt_78 rfl ?_
        have cut_99 : ∀ (v4 : Int) , (v4 = if 0 < f then 27 * v3 + f - 96 else v3) → Go 0 1 mX12_spelt (fun r m' => m' = m ∧ (r = spF a b c d e f g)) 99 [un, un, un, un, un, un, vi g, vl v4, un] [] m := by
          intro v4 hv4
          refine go_iload dX12_spelt_99 rfl ?_
          have cut_120 : ∀ (v5 : Int) , (v5 = if 0 < g then 27 * v4 + g - 96 else v4) → Go 0 1 mX12_spelt (fun r m' => m' = m ∧ (r = spF a b c d e f g)) 120 [un, un, un, un, un, un, un, vl v5, un] [] m := by
            intro v5 hv5
            refine go_lload dX12_spelt_120 rfl ?_
            exact go_ret (v := v5) rfl dX12_spelt_122 (okL ⟨by omega, by omega⟩) ⟨rfl, (by unfold spF; rw [hv5, hv4, hv3, hv2, hv1])⟩
          refine go_if_le (tgt := 120) dX12_spelt_101 (by decide) ⟨by omega, by omega⟩ (fun h_101 => ?_) (fun h_101 => ?_)
          · refine go_drop (j := 6) (L' := [un, un, un, un, un, un, un, vl v4, un]) rfl ?_
            exact cut_120 v4 (by first | assumption | rfl | omega)
          · refine go_ldc2 (x := 27) dX12_spelt_104 k_12_54 ?_
            refine go_lload dX12_spelt_107 rfl ?_
            refine go_lmul dX12_spelt_109 ?_
            refine go_iload dX12_spelt_110 rfl ?_
            refine go_i2l dX12_spelt_112 ⟨by omega, by omega⟩ ?_
            refine go_ladd dX12_spelt_113 ?_
            refine go_ldc2 (x := 96) dX12_spelt_114 k_12_56 ?_
            refine go_lsub dX12_spelt_117 ?_
            refine go_lstore (L' := [un, un, un, un, un, un, vi g, vl (((27 * v4) + g) - 96), un]) dX12_spelt_118 (by decide) rfl rfl ?_
            refine go_drop (j := 6) (L' := [un, un, un, un, un, un, un, vl (((27 * v4) + g) - 96), un]) rfl ?_
            exact cut_120 (((27 * v4) + g) - 96) (by first | assumption | rfl | omega)
        refine go_if_le (tgt := 99) dX12_spelt_80 (by decide) ⟨by omega, by omega⟩ (fun h_80 => ?_) (fun h_80 => ?_)
        · refine go_drop (j := 5) (L' := [un, un, un, un, un, un, vi g, vl v3, un]) rfl ?_
          exact cut_99 v3 (by first | assumption | rfl | omega)
        · refine go_ldc2 (x := 27) dX12_spelt_83 k_12_54 ?_
          refine go_lload dX12_spelt_86 rfl ?_
          refine go_lmul dX12_spelt_88 ?_
          refine go_iload dX12_spelt_89 rfl ?_
          refine go_i2l dX12_spelt_91 ⟨by omega, by omega⟩ ?_
          refine go_ladd dX12_spelt_92 ?_
          refine go_ldc2 (x := 96) dX12_spelt_93 k_12_56 ?_
          refine go_lsub dX12_spelt_96 ?_
          refine go_lstore (L' := [un, un, un, un, un, vi f, vi g, vl (((27 * v3) + f) - 96), un]) dX12_spelt_97 (by decide) rfl rfl ?_
          refine go_drop (j := 5) (L' := [un, un, un, un, un, un, vi g, vl (((27 * v3) + f) - 96), un]) rfl ?_
          exact cut_99 (((27 * v3) + f) - 96) (by first | assumption | rfl | omega)
      refine go_if_le (tgt := 78) dX12_spelt_59 (by decide) ⟨by omega, by omega⟩ (fun h_59 => ?_) (fun h_59 => ?_)
      · refine go_drop (j := 4) (L' := [un, un, un, un, un, vi f, vi g, vl v2, un]) rfl ?_
        exact cut_78 v2 (by first | assumption | rfl | omega)
      · refine go_ldc2 (x := 27) dX12_spelt_62 k_12_54 ?_
        refine go_lload dX12_spelt_65 rfl ?_
        refine go_lmul dX12_spelt_67 ?_
        refine go_iload dX12_spelt_68 rfl ?_
        refine go_i2l dX12_spelt_70 ⟨by omega, by omega⟩ ?_
        refine go_ladd dX12_spelt_71 ?_
        refine go_ldc2 (x := 96) dX12_spelt_72 k_12_56 ?_
        refine go_lsub dX12_spelt_75 ?_
        refine go_lstore (L' := [un, un, un, un, vi e, vi f, vi g, vl (((27 * v2) + e) - 96), un]) dX12_spelt_76 (by decide) rfl rfl ?_
        refine go_drop (j := 4) (L' := [un, un, un, un, un, vi f, vi g, vl (((27 * v2) + e) - 96), un]) rfl ?_
        exact cut_78 (((27 * v2) + e) - 96) (by first | assumption | rfl | omega)
    refine go_if_le (tgt := 57) dX12_spelt_39 (by decide) ⟨by omega, by omega⟩ (fun h_39 => ?_) (fun h_39 => ?_)
    · refine go_drop (j := 3) (L' := [un, un, un, un, vi e, vi f, vi g, vl v1, un]) rfl ?_
      exact cut_57 v1 (by first | assumption | rfl | omega)
    · refine go_ldc2 (x := 27) dX12_spelt_42 k_12_54 ?_
      refine go_lload dX12_spelt_45 rfl ?_
      refine go_lmul dX12_spelt_47 ?_
      refine go_iload_n dX12_spelt_48 rfl ?_
      refine go_i2l dX12_spelt_49 ⟨by omega, by omega⟩ ?_
      refine go_ladd dX12_spelt_50 ?_
      refine go_ldc2 (x := 96) dX12_spelt_51 k_12_56 ?_
      refine go_lsub dX12_spelt_54 ?_
      refine go_lstore (L' := [un, un, un, vi d, vi e, vi f, vi g, vl (((27 * v1) + d) - 96), un]) dX12_spelt_55 (by decide) rfl rfl ?_
      refine go_drop (j := 3) (L' := [un, un, un, un, vi e, vi f, vi g, vl (((27 * v1) + d) - 96), un]) rfl ?_
      exact cut_57 (((27 * v1) + d) - 96) (by first | assumption | rfl | omega)
  refine go_if_le (tgt := 38) dX12_spelt_20 (by decide) ⟨by omega, by omega⟩ (fun h_20 => ?_) (fun h_20 => ?_)
  · refine go_drop (j := 0) (L' := [un, vi b, vi c, vi d, vi e, vi f, vi g, vl (((27 * (a - 96)) + b) - 96), un]) rfl ?_
    refine go_drop (j := 1) (L' := [un, un, vi c, vi d, vi e, vi f, vi g, vl (((27 * (a - 96)) + b) - 96), un]) rfl ?_
    refine go_drop (j := 2) (L' := [un, un, un, vi d, vi e, vi f, vi g, vl (((27 * (a - 96)) + b) - 96), un]) rfl ?_
    exact cut_38 (((27 * (a - 96)) + b) - 96) (by first | assumption | rfl | omega)
  · refine go_ldc2 (x := 27) dX12_spelt_23 k_12_54 ?_
    refine go_lload dX12_spelt_26 rfl ?_
    refine go_lmul dX12_spelt_28 ?_
    refine go_iload_n dX12_spelt_29 rfl ?_
    refine go_i2l dX12_spelt_30 ⟨by omega, by omega⟩ ?_
    refine go_ladd dX12_spelt_31 ?_
    refine go_ldc2 (x := 96) dX12_spelt_32 k_12_56 ?_
    refine go_lsub dX12_spelt_35 ?_
    refine go_lstore (L' := [vi a, vi b, vi c, vi d, vi e, vi f, vi g, vl (((27 * (((27 * (a - 96)) + b) - 96)) + c) - 96), un]) dX12_spelt_36 (by decide) rfl rfl ?_
    refine go_drop (j := 0) (L' := [un, vi b, vi c, vi d, vi e, vi f, vi g, vl (((27 * (((27 * (a - 96)) + b) - 96)) + c) - 96), un]) rfl ?_
    refine go_drop (j := 1) (L' := [un, un, vi c, vi d, vi e, vi f, vi g, vl (((27 * (((27 * (a - 96)) + b) - 96)) + c) - 96), un]) rfl ?_
    refine go_drop (j := 2) (L' := [un, un, un, vi d, vi e, vi f, vi g, vl (((27 * (((27 * (a - 96)) + b) - 96)) + c) - 96), un]) rfl ?_
    exact cut_38 (((27 * (((27 * (a - 96)) + b) - 96)) + c) - 96) (by first | assumption | rfl | omega)
theorem dX12_wordOf_0 : decode mX12_wordOf.2.1 0 = .ok (.iload_n 0, 1) := by decide +kernel
theorem dX12_wordOf_1 : decode mX12_wordOf.2.1 1 = .ok (.tableswitch 481 0 23 #[111, 127, 142, 159, 176, 192, 207, 223, 239, 254, 269, 285, 300, 316, 329, 343, 357, 375, 391, 409, 423, 436, 453, 466], 111) := by decide +kernel
theorem dX12_wordOf_112 : decode mX12_wordOf.2.1 112 = .ok (.bipush 100, 2) := by decide +kernel
theorem dX12_wordOf_114 : decode mX12_wordOf.2.1 114 = .ok (.bipush 111, 2) := by decide +kernel
theorem dX12_wordOf_116 : decode mX12_wordOf.2.1 116 = .ok (.bipush 119, 2) := by decide +kernel
theorem dX12_wordOf_118 : decode mX12_wordOf.2.1 118 = .ok (.bipush 110, 2) := by decide +kernel
theorem dX12_wordOf_120 : decode mX12_wordOf.2.1 120 = .ok (.bipush 115, 2) := by decide +kernel
theorem dX12_wordOf_122 : decode mX12_wordOf.2.1 122 = .ok (.iconst 0, 1) := by decide +kernel
theorem dX12_wordOf_123 : decode mX12_wordOf.2.1 123 = .ok (.iconst 0, 1) := by decide +kernel
theorem dX12_wordOf_124 : decode mX12_wordOf.2.1 124 = .ok (.invokestatic 58, 3) := by decide +kernel
theorem dX12_wordOf_127 : decode mX12_wordOf.2.1 127 = .ok (.lreturn, 1) := by decide +kernel
theorem dX12_wordOf_128 : decode mX12_wordOf.2.1 128 = .ok (.bipush 119, 2) := by decide +kernel
theorem dX12_wordOf_130 : decode mX12_wordOf.2.1 130 = .ok (.bipush 97, 2) := by decide +kernel
theorem dX12_wordOf_132 : decode mX12_wordOf.2.1 132 = .ok (.bipush 108, 2) := by decide +kernel
theorem dX12_wordOf_134 : decode mX12_wordOf.2.1 134 = .ok (.bipush 108, 2) := by decide +kernel
theorem dX12_wordOf_136 : decode mX12_wordOf.2.1 136 = .ok (.iconst 0, 1) := by decide +kernel
theorem dX12_wordOf_137 : decode mX12_wordOf.2.1 137 = .ok (.iconst 0, 1) := by decide +kernel
theorem dX12_wordOf_138 : decode mX12_wordOf.2.1 138 = .ok (.iconst 0, 1) := by decide +kernel
theorem dX12_wordOf_139 : decode mX12_wordOf.2.1 139 = .ok (.invokestatic 58, 3) := by decide +kernel
theorem dX12_wordOf_142 : decode mX12_wordOf.2.1 142 = .ok (.lreturn, 1) := by decide +kernel
theorem dX12_wordOf_143 : decode mX12_wordOf.2.1 143 = .ok (.bipush 102, 2) := by decide +kernel
theorem dX12_wordOf_145 : decode mX12_wordOf.2.1 145 = .ok (.bipush 105, 2) := by decide +kernel
theorem dX12_wordOf_147 : decode mX12_wordOf.2.1 147 = .ok (.bipush 103, 2) := by decide +kernel
theorem dX12_wordOf_149 : decode mX12_wordOf.2.1 149 = .ok (.bipush 117, 2) := by decide +kernel
theorem dX12_wordOf_151 : decode mX12_wordOf.2.1 151 = .ok (.bipush 114, 2) := by decide +kernel
theorem dX12_wordOf_153 : decode mX12_wordOf.2.1 153 = .ok (.bipush 101, 2) := by decide +kernel
theorem dX12_wordOf_155 : decode mX12_wordOf.2.1 155 = .ok (.iconst 0, 1) := by decide +kernel
theorem dX12_wordOf_156 : decode mX12_wordOf.2.1 156 = .ok (.invokestatic 58, 3) := by decide +kernel
theorem dX12_wordOf_159 : decode mX12_wordOf.2.1 159 = .ok (.lreturn, 1) := by decide +kernel
theorem dX12_wordOf_160 : decode mX12_wordOf.2.1 160 = .ok (.bipush 112, 2) := by decide +kernel
theorem dX12_wordOf_162 : decode mX12_wordOf.2.1 162 = .ok (.bipush 101, 2) := by decide +kernel
theorem dX12_wordOf_164 : decode mX12_wordOf.2.1 164 = .ok (.bipush 114, 2) := by decide +kernel
theorem dX12_wordOf_166 : decode mX12_wordOf.2.1 166 = .ok (.bipush 115, 2) := by decide +kernel
theorem dX12_wordOf_168 : decode mX12_wordOf.2.1 168 = .ok (.bipush 111, 2) := by decide +kernel
theorem dX12_wordOf_170 : decode mX12_wordOf.2.1 170 = .ok (.bipush 110, 2) := by decide +kernel
theorem dX12_wordOf_172 : decode mX12_wordOf.2.1 172 = .ok (.iconst 0, 1) := by decide +kernel
theorem dX12_wordOf_173 : decode mX12_wordOf.2.1 173 = .ok (.invokestatic 58, 3) := by decide +kernel
theorem dX12_wordOf_176 : decode mX12_wordOf.2.1 176 = .ok (.lreturn, 1) := by decide +kernel
theorem dX12_wordOf_177 : decode mX12_wordOf.2.1 177 = .ok (.bipush 112, 2) := by decide +kernel
theorem dX12_wordOf_179 : decode mX12_wordOf.2.1 179 = .ok (.bipush 111, 2) := by decide +kernel
theorem dX12_wordOf_181 : decode mX12_wordOf.2.1 181 = .ok (.bipush 105, 2) := by decide +kernel
theorem dX12_wordOf_183 : decode mX12_wordOf.2.1 183 = .ok (.bipush 110, 2) := by decide +kernel
theorem dX12_wordOf_185 : decode mX12_wordOf.2.1 185 = .ok (.bipush 116, 2) := by decide +kernel
theorem dX12_wordOf_187 : decode mX12_wordOf.2.1 187 = .ok (.iconst 0, 1) := by decide +kernel
theorem dX12_wordOf_188 : decode mX12_wordOf.2.1 188 = .ok (.iconst 0, 1) := by decide +kernel
theorem dX12_wordOf_189 : decode mX12_wordOf.2.1 189 = .ok (.invokestatic 58, 3) := by decide +kernel
theorem dX12_wordOf_192 : decode mX12_wordOf.2.1 192 = .ok (.lreturn, 1) := by decide +kernel
theorem dX12_wordOf_193 : decode mX12_wordOf.2.1 193 = .ok (.bipush 115, 2) := by decide +kernel
theorem dX12_wordOf_195 : decode mX12_wordOf.2.1 195 = .ok (.bipush 97, 2) := by decide +kernel
theorem dX12_wordOf_197 : decode mX12_wordOf.2.1 197 = .ok (.bipush 121, 2) := by decide +kernel
theorem dX12_wordOf_199 : decode mX12_wordOf.2.1 199 = .ok (.bipush 115, 2) := by decide +kernel
theorem dX12_wordOf_201 : decode mX12_wordOf.2.1 201 = .ok (.iconst 0, 1) := by decide +kernel
theorem dX12_wordOf_202 : decode mX12_wordOf.2.1 202 = .ok (.iconst 0, 1) := by decide +kernel
theorem dX12_wordOf_203 : decode mX12_wordOf.2.1 203 = .ok (.iconst 0, 1) := by decide +kernel
theorem dX12_wordOf_204 : decode mX12_wordOf.2.1 204 = .ok (.invokestatic 58, 3) := by decide +kernel
theorem dX12_wordOf_207 : decode mX12_wordOf.2.1 207 = .ok (.lreturn, 1) := by decide +kernel
theorem dX12_wordOf_208 : decode mX12_wordOf.2.1 208 = .ok (.bipush 107, 2) := by decide +kernel
theorem dX12_wordOf_210 : decode mX12_wordOf.2.1 210 = .ok (.bipush 105, 2) := by decide +kernel
theorem dX12_wordOf_212 : decode mX12_wordOf.2.1 212 = .ok (.bipush 99, 2) := by decide +kernel
theorem dX12_wordOf_214 : decode mX12_wordOf.2.1 214 = .ok (.bipush 107, 2) := by decide +kernel
theorem dX12_wordOf_216 : decode mX12_wordOf.2.1 216 = .ok (.bipush 115, 2) := by decide +kernel
theorem dX12_wordOf_218 : decode mX12_wordOf.2.1 218 = .ok (.iconst 0, 1) := by decide +kernel
theorem dX12_wordOf_219 : decode mX12_wordOf.2.1 219 = .ok (.iconst 0, 1) := by decide +kernel
theorem dX12_wordOf_220 : decode mX12_wordOf.2.1 220 = .ok (.invokestatic 58, 3) := by decide +kernel
theorem dX12_wordOf_223 : decode mX12_wordOf.2.1 223 = .ok (.lreturn, 1) := by decide +kernel
theorem dX12_wordOf_224 : decode mX12_wordOf.2.1 224 = .ok (.bipush 114, 2) := by decide +kernel
theorem dX12_wordOf_226 : decode mX12_wordOf.2.1 226 = .ok (.bipush 101, 2) := by decide +kernel
theorem dX12_wordOf_228 : decode mX12_wordOf.2.1 228 = .ok (.bipush 115, 2) := by decide +kernel
theorem dX12_wordOf_230 : decode mX12_wordOf.2.1 230 = .ok (.bipush 116, 2) := by decide +kernel
theorem dX12_wordOf_232 : decode mX12_wordOf.2.1 232 = .ok (.bipush 115, 2) := by decide +kernel
theorem dX12_wordOf_234 : decode mX12_wordOf.2.1 234 = .ok (.iconst 0, 1) := by decide +kernel
theorem dX12_wordOf_235 : decode mX12_wordOf.2.1 235 = .ok (.iconst 0, 1) := by decide +kernel
theorem dX12_wordOf_236 : decode mX12_wordOf.2.1 236 = .ok (.invokestatic 58, 3) := by decide +kernel
theorem dX12_wordOf_239 : decode mX12_wordOf.2.1 239 = .ok (.lreturn, 1) := by decide +kernel
theorem dX12_wordOf_240 : decode mX12_wordOf.2.1 240 = .ok (.bipush 104, 2) := by decide +kernel
theorem dX12_wordOf_242 : decode mX12_wordOf.2.1 242 = .ok (.bipush 111, 2) := by decide +kernel
theorem dX12_wordOf_244 : decode mX12_wordOf.2.1 244 = .ok (.bipush 117, 2) := by decide +kernel
theorem dX12_wordOf_246 : decode mX12_wordOf.2.1 246 = .ok (.bipush 114, 2) := by decide +kernel
theorem dX12_wordOf_248 : decode mX12_wordOf.2.1 248 = .ok (.iconst 0, 1) := by decide +kernel
theorem dX12_wordOf_249 : decode mX12_wordOf.2.1 249 = .ok (.iconst 0, 1) := by decide +kernel
theorem dX12_wordOf_250 : decode mX12_wordOf.2.1 250 = .ok (.iconst 0, 1) := by decide +kernel
theorem dX12_wordOf_251 : decode mX12_wordOf.2.1 251 = .ok (.invokestatic 58, 3) := by decide +kernel
theorem dX12_wordOf_254 : decode mX12_wordOf.2.1 254 = .ok (.lreturn, 1) := by decide +kernel
theorem dX12_wordOf_255 : decode mX12_wordOf.2.1 255 = .ok (.bipush 101, 2) := by decide +kernel
theorem dX12_wordOf_257 : decode mX12_wordOf.2.1 257 = .ok (.bipush 97, 2) := by decide +kernel
theorem dX12_wordOf_259 : decode mX12_wordOf.2.1 259 = .ok (.bipush 115, 2) := by decide +kernel
theorem dX12_wordOf_261 : decode mX12_wordOf.2.1 261 = .ok (.bipush 116, 2) := by decide +kernel
theorem dX12_wordOf_263 : decode mX12_wordOf.2.1 263 = .ok (.iconst 0, 1) := by decide +kernel
theorem dX12_wordOf_264 : decode mX12_wordOf.2.1 264 = .ok (.iconst 0, 1) := by decide +kernel
theorem dX12_wordOf_265 : decode mX12_wordOf.2.1 265 = .ok (.iconst 0, 1) := by decide +kernel
theorem dX12_wordOf_266 : decode mX12_wordOf.2.1 266 = .ok (.invokestatic 58, 3) := by decide +kernel
theorem dX12_wordOf_269 : decode mX12_wordOf.2.1 269 = .ok (.lreturn, 1) := by decide +kernel
theorem dX12_wordOf_270 : decode mX12_wordOf.2.1 270 = .ok (.bipush 115, 2) := by decide +kernel
theorem dX12_wordOf_272 : decode mX12_wordOf.2.1 272 = .ok (.bipush 111, 2) := by decide +kernel
theorem dX12_wordOf_274 : decode mX12_wordOf.2.1 274 = .ok (.bipush 117, 2) := by decide +kernel
theorem dX12_wordOf_276 : decode mX12_wordOf.2.1 276 = .ok (.bipush 116, 2) := by decide +kernel
theorem dX12_wordOf_278 : decode mX12_wordOf.2.1 278 = .ok (.bipush 104, 2) := by decide +kernel
theorem dX12_wordOf_280 : decode mX12_wordOf.2.1 280 = .ok (.iconst 0, 1) := by decide +kernel
theorem dX12_wordOf_281 : decode mX12_wordOf.2.1 281 = .ok (.iconst 0, 1) := by decide +kernel
theorem dX12_wordOf_282 : decode mX12_wordOf.2.1 282 = .ok (.invokestatic 58, 3) := by decide +kernel
theorem dX12_wordOf_285 : decode mX12_wordOf.2.1 285 = .ok (.lreturn, 1) := by decide +kernel
theorem dX12_wordOf_286 : decode mX12_wordOf.2.1 286 = .ok (.bipush 119, 2) := by decide +kernel
theorem dX12_wordOf_288 : decode mX12_wordOf.2.1 288 = .ok (.bipush 101, 2) := by decide +kernel
theorem dX12_wordOf_290 : decode mX12_wordOf.2.1 290 = .ok (.bipush 115, 2) := by decide +kernel
theorem dX12_wordOf_292 : decode mX12_wordOf.2.1 292 = .ok (.bipush 116, 2) := by decide +kernel
theorem dX12_wordOf_294 : decode mX12_wordOf.2.1 294 = .ok (.iconst 0, 1) := by decide +kernel
theorem dX12_wordOf_295 : decode mX12_wordOf.2.1 295 = .ok (.iconst 0, 1) := by decide +kernel
theorem dX12_wordOf_296 : decode mX12_wordOf.2.1 296 = .ok (.iconst 0, 1) := by decide +kernel
theorem dX12_wordOf_297 : decode mX12_wordOf.2.1 297 = .ok (.invokestatic 58, 3) := by decide +kernel
theorem dX12_wordOf_300 : decode mX12_wordOf.2.1 300 = .ok (.lreturn, 1) := by decide +kernel
theorem dX12_wordOf_301 : decode mX12_wordOf.2.1 301 = .ok (.bipush 110, 2) := by decide +kernel
theorem dX12_wordOf_303 : decode mX12_wordOf.2.1 303 = .ok (.bipush 111, 2) := by decide +kernel
theorem dX12_wordOf_305 : decode mX12_wordOf.2.1 305 = .ok (.bipush 114, 2) := by decide +kernel
theorem dX12_wordOf_307 : decode mX12_wordOf.2.1 307 = .ok (.bipush 116, 2) := by decide +kernel
theorem dX12_wordOf_309 : decode mX12_wordOf.2.1 309 = .ok (.bipush 104, 2) := by decide +kernel
theorem dX12_wordOf_311 : decode mX12_wordOf.2.1 311 = .ok (.iconst 0, 1) := by decide +kernel
theorem dX12_wordOf_312 : decode mX12_wordOf.2.1 312 = .ok (.iconst 0, 1) := by decide +kernel
theorem dX12_wordOf_313 : decode mX12_wordOf.2.1 313 = .ok (.invokestatic 58, 3) := by decide +kernel
theorem dX12_wordOf_316 : decode mX12_wordOf.2.1 316 = .ok (.lreturn, 1) := by decide +kernel
theorem dX12_wordOf_317 : decode mX12_wordOf.2.1 317 = .ok (.bipush 111, 2) := by decide +kernel
theorem dX12_wordOf_319 : decode mX12_wordOf.2.1 319 = .ok (.bipush 114, 2) := by decide +kernel
theorem dX12_wordOf_321 : decode mX12_wordOf.2.1 321 = .ok (.iconst 0, 1) := by decide +kernel
theorem dX12_wordOf_322 : decode mX12_wordOf.2.1 322 = .ok (.iconst 0, 1) := by decide +kernel
theorem dX12_wordOf_323 : decode mX12_wordOf.2.1 323 = .ok (.iconst 0, 1) := by decide +kernel
theorem dX12_wordOf_324 : decode mX12_wordOf.2.1 324 = .ok (.iconst 0, 1) := by decide +kernel
theorem dX12_wordOf_325 : decode mX12_wordOf.2.1 325 = .ok (.iconst 0, 1) := by decide +kernel
theorem dX12_wordOf_326 : decode mX12_wordOf.2.1 326 = .ok (.invokestatic 58, 3) := by decide +kernel
theorem dX12_wordOf_329 : decode mX12_wordOf.2.1 329 = .ok (.lreturn, 1) := by decide +kernel
theorem dX12_wordOf_330 : decode mX12_wordOf.2.1 330 = .ok (.bipush 97, 2) := by decide +kernel
theorem dX12_wordOf_332 : decode mX12_wordOf.2.1 332 = .ok (.bipush 110, 2) := by decide +kernel
theorem dX12_wordOf_334 : decode mX12_wordOf.2.1 334 = .ok (.bipush 100, 2) := by decide +kernel
theorem dX12_wordOf_336 : decode mX12_wordOf.2.1 336 = .ok (.iconst 0, 1) := by decide +kernel
theorem dX12_wordOf_337 : decode mX12_wordOf.2.1 337 = .ok (.iconst 0, 1) := by decide +kernel
theorem dX12_wordOf_338 : decode mX12_wordOf.2.1 338 = .ok (.iconst 0, 1) := by decide +kernel
theorem dX12_wordOf_339 : decode mX12_wordOf.2.1 339 = .ok (.iconst 0, 1) := by decide +kernel
theorem dX12_wordOf_340 : decode mX12_wordOf.2.1 340 = .ok (.invokestatic 58, 3) := by decide +kernel
theorem dX12_wordOf_343 : decode mX12_wordOf.2.1 343 = .ok (.lreturn, 1) := by decide +kernel
theorem dX12_wordOf_344 : decode mX12_wordOf.2.1 344 = .ok (.bipush 110, 2) := by decide +kernel
theorem dX12_wordOf_346 : decode mX12_wordOf.2.1 346 = .ok (.bipush 111, 2) := by decide +kernel
theorem dX12_wordOf_348 : decode mX12_wordOf.2.1 348 = .ok (.bipush 116, 2) := by decide +kernel
theorem dX12_wordOf_350 : decode mX12_wordOf.2.1 350 = .ok (.iconst 0, 1) := by decide +kernel
theorem dX12_wordOf_351 : decode mX12_wordOf.2.1 351 = .ok (.iconst 0, 1) := by decide +kernel
theorem dX12_wordOf_352 : decode mX12_wordOf.2.1 352 = .ok (.iconst 0, 1) := by decide +kernel
theorem dX12_wordOf_353 : decode mX12_wordOf.2.1 353 = .ok (.iconst 0, 1) := by decide +kernel
theorem dX12_wordOf_354 : decode mX12_wordOf.2.1 354 = .ok (.invokestatic 58, 3) := by decide +kernel
theorem dX12_wordOf_357 : decode mX12_wordOf.2.1 357 = .ok (.lreturn, 1) := by decide +kernel
theorem dX12_wordOf_358 : decode mX12_wordOf.2.1 358 = .ok (.bipush 117, 2) := by decide +kernel
theorem dX12_wordOf_360 : decode mX12_wordOf.2.1 360 = .ok (.bipush 112, 2) := by decide +kernel
theorem dX12_wordOf_362 : decode mX12_wordOf.2.1 362 = .ok (.bipush 114, 2) := by decide +kernel
theorem dX12_wordOf_364 : decode mX12_wordOf.2.1 364 = .ok (.bipush 105, 2) := by decide +kernel
theorem dX12_wordOf_366 : decode mX12_wordOf.2.1 366 = .ok (.bipush 103, 2) := by decide +kernel
theorem dX12_wordOf_368 : decode mX12_wordOf.2.1 368 = .ok (.bipush 104, 2) := by decide +kernel
theorem dX12_wordOf_370 : decode mX12_wordOf.2.1 370 = .ok (.bipush 116, 2) := by decide +kernel
theorem dX12_wordOf_372 : decode mX12_wordOf.2.1 372 = .ok (.invokestatic 58, 3) := by decide +kernel
theorem dX12_wordOf_375 : decode mX12_wordOf.2.1 375 = .ok (.lreturn, 1) := by decide +kernel
theorem dX12_wordOf_376 : decode mX12_wordOf.2.1 376 = .ok (.bipush 115, 2) := by decide +kernel
theorem dX12_wordOf_378 : decode mX12_wordOf.2.1 378 = .ok (.bipush 112, 2) := by decide +kernel
theorem dX12_wordOf_380 : decode mX12_wordOf.2.1 380 = .ok (.bipush 101, 2) := by decide +kernel
theorem dX12_wordOf_382 : decode mX12_wordOf.2.1 382 = .ok (.bipush 110, 2) := by decide +kernel
theorem dX12_wordOf_384 : decode mX12_wordOf.2.1 384 = .ok (.bipush 116, 2) := by decide +kernel
theorem dX12_wordOf_386 : decode mX12_wordOf.2.1 386 = .ok (.iconst 0, 1) := by decide +kernel
theorem dX12_wordOf_387 : decode mX12_wordOf.2.1 387 = .ok (.iconst 0, 1) := by decide +kernel
theorem dX12_wordOf_388 : decode mX12_wordOf.2.1 388 = .ok (.invokestatic 58, 3) := by decide +kernel
theorem dX12_wordOf_391 : decode mX12_wordOf.2.1 391 = .ok (.lreturn, 1) := by decide +kernel
theorem dX12_wordOf_392 : decode mX12_wordOf.2.1 392 = .ok (.bipush 115, 2) := by decide +kernel
theorem dX12_wordOf_394 : decode mX12_wordOf.2.1 394 = .ok (.bipush 101, 2) := by decide +kernel
theorem dX12_wordOf_396 : decode mX12_wordOf.2.1 396 = .ok (.bipush 116, 2) := by decide +kernel
theorem dX12_wordOf_398 : decode mX12_wordOf.2.1 398 = .ok (.bipush 116, 2) := by decide +kernel
theorem dX12_wordOf_400 : decode mX12_wordOf.2.1 400 = .ok (.bipush 108, 2) := by decide +kernel
theorem dX12_wordOf_402 : decode mX12_wordOf.2.1 402 = .ok (.bipush 101, 2) := by decide +kernel
theorem dX12_wordOf_404 : decode mX12_wordOf.2.1 404 = .ok (.bipush 100, 2) := by decide +kernel
theorem dX12_wordOf_406 : decode mX12_wordOf.2.1 406 = .ok (.invokestatic 58, 3) := by decide +kernel
theorem dX12_wordOf_409 : decode mX12_wordOf.2.1 409 = .ok (.lreturn, 1) := by decide +kernel
theorem dX12_wordOf_410 : decode mX12_wordOf.2.1 410 = .ok (.bipush 104, 2) := by decide +kernel
theorem dX12_wordOf_412 : decode mX12_wordOf.2.1 412 = .ok (.bipush 97, 2) := by decide +kernel
theorem dX12_wordOf_414 : decode mX12_wordOf.2.1 414 = .ok (.bipush 115, 2) := by decide +kernel
theorem dX12_wordOf_416 : decode mX12_wordOf.2.1 416 = .ok (.iconst 0, 1) := by decide +kernel
theorem dX12_wordOf_417 : decode mX12_wordOf.2.1 417 = .ok (.iconst 0, 1) := by decide +kernel
theorem dX12_wordOf_418 : decode mX12_wordOf.2.1 418 = .ok (.iconst 0, 1) := by decide +kernel
theorem dX12_wordOf_419 : decode mX12_wordOf.2.1 419 = .ok (.iconst 0, 1) := by decide +kernel
theorem dX12_wordOf_420 : decode mX12_wordOf.2.1 420 = .ok (.invokestatic 58, 3) := by decide +kernel
theorem dX12_wordOf_423 : decode mX12_wordOf.2.1 423 = .ok (.lreturn, 1) := by decide +kernel
theorem dX12_wordOf_424 : decode mX12_wordOf.2.1 424 = .ok (.bipush 98, 2) := by decide +kernel
theorem dX12_wordOf_426 : decode mX12_wordOf.2.1 426 = .ok (.bipush 121, 2) := by decide +kernel
theorem dX12_wordOf_428 : decode mX12_wordOf.2.1 428 = .ok (.iconst 0, 1) := by decide +kernel
theorem dX12_wordOf_429 : decode mX12_wordOf.2.1 429 = .ok (.iconst 0, 1) := by decide +kernel
theorem dX12_wordOf_430 : decode mX12_wordOf.2.1 430 = .ok (.iconst 0, 1) := by decide +kernel
theorem dX12_wordOf_431 : decode mX12_wordOf.2.1 431 = .ok (.iconst 0, 1) := by decide +kernel
theorem dX12_wordOf_432 : decode mX12_wordOf.2.1 432 = .ok (.iconst 0, 1) := by decide +kernel
theorem dX12_wordOf_433 : decode mX12_wordOf.2.1 433 = .ok (.invokestatic 58, 3) := by decide +kernel
theorem dX12_wordOf_436 : decode mX12_wordOf.2.1 436 = .ok (.lreturn, 1) := by decide +kernel
theorem dX12_wordOf_437 : decode mX12_wordOf.2.1 437 = .ok (.bipush 98, 2) := by decide +kernel
theorem dX12_wordOf_439 : decode mX12_wordOf.2.1 439 = .ok (.bipush 114, 2) := by decide +kernel
theorem dX12_wordOf_441 : decode mX12_wordOf.2.1 441 = .ok (.bipush 101, 2) := by decide +kernel
theorem dX12_wordOf_443 : decode mX12_wordOf.2.1 443 = .ok (.bipush 97, 2) := by decide +kernel
theorem dX12_wordOf_445 : decode mX12_wordOf.2.1 445 = .ok (.bipush 116, 2) := by decide +kernel
theorem dX12_wordOf_447 : decode mX12_wordOf.2.1 447 = .ok (.bipush 104, 2) := by decide +kernel
theorem dX12_wordOf_449 : decode mX12_wordOf.2.1 449 = .ok (.iconst 0, 1) := by decide +kernel
theorem dX12_wordOf_450 : decode mX12_wordOf.2.1 450 = .ok (.invokestatic 58, 3) := by decide +kernel
theorem dX12_wordOf_453 : decode mX12_wordOf.2.1 453 = .ok (.lreturn, 1) := by decide +kernel
theorem dX12_wordOf_454 : decode mX12_wordOf.2.1 454 = .ok (.bipush 117, 2) := by decide +kernel
theorem dX12_wordOf_456 : decode mX12_wordOf.2.1 456 = .ok (.bipush 112, 2) := by decide +kernel
theorem dX12_wordOf_458 : decode mX12_wordOf.2.1 458 = .ok (.iconst 0, 1) := by decide +kernel
theorem dX12_wordOf_459 : decode mX12_wordOf.2.1 459 = .ok (.iconst 0, 1) := by decide +kernel
theorem dX12_wordOf_460 : decode mX12_wordOf.2.1 460 = .ok (.iconst 0, 1) := by decide +kernel
theorem dX12_wordOf_461 : decode mX12_wordOf.2.1 461 = .ok (.iconst 0, 1) := by decide +kernel
theorem dX12_wordOf_462 : decode mX12_wordOf.2.1 462 = .ok (.iconst 0, 1) := by decide +kernel
theorem dX12_wordOf_463 : decode mX12_wordOf.2.1 463 = .ok (.invokestatic 58, 3) := by decide +kernel
theorem dX12_wordOf_466 : decode mX12_wordOf.2.1 466 = .ok (.lreturn, 1) := by decide +kernel
theorem dX12_wordOf_467 : decode mX12_wordOf.2.1 467 = .ok (.bipush 115, 2) := by decide +kernel
theorem dX12_wordOf_469 : decode mX12_wordOf.2.1 469 = .ok (.bipush 97, 2) := by decide +kernel
theorem dX12_wordOf_471 : decode mX12_wordOf.2.1 471 = .ok (.bipush 105, 2) := by decide +kernel
theorem dX12_wordOf_473 : decode mX12_wordOf.2.1 473 = .ok (.bipush 100, 2) := by decide +kernel
theorem dX12_wordOf_475 : decode mX12_wordOf.2.1 475 = .ok (.iconst 0, 1) := by decide +kernel
theorem dX12_wordOf_476 : decode mX12_wordOf.2.1 476 = .ok (.iconst 0, 1) := by decide +kernel
theorem dX12_wordOf_477 : decode mX12_wordOf.2.1 477 = .ok (.iconst 0, 1) := by decide +kernel
theorem dX12_wordOf_478 : decode mX12_wordOf.2.1 478 = .ok (.invokestatic 58, 3) := by decide +kernel
theorem dX12_wordOf_481 : decode mX12_wordOf.2.1 481 = .ok (.lreturn, 1) := by decide +kernel
theorem dX12_wordOf_482 : decode mX12_wordOf.2.1 482 = .ok (.bipush 110, 2) := by decide +kernel
theorem dX12_wordOf_484 : decode mX12_wordOf.2.1 484 = .ok (.bipush 117, 2) := by decide +kernel
theorem dX12_wordOf_486 : decode mX12_wordOf.2.1 486 = .ok (.bipush 109, 2) := by decide +kernel
theorem dX12_wordOf_488 : decode mX12_wordOf.2.1 488 = .ok (.bipush 98, 2) := by decide +kernel
theorem dX12_wordOf_490 : decode mX12_wordOf.2.1 490 = .ok (.bipush 101, 2) := by decide +kernel
theorem dX12_wordOf_492 : decode mX12_wordOf.2.1 492 = .ok (.bipush 114, 2) := by decide +kernel
theorem dX12_wordOf_494 : decode mX12_wordOf.2.1 494 = .ok (.iconst 0, 1) := by decide +kernel
theorem dX12_wordOf_495 : decode mX12_wordOf.2.1 495 = .ok (.invokestatic 58, 3) := by decide +kernel
theorem dX12_wordOf_498 : decode mX12_wordOf.2.1 498 = .ok (.lreturn, 1) := by decide +kernel
set_option maxRecDepth 4000 in
theorem ev_X12_wordOf {m : Mem} {k : Int} (hk : 0 ≤ k ∧ k ≤ 24) : Ev 0 2 mX12_wordOf [vi k] m (fun r m' => m' = m ∧ (r = wdC k)) := by
  refine Ev.of (L := [vi k]) (by decide +kernel) rfl (Nat.le_of_ble_eq_true rfl) rfl (fun t ht => by cases ht; first | exact Or.inl rfl | exact Or.inr (Or.inl rfl) | exact Or.inr (Or.inr rfl)) (fun hcan => ?_)
  refine go_iload_n dX12_wordOf_0 rfl ?_
  refine go_tswitch (tgt := 482) dX12_wordOf_1 ⟨by omega, by omega⟩ (by decide) (fun n_1 h_1 hb_1 => ?_) (fun h_1 => ?_)
  · match n_1, h_1, hb_1 with
    | 0, h_1, hb_1 =>
      refine ⟨111, 112, rfl, by decide, ?_⟩
      refine go_bipush dX12_wordOf_112 (by decide) ?_
      refine go_bipush dX12_wordOf_114 (by decide) ?_
      refine go_bipush dX12_wordOf_116 (by decide) ?_
      refine go_bipush dX12_wordOf_118 (by decide) ?_
      refine go_bipush dX12_wordOf_120 (by decide) ?_
      refine go_iconst dX12_wordOf_122 ?_
      refine go_iconst dX12_wordOf_123 ?_
      refine go_callSp_l (as := [vi 100, vi 111, vi 119, vi 110, vi 115, vi 0, vi 0]) (S := []) (ev_X12_spelt (m := m) (a := 100) (b := 111) (c := 119) (d := 110) (e := 115) (f := 0) (g := 0) (by first | assumption | omega | exact ⟨by omega, by omega⟩ | (constructor <;> omega)) (by first | assumption | omega | exact ⟨by omega, by omega⟩ | (constructor <;> omega)) (by first | assumption | omega | exact ⟨by omega, by omega⟩ | (constructor <;> omega)) (by first | assumption | omega | exact ⟨by omega, by omega⟩ | (constructor <;> omega)) (by first | assumption | omega | exact ⟨by omega, by omega⟩ | (constructor <;> omega)) (by first | assumption | omega | exact ⟨by omega, by omega⟩ | (constructor <;> omega)) (by first | assumption | omega | exact ⟨by omega, by omega⟩ | (constructor <;> omega))) rfl dX12_wordOf_124 cs_12_58 rfl rfl (by decide) (Nat.le_of_ble_eq_true rfl) (fun r_124 hr_124 ho_124 => ?_)
      exact go_ret (v := r_124) rfl dX12_wordOf_127 (okL ho_124) ⟨rfl, (by rw [hr_124, show k = 0 by omega]; decide +kernel)⟩
    | 1, h_1, hb_1 =>
      refine ⟨127, 128, rfl, by decide, ?_⟩
      refine go_bipush dX12_wordOf_128 (by decide) ?_
      refine go_bipush dX12_wordOf_130 (by decide) ?_
      refine go_bipush dX12_wordOf_132 (by decide) ?_
      refine go_bipush dX12_wordOf_134 (by decide) ?_
      refine go_iconst dX12_wordOf_136 ?_
      refine go_iconst dX12_wordOf_137 ?_
      refine go_iconst dX12_wordOf_138 ?_
      refine go_callSp_l (as := [vi 119, vi 97, vi 108, vi 108, vi 0, vi 0, vi 0]) (S := []) (ev_X12_spelt (m := m) (a := 119) (b := 97) (c := 108) (d := 108) (e := 0) (f := 0) (g := 0) (by first | assumption | omega | exact ⟨by omega, by omega⟩ | (constructor <;> omega)) (by first | assumption | omega | exact ⟨by omega, by omega⟩ | (constructor <;> omega)) (by first | assumption | omega | exact ⟨by omega, by omega⟩ | (constructor <;> omega)) (by first | assumption | omega | exact ⟨by omega, by omega⟩ | (constructor <;> omega)) (by first | assumption | omega | exact ⟨by omega, by omega⟩ | (constructor <;> omega)) (by first | assumption | omega | exact ⟨by omega, by omega⟩ | (constructor <;> omega)) (by first | assumption | omega | exact ⟨by omega, by omega⟩ | (constructor <;> omega))) rfl dX12_wordOf_139 cs_12_58 rfl rfl (by decide) (Nat.le_of_ble_eq_true rfl) (fun r_139 hr_139 ho_139 => ?_)
      exact go_ret (v := r_139) rfl dX12_wordOf_142 (okL ho_139) ⟨rfl, (by rw [hr_139, show k = 1 by omega]; decide +kernel)⟩
    | 2, h_1, hb_1 =>
      refine ⟨142, 143, rfl, by decide, ?_⟩
      refine go_bipush dX12_wordOf_143 (by decide) ?_
      refine go_bipush dX12_wordOf_145 (by decide) ?_
      refine go_bipush dX12_wordOf_147 (by decide) ?_
      refine go_bipush dX12_wordOf_149 (by decide) ?_
      refine go_bipush dX12_wordOf_151 (by decide) ?_
      refine go_bipush dX12_wordOf_153 (by decide) ?_
      refine go_iconst dX12_wordOf_155 ?_
      refine go_callSp_l (as := [vi 102, vi 105, vi 103, vi 117, vi 114, vi 101, vi 0]) (S := []) (ev_X12_spelt (m := m) (a := 102) (b := 105) (c := 103) (d := 117) (e := 114) (f := 101) (g := 0) (by first | assumption | omega | exact ⟨by omega, by omega⟩ | (constructor <;> omega)) (by first | assumption | omega | exact ⟨by omega, by omega⟩ | (constructor <;> omega)) (by first | assumption | omega | exact ⟨by omega, by omega⟩ | (constructor <;> omega)) (by first | assumption | omega | exact ⟨by omega, by omega⟩ | (constructor <;> omega)) (by first | assumption | omega | exact ⟨by omega, by omega⟩ | (constructor <;> omega)) (by first | assumption | omega | exact ⟨by omega, by omega⟩ | (constructor <;> omega)) (by first | assumption | omega | exact ⟨by omega, by omega⟩ | (constructor <;> omega))) rfl dX12_wordOf_156 cs_12_58 rfl rfl (by decide) (Nat.le_of_ble_eq_true rfl) (fun r_156 hr_156 ho_156 => ?_)
      exact go_ret (v := r_156) rfl dX12_wordOf_159 (okL ho_156) ⟨rfl, (by rw [hr_156, show k = 2 by omega]; decide +kernel)⟩
    | 3, h_1, hb_1 =>
      refine ⟨159, 160, rfl, by decide, ?_⟩
      refine go_bipush dX12_wordOf_160 (by decide) ?_
      refine go_bipush dX12_wordOf_162 (by decide) ?_
      refine go_bipush dX12_wordOf_164 (by decide) ?_
      refine go_bipush dX12_wordOf_166 (by decide) ?_
      refine go_bipush dX12_wordOf_168 (by decide) ?_
      refine go_bipush dX12_wordOf_170 (by decide) ?_
      refine go_iconst dX12_wordOf_172 ?_
      refine go_callSp_l (as := [vi 112, vi 101, vi 114, vi 115, vi 111, vi 110, vi 0]) (S := []) (ev_X12_spelt (m := m) (a := 112) (b := 101) (c := 114) (d := 115) (e := 111) (f := 110) (g := 0) (by first | assumption | omega | exact ⟨by omega, by omega⟩ | (constructor <;> omega)) (by first | assumption | omega | exact ⟨by omega, by omega⟩ | (constructor <;> omega)) (by first | assumption | omega | exact ⟨by omega, by omega⟩ | (constructor <;> omega)) (by first | assumption | omega | exact ⟨by omega, by omega⟩ | (constructor <;> omega)) (by first | assumption | omega | exact ⟨by omega, by omega⟩ | (constructor <;> omega)) (by first | assumption | omega | exact ⟨by omega, by omega⟩ | (constructor <;> omega)) (by first | assumption | omega | exact ⟨by omega, by omega⟩ | (constructor <;> omega))) rfl dX12_wordOf_173 cs_12_58 rfl rfl (by decide) (Nat.le_of_ble_eq_true rfl) (fun r_173 hr_173 ho_173 => ?_)
      exact go_ret (v := r_173) rfl dX12_wordOf_176 (okL ho_173) ⟨rfl, (by rw [hr_173, show k = 3 by omega]; decide +kernel)⟩
    | 4, h_1, hb_1 =>
      refine ⟨176, 177, rfl, by decide, ?_⟩
      refine go_bipush dX12_wordOf_177 (by decide) ?_
      refine go_bipush dX12_wordOf_179 (by decide) ?_
      refine go_bipush dX12_wordOf_181 (by decide) ?_
      refine go_bipush dX12_wordOf_183 (by decide) ?_
      refine go_bipush dX12_wordOf_185 (by decide) ?_
      refine go_iconst dX12_wordOf_187 ?_
      refine go_iconst dX12_wordOf_188 ?_
      refine go_callSp_l (as := [vi 112, vi 111, vi 105, vi 110, vi 116, vi 0, vi 0]) (S := []) (ev_X12_spelt (m := m) (a := 112) (b := 111) (c := 105) (d := 110) (e := 116) (f := 0) (g := 0) (by first | assumption | omega | exact ⟨by omega, by omega⟩ | (constructor <;> omega)) (by first | assumption | omega | exact ⟨by omega, by omega⟩ | (constructor <;> omega)) (by first | assumption | omega | exact ⟨by omega, by omega⟩ | (constructor <;> omega)) (by first | assumption | omega | exact ⟨by omega, by omega⟩ | (constructor <;> omega)) (by first | assumption | omega | exact ⟨by omega, by omega⟩ | (constructor <;> omega)) (by first | assumption | omega | exact ⟨by omega, by omega⟩ | (constructor <;> omega)) (by first | assumption | omega | exact ⟨by omega, by omega⟩ | (constructor <;> omega))) rfl dX12_wordOf_189 cs_12_58 rfl rfl (by decide) (Nat.le_of_ble_eq_true rfl) (fun r_189 hr_189 ho_189 => ?_)
      exact go_ret (v := r_189) rfl dX12_wordOf_192 (okL ho_189) ⟨rfl, (by rw [hr_189, show k = 4 by omega]; decide +kernel)⟩
    | 5, h_1, hb_1 =>
      refine ⟨192, 193, rfl, by decide, ?_⟩
      refine go_bipush dX12_wordOf_193 (by decide) ?_
      refine go_bipush dX12_wordOf_195 (by decide) ?_
      refine go_bipush dX12_wordOf_197 (by decide) ?_
      refine go_bipush dX12_wordOf_199 (by decide) ?_
      refine go_iconst dX12_wordOf_201 ?_
      refine go_iconst dX12_wordOf_202 ?_
      refine go_iconst dX12_wordOf_203 ?_
      refine go_callSp_l (as := [vi 115, vi 97, vi 121, vi 115, vi 0, vi 0, vi 0]) (S := []) (ev_X12_spelt (m := m) (a := 115) (b := 97) (c := 121) (d := 115) (e := 0) (f := 0) (g := 0) (by first | assumption | omega | exact ⟨by omega, by omega⟩ | (constructor <;> omega)) (by first | assumption | omega | exact ⟨by omega, by omega⟩ | (constructor <;> omega)) (by first | assumption | omega | exact ⟨by omega, by omega⟩ | (constructor <;> omega)) (by first | assumption | omega | exact ⟨by omega, by omega⟩ | (constructor <;> omega)) (by first | assumption | omega | exact ⟨by omega, by omega⟩ | (constructor <;> omega)) (by first | assumption | omega | exact ⟨by omega, by omega⟩ | (constructor <;> omega)) (by first | assumption | omega | exact ⟨by omega, by omega⟩ | (constructor <;> omega))) rfl dX12_wordOf_204 cs_12_58 rfl rfl (by decide) (Nat.le_of_ble_eq_true rfl) (fun r_204 hr_204 ho_204 => ?_)
      exact go_ret (v := r_204) rfl dX12_wordOf_207 (okL ho_204) ⟨rfl, (by rw [hr_204, show k = 5 by omega]; decide +kernel)⟩
    | 6, h_1, hb_1 =>
      refine ⟨207, 208, rfl, by decide, ?_⟩
      refine go_bipush dX12_wordOf_208 (by decide) ?_
      refine go_bipush dX12_wordOf_210 (by decide) ?_
      refine go_bipush dX12_wordOf_212 (by decide) ?_
      refine go_bipush dX12_wordOf_214 (by decide) ?_
      refine go_bipush dX12_wordOf_216 (by decide) ?_
      refine go_iconst dX12_wordOf_218 ?_
      refine go_iconst dX12_wordOf_219 ?_
      refine go_callSp_l (as := [vi 107, vi 105, vi 99, vi 107, vi 115, vi 0, vi 0]) (S := []) (ev_X12_spelt (m := m) (a := 107) (b := 105) (c := 99) (d := 107) (e := 115) (f := 0) (g := 0) (by first | assumption | omega | exact ⟨by omega, by omega⟩ | (constructor <;> omega)) (by first | assumption | omega | exact ⟨by omega, by omega⟩ | (constructor <;> omega)) (by first | assumption | omega | exact ⟨by omega, by omega⟩ | (constructor <;> omega)) (by first | assumption | omega | exact ⟨by omega, by omega⟩ | (constructor <;> omega)) (by first | assumption | omega | exact ⟨by omega, by omega⟩ | (constructor <;> omega)) (by first | assumption | omega | exact ⟨by omega, by omega⟩ | (constructor <;> omega)) (by first | assumption | omega | exact ⟨by omega, by omega⟩ | (constructor <;> omega))) rfl dX12_wordOf_220 cs_12_58 rfl rfl (by decide) (Nat.le_of_ble_eq_true rfl) (fun r_220 hr_220 ho_220 => ?_)
      exact go_ret (v := r_220) rfl dX12_wordOf_223 (okL ho_220) ⟨rfl, (by rw [hr_220, show k = 6 by omega]; decide +kernel)⟩
    | 7, h_1, hb_1 =>
      refine ⟨223, 224, rfl, by decide, ?_⟩
      refine go_bipush dX12_wordOf_224 (by decide) ?_
      refine go_bipush dX12_wordOf_226 (by decide) ?_
      refine go_bipush dX12_wordOf_228 (by decide) ?_
      refine go_bipush dX12_wordOf_230 (by decide) ?_
      refine go_bipush dX12_wordOf_232 (by decide) ?_
      refine go_iconst dX12_wordOf_234 ?_
      refine go_iconst dX12_wordOf_235 ?_
      refine go_callSp_l (as := [vi 114, vi 101, vi 115, vi 116, vi 115, vi 0, vi 0]) (S := []) (ev_X12_spelt (m := m) (a := 114) (b := 101) (c := 115) (d := 116) (e := 115) (f := 0) (g := 0) (by first | assumption | omega | exact ⟨by omega, by omega⟩ | (constructor <;> omega)) (by first | assumption | omega | exact ⟨by omega, by omega⟩ | (constructor <;> omega)) (by first | assumption | omega | exact ⟨by omega, by omega⟩ | (constructor <;> omega)) (by first | assumption | omega | exact ⟨by omega, by omega⟩ | (constructor <;> omega)) (by first | assumption | omega | exact ⟨by omega, by omega⟩ | (constructor <;> omega)) (by first | assumption | omega | exact ⟨by omega, by omega⟩ | (constructor <;> omega)) (by first | assumption | omega | exact ⟨by omega, by omega⟩ | (constructor <;> omega))) rfl dX12_wordOf_236 cs_12_58 rfl rfl (by decide) (Nat.le_of_ble_eq_true rfl) (fun r_236 hr_236 ho_236 => ?_)
      exact go_ret (v := r_236) rfl dX12_wordOf_239 (okL ho_236) ⟨rfl, (by rw [hr_236, show k = 7 by omega]; decide +kernel)⟩
    | 8, h_1, hb_1 =>
      refine ⟨239, 240, rfl, by decide, ?_⟩
      refine go_bipush dX12_wordOf_240 (by decide) ?_
      refine go_bipush dX12_wordOf_242 (by decide) ?_
      refine go_bipush dX12_wordOf_244 (by decide) ?_
      refine go_bipush dX12_wordOf_246 (by decide) ?_
      refine go_iconst dX12_wordOf_248 ?_
      refine go_iconst dX12_wordOf_249 ?_
      refine go_iconst dX12_wordOf_250 ?_
      refine go_callSp_l (as := [vi 104, vi 111, vi 117, vi 114, vi 0, vi 0, vi 0]) (S := []) (ev_X12_spelt (m := m) (a := 104) (b := 111) (c := 117) (d := 114) (e := 0) (f := 0) (g := 0) (by first | assumption | omega | exact ⟨by omega, by omega⟩ | (constructor <;> omega)) (by first | assumption | omega | exact ⟨by omega, by omega⟩ | (constructor <;> omega)) (by first | assumption | omega | exact ⟨by omega, by omega⟩ | (constructor <;> omega)) (by first | assumption | omega | exact ⟨by omega, by omega⟩ | (constructor <;> omega)) (by first | assumption | omega | exact ⟨by omega, by omega⟩ | (constructor <;> omega)) (by first | assumption | omega | exact ⟨by omega, by omega⟩ | (constructor <;> omega)) (by first | assumption | omega | exact ⟨by omega, by omega⟩ | (constructor <;> omega))) rfl dX12_wordOf_251 cs_12_58 rfl rfl (by decide) (Nat.le_of_ble_eq_true rfl) (fun r_251 hr_251 ho_251 => ?_)
      exact go_ret (v := r_251) rfl dX12_wordOf_254 (okL ho_251) ⟨rfl, (by rw [hr_251, show k = 8 by omega]; decide +kernel)⟩
    | 9, h_1, hb_1 =>
      refine ⟨254, 255, rfl, by decide, ?_⟩
      refine go_bipush dX12_wordOf_255 (by decide) ?_
      refine go_bipush dX12_wordOf_257 (by decide) ?_
      refine go_bipush dX12_wordOf_259 (by decide) ?_
      refine go_bipush dX12_wordOf_261 (by decide) ?_
      refine go_iconst dX12_wordOf_263 ?_
      refine go_iconst dX12_wordOf_264 ?_
      refine go_iconst dX12_wordOf_265 ?_
      refine go_callSp_l (as := [vi 101, vi 97, vi 115, vi 116, vi 0, vi 0, vi 0]) (S := []) (ev_X12_spelt (m := m) (a := 101) (b := 97) (c := 115) (d := 116) (e := 0) (f := 0) (g := 0) (by first | assumption | omega | exact ⟨by omega, by omega⟩ | (constructor <;> omega)) (by first | assumption | omega | exact ⟨by omega, by omega⟩ | (constructor <;> omega)) (by first | assumption | omega | exact ⟨by omega, by omega⟩ | (constructor <;> omega)) (by first | assumption | omega | exact ⟨by omega, by omega⟩ | (constructor <;> omega)) (by first | assumption | omega | exact ⟨by omega, by omega⟩ | (constructor <;> omega)) (by first | assumption | omega | exact ⟨by omega, by omega⟩ | (constructor <;> omega)) (by first | assumption | omega | exact ⟨by omega, by omega⟩ | (constructor <;> omega))) rfl dX12_wordOf_266 cs_12_58 rfl rfl (by decide) (Nat.le_of_ble_eq_true rfl) (fun r_266 hr_266 ho_266 => ?_)
      exact go_ret (v := r_266) rfl dX12_wordOf_269 (okL ho_266) ⟨rfl, (by rw [hr_266, show k = 9 by omega]; decide +kernel)⟩
    | 10, h_1, hb_1 =>
      refine ⟨269, 270, rfl, by decide, ?_⟩
      refine go_bipush dX12_wordOf_270 (by decide) ?_
      refine go_bipush dX12_wordOf_272 (by decide) ?_
      refine go_bipush dX12_wordOf_274 (by decide) ?_
      refine go_bipush dX12_wordOf_276 (by decide) ?_
      refine go_bipush dX12_wordOf_278 (by decide) ?_
      refine go_iconst dX12_wordOf_280 ?_
      refine go_iconst dX12_wordOf_281 ?_
      refine go_callSp_l (as := [vi 115, vi 111, vi 117, vi 116, vi 104, vi 0, vi 0]) (S := []) (ev_X12_spelt (m := m) (a := 115) (b := 111) (c := 117) (d := 116) (e := 104) (f := 0) (g := 0) (by first | assumption | omega | exact ⟨by omega, by omega⟩ | (constructor <;> omega)) (by first | assumption | omega | exact ⟨by omega, by omega⟩ | (constructor <;> omega)) (by first | assumption | omega | exact ⟨by omega, by omega⟩ | (constructor <;> omega)) (by first | assumption | omega | exact ⟨by omega, by omega⟩ | (constructor <;> omega)) (by first | assumption | omega | exact ⟨by omega, by omega⟩ | (constructor <;> omega)) (by first | assumption | omega | exact ⟨by omega, by omega⟩ | (constructor <;> omega)) (by first | assumption | omega | exact ⟨by omega, by omega⟩ | (constructor <;> omega))) rfl dX12_wordOf_282 cs_12_58 rfl rfl (by decide) (Nat.le_of_ble_eq_true rfl) (fun r_282 hr_282 ho_282 => ?_)
      exact go_ret (v := r_282) rfl dX12_wordOf_285 (okL ho_282) ⟨rfl, (by rw [hr_282, show k = 10 by omega]; decide +kernel)⟩
    | 11, h_1, hb_1 =>
      refine ⟨285, 286, rfl, by decide, ?_⟩
      refine go_bipush dX12_wordOf_286 (by decide) ?_
      refine go_bipush dX12_wordOf_288 (by decide) ?_
      refine go_bipush dX12_wordOf_290 (by decide) ?_
      refine go_bipush dX12_wordOf_292 (by decide) ?_
      refine go_iconst dX12_wordOf_294 ?_
      refine go_iconst dX12_wordOf_295 ?_
      refine go_iconst dX12_wordOf_296 ?_
      refine go_callSp_l (as := [vi 119, vi 101, vi 115, vi 116, vi 0, vi 0, vi 0]) (S := []) (ev_X12_spelt (m := m) (a := 119) (b := 101) (c := 115) (d := 116) (e := 0) (f := 0) (g := 0) (by first | assumption | omega | exact ⟨by omega, by omega⟩ | (constructor <;> omega)) (by first | assumption | omega | exact ⟨by omega, by omega⟩ | (constructor <;> omega)) (by first | assumption | omega | exact ⟨by omega, by omega⟩ | (constructor <;> omega)) (by first | assumption | omega | exact ⟨by omega, by omega⟩ | (constructor <;> omega)) (by first | assumption | omega | exact ⟨by omega, by omega⟩ | (constructor <;> omega)) (by first | assumption | omega | exact ⟨by omega, by omega⟩ | (constructor <;> omega)) (by first | assumption | omega | exact ⟨by omega, by omega⟩ | (constructor <;> omega))) rfl dX12_wordOf_297 cs_12_58 rfl rfl (by decide) (Nat.le_of_ble_eq_true rfl) (fun r_297 hr_297 ho_297 => ?_)
      exact go_ret (v := r_297) rfl dX12_wordOf_300 (okL ho_297) ⟨rfl, (by rw [hr_297, show k = 11 by omega]; decide +kernel)⟩
    | 12, h_1, hb_1 =>
      refine ⟨300, 301, rfl, by decide, ?_⟩
      refine go_bipush dX12_wordOf_301 (by decide) ?_
      refine go_bipush dX12_wordOf_303 (by decide) ?_
      refine go_bipush dX12_wordOf_305 (by decide) ?_
      refine go_bipush dX12_wordOf_307 (by decide) ?_
      refine go_bipush dX12_wordOf_309 (by decide) ?_
      refine go_iconst dX12_wordOf_311 ?_
      refine go_iconst dX12_wordOf_312 ?_
      refine go_callSp_l (as := [vi 110, vi 111, vi 114, vi 116, vi 104, vi 0, vi 0]) (S := []) (ev_X12_spelt (m := m) (a := 110) (b := 111) (c := 114) (d := 116) (e := 104) (f := 0) (g := 0) (by first | assumption | omega | exact ⟨by omega, by omega⟩ | (constructor <;> omega)) (by first | assumption | omega | exact ⟨by omega, by omega⟩ | (constructor <;> omega)) (by first | assumption | omega | exact ⟨by omega, by omega⟩ | (constructor <;> omega)) (by first | assumption | omega | exact ⟨by omega, by omega⟩ | (constructor <;> omega)) (by first | assumption | omega | exact ⟨by omega, by omega⟩ | (constructor <;> omega)) (by first | assumption | omega | exact ⟨by omega, by omega⟩ | (constructor <;> omega)) (by first | assumption | omega | exact ⟨by omega, by omega⟩ | (constructor <;> omega))) rfl dX12_wordOf_313 cs_12_58 rfl rfl (by decide) (Nat.le_of_ble_eq_true rfl) (fun r_313 hr_313 ho_313 => ?_)
      exact go_ret (v := r_313) rfl dX12_wordOf_316 (okL ho_313) ⟨rfl, (by rw [hr_313, show k = 12 by omega]; decide +kernel)⟩
    | 13, h_1, hb_1 =>
      refine ⟨316, 317, rfl, by decide, ?_⟩
      refine go_bipush dX12_wordOf_317 (by decide) ?_
      refine go_bipush dX12_wordOf_319 (by decide) ?_
      refine go_iconst dX12_wordOf_321 ?_
      refine go_iconst dX12_wordOf_322 ?_
      refine go_iconst dX12_wordOf_323 ?_
      refine go_iconst dX12_wordOf_324 ?_
      refine go_iconst dX12_wordOf_325 ?_
      refine go_callSp_l (as := [vi 111, vi 114, vi 0, vi 0, vi 0, vi 0, vi 0]) (S := []) (ev_X12_spelt (m := m) (a := 111) (b := 114) (c := 0) (d := 0) (e := 0) (f := 0) (g := 0) (by first | assumption | omega | exact ⟨by omega, by omega⟩ | (constructor <;> omega)) (by first | assumption | omega | exact ⟨by omega, by omega⟩ | (constructor <;> omega)) (by first | assumption | omega | exact ⟨by omega, by omega⟩ | (constructor <;> omega)) (by first | assumption | omega | exact ⟨by omega, by omega⟩ | (constructor <;> omega)) (by first | assumption | omega | exact ⟨by omega, by omega⟩ | (constructor <;> omega)) (by first | assumption | omega | exact ⟨by omega, by omega⟩ | (constructor <;> omega)) (by first | assumption | omega | exact ⟨by omega, by omega⟩ | (constructor <;> omega))) rfl dX12_wordOf_326 cs_12_58 rfl rfl (by decide) (Nat.le_of_ble_eq_true rfl) (fun r_326 hr_326 ho_326 => ?_)
      exact go_ret (v := r_326) rfl dX12_wordOf_329 (okL ho_326) ⟨rfl, (by rw [hr_326, show k = 13 by omega]; decide +kernel)⟩
    | 14, h_1, hb_1 =>
      refine ⟨329, 330, rfl, by decide, ?_⟩
      refine go_bipush dX12_wordOf_330 (by decide) ?_
      refine go_bipush dX12_wordOf_332 (by decide) ?_
      refine go_bipush dX12_wordOf_334 (by decide) ?_
      refine go_iconst dX12_wordOf_336 ?_
      refine go_iconst dX12_wordOf_337 ?_
      refine go_iconst dX12_wordOf_338 ?_
      refine go_iconst dX12_wordOf_339 ?_
      refine go_callSp_l (as := [vi 97, vi 110, vi 100, vi 0, vi 0, vi 0, vi 0]) (S := []) (ev_X12_spelt (m := m) (a := 97) (b := 110) (c := 100) (d := 0) (e := 0) (f := 0) (g := 0) (by first | assumption | omega | exact ⟨by omega, by omega⟩ | (constructor <;> omega)) (by first | assumption | omega | exact ⟨by omega, by omega⟩ | (constructor <;> omega)) (by first | assumption | omega | exact ⟨by omega, by omega⟩ | (constructor <;> omega)) (by first | assumption | omega | exact ⟨by omega, by omega⟩ | (constructor <;> omega)) (by first | assumption | omega | exact ⟨by omega, by omega⟩ | (constructor <;> omega)) (by first | assumption | omega | exact ⟨by omega, by omega⟩ | (constructor <;> omega)) (by first | assumption | omega | exact ⟨by omega, by omega⟩ | (constructor <;> omega))) rfl dX12_wordOf_340 cs_12_58 rfl rfl (by decide) (Nat.le_of_ble_eq_true rfl) (fun r_340 hr_340 ho_340 => ?_)
      exact go_ret (v := r_340) rfl dX12_wordOf_343 (okL ho_340) ⟨rfl, (by rw [hr_340, show k = 14 by omega]; decide +kernel)⟩
    | 15, h_1, hb_1 =>
      refine ⟨343, 344, rfl, by decide, ?_⟩
      refine go_bipush dX12_wordOf_344 (by decide) ?_
      refine go_bipush dX12_wordOf_346 (by decide) ?_
      refine go_bipush dX12_wordOf_348 (by decide) ?_
      refine go_iconst dX12_wordOf_350 ?_
      refine go_iconst dX12_wordOf_351 ?_
      refine go_iconst dX12_wordOf_352 ?_
      refine go_iconst dX12_wordOf_353 ?_
      refine go_callSp_l (as := [vi 110, vi 111, vi 116, vi 0, vi 0, vi 0, vi 0]) (S := []) (ev_X12_spelt (m := m) (a := 110) (b := 111) (c := 116) (d := 0) (e := 0) (f := 0) (g := 0) (by first | assumption | omega | exact ⟨by omega, by omega⟩ | (constructor <;> omega)) (by first | assumption | omega | exact ⟨by omega, by omega⟩ | (constructor <;> omega)) (by first | assumption | omega | exact ⟨by omega, by omega⟩ | (constructor <;> omega)) (by first | assumption | omega | exact ⟨by omega, by omega⟩ | (constructor <;> omega)) (by first | assumption | omega | exact ⟨by omega, by omega⟩ | (constructor <;> omega)) (by first | assumption | omega | exact ⟨by omega, by omega⟩ | (constructor <;> omega)) (by first | assumption | omega | exact ⟨by omega, by omega⟩ | (constructor <;> omega))) rfl dX12_wordOf_354 cs_12_58 rfl rfl (by decide) (Nat.le_of_ble_eq_true rfl) (fun r_354 hr_354 ho_354 => ?_)
      exact go_ret (v := r_354) rfl dX12_wordOf_357 (okL ho_354) ⟨rfl, (by rw [hr_354, show k = 15 by omega]; decide +kernel)⟩
    | 16, h_1, hb_1 =>
      refine ⟨357, 358, rfl, by decide, ?_⟩
      refine go_bipush dX12_wordOf_358 (by decide) ?_
      refine go_bipush dX12_wordOf_360 (by decide) ?_
      refine go_bipush dX12_wordOf_362 (by decide) ?_
      refine go_bipush dX12_wordOf_364 (by decide) ?_
      refine go_bipush dX12_wordOf_366 (by decide) ?_
      refine go_bipush dX12_wordOf_368 (by decide) ?_
      refine go_bipush dX12_wordOf_370 (by decide) ?_
      refine go_callSp_l (as := [vi 117, vi 112, vi 114, vi 105, vi 103, vi 104, vi 116]) (S := []) (ev_X12_spelt (m := m) (a := 117) (b := 112) (c := 114) (d := 105) (e := 103) (f := 104) (g := 116) (by first | assumption | omega | exact ⟨by omega, by omega⟩ | (constructor <;> omega)) (by first | assumption | omega | exact ⟨by omega, by omega⟩ | (constructor <;> omega)) (by first | assumption | omega | exact ⟨by omega, by omega⟩ | (constructor <;> omega)) (by first | assumption | omega | exact ⟨by omega, by omega⟩ | (constructor <;> omega)) (by first | assumption | omega | exact ⟨by omega, by omega⟩ | (constructor <;> omega)) (by first | assumption | omega | exact ⟨by omega, by omega⟩ | (constructor <;> omega)) (by first | assumption | omega | exact ⟨by omega, by omega⟩ | (constructor <;> omega))) rfl dX12_wordOf_372 cs_12_58 rfl rfl (by decide) (Nat.le_of_ble_eq_true rfl) (fun r_372 hr_372 ho_372 => ?_)
      exact go_ret (v := r_372) rfl dX12_wordOf_375 (okL ho_372) ⟨rfl, (by rw [hr_372, show k = 16 by omega]; decide +kernel)⟩
    | 17, h_1, hb_1 =>
      refine ⟨375, 376, rfl, by decide, ?_⟩
      refine go_bipush dX12_wordOf_376 (by decide) ?_
      refine go_bipush dX12_wordOf_378 (by decide) ?_
      refine go_bipush dX12_wordOf_380 (by decide) ?_
      refine go_bipush dX12_wordOf_382 (by decide) ?_
      refine go_bipush dX12_wordOf_384 (by decide) ?_
      refine go_iconst dX12_wordOf_386 ?_
      refine go_iconst dX12_wordOf_387 ?_
      refine go_callSp_l (as := [vi 115, vi 112, vi 101, vi 110, vi 116, vi 0, vi 0]) (S := []) (ev_X12_spelt (m := m) (a := 115) (b := 112) (c := 101) (d := 110) (e := 116) (f := 0) (g := 0) (by first | assumption | omega | exact ⟨by omega, by omega⟩ | (constructor <;> omega)) (by first | assumption | omega | exact ⟨by omega, by omega⟩ | (constructor <;> omega)) (by first | assumption | omega | exact ⟨by omega, by omega⟩ | (constructor <;> omega)) (by first | assumption | omega | exact ⟨by omega, by omega⟩ | (constructor <;> omega)) (by first | assumption | omega | exact ⟨by omega, by omega⟩ | (constructor <;> omega)) (by first | assumption | omega | exact ⟨by omega, by omega⟩ | (constructor <;> omega)) (by first | assumption | omega | exact ⟨by omega, by omega⟩ | (constructor <;> omega))) rfl dX12_wordOf_388 cs_12_58 rfl rfl (by decide) (Nat.le_of_ble_eq_true rfl) (fun r_388 hr_388 ho_388 => ?_)
      exact go_ret (v := r_388) rfl dX12_wordOf_391 (okL ho_388) ⟨rfl, (by rw [hr_388, show k = 17 by omega]; decide +kernel)⟩
    | 18, h_1, hb_1 =>
      refine ⟨391, 392, rfl, by decide, ?_⟩
      refine go_bipush dX12_wordOf_392 (by decide) ?_
      refine go_bipush dX12_wordOf_394 (by decide) ?_
      refine go_bipush dX12_wordOf_396 (by decide) ?_
      refine go_bipush dX12_wordOf_398 (by decide) ?_
      refine go_bipush dX12_wordOf_400 (by decide) ?_
      refine go_bipush dX12_wordOf_402 (by decide) ?_
      refine go_bipush dX12_wordOf_404 (by decide) ?_
      refine go_callSp_l (as := [vi 115, vi 101, vi 116, vi 116, vi 108, vi 101, vi 100]) (S := []) (ev_X12_spelt (m := m) (a := 115) (b := 101) (c := 116) (d := 116) (e := 108) (f := 101) (g := 100) (by first | assumption | omega | exact ⟨by omega, by omega⟩ | (constructor <;> omega)) (by first | assumption | omega | exact ⟨by omega, by omega⟩ | (constructor <;> omega)) (by first | assumption | omega | exact ⟨by omega, by omega⟩ | (constructor <;> omega)) (by first | assumption | omega | exact ⟨by omega, by omega⟩ | (constructor <;> omega)) (by first | assumption | omega | exact ⟨by omega, by omega⟩ | (constructor <;> omega)) (by first | assumption | omega | exact ⟨by omega, by omega⟩ | (constructor <;> omega)) (by first | assumption | omega | exact ⟨by omega, by omega⟩ | (constructor <;> omega))) rfl dX12_wordOf_406 cs_12_58 rfl rfl (by decide) (Nat.le_of_ble_eq_true rfl) (fun r_406 hr_406 ho_406 => ?_)
      exact go_ret (v := r_406) rfl dX12_wordOf_409 (okL ho_406) ⟨rfl, (by rw [hr_406, show k = 18 by omega]; decide +kernel)⟩
    | 19, h_1, hb_1 =>
      refine ⟨409, 410, rfl, by decide, ?_⟩
      refine go_bipush dX12_wordOf_410 (by decide) ?_
      refine go_bipush dX12_wordOf_412 (by decide) ?_
      refine go_bipush dX12_wordOf_414 (by decide) ?_
      refine go_iconst dX12_wordOf_416 ?_
      refine go_iconst dX12_wordOf_417 ?_
      refine go_iconst dX12_wordOf_418 ?_
      refine go_iconst dX12_wordOf_419 ?_
      refine go_callSp_l (as := [vi 104, vi 97, vi 115, vi 0, vi 0, vi 0, vi 0]) (S := []) (ev_X12_spelt (m := m) (a := 104) (b := 97) (c := 115) (d := 0) (e := 0) (f := 0) (g := 0) (by first | assumption | omega | exact ⟨by omega, by omega⟩ | (constructor <;> omega)) (by first | assumption | omega | exact ⟨by omega, by omega⟩ | (constructor <;> omega)) (by first | assumption | omega | exact ⟨by omega, by omega⟩ | (constructor <;> omega)) (by first | assumption | omega | exact ⟨by omega, by omega⟩ | (constructor <;> omega)) (by first | assumption | omega | exact ⟨by omega, by omega⟩ | (constructor <;> omega)) (by first | assumption | omega | exact ⟨by omega, by omega⟩ | (constructor <;> omega)) (by first | assumption | omega | exact ⟨by omega, by omega⟩ | (constructor <;> omega))) rfl dX12_wordOf_420 cs_12_58 rfl rfl (by decide) (Nat.le_of_ble_eq_true rfl) (fun r_420 hr_420 ho_420 => ?_)
      exact go_ret (v := r_420) rfl dX12_wordOf_423 (okL ho_420) ⟨rfl, (by rw [hr_420, show k = 19 by omega]; decide +kernel)⟩
    | 20, h_1, hb_1 =>
      refine ⟨423, 424, rfl, by decide, ?_⟩
      refine go_bipush dX12_wordOf_424 (by decide) ?_
      refine go_bipush dX12_wordOf_426 (by decide) ?_
      refine go_iconst dX12_wordOf_428 ?_
      refine go_iconst dX12_wordOf_429 ?_
      refine go_iconst dX12_wordOf_430 ?_
      refine go_iconst dX12_wordOf_431 ?_
      refine go_iconst dX12_wordOf_432 ?_
      refine go_callSp_l (as := [vi 98, vi 121, vi 0, vi 0, vi 0, vi 0, vi 0]) (S := []) (ev_X12_spelt (m := m) (a := 98) (b := 121) (c := 0) (d := 0) (e := 0) (f := 0) (g := 0) (by first | assumption | omega | exact ⟨by omega, by omega⟩ | (constructor <;> omega)) (by first | assumption | omega | exact ⟨by omega, by omega⟩ | (constructor <;> omega)) (by first | assumption | omega | exact ⟨by omega, by omega⟩ | (constructor <;> omega)) (by first | assumption | omega | exact ⟨by omega, by omega⟩ | (constructor <;> omega)) (by first | assumption | omega | exact ⟨by omega, by omega⟩ | (constructor <;> omega)) (by first | assumption | omega | exact ⟨by omega, by omega⟩ | (constructor <;> omega)) (by first | assumption | omega | exact ⟨by omega, by omega⟩ | (constructor <;> omega))) rfl dX12_wordOf_433 cs_12_58 rfl rfl (by decide) (Nat.le_of_ble_eq_true rfl) (fun r_433 hr_433 ho_433 => ?_)
      exact go_ret (v := r_433) rfl dX12_wordOf_436 (okL ho_433) ⟨rfl, (by rw [hr_433, show k = 20 by omega]; decide +kernel)⟩
    | 21, h_1, hb_1 =>
      refine ⟨436, 437, rfl, by decide, ?_⟩
      refine go_bipush dX12_wordOf_437 (by decide) ?_
      refine go_bipush dX12_wordOf_439 (by decide) ?_
      refine go_bipush dX12_wordOf_441 (by decide) ?_
      refine go_bipush dX12_wordOf_443 (by decide) ?_
      refine go_bipush dX12_wordOf_445 (by decide) ?_
      refine go_bipush dX12_wordOf_447 (by decide) ?_
      refine go_iconst dX12_wordOf_449 ?_
      refine go_callSp_l (as := [vi 98, vi 114, vi 101, vi 97, vi 116, vi 104, vi 0]) (S := []) (ev_X12_spelt (m := m) (a := 98) (b := 114) (c := 101) (d := 97) (e := 116) (f := 104) (g := 0) (by first | assumption | omega | exact ⟨by omega, by omega⟩ | (constructor <;> omega)) (by first | assumption | omega | exact ⟨by omega, by omega⟩ | (constructor <;> omega)) (by first | assumption | omega | exact ⟨by omega, by omega⟩ | (constructor <;> omega)) (by first | assumption | omega | exact ⟨by omega, by omega⟩ | (constructor <;> omega)) (by first | assumption | omega | exact ⟨by omega, by omega⟩ | (constructor <;> omega)) (by first | assumption | omega | exact ⟨by omega, by omega⟩ | (constructor <;> omega)) (by first | assumption | omega | exact ⟨by omega, by omega⟩ | (constructor <;> omega))) rfl dX12_wordOf_450 cs_12_58 rfl rfl (by decide) (Nat.le_of_ble_eq_true rfl) (fun r_450 hr_450 ho_450 => ?_)
      exact go_ret (v := r_450) rfl dX12_wordOf_453 (okL ho_450) ⟨rfl, (by rw [hr_450, show k = 21 by omega]; decide +kernel)⟩
    | 22, h_1, hb_1 =>
      refine ⟨453, 454, rfl, by decide, ?_⟩
      refine go_bipush dX12_wordOf_454 (by decide) ?_
      refine go_bipush dX12_wordOf_456 (by decide) ?_
      refine go_iconst dX12_wordOf_458 ?_
      refine go_iconst dX12_wordOf_459 ?_
      refine go_iconst dX12_wordOf_460 ?_
      refine go_iconst dX12_wordOf_461 ?_
      refine go_iconst dX12_wordOf_462 ?_
      refine go_callSp_l (as := [vi 117, vi 112, vi 0, vi 0, vi 0, vi 0, vi 0]) (S := []) (ev_X12_spelt (m := m) (a := 117) (b := 112) (c := 0) (d := 0) (e := 0) (f := 0) (g := 0) (by first | assumption | omega | exact ⟨by omega, by omega⟩ | (constructor <;> omega)) (by first | assumption | omega | exact ⟨by omega, by omega⟩ | (constructor <;> omega)) (by first | assumption | omega | exact ⟨by omega, by omega⟩ | (constructor <;> omega)) (by first | assumption | omega | exact ⟨by omega, by omega⟩ | (constructor <;> omega)) (by first | assumption | omega | exact ⟨by omega, by omega⟩ | (constructor <;> omega)) (by first | assumption | omega | exact ⟨by omega, by omega⟩ | (constructor <;> omega)) (by first | assumption | omega | exact ⟨by omega, by omega⟩ | (constructor <;> omega))) rfl dX12_wordOf_463 cs_12_58 rfl rfl (by decide) (Nat.le_of_ble_eq_true rfl) (fun r_463 hr_463 ho_463 => ?_)
      exact go_ret (v := r_463) rfl dX12_wordOf_466 (okL ho_463) ⟨rfl, (by rw [hr_463, show k = 22 by omega]; decide +kernel)⟩
    | 23, h_1, hb_1 =>
      refine ⟨466, 467, rfl, by decide, ?_⟩
      refine go_bipush dX12_wordOf_467 (by decide) ?_
      refine go_bipush dX12_wordOf_469 (by decide) ?_
      refine go_bipush dX12_wordOf_471 (by decide) ?_
      refine go_bipush dX12_wordOf_473 (by decide) ?_
      refine go_iconst dX12_wordOf_475 ?_
      refine go_iconst dX12_wordOf_476 ?_
      refine go_iconst dX12_wordOf_477 ?_
      refine go_callSp_l (as := [vi 115, vi 97, vi 105, vi 100, vi 0, vi 0, vi 0]) (S := []) (ev_X12_spelt (m := m) (a := 115) (b := 97) (c := 105) (d := 100) (e := 0) (f := 0) (g := 0) (by first | assumption | omega | exact ⟨by omega, by omega⟩ | (constructor <;> omega)) (by first | assumption | omega | exact ⟨by omega, by omega⟩ | (constructor <;> omega)) (by first | assumption | omega | exact ⟨by omega, by omega⟩ | (constructor <;> omega)) (by first | assumption | omega | exact ⟨by omega, by omega⟩ | (constructor <;> omega)) (by first | assumption | omega | exact ⟨by omega, by omega⟩ | (constructor <;> omega)) (by first | assumption | omega | exact ⟨by omega, by omega⟩ | (constructor <;> omega)) (by first | assumption | omega | exact ⟨by omega, by omega⟩ | (constructor <;> omega))) rfl dX12_wordOf_478 cs_12_58 rfl rfl (by decide) (Nat.le_of_ble_eq_true rfl) (fun r_478 hr_478 ho_478 => ?_)
      exact go_ret (v := r_478) rfl dX12_wordOf_481 (okL ho_478) ⟨rfl, (by rw [hr_478, show k = 23 by omega]; decide +kernel)⟩
    | k + 24, h_1, hb_1 => exfalso; omega
  · refine go_bipush dX12_wordOf_482 (by decide) ?_
    refine go_bipush dX12_wordOf_484 (by decide) ?_
    refine go_bipush dX12_wordOf_486 (by decide) ?_
    refine go_bipush dX12_wordOf_488 (by decide) ?_
    refine go_bipush dX12_wordOf_490 (by decide) ?_
    refine go_bipush dX12_wordOf_492 (by decide) ?_
    refine go_iconst dX12_wordOf_494 ?_
    refine go_callSp_l (as := [vi 110, vi 117, vi 109, vi 98, vi 101, vi 114, vi 0]) (S := []) (ev_X12_spelt (m := m) (a := 110) (b := 117) (c := 109) (d := 98) (e := 101) (f := 114) (g := 0) (by first | assumption | omega | exact ⟨by omega, by omega⟩ | (constructor <;> omega)) (by first | assumption | omega | exact ⟨by omega, by omega⟩ | (constructor <;> omega)) (by first | assumption | omega | exact ⟨by omega, by omega⟩ | (constructor <;> omega)) (by first | assumption | omega | exact ⟨by omega, by omega⟩ | (constructor <;> omega)) (by first | assumption | omega | exact ⟨by omega, by omega⟩ | (constructor <;> omega)) (by first | assumption | omega | exact ⟨by omega, by omega⟩ | (constructor <;> omega)) (by first | assumption | omega | exact ⟨by omega, by omega⟩ | (constructor <;> omega))) rfl dX12_wordOf_495 cs_12_58 rfl rfl (by decide) (Nat.le_of_ble_eq_true rfl) (fun r_495 hr_495 ho_495 => ?_)
    exact go_ret (v := r_495) rfl dX12_wordOf_498 (okL ho_495) ⟨rfl, (by rw [hr_495, show k = 24 by omega]; decide +kernel)⟩
theorem dX12_go_0 : decode mX12_go.2.1 0 = .ok (.aload_n 0, 1) := by decide +kernel
theorem dX12_go_1 : decode mX12_go.2.1 1 = .ok (.getfield 21, 3) := by decide +kernel
theorem dX12_go_4 : decode mX12_go.2.1 4 = .ok (.aload_n 0, 1) := by decide +kernel
theorem dX12_go_5 : decode mX12_go.2.1 5 = .ok (.getfield 18, 3) := by decide +kernel
theorem dX12_go_8 : decode mX12_go.2.1 8 = .ok (.if_icmp .ge 44, 3) := by decide +kernel
theorem dX12_go_11 : decode mX12_go.2.1 11 = .ok (.aload_n 0, 1) := by decide +kernel
theorem dX12_go_12 : decode mX12_go.2.1 12 = .ok (.getfield 7, 3) := by decide +kernel
theorem dX12_go_15 : decode mX12_go.2.1 15 = .ok (.aload_n 0, 1) := by decide +kernel
theorem dX12_go_16 : decode mX12_go.2.1 16 = .ok (.getfield 21, 3) := by decide +kernel
theorem dX12_go_19 : decode mX12_go.2.1 19 = .ok (.iaload, 1) := by decide +kernel
theorem dX12_go_20 : decode mX12_go.2.1 20 = .ok (.bipush 32, 2) := by decide +kernel
theorem dX12_go_22 : decode mX12_go.2.1 22 = .ok (.if_icmp .eq 17, 3) := by decide +kernel
theorem dX12_go_25 : decode mX12_go.2.1 25 = .ok (.aload_n 0, 1) := by decide +kernel
theorem dX12_go_26 : decode mX12_go.2.1 26 = .ok (.getfield 7, 3) := by decide +kernel
theorem dX12_go_29 : decode mX12_go.2.1 29 = .ok (.aload_n 0, 1) := by decide +kernel
theorem dX12_go_30 : decode mX12_go.2.1 30 = .ok (.getfield 21, 3) := by decide +kernel
theorem dX12_go_33 : decode mX12_go.2.1 33 = .ok (.iaload, 1) := by decide +kernel
theorem dX12_go_34 : decode mX12_go.2.1 34 = .ok (.bipush 10, 2) := by decide +kernel
theorem dX12_go_36 : decode mX12_go.2.1 36 = .ok (.if_icmp .ne 16, 3) := by decide +kernel
theorem dX12_go_39 : decode mX12_go.2.1 39 = .ok (.aload_n 0, 1) := by decide +kernel
theorem dX12_go_40 : decode mX12_go.2.1 40 = .ok (.dup, 1) := by decide +kernel
theorem dX12_go_41 : decode mX12_go.2.1 41 = .ok (.getfield 21, 3) := by decide +kernel
theorem dX12_go_44 : decode mX12_go.2.1 44 = .ok (.iconst 1, 1) := by decide +kernel
theorem dX12_go_45 : decode mX12_go.2.1 45 = .ok (.iadd, 1) := by decide +kernel
theorem dX12_go_46 : decode mX12_go.2.1 46 = .ok (.putfield 21, 3) := by decide +kernel
theorem dX12_go_49 : decode mX12_go.2.1 49 = .ok (.goto (-49), 3) := by decide +kernel
theorem dX12_go_52 : decode mX12_go.2.1 52 = .ok (.aload_n 0, 1) := by decide +kernel
theorem dX12_go_53 : decode mX12_go.2.1 53 = .ok (.aload_n 0, 1) := by decide +kernel
theorem dX12_go_54 : decode mX12_go.2.1 54 = .ok (.getfield 21, 3) := by decide +kernel
theorem dX12_go_57 : decode mX12_go.2.1 57 = .ok (.putfield 24, 3) := by decide +kernel
theorem dX12_go_60 : decode mX12_go.2.1 60 = .ok (.aload_n 0, 1) := by decide +kernel
theorem dX12_go_61 : decode mX12_go.2.1 61 = .ok (.getfield 18, 3) := by decide +kernel
theorem dX12_go_64 : decode mX12_go.2.1 64 = .ok (.aload_n 0, 1) := by decide +kernel
theorem dX12_go_65 : decode mX12_go.2.1 65 = .ok (.getfield 27, 3) := by decide +kernel
theorem dX12_go_68 : decode mX12_go.2.1 68 = .ok (.if_icmp .le 28, 3) := by decide +kernel
theorem dX12_go_71 : decode mX12_go.2.1 71 = .ok (.aload_n 0, 1) := by decide +kernel
theorem dX12_go_72 : decode mX12_go.2.1 72 = .ok (.getfield 24, 3) := by decide +kernel
theorem dX12_go_75 : decode mX12_go.2.1 75 = .ok (.aload_n 0, 1) := by decide +kernel
theorem dX12_go_76 : decode mX12_go.2.1 76 = .ok (.getfield 27, 3) := by decide +kernel
theorem dX12_go_79 : decode mX12_go.2.1 79 = .ok (.if_icmp .lt 17, 3) := by decide +kernel
theorem dX12_go_82 : decode mX12_go.2.1 82 = .ok (.aload_n 0, 1) := by decide +kernel
theorem dX12_go_83 : decode mX12_go.2.1 83 = .ok (.aload_n 0, 1) := by decide +kernel
theorem dX12_go_84 : decode mX12_go.2.1 84 = .ok (.getfield 27, 3) := by decide +kernel
theorem dX12_go_87 : decode mX12_go.2.1 87 = .ok (.putfield 24, 3) := by decide +kernel
theorem dX12_go_90 : decode mX12_go.2.1 90 = .ok (.aload_n 0, 1) := by decide +kernel
theorem dX12_go_91 : decode mX12_go.2.1 91 = .ok (.iconst 1, 1) := by decide +kernel
theorem dX12_go_92 : decode mX12_go.2.1 92 = .ok (.putfield 30, 3) := by decide +kernel
theorem dX12_go_95 : decode mX12_go.2.1 95 = .ok (.return_, 1) := by decide +kernel
theorem dX12_go_96 : decode mX12_go.2.1 96 = .ok (.aload_n 0, 1) := by decide +kernel
theorem dX12_go_97 : decode mX12_go.2.1 97 = .ok (.getfield 21, 3) := by decide +kernel
theorem dX12_go_100 : decode mX12_go.2.1 100 = .ok (.aload_n 0, 1) := by decide +kernel
theorem dX12_go_101 : decode mX12_go.2.1 101 = .ok (.getfield 18, 3) := by decide +kernel
theorem dX12_go_104 : decode mX12_go.2.1 104 = .ok (.if_icmp .lt 9, 3) := by decide +kernel
theorem dX12_go_107 : decode mX12_go.2.1 107 = .ok (.aload_n 0, 1) := by decide +kernel
theorem dX12_go_108 : decode mX12_go.2.1 108 = .ok (.iconst 0, 1) := by decide +kernel
theorem dX12_go_109 : decode mX12_go.2.1 109 = .ok (.putfield 30, 3) := by decide +kernel
theorem dX12_go_112 : decode mX12_go.2.1 112 = .ok (.return_, 1) := by decide +kernel
theorem dX12_go_113 : decode mX12_go.2.1 113 = .ok (.aload_n 0, 1) := by decide +kernel
theorem dX12_go_114 : decode mX12_go.2.1 114 = .ok (.getfield 7, 3) := by decide +kernel
theorem dX12_go_117 : decode mX12_go.2.1 117 = .ok (.aload_n 0, 1) := by decide +kernel
theorem dX12_go_118 : decode mX12_go.2.1 118 = .ok (.getfield 21, 3) := by decide +kernel
theorem dX12_go_121 : decode mX12_go.2.1 121 = .ok (.iaload, 1) := by decide +kernel
theorem dX12_go_122 : decode mX12_go.2.1 122 = .ok (.istore_n 1, 1) := by decide +kernel
theorem dX12_go_123 : decode mX12_go.2.1 123 = .ok (.iload_n 1, 1) := by decide +kernel
theorem dX12_go_124 : decode mX12_go.2.1 124 = .ok (.invokestatic 33, 3) := by decide +kernel
theorem dX12_go_127 : decode mX12_go.2.1 127 = .ok (.ifCond .ne 71, 3) := by decide +kernel
theorem dX12_go_130 : decode mX12_go.2.1 130 = .ok (.iload_n 1, 1) := by decide +kernel
theorem dX12_go_131 : decode mX12_go.2.1 131 = .ok (.invokestatic 37, 3) := by decide +kernel
theorem dX12_go_134 : decode mX12_go.2.1 134 = .ok (.ifCond .ne 64, 3) := by decide +kernel
theorem dX12_go_137 : decode mX12_go.2.1 137 = .ok (.aload_n 0, 1) := by decide +kernel
theorem dX12_go_138 : decode mX12_go.2.1 138 = .ok (.iload_n 1, 1) := by decide +kernel
theorem dX12_go_139 : decode mX12_go.2.1 139 = .ok (.bipush 59, 2) := by decide +kernel
theorem dX12_go_141 : decode mX12_go.2.1 141 = .ok (.if_icmp .eq 33, 3) := by decide +kernel
theorem dX12_go_144 : decode mX12_go.2.1 144 = .ok (.iload_n 1, 1) := by decide +kernel
theorem dX12_go_145 : decode mX12_go.2.1 145 = .ok (.bipush 60, 2) := by decide +kernel
theorem dX12_go_147 : decode mX12_go.2.1 147 = .ok (.if_icmp .eq 27, 3) := by decide +kernel
theorem dX12_go_150 : decode mX12_go.2.1 150 = .ok (.iload_n 1, 1) := by decide +kernel
theorem dX12_go_151 : decode mX12_go.2.1 151 = .ok (.bipush 61, 2) := by decide +kernel
theorem dX12_go_153 : decode mX12_go.2.1 153 = .ok (.if_icmp .eq 21, 3) := by decide +kernel
theorem dX12_go_156 : decode mX12_go.2.1 156 = .ok (.iload_n 1, 1) := by decide +kernel
theorem dX12_go_157 : decode mX12_go.2.1 157 = .ok (.bipush 62, 2) := by decide +kernel
theorem dX12_go_159 : decode mX12_go.2.1 159 = .ok (.if_icmp .eq 15, 3) := by decide +kernel
theorem dX12_go_162 : decode mX12_go.2.1 162 = .ok (.iload_n 1, 1) := by decide +kernel
theorem dX12_go_163 : decode mX12_go.2.1 163 = .ok (.bipush 40, 2) := by decide +kernel
theorem dX12_go_165 : decode mX12_go.2.1 165 = .ok (.if_icmp .eq 9, 3) := by decide +kernel
theorem dX12_go_168 : decode mX12_go.2.1 168 = .ok (.iload_n 1, 1) := by decide +kernel
theorem dX12_go_169 : decode mX12_go.2.1 169 = .ok (.bipush 41, 2) := by decide +kernel
theorem dX12_go_171 : decode mX12_go.2.1 171 = .ok (.if_icmp .ne 7, 3) := by decide +kernel
theorem dX12_go_174 : decode mX12_go.2.1 174 = .ok (.iconst 4, 1) := by decide +kernel
theorem dX12_go_175 : decode mX12_go.2.1 175 = .ok (.goto 4, 3) := by decide +kernel
theorem dX12_go_178 : decode mX12_go.2.1 178 = .ok (.iconst 1, 1) := by decide +kernel
theorem dX12_go_179 : decode mX12_go.2.1 179 = .ok (.putfield 30, 3) := by decide +kernel
theorem dX12_go_182 : decode mX12_go.2.1 182 = .ok (.aload_n 0, 1) := by decide +kernel
theorem dX12_go_183 : decode mX12_go.2.1 183 = .ok (.iload_n 1, 1) := by decide +kernel
theorem dX12_go_184 : decode mX12_go.2.1 184 = .ok (.putfield 40, 3) := by decide +kernel
theorem dX12_go_187 : decode mX12_go.2.1 187 = .ok (.aload_n 0, 1) := by decide +kernel
theorem dX12_go_188 : decode mX12_go.2.1 188 = .ok (.dup, 1) := by decide +kernel
theorem dX12_go_189 : decode mX12_go.2.1 189 = .ok (.getfield 21, 3) := by decide +kernel
theorem dX12_go_192 : decode mX12_go.2.1 192 = .ok (.iconst 1, 1) := by decide +kernel
theorem dX12_go_193 : decode mX12_go.2.1 193 = .ok (.iadd, 1) := by decide +kernel
theorem dX12_go_194 : decode mX12_go.2.1 194 = .ok (.putfield 21, 3) := by decide +kernel
theorem dX12_go_197 : decode mX12_go.2.1 197 = .ok (.return_, 1) := by decide +kernel
theorem dX12_go_198 : decode mX12_go.2.1 198 = .ok (.iload_n 1, 1) := by decide +kernel
theorem dX12_go_199 : decode mX12_go.2.1 199 = .ok (.invokestatic 33, 3) := by decide +kernel
theorem dX12_go_202 : decode mX12_go.2.1 202 = .ok (.istore_n 2, 1) := by decide +kernel
theorem dX12_go_203 : decode mX12_go.2.1 203 = .ok (.iconst 1, 1) := by decide +kernel
theorem dX12_go_204 : decode mX12_go.2.1 204 = .ok (.istore_n 3, 1) := by decide +kernel
theorem dX12_go_205 : decode mX12_go.2.1 205 = .ok (.aload_n 0, 1) := by decide +kernel
theorem dX12_go_206 : decode mX12_go.2.1 206 = .ok (.lconst 0, 1) := by decide +kernel
theorem dX12_go_207 : decode mX12_go.2.1 207 = .ok (.putfield 43, 3) := by decide +kernel
theorem dX12_go_210 : decode mX12_go.2.1 210 = .ok (.aload_n 0, 1) := by decide +kernel
theorem dX12_go_211 : decode mX12_go.2.1 211 = .ok (.iconst 0, 1) := by decide +kernel
theorem dX12_go_212 : decode mX12_go.2.1 212 = .ok (.putfield 47, 3) := by decide +kernel
theorem dX12_go_215 : decode mX12_go.2.1 215 = .ok (.aload_n 0, 1) := by decide +kernel
theorem dX12_go_216 : decode mX12_go.2.1 216 = .ok (.aload_n 0, 1) := by decide +kernel
theorem dX12_go_217 : decode mX12_go.2.1 217 = .ok (.getfield 21, 3) := by decide +kernel
theorem dX12_go_220 : decode mX12_go.2.1 220 = .ok (.invokevirtual 50, 3) := by decide +kernel
theorem dX12_go_223 : decode mX12_go.2.1 223 = .ok (.invokestatic 33, 3) := by decide +kernel
theorem dX12_go_226 : decode mX12_go.2.1 226 = .ok (.ifCond .ne 17, 3) := by decide +kernel
theorem dX12_go_229 : decode mX12_go.2.1 229 = .ok (.aload_n 0, 1) := by decide +kernel
theorem dX12_go_230 : decode mX12_go.2.1 230 = .ok (.aload_n 0, 1) := by decide +kernel
theorem dX12_go_231 : decode mX12_go.2.1 231 = .ok (.getfield 21, 3) := by decide +kernel
theorem dX12_go_234 : decode mX12_go.2.1 234 = .ok (.invokevirtual 50, 3) := by decide +kernel
theorem dX12_go_237 : decode mX12_go.2.1 237 = .ok (.invokestatic 37, 3) := by decide +kernel
theorem dX12_go_240 : decode mX12_go.2.1 240 = .ok (.ifCond .eq 110, 3) := by decide +kernel
theorem dX12_go_243 : decode mX12_go.2.1 243 = .ok (.aload_n 0, 1) := by decide +kernel
theorem dX12_go_244 : decode mX12_go.2.1 244 = .ok (.getfield 7, 3) := by decide +kernel
theorem dX12_go_247 : decode mX12_go.2.1 247 = .ok (.aload_n 0, 1) := by decide +kernel
theorem dX12_go_248 : decode mX12_go.2.1 248 = .ok (.getfield 21, 3) := by decide +kernel
theorem dX12_go_251 : decode mX12_go.2.1 251 = .ok (.iaload, 1) := by decide +kernel
theorem dX12_go_252 : decode mX12_go.2.1 252 = .ok (.istore 4, 2) := by decide +kernel
theorem dX12_go_254 : decode mX12_go.2.1 254 = .ok (.iload_n 3, 1) := by decide +kernel
theorem dX12_go_255 : decode mX12_go.2.1 255 = .ok (.ifCond .eq 16, 3) := by decide +kernel
theorem dX12_go_258 : decode mX12_go.2.1 258 = .ok (.iload 4, 2) := by decide +kernel
theorem dX12_go_260 : decode mX12_go.2.1 260 = .ok (.invokestatic 33, 3) := by decide +kernel
theorem dX12_go_263 : decode mX12_go.2.1 263 = .ok (.iload_n 2, 1) := by decide +kernel
theorem dX12_go_264 : decode mX12_go.2.1 264 = .ok (.if_icmp .ne 7, 3) := by decide +kernel
theorem dX12_go_267 : decode mX12_go.2.1 267 = .ok (.iconst 1, 1) := by decide +kernel
theorem dX12_go_268 : decode mX12_go.2.1 268 = .ok (.goto 4, 3) := by decide +kernel
theorem dX12_go_271 : decode mX12_go.2.1 271 = .ok (.iconst 0, 1) := by decide +kernel
theorem dX12_go_272 : decode mX12_go.2.1 272 = .ok (.istore_n 3, 1) := by decide +kernel
theorem dX12_go_273 : decode mX12_go.2.1 273 = .ok (.aload_n 0, 1) := by decide +kernel
theorem dX12_go_274 : decode mX12_go.2.1 274 = .ok (.getfield 21, 3) := by decide +kernel
theorem dX12_go_277 : decode mX12_go.2.1 277 = .ok (.aload_n 0, 1) := by decide +kernel
theorem dX12_go_278 : decode mX12_go.2.1 278 = .ok (.getfield 24, 3) := by decide +kernel
theorem dX12_go_281 : decode mX12_go.2.1 281 = .ok (.isub, 1) := by decide +kernel
theorem dX12_go_282 : decode mX12_go.2.1 282 = .ok (.bipush 7, 2) := by decide +kernel
theorem dX12_go_284 : decode mX12_go.2.1 284 = .ok (.if_icmp .ge 23, 3) := by decide +kernel
theorem dX12_go_287 : decode mX12_go.2.1 287 = .ok (.aload_n 0, 1) := by decide +kernel
theorem dX12_go_288 : decode mX12_go.2.1 288 = .ok (.ldc2_w 54, 3) := by decide +kernel
theorem dX12_go_291 : decode mX12_go.2.1 291 = .ok (.aload_n 0, 1) := by decide +kernel
theorem dX12_go_292 : decode mX12_go.2.1 292 = .ok (.getfield 43, 3) := by decide +kernel
theorem dX12_go_295 : decode mX12_go.2.1 295 = .ok (.lmul, 1) := by decide +kernel
theorem dX12_go_296 : decode mX12_go.2.1 296 = .ok (.iload 4, 2) := by decide +kernel
theorem dX12_go_298 : decode mX12_go.2.1 298 = .ok (.i2l, 1) := by decide +kernel
theorem dX12_go_299 : decode mX12_go.2.1 299 = .ok (.ladd, 1) := by decide +kernel
theorem dX12_go_300 : decode mX12_go.2.1 300 = .ok (.ldc2_w 56, 3) := by decide +kernel
theorem dX12_go_303 : decode mX12_go.2.1 303 = .ok (.lsub, 1) := by decide +kernel
theorem dX12_go_304 : decode mX12_go.2.1 304 = .ok (.putfield 43, 3) := by decide +kernel
theorem dX12_go_307 : decode mX12_go.2.1 307 = .ok (.aload_n 0, 1) := by decide +kernel
theorem dX12_go_308 : decode mX12_go.2.1 308 = .ok (.getfield 21, 3) := by decide +kernel
theorem dX12_go_311 : decode mX12_go.2.1 311 = .ok (.aload_n 0, 1) := by decide +kernel
theorem dX12_go_312 : decode mX12_go.2.1 312 = .ok (.getfield 24, 3) := by decide +kernel
theorem dX12_go_315 : decode mX12_go.2.1 315 = .ok (.isub, 1) := by decide +kernel
theorem dX12_go_316 : decode mX12_go.2.1 316 = .ok (.iconst 3, 1) := by decide +kernel
theorem dX12_go_317 : decode mX12_go.2.1 317 = .ok (.if_icmp .ge 20, 3) := by decide +kernel
theorem dX12_go_320 : decode mX12_go.2.1 320 = .ok (.aload_n 0, 1) := by decide +kernel
theorem dX12_go_321 : decode mX12_go.2.1 321 = .ok (.bipush 10, 2) := by decide +kernel
theorem dX12_go_323 : decode mX12_go.2.1 323 = .ok (.aload_n 0, 1) := by decide +kernel
theorem dX12_go_324 : decode mX12_go.2.1 324 = .ok (.getfield 47, 3) := by decide +kernel
theorem dX12_go_327 : decode mX12_go.2.1 327 = .ok (.imul, 1) := by decide +kernel
theorem dX12_go_328 : decode mX12_go.2.1 328 = .ok (.iload 4, 2) := by decide +kernel
theorem dX12_go_330 : decode mX12_go.2.1 330 = .ok (.iadd, 1) := by decide +kernel
theorem dX12_go_331 : decode mX12_go.2.1 331 = .ok (.bipush 48, 2) := by decide +kernel
theorem dX12_go_333 : decode mX12_go.2.1 333 = .ok (.isub, 1) := by decide +kernel
theorem dX12_go_334 : decode mX12_go.2.1 334 = .ok (.putfield 47, 3) := by decide +kernel
theorem dX12_go_337 : decode mX12_go.2.1 337 = .ok (.aload_n 0, 1) := by decide +kernel
theorem dX12_go_338 : decode mX12_go.2.1 338 = .ok (.dup, 1) := by decide +kernel
theorem dX12_go_339 : decode mX12_go.2.1 339 = .ok (.getfield 21, 3) := by decide +kernel
theorem dX12_go_342 : decode mX12_go.2.1 342 = .ok (.iconst 1, 1) := by decide +kernel
theorem dX12_go_343 : decode mX12_go.2.1 343 = .ok (.iadd, 1) := by decide +kernel
theorem dX12_go_344 : decode mX12_go.2.1 344 = .ok (.putfield 21, 3) := by decide +kernel
theorem dX12_go_347 : decode mX12_go.2.1 347 = .ok (.goto (-132), 3) := by decide +kernel
theorem dX12_go_350 : decode mX12_go.2.1 350 = .ok (.aload_n 0, 1) := by decide +kernel
theorem dX12_go_351 : decode mX12_go.2.1 351 = .ok (.iload_n 3, 1) := by decide +kernel
theorem dX12_go_352 : decode mX12_go.2.1 352 = .ok (.ifCond .eq 25, 3) := by decide +kernel
theorem dX12_go_355 : decode mX12_go.2.1 355 = .ok (.aload_n 0, 1) := by decide +kernel
theorem dX12_go_356 : decode mX12_go.2.1 356 = .ok (.getfield 21, 3) := by decide +kernel
theorem dX12_go_359 : decode mX12_go.2.1 359 = .ok (.aload_n 0, 1) := by decide +kernel
theorem dX12_go_360 : decode mX12_go.2.1 360 = .ok (.getfield 24, 3) := by decide +kernel
theorem dX12_go_363 : decode mX12_go.2.1 363 = .ok (.isub, 1) := by decide +kernel
theorem dX12_go_364 : decode mX12_go.2.1 364 = .ok (.iload_n 2, 1) := by decide +kernel
theorem dX12_go_365 : decode mX12_go.2.1 365 = .ok (.ifCond .eq 8, 3) := by decide +kernel
theorem dX12_go_368 : decode mX12_go.2.1 368 = .ok (.bipush 7, 2) := by decide +kernel
theorem dX12_go_370 : decode mX12_go.2.1 370 = .ok (.goto 4, 3) := by decide +kernel
theorem dX12_go_373 : decode mX12_go.2.1 373 = .ok (.iconst 3, 1) := by decide +kernel
theorem dX12_go_374 : decode mX12_go.2.1 374 = .ok (.if_icmp .le 7, 3) := by decide +kernel
theorem dX12_go_377 : decode mX12_go.2.1 377 = .ok (.iconst 1, 1) := by decide +kernel
theorem dX12_go_378 : decode mX12_go.2.1 378 = .ok (.goto 12, 3) := by decide +kernel
theorem dX12_go_381 : decode mX12_go.2.1 381 = .ok (.iload_n 2, 1) := by decide +kernel
theorem dX12_go_382 : decode mX12_go.2.1 382 = .ok (.ifCond .eq 7, 3) := by decide +kernel
theorem dX12_go_385 : decode mX12_go.2.1 385 = .ok (.iconst 2, 1) := by decide +kernel
theorem dX12_go_386 : decode mX12_go.2.1 386 = .ok (.goto 4, 3) := by decide +kernel
theorem dX12_go_389 : decode mX12_go.2.1 389 = .ok (.iconst 3, 1) := by decide +kernel
theorem dX12_go_390 : decode mX12_go.2.1 390 = .ok (.putfield 30, 3) := by decide +kernel
theorem dX12_go_393 : decode mX12_go.2.1 393 = .ok (.return_, 1) := by decide +kernel
set_option maxRecDepth 4000 in
theorem ev_X12_go {m : Mem} {G : Mem} {t : Int → Int} {kw : Int → Int} {n : Int} {lim : Int} {i : Int} (htm : TG G t kw n lim m i) : Ev 0 2 mX12_go [vr 214] m (fun r m' => Gx m m' ∧ TM G t kw n lim m' i) := by
  refine Ev.of (L := [vr 214, un, un, un, un]) (by decide +kernel) rfl (Nat.le_of_ble_eq_true rfl) rfl (fun t ht => by cases ht) (fun hcan => ?_)
  obtain ⟨hte, htb, hi, hto⟩ := id htm
  obtain ⟨hTk, hkw, hn, hlim, h255⟩ := id hte
  obtain ⟨hT1, hT2, hT3, hT4⟩ := id hTk
  have hTi := hT2 i hi.1 hi.2
  have hpb := posN_bb t (lim := lim) hn.1 i.toNat
  obtain ⟨a, ha⟩ : ∃ z, z = tokA t n lim i.toNat := ⟨_, rfl⟩
  have hpn : posN t n lim (i + 1).toNat = tokE t n lim a := by
    rw [show (i + 1).toNat = i.toNat + 1 by omega, ha]; rfl
  unfold tK at hTi
  rw [← ha] at hTi
  obtain ⟨hK, hP, hV⟩ := hTi
  have hab : posN t n lim i.toNat ≤ a ∧ a ≤ n := by rw [ha]; exact sk1_bb hpb.2
  have hsk0 : sk1 t n (m 214 5) = a := by rw [hto, ha]; rfl
  clear hT2 hT3 hT4 hTk
  have lp_0 : ∀ (n_0 : Nat) (m1 : Mem)  (x : Int), (0 ≤ x) → (x ≤ n) → (sk1 t n x = a) → (m1 = (wr m 214 5 x)) → (n - x).toNat < n_0 → Go 0 2 mX12_go (fun r m' => Gx m m' ∧ TM G t kw n lim m' i) 0 [vr 214, un, un, un, un] [] m1 := by
    intro n_0
    induction n_0 with
    | zero => intro m1 x hx0 hx1 hsk hm hmu; exact absurd hmu (Nat.not_lt_zero _)
    | succ n_0 ih_0 =>
      intro m1 x hx0 hx1 hsk hm hmu
      subst hm
      have htx := h255 x
      refine go_aload_n dX12_go_0 rfl ?_
      refine go_getf_i (ki := 5) dX12_go_1 fl_12_21 ob_214 rfl rfl (fun hf_1 => ?_)
      rw [show ((wr m 214 5 x) 214 5 : Int) = x from by rw [wr_self]] at hf_1 ⊢
      have cut_52 :  (x = a) → Go 0 2 mX12_go (fun r m' => Gx m m' ∧ TM G t kw n lim m' i) 52 [vr 214, un, un, un, un] [] (wr m 214 5 x) := by
        intro hxa
        refine go_aload_n dX12_go_52 rfl ?_
        refine go_aload_n dX12_go_53 rfl ?_
        refine go_getf_i (ki := 5) dX12_go_54 fl_12_21 ob_214 rfl rfl (fun hf_54 => ?_)
        rw [show ((wr m 214 5 x) 214 5 : Int) = x from by rw [wr_self]] at hf_54 ⊢
        refine go_putf_i (ki := 6) dX12_go_57 fw_12_24 ob_214 rfl rfl ⟨by omega, by omega⟩ ?_
        refine go_aload_n dX12_go_60 rfl ?_
        refine go_getf_i (ki := 3) dX12_go_61 fl_12_18 ob_214 rfl rfl (fun hf_61 => ?_)
        rw [show ((wr (wr m 214 5 x) 214 6 x) 214 3 : Int) = n from by rw [wr_ni (by decide), wr_ni (by decide)]; exact htb.1] at hf_61 ⊢
        refine go_aload_n dX12_go_64 rfl ?_
        refine go_getf_i (ki := 4) dX12_go_65 fl_12_27 ob_214 rfl rfl (fun hf_65 => ?_)
        rw [show ((wr (wr m 214 5 x) 214 6 x) 214 4 : Int) = lim from by rw [wr_ni (by decide), wr_ni (by decide)]; exact htb.2.1] at hf_65 ⊢
        refine go_icmp_le (tgt := 96) dX12_go_68 (by decide) ⟨by omega, by omega⟩ ⟨by omega, by omega⟩ (fun h_68 => ?_) (fun h_68 => ?_)
        · refine go_aload_n dX12_go_96 rfl ?_
          refine go_getf_i (ki := 5) dX12_go_97 fl_12_21 ob_214 rfl rfl (fun hf_97 => ?_)
          rw [show ((wr (wr m 214 5 x) 214 6 x) 214 5 : Int) = x from by rw [wr_ni (by decide), wr_self]] at hf_97 ⊢
          refine go_aload_n dX12_go_100 rfl ?_
          refine go_getf_i (ki := 3) dX12_go_101 fl_12_18 ob_214 rfl rfl (fun hf_101 => ?_)
          rw [show ((wr (wr m 214 5 x) 214 6 x) 214 3 : Int) = n from by rw [wr_ni (by decide), wr_ni (by decide)]; exact htb.1] at hf_101 ⊢
          refine go_icmp_lt (tgt := 113) dX12_go_104 (by decide) ⟨by omega, by omega⟩ ⟨by omega, by omega⟩ (fun h_104 => ?_) (fun h_104 => ?_)
          · have hPx : G 5 i = x := by omega
            refine go_aload_n dX12_go_113 rfl ?_
            refine go_getf_p (b := 215) dX12_go_114 fl_12_7 ob_214 rfl pt_214_1 ?_
            refine go_aload_n dX12_go_117 rfl ?_
            refine go_getf_i (ki := 5) dX12_go_118 fl_12_21 ob_214 rfl rfl (fun hf_118 => ?_)
            rw [show ((wr (wr m 214 5 x) 214 6 x) 214 5 : Int) = x from by rw [wr_ni (by decide), wr_self]] at hf_118 ⊢
            refine go_iaload dX12_go_121 ar_215 (by omega) (by omega) (fun he_121 => ?_)
            rw [show ((wr (wr m 214 5 x) 214 6 x) 215 x : Int) = (t x) from by rw [wr_na (by omega), wr_na (by omega)]; exact (htb.2.2 _ (by omega) (by omega))] at he_121 ⊢
            refine go_istore_n (L' := [vr 214, vi (t x), un, un, un]) dX12_go_122 (by decide) rfl rfl ?_
            refine go_iload_n dX12_go_123 rfl ?_
            have cut_179 : ∀  (kd : Int), ((kd = 4 ∧ isS (t x)) ∨ (kd = 1 ∧ ¬ isS (t x))) → (¬ (isL (t x) ∨ isD (t x))) → Go 0 2 mX12_go (fun r m' => Gx m m' ∧ TM G t kw n lim m' i) 179 [vr 214, vi (t x), un, un, un] [vi kd, vr 214] (wr (wr m 214 5 x) 214 6 x) := by
              intro kd hkd hnr
              refine go_putf_i (ki := 7) dX12_go_179 fw_12_30 ob_214 rfl rfl ⟨by omega, by omega⟩ ?_
              refine go_aload_n dX12_go_182 rfl ?_
              refine go_iload_n dX12_go_183 rfl ?_
              refine go_putf_i (ki := 9) dX12_go_184 fw_12_40 ob_214 rfl rfl ⟨by omega, by omega⟩ ?_
              refine go_aload_n dX12_go_187 rfl ?_
              refine go_dup_r dX12_go_188 ?_
              refine go_getf_i (ki := 5) dX12_go_189 fl_12_21 ob_214 rfl rfl (fun hf_189 => ?_)
              rw [show ((wr (wr (wr (wr m 214 5 x) 214 6 x) 214 7 kd) 214 9 (t x)) 214 5 : Int) = x from by rw [wr_ni (by decide), wr_ni (by decide), wr_ni (by decide), wr_self]] at hf_189 ⊢
              refine go_iconst dX12_go_192 ?_
              refine go_iadd dX12_go_193 ?_
              refine go_putf_i (ki := 5) dX12_go_194 fw_12_21 ob_214 rfl rfl ⟨by omega, by omega⟩ ?_
              refine go_ret (v := 0) rfl dX12_go_197 rfl ?_
              have hKx : G 4 i = if isS (t x) then t x else 1 := by rw [hK, ← hxa]; unfold tokK; rw [if_neg (by omega), if_neg (by omega), if_neg hnr]
              have hpx : posN t n lim (i + 1).toNat = x + 1 := by rw [hpn, ← hxa]; unfold tokE; rw [if_neg (by omega), if_neg hnr]
              refine TM.mk' htm (((((Gx.rf.w (by omega)).w (by omega)).w (by omega)).w (by omega)).w (by omega)) (fun h => by rw [wr_self, hpx]) (by rw [wr_ni (by decide), wr_ni (by decide), wr_ni (by decide), wr_self, hPx]) ?_
              unfold TKd
              rcases hkd with ⟨e, h⟩ | ⟨e, h⟩
              · rw [if_pos h] at hKx
                exact Or.inr (Or.inr (Or.inr (Or.inr ⟨by rw [hKx]; exact h, by rw [wr_ni (by decide), wr_ni (by decide), wr_self]; exact e, by rw [wr_ni (by decide), wr_self]; exact hKx.symm⟩)))
              · rw [if_neg h] at hKx
                exact Or.inr (Or.inl ⟨hKx, by rw [wr_ni (by decide), wr_ni (by decide), wr_self]; exact e⟩)
            have cut_198 :  (rnP (t x)) → Go 0 2 mX12_go (fun r m' => Gx m m' ∧ TM G t kw n lim m' i) 198 [vr 214, vi (t x), un, un, un] [] (wr (wr m 214 5 x) 214 6 x) := by
              intro hrun
              have hKx : G 4 i = runK t kw x (rn1 t n x) := by rw [hK, ← hxa]; unfold tokK; rw [if_neg (by omega), if_neg (by omega), if_pos (show isL (t x) ∨ isD (t x) from hrun)]
              have hpx : posN t n lim (i + 1).toNat = rn1 t n x := by rw [hpn, ← hxa]; unfold tokE; rw [if_neg (by omega), if_pos (show isL (t x) ∨ isD (t x) from hrun)]
              have hVx := hV ⟨by omega, by omega, by rw [← hxa]; exact hrun⟩
              rw [← hxa] at hVx
              refine go_iload_n dX12_go_198 rfl ?_
              refine go_callSp_z (as := [vi (t x)]) (S := []) (ev_X12_isLetter (m := (wr (wr m 214 5 x) 214 6 x)) (c := (t x)) (by first | assumption | omega | exact ⟨by omega, by omega⟩ | (constructor <;> omega))) rfl dX12_go_199 cs_12_33 rfl rfl (by decide) (Nat.le_of_ble_eq_true rfl) (fun r_199 hr_199 ho_199 => ?_)
              refine go_istore_n (L' := [vr 214, vi (t x), vi r_199, un, un]) dX12_go_202 (by decide) rfl rfl ?_
              refine go_iconst dX12_go_203 ?_
              refine go_istore_n (L' := [vr 214, vi (t x), vi r_199, vi 1, un]) dX12_go_204 (by decide) rfl rfl ?_
              refine go_aload_n dX12_go_205 rfl ?_
              refine go_lconst (z := 0) dX12_go_206 (by decide) ?_
              refine go_putf_l (ki := 12) dX12_go_207 fw_12_43 ob_214 rfl rfl ⟨by omega, by omega⟩ ?_
              refine go_aload_n dX12_go_210 rfl ?_
              refine go_iconst dX12_go_211 ?_
              refine go_putf_i (ki := 8) dX12_go_212 fw_12_47 ob_214 rfl rfl ⟨by omega, by omega⟩ ?_
              refine go_drop (j := 1) (L' := [vr 214, un, vi r_199, vi 1, un]) rfl ?_
              have lp_215 : ∀ (n_215 : Nat) (m2 : Mem) (gd : Int) (x2 : Int), (x ≤ x2) → (x2 ≤ n) → (rn1 t n x2 = rn1 t n x) → (gdP t r_199 x x2 gd) → (gd = 0 ∨ gd = 1) → (onP t r_199 x x2) → (Gx m m2) → (m2 214 5 = x2) → (m2 214 6 = x) → (m2 214 12 = wvN t x (x2 - x).toNat) → (m2 214 8 = nvN t x (x2 - x).toNat) → (n - x2).toNat < n_215 → Go 0 2 mX12_go (fun r m' => Gx m m' ∧ TM G t kw n lim m' i) 215 [vr 214, un, vi r_199, vi gd, un] [] m2 := by
                intro n_215
                induction n_215 with
                | zero => intro m2 gd x2 hy0 hy1 hrn hgd hgd1 hone hgx h5 h6 h12 h8 hmu; exact absurd hmu (Nat.not_lt_zero _)
                | succ n_215 ih_215 =>
                  intro m2 gd x2 hy0 hy1 hrn hgd hgd1 hone hgx h5 h6 h12 h8 hmu
                  have htx2 := h255 x2
                  have htb2 : TB t n lim m2 := htb.gx hgx
                  have hwR := wvN_R t x (x2 - x).toNat
                  have hnR := nvN_R t x (x2 - x).toNat
                  refine go_aload_n dX12_go_215 rfl ?_
                  have cut_243 :  (x2 < n) → (rnP (t x2)) → Go 0 2 mX12_go (fun r m' => Gx m m' ∧ TM G t kw n lim m' i) 243 [vr 214, un, vi r_199, vi gd, un] [] m2 := by
                    intro hcn hcr
                    refine go_aload_n dX12_go_243 rfl ?_
                    refine go_getf_p (b := 215) dX12_go_244 fl_12_7 ob_214 rfl pt_214_1 ?_
                    refine go_aload_n dX12_go_247 rfl ?_
                    refine go_getf_i (ki := 5) dX12_go_248 fl_12_21 ob_214 rfl rfl (fun hf_248 => ?_)
                    rw [show (m2 214 5 : Int) = x2 from h5] at hf_248 ⊢
                    refine go_iaload dX12_go_251 ar_215 (by omega) (by omega) (fun he_251 => ?_)
                    rw [show (m2 215 x2 : Int) = (t x2) from htb2.2.2 x2 (by omega) (by omega)] at he_251 ⊢
                    refine go_istore (L' := [vr 214, un, vi r_199, vi gd, vi (t x2)]) dX12_go_252 (by decide) rfl rfl ?_
                    have cut_272 : ∀  (g2 : Int), (gdP t r_199 x (x2 + 1) g2) → (g2 = 0 ∨ g2 = 1) → Go 0 2 mX12_go (fun r m' => Gx m m' ∧ TM G t kw n lim m' i) 272 [vr 214, un, vi r_199, un, vi (t x2)] [vi g2] m2 := by
                      intro g2 hg2 hg21
                      refine go_istore_n (L' := [vr 214, un, vi r_199, vi g2, vi (t x2)]) dX12_go_272 (by decide) rfl rfl ?_
                      refine go_aload_n dX12_go_273 rfl ?_
                      have cut_307 : ∀ (m3 : Mem)  , (Gx m m3) → (m3 214 5 = x2) → (m3 214 6 = x) → (m3 214 12 = wvN t x (x2 + 1 - x).toNat) → (m3 214 8 = nvN t x (x2 - x).toNat) → Go 0 2 mX12_go (fun r m' => Gx m m' ∧ TM G t kw n lim m' i) 307 [vr 214, un, vi r_199, vi g2, vi (t x2)] [] m3 := by
                        intro m3 kgx k5 k6 k12 k8
                        refine go_aload_n dX12_go_307 rfl ?_
                        have cut_337 : ∀ (m4 : Mem)  , (Gx m m4) → (m4 214 5 = x2) → (m4 214 6 = x) → (m4 214 12 = wvN t x (x2 + 1 - x).toNat) → (m4 214 8 = nvN t x (x2 + 1 - x).toNat) → Go 0 2 mX12_go (fun r m' => Gx m m' ∧ TM G t kw n lim m' i) 337 [vr 214, un, vi r_199, vi g2, un] [] m4 := by
                          intro m4 jgx j5 j6 j12 j8
                          refine go_aload_n dX12_go_337 rfl ?_
                          refine go_dup_r dX12_go_338 ?_
                          refine go_getf_i (ki := 5) dX12_go_339 fl_12_21 ob_214 rfl rfl (fun hf_339 => ?_)
                          rw [show (m4 214 5 : Int) = x2 from j5] at hf_339 ⊢
                          refine go_iconst dX12_go_342 ?_
                          refine go_iadd dX12_go_343 ?_
                          refine go_putf_i (ki := 5) dX12_go_344 fw_12_21 ob_214 rfl rfl ⟨by omega, by omega⟩ ?_
                          refine go_goto (tgt := 215) dX12_go_347 (by decide) ?_
                          exact ih_215 (wr m4 214 5 (x2 + 1)) g2 (x2 + 1) (by first | assumption | omega | rfl) (by first | assumption | omega | rfl) (by rw [← hrn]; exact (rn1_t hcn hcr).symm) hg2 hg21 (onP_s hy0 hone hr_199) (jgx.w (by omega)) (wr_self _ _ _ _) (by rw [wr_ni (by decide)]; exact j6) (by rw [wr_ni (by decide)]; exact j12) (by rw [wr_ni (by decide)]; exact j8) (by omega)
                        refine go_getf_i (ki := 5) dX12_go_308 fl_12_21 ob_214 rfl rfl (fun hf_308 => ?_)
                        rw [show (m3 214 5 : Int) = x2 from k5] at hf_308 ⊢
                        refine go_aload_n dX12_go_311 rfl ?_
                        refine go_getf_i (ki := 6) dX12_go_312 fl_12_24 ob_214 rfl rfl (fun hf_312 => ?_)
                        rw [show (m3 214 6 : Int) = x from k6] at hf_312 ⊢
                        refine go_isub dX12_go_315 ?_
                        refine go_iconst dX12_go_316 ?_
                        refine go_icmp_ge (tgt := 337) dX12_go_317 (by decide) ⟨by omega, by omega⟩ ⟨by omega, by omega⟩ (fun h_317 => ?_) (fun h_317 => ?_)
                        · refine go_drop (j := 4) (L' := [vr 214, un, vi r_199, vi g2, un]) rfl ?_
                          exact cut_337 m3 (by first | exact kgx | exact kgx.w (by omega)) (by first | exact k5 | (rw [wr_ni (by decide)]; exact k5)) (by first | exact k6 | (rw [wr_ni (by decide)]; exact k6)) (by first | exact k12 | (rw [wr_ni (by decide)]; exact k12)) (by rw [nvN_s hy0]; first | (rw [if_neg (by omega)]; exact k8) | (rw [if_pos (by omega), wr_self]))
                        · refine go_aload_n dX12_go_320 rfl ?_
                          refine go_bipush dX12_go_321 (by decide) ?_
                          refine go_aload_n dX12_go_323 rfl ?_
                          refine go_getf_i (ki := 8) dX12_go_324 fl_12_47 ob_214 rfl rfl (fun hf_324 => ?_)
                          rw [show (m3 214 8 : Int) = (nvN t x (x2 - x).toNat) from k8] at hf_324 ⊢
                          refine go_imul dX12_go_327 ?_
                          refine go_iload dX12_go_328 rfl ?_
                          refine go_iadd dX12_go_330 ?_
                          refine go_bipush dX12_go_331 (by decide) ?_
                          refine go_isub dX12_go_333 ?_
                          refine go_wrap ?_
                          refine go_putf_i (ki := 8) dX12_go_334 fw_12_47 ob_214 rfl rfl (w32_R _) ?_
                          refine go_drop (j := 4) (L' := [vr 214, un, vi r_199, vi g2, un]) rfl ?_
                          exact cut_337 (wr m3 214 8 (w32 (((10 * (nvN t x (x2 - x).toNat)) + (t x2)) - 48))) (by first | exact kgx | exact kgx.w (by omega)) (by first | exact k5 | (rw [wr_ni (by decide)]; exact k5)) (by first | exact k6 | (rw [wr_ni (by decide)]; exact k6)) (by first | exact k12 | (rw [wr_ni (by decide)]; exact k12)) (by rw [nvN_s hy0]; first | (rw [if_neg (by omega)]; exact k8) | (rw [if_pos (by omega), wr_self]))
                      refine go_getf_i (ki := 5) dX12_go_274 fl_12_21 ob_214 rfl rfl (fun hf_274 => ?_)
                      rw [show (m2 214 5 : Int) = x2 from h5] at hf_274 ⊢
                      refine go_aload_n dX12_go_277 rfl ?_
                      refine go_getf_i (ki := 6) dX12_go_278 fl_12_24 ob_214 rfl rfl (fun hf_278 => ?_)
                      rw [show (m2 214 6 : Int) = x from h6] at hf_278 ⊢
                      refine go_isub dX12_go_281 ?_
                      refine go_bipush dX12_go_282 (by decide) ?_
                      refine go_icmp_ge (tgt := 307) dX12_go_284 (by decide) ⟨by omega, by omega⟩ ⟨by omega, by omega⟩ (fun h_284 => ?_) (fun h_284 => ?_)
                      · exact cut_307 m2 (by first | exact hgx | exact hgx.w (by omega)) (by first | exact h5 | (rw [wr_ni (by decide)]; exact h5)) (by first | exact h6 | (rw [wr_ni (by decide)]; exact h6)) (by rw [wvN_s hy0]; first | (rw [if_neg (by omega)]; exact h12) | (rw [if_pos (by omega), wr_self])) (by first | exact h8 | (rw [wr_ni (by decide)]; exact h8))
                      · refine go_aload_n dX12_go_287 rfl ?_
                        refine go_ldc2 (x := 27) dX12_go_288 k_12_54 ?_
                        refine go_aload_n dX12_go_291 rfl ?_
                        refine go_getf_l (ki := 12) dX12_go_292 fl_12_43 ob_214 rfl rfl (fun hf_292 => ?_)
                        rw [show (m2 214 12 : Int) = (wvN t x (x2 - x).toNat) from h12] at hf_292 ⊢
                        refine go_lmul dX12_go_295 ?_
                        refine go_iload dX12_go_296 rfl ?_
                        refine go_i2l dX12_go_298 ⟨by omega, by omega⟩ ?_
                        refine go_ladd dX12_go_299 ?_
                        refine go_ldc2 (x := 96) dX12_go_300 k_12_56 ?_
                        refine go_lsub dX12_go_303 ?_
                        refine go_wrapL ?_
                        refine go_putf_l (ki := 12) dX12_go_304 fw_12_43 ob_214 rfl rfl (w64_R _) ?_
                        exact cut_307 (wr m2 214 12 (w64 (((27 * (wvN t x (x2 - x).toNat)) + (t x2)) - 96))) (by first | exact hgx | exact hgx.w (by omega)) (by first | exact h5 | (rw [wr_ni (by decide)]; exact h5)) (by first | exact h6 | (rw [wr_ni (by decide)]; exact h6)) (by rw [wvN_s hy0]; first | (rw [if_neg (by omega)]; exact h12) | (rw [if_pos (by omega), wr_self])) (by first | exact h8 | (rw [wr_ni (by decide)]; exact h8))
                    refine go_iload_n dX12_go_254 rfl ?_
                    refine go_if_eq (tgt := 271) dX12_go_255 (by decide) ⟨by omega, by omega⟩ (fun h_255 => ?_) (fun h_255 => ?_)
                    · refine go_iconst dX12_go_271 ?_
                      refine go_drop (j := 3) (L' := [vr 214, un, vi r_199, un, vi (t x2)]) rfl ?_
                      exact cut_272 0 (gdP_s hy0 hgd (by omega) (by first | (rw [if_pos ⟨by omega, by omega⟩]) | (rw [if_neg (fun y => by rcases y with ⟨y1, y2 | y2⟩ <;> omega)]))) (by first | assumption | rfl | omega)
                    · refine go_iload dX12_go_258 rfl ?_
                      refine go_callSp_z (as := [vi (t x2)]) (S := []) (ev_X12_isLetter (m := m2) (c := (t x2)) (by first | assumption | omega | exact ⟨by omega, by omega⟩ | (constructor <;> omega))) rfl dX12_go_260 cs_12_33 rfl rfl (by decide) (Nat.le_of_ble_eq_true rfl) (fun r_260 hr_260 ho_260 => ?_)
                      refine go_iload_n dX12_go_263 rfl ?_
                      refine go_icmp_ne (tgt := 271) dX12_go_264 (by decide) ⟨by omega, by omega⟩ ⟨by omega, by omega⟩ (fun h_264 => ?_) (fun h_264 => ?_)
                      · refine go_iconst dX12_go_271 ?_
                        refine go_drop (j := 3) (L' := [vr 214, un, vi r_199, un, vi (t x2)]) rfl ?_
                        exact cut_272 0 (gdP_s hy0 hgd (by omega) (by first | (rw [if_pos ⟨by omega, by omega⟩]) | (rw [if_neg (fun y => by rcases y with ⟨y1, y2 | y2⟩ <;> omega)]))) (by first | assumption | rfl | omega)
                      · refine go_iconst dX12_go_267 ?_
                        refine go_goto (tgt := 272) dX12_go_268 (by decide) ?_
                        refine go_drop (j := 3) (L' := [vr 214, un, vi r_199, un, vi (t x2)]) rfl ?_
                        exact cut_272 1 (gdP_s hy0 hgd (by omega) (by first | (rw [if_pos ⟨by omega, by omega⟩]) | (rw [if_neg (fun y => by rcases y with ⟨y1, y2 | y2⟩ <;> omega)]))) (by first | assumption | rfl | omega)
                  refine go_aload_n dX12_go_216 rfl ?_
                  refine go_getf_i (ki := 5) dX12_go_217 fl_12_21 ob_214 rfl rfl (fun hf_217 => ?_)
                  rw [show (m2 214 5 : Int) = x2 from h5] at hf_217 ⊢
                  refine go_callVp_i (as := [vi x2]) (S := []) (b := 214) (ev_X12_tapeAt (m := m2) (x := x2) (t := t) (n := n) (lim := lim) htb2 (by first | assumption | omega | exact ⟨by omega, by omega⟩ | (constructor <;> omega)) (by first | assumption | omega | exact ⟨by omega, by omega⟩ | (constructor <;> omega))) rfl dX12_go_220 cv_12_50 rfl rfl ob_214 rfl (by decide) (Nat.le_of_ble_eq_true rfl) (fun r_220 hr_220 ho_220 => ?_)
                  refine go_callSp_z (as := [vi r_220]) (S := []) (ev_X12_isLetter (m := m2) (c := r_220) (by first | assumption | omega | exact ⟨by omega, by omega⟩ | (constructor <;> omega))) rfl dX12_go_223 cs_12_33 rfl rfl (by decide) (Nat.le_of_ble_eq_true rfl) (fun r_223 hr_223 ho_223 => ?_)
                  refine go_if_ne (tgt := 243) dX12_go_226 (by decide) ⟨by omega, by omega⟩ (fun h_226 => ?_) (fun h_226 => ?_)
                  · exact cut_243  (by by_cases q : x2 < n; exact q; (exfalso; rw [if_neg q] at hr_220; first | (rw [hr_220] at hr_223; unfold isL at hr_223; omega) | (rw [if_neg q] at hr_234; rw [hr_234] at hr_237; unfold isD at hr_237; omega))) (by by_cases q : x2 < n; (rw [if_pos q] at hr_220; unfold rnP; first | (left; rw [← hr_220]; omega) | (right; rw [if_pos q] at hr_234; rw [← hr_234]; omega)); (exfalso; rw [if_neg q] at hr_220; first | (rw [hr_220] at hr_223; unfold isL at hr_223; omega) | (rw [if_neg q] at hr_234; rw [hr_234] at hr_237; unfold isD at hr_237; omega)))
                  · refine go_aload_n dX12_go_229 rfl ?_
                    refine go_aload_n dX12_go_230 rfl ?_
                    refine go_getf_i (ki := 5) dX12_go_231 fl_12_21 ob_214 rfl rfl (fun hf_231 => ?_)
                    rw [show (m2 214 5 : Int) = x2 from h5] at hf_231 ⊢
                    refine go_callVp_i (as := [vi x2]) (S := []) (b := 214) (ev_X12_tapeAt (m := m2) (x := x2) (t := t) (n := n) (lim := lim) htb2 (by first | assumption | omega | exact ⟨by omega, by omega⟩ | (constructor <;> omega)) (by first | assumption | omega | exact ⟨by omega, by omega⟩ | (constructor <;> omega))) rfl dX12_go_234 cv_12_50 rfl rfl ob_214 rfl (by decide) (Nat.le_of_ble_eq_true rfl) (fun r_234 hr_234 ho_234 => ?_)
                    refine go_callSp_z (as := [vi r_234]) (S := []) (ev_X12_isDigit (m := m2) (c := r_234) (by first | assumption | omega | exact ⟨by omega, by omega⟩ | (constructor <;> omega))) rfl dX12_go_237 cs_12_37 rfl rfl (by decide) (Nat.le_of_ble_eq_true rfl) (fun r_237 hr_237 ho_237 => ?_)
                    refine go_if_eq (tgt := 350) dX12_go_240 (by decide) ⟨by omega, by omega⟩ (fun h_240 => ?_) (fun h_240 => ?_)
                    · have hnc : ¬ (x2 < n ∧ (isL (t x2) ∨ isD (t x2))) := by
                        rintro ⟨q, h⟩
                        rw [if_pos q] at hr_220 hr_234; rw [hr_220] at hr_223; rw [hr_234] at hr_237
                        rcases h with h | h
                        · rcases hr_223 with z | z
                          · omega
                          · exact z.2 h
                        · rcases hr_237 with z | z
                          · omega
                          · exact z.2 h
                      have he : rn1 t n x = x2 := by rw [← hrn]; exact rn1_f hnc
                      rw [he] at hKx hVx hpx
                      have hx2x : x2 ≠ x := by
                        intro q; subst q; exact hnc ⟨by omega, hrun⟩
                      refine go_aload_n dX12_go_350 rfl ?_
                      refine go_iload_n dX12_go_351 rfl ?_
                      have cut_390 : ∀  (kd : Int), (kd = 1 ∨ kd = 2 ∨ kd = 3) → (kdP G t i x x2 kd) → Go 0 2 mX12_go (fun r m' => Gx m m' ∧ TM G t kw n lim m' i) 390 [un, un, un, un, un] [vi kd, vr 214] m2 := by
                        intro kd hkr hkd
                        refine go_putf_i (ki := 7) dX12_go_390 fw_12_30 ob_214 rfl rfl ⟨by omega, by omega⟩ ?_
                        refine go_ret (v := 0) rfl dX12_go_393 rfl ?_
                        refine TM.mk' htm (hgx.w (by omega)) (fun h => by rw [wr_ni (by decide), h5, hpx]) (by rw [wr_ni (by decide), h6, hPx]) ?_
                        unfold TKd
                        rw [wr_self, wr_ni (by decide), wr_ni (by decide), wr_ni (by decide), h8, h12]
                        rcases hkd with ⟨e, h⟩ | ⟨e, h1, h2, h3⟩ | ⟨e, h1, h2⟩
                        · exact Or.inr (Or.inl ⟨h, e⟩)
                        · exact Or.inr (Or.inr (Or.inr (Or.inl ⟨⟨h1, e⟩, h2, h3⟩)))
                        · exact Or.inr (Or.inr (Or.inl ⟨h1, e, h2⟩))
                      refine go_if_eq (tgt := 377) dX12_go_352 (by decide) ⟨by omega, by omega⟩ (fun h_352 => ?_) (fun h_352 => ?_)
                      · refine go_iconst dX12_go_377 ?_
                        refine go_goto (tgt := 390) dX12_go_378 (by decide) ?_
                        refine go_drop (j := 0) (L' := [un, un, vi r_199, vi gd, un]) rfl ?_
                        refine go_drop (j := 2) (L' := [un, un, un, vi gd, un]) rfl ?_
                        refine go_drop (j := 3) (L' := [un, un, un, un, un]) rfl ?_
                        exact cut_390 1 (by first | assumption | rfl | omega) (kdP_of hy0 hkw hKx hVx (by omega) hgd hone hx2x (by first | (exfalso; omega) | (rw [if_pos (by omega)]) | (rw [if_neg (by omega), if_pos (by omega)]) | (rw [if_neg (by omega), if_neg (by omega)])))
                      · refine go_aload_n dX12_go_355 rfl ?_
                        refine go_getf_i (ki := 5) dX12_go_356 fl_12_21 ob_214 rfl rfl (fun hf_356 => ?_)
                        rw [show (m2 214 5 : Int) = x2 from h5] at hf_356 ⊢
                        refine go_aload_n dX12_go_359 rfl ?_
                        refine go_getf_i (ki := 6) dX12_go_360 fl_12_24 ob_214 rfl rfl (fun hf_360 => ?_)
                        rw [show (m2 214 6 : Int) = x from h6] at hf_360 ⊢
                        refine go_isub dX12_go_363 ?_
                        refine go_iload_n dX12_go_364 rfl ?_
                        refine go_if_eq (tgt := 373) dX12_go_365 (by decide) ⟨by omega, by omega⟩ (fun h_365 => ?_) (fun h_365 => ?_)
                        · refine go_iconst dX12_go_373 ?_
                          refine go_icmp_le (tgt := 381) dX12_go_374 (by decide) ⟨by omega, by omega⟩ ⟨by omega, by omega⟩ (fun h_374 => ?_) (fun h_374 => ?_)
                          · refine go_iload_n dX12_go_381 rfl ?_
                            refine go_if_eq (tgt := 389) dX12_go_382 (by decide) ⟨by omega, by omega⟩ (fun h_382 => ?_) (fun h_382 => ?_)
                            · refine go_iconst dX12_go_389 ?_
                              refine go_drop (j := 0) (L' := [un, un, vi r_199, vi gd, un]) rfl ?_
                              refine go_drop (j := 2) (L' := [un, un, un, vi gd, un]) rfl ?_
                              refine go_drop (j := 3) (L' := [un, un, un, un, un]) rfl ?_
                              exact cut_390 3 (by first | assumption | rfl | omega) (kdP_of hy0 hkw hKx hVx (by omega) hgd hone hx2x (by first | (exfalso; omega) | (rw [if_pos (by omega)]) | (rw [if_neg (by omega), if_pos (by omega)]) | (rw [if_neg (by omega), if_neg (by omega)])))
                            · refine go_iconst dX12_go_385 ?_
                              refine go_goto (tgt := 390) dX12_go_386 (by decide) ?_
                              refine go_drop (j := 0) (L' := [un, un, vi r_199, vi gd, un]) rfl ?_
                              refine go_drop (j := 2) (L' := [un, un, un, vi gd, un]) rfl ?_
                              refine go_drop (j := 3) (L' := [un, un, un, un, un]) rfl ?_
                              exact cut_390 2 (by first | assumption | rfl | omega) (kdP_of hy0 hkw hKx hVx (by omega) hgd hone hx2x (by first | (exfalso; omega) | (rw [if_pos (by omega)]) | (rw [if_neg (by omega), if_pos (by omega)]) | (rw [if_neg (by omega), if_neg (by omega)])))
                          · refine go_iconst dX12_go_377 ?_
                            refine go_goto (tgt := 390) dX12_go_378 (by decide) ?_
                            refine go_drop (j := 0) (L' := [un, un, vi r_199, vi gd, un]) rfl ?_
                            refine go_drop (j := 2) (L' := [un, un, un, vi gd, un]) rfl ?_
                            refine go_drop (j := 3) (L' := [un, un, un, un, un]) rfl ?_
                            exact cut_390 1 (by first | assumption | rfl | omega) (kdP_of hy0 hkw hKx hVx (by omega) hgd hone hx2x (by first | (exfalso; omega) | (rw [if_pos (by omega)]) | (rw [if_neg (by omega), if_pos (by omega)]) | (rw [if_neg (by omega), if_neg (by omega)])))
                        · refine go_bipush dX12_go_368 (by decide) ?_
                          refine go_goto (tgt := 374) dX12_go_370 (by decide) ?_
                          refine go_icmp_le (tgt := 381) dX12_go_374 (by decide) ⟨by omega, by omega⟩ ⟨by omega, by omega⟩ (fun h_374 => ?_) (fun h_374 => ?_)
                          · refine go_iload_n dX12_go_381 rfl ?_
                            refine go_if_eq (tgt := 389) dX12_go_382 (by decide) ⟨by omega, by omega⟩ (fun h_382 => ?_) (fun h_382 => ?_)
                            · refine go_iconst dX12_go_389 ?_
                              refine go_drop (j := 0) (L' := [un, un, vi r_199, vi gd, un]) rfl ?_
                              refine go_drop (j := 2) (L' := [un, un, un, vi gd, un]) rfl ?_
                              refine go_drop (j := 3) (L' := [un, un, un, un, un]) rfl ?_
                              exact cut_390 3 (by first | assumption | rfl | omega) (kdP_of hy0 hkw hKx hVx (by omega) hgd hone hx2x (by first | (exfalso; omega) | (rw [if_pos (by omega)]) | (rw [if_neg (by omega), if_pos (by omega)]) | (rw [if_neg (by omega), if_neg (by omega)])))
                            · refine go_iconst dX12_go_385 ?_
                              refine go_goto (tgt := 390) dX12_go_386 (by decide) ?_
                              refine go_drop (j := 0) (L' := [un, un, vi r_199, vi gd, un]) rfl ?_
                              refine go_drop (j := 2) (L' := [un, un, un, vi gd, un]) rfl ?_
                              refine go_drop (j := 3) (L' := [un, un, un, un, un]) rfl ?_
                              exact cut_390 2 (by first | assumption | rfl | omega) (kdP_of hy0 hkw hKx hVx (by omega) hgd hone hx2x (by first | (exfalso; omega) | (rw [if_pos (by omega)]) | (rw [if_neg (by omega), if_pos (by omega)]) | (rw [if_neg (by omega), if_neg (by omega)])))
                          · refine go_iconst dX12_go_377 ?_
                            refine go_goto (tgt := 390) dX12_go_378 (by decide) ?_
                            refine go_drop (j := 0) (L' := [un, un, vi r_199, vi gd, un]) rfl ?_
                            refine go_drop (j := 2) (L' := [un, un, un, vi gd, un]) rfl ?_
                            refine go_drop (j := 3) (L' := [un, un, un, un, un]) rfl ?_
                            exact cut_390 1 (by first | assumption | rfl | omega) (kdP_of hy0 hkw hKx hVx (by omega) hgd hone hx2x (by first | (exfalso; omega) | (rw [if_pos (by omega)]) | (rw [if_neg (by omega), if_pos (by omega)]) | (rw [if_neg (by omega), if_neg (by omega)])))
                    · exact cut_243  (by by_cases q : x2 < n; exact q; (exfalso; rw [if_neg q] at hr_220; first | (rw [hr_220] at hr_223; unfold isL at hr_223; omega) | (rw [if_neg q] at hr_234; rw [hr_234] at hr_237; unfold isD at hr_237; omega))) (by by_cases q : x2 < n; (rw [if_pos q] at hr_220; unfold rnP; first | (left; rw [← hr_220]; omega) | (right; rw [if_pos q] at hr_234; rw [← hr_234]; omega)); (exfalso; rw [if_neg q] at hr_220; first | (rw [hr_220] at hr_223; unfold isL at hr_223; omega) | (rw [if_neg q] at hr_234; rw [hr_234] at hr_237; unfold isD at hr_237; omega)))
              exact lp_215 _ (wr (wr (wr (wr m 214 5 x) 214 6 x) 214 12 0) 214 8 0) 1 x (by first | assumption | omega | rfl) (by first | assumption | omega | rfl) (by first | assumption | omega | rfl) gdP_0 (by first | assumption | omega | rfl) (Or.inl rfl) ((((Gx.rf.w (by omega)).w (by omega)).w (by omega)).w (by omega)) (by rw [wr_ni (by decide), wr_ni (by decide), wr_ni (by decide), wr_self]) (by rw [wr_ni (by decide), wr_ni (by decide), wr_self]) (by rw [wr_ni (by decide), wr_self, show (x - x).toNat = 0 by omega]; rfl) (by rw [wr_self, show (x - x).toNat = 0 by omega]; rfl) (Nat.lt_succ_self _)
            refine go_callSp_z (as := [vi (t x)]) (S := []) (ev_X12_isLetter (m := (wr (wr m 214 5 x) 214 6 x)) (c := (t x)) (by first | assumption | omega | exact ⟨by omega, by omega⟩ | (constructor <;> omega))) rfl dX12_go_124 cs_12_33 rfl rfl (by decide) (Nat.le_of_ble_eq_true rfl) (fun r_124 hr_124 ho_124 => ?_)
            refine go_if_ne (tgt := 198) dX12_go_127 (by decide) ⟨by omega, by omega⟩ (fun h_127 => ?_) (fun h_127 => ?_)
            · exact cut_198  (by unfold rnP; omega)
            · refine go_iload_n dX12_go_130 rfl ?_
              refine go_callSp_z (as := [vi (t x)]) (S := []) (ev_X12_isDigit (m := (wr (wr m 214 5 x) 214 6 x)) (c := (t x)) (by first | assumption | omega | exact ⟨by omega, by omega⟩ | (constructor <;> omega))) rfl dX12_go_131 cs_12_37 rfl rfl (by decide) (Nat.le_of_ble_eq_true rfl) (fun r_131 hr_131 ho_131 => ?_)
              refine go_if_ne (tgt := 198) dX12_go_134 (by decide) ⟨by omega, by omega⟩ (fun h_134 => ?_) (fun h_134 => ?_)
              · exact cut_198  (by unfold rnP; omega)
              · refine go_aload_n dX12_go_137 rfl ?_
                refine go_iload_n dX12_go_138 rfl ?_
                refine go_bipush dX12_go_139 (by decide) ?_
                refine go_icmp_eq (tgt := 174) dX12_go_141 (by decide) ⟨by omega, by omega⟩ ⟨by omega, by omega⟩ (fun h_141 => ?_) (fun h_141 => ?_)
                · refine go_iconst dX12_go_174 ?_
                  refine go_goto (tgt := 179) dX12_go_175 (by decide) ?_
                  exact cut_179 4 (by first | assumption | rfl | omega) (by first | assumption | rfl | omega)
                · refine go_iload_n dX12_go_144 rfl ?_
                  refine go_bipush dX12_go_145 (by decide) ?_
                  refine go_icmp_eq (tgt := 174) dX12_go_147 (by decide) ⟨by omega, by omega⟩ ⟨by omega, by omega⟩ (fun h_147 => ?_) (fun h_147 => ?_)
                  · refine go_iconst dX12_go_174 ?_
                    refine go_goto (tgt := 179) dX12_go_175 (by decide) ?_
                    exact cut_179 4 (by first | assumption | rfl | omega) (by first | assumption | rfl | omega)
                  · refine go_iload_n dX12_go_150 rfl ?_
                    refine go_bipush dX12_go_151 (by decide) ?_
                    refine go_icmp_eq (tgt := 174) dX12_go_153 (by decide) ⟨by omega, by omega⟩ ⟨by omega, by omega⟩ (fun h_153 => ?_) (fun h_153 => ?_)
                    · refine go_iconst dX12_go_174 ?_
                      refine go_goto (tgt := 179) dX12_go_175 (by decide) ?_
                      exact cut_179 4 (by first | assumption | rfl | omega) (by first | assumption | rfl | omega)
                    · refine go_iload_n dX12_go_156 rfl ?_
                      refine go_bipush dX12_go_157 (by decide) ?_
                      refine go_icmp_eq (tgt := 174) dX12_go_159 (by decide) ⟨by omega, by omega⟩ ⟨by omega, by omega⟩ (fun h_159 => ?_) (fun h_159 => ?_)
                      · refine go_iconst dX12_go_174 ?_
                        refine go_goto (tgt := 179) dX12_go_175 (by decide) ?_
                        exact cut_179 4 (by first | assumption | rfl | omega) (by first | assumption | rfl | omega)
                      · refine go_iload_n dX12_go_162 rfl ?_
                        refine go_bipush dX12_go_163 (by decide) ?_
                        refine go_icmp_eq (tgt := 174) dX12_go_165 (by decide) ⟨by omega, by omega⟩ ⟨by omega, by omega⟩ (fun h_165 => ?_) (fun h_165 => ?_)
                        · refine go_iconst dX12_go_174 ?_
                          refine go_goto (tgt := 179) dX12_go_175 (by decide) ?_
                          exact cut_179 4 (by first | assumption | rfl | omega) (by first | assumption | rfl | omega)
                        · refine go_iload_n dX12_go_168 rfl ?_
                          refine go_bipush dX12_go_169 (by decide) ?_
                          refine go_icmp_ne (tgt := 178) dX12_go_171 (by decide) ⟨by omega, by omega⟩ ⟨by omega, by omega⟩ (fun h_171 => ?_) (fun h_171 => ?_)
                          · refine go_iconst dX12_go_178 ?_
                            exact cut_179 1 (by first | assumption | rfl | omega) (by first | assumption | rfl | omega)
                          · refine go_iconst dX12_go_174 ?_
                            refine go_goto (tgt := 179) dX12_go_175 (by decide) ?_
                            exact cut_179 4 (by first | assumption | rfl | omega) (by first | assumption | rfl | omega)
          · refine go_aload_n dX12_go_107 rfl ?_
            refine go_iconst dX12_go_108 ?_
            refine go_putf_i (ki := 7) dX12_go_109 fw_12_30 ob_214 rfl rfl ⟨by omega, by omega⟩ ?_
            exact go_ret (v := 0) rfl dX12_go_112 rfl (TM.mk' htm (((Gx.rf.w (by omega)).w (by omega)).w (by omega)) (fun h => by exfalso; rw [hK, ← hxa] at h; unfold tokK at h; omega) (by rw [wr_ni (by decide), wr_self, hP]; omega) (Or.inl ⟨by rw [hK, ← hxa]; unfold tokK; omega, wr_self _ _ _ _⟩))
        · refine go_aload_n dX12_go_71 rfl ?_
          refine go_getf_i (ki := 6) dX12_go_72 fl_12_24 ob_214 rfl rfl (fun hf_72 => ?_)
          rw [show ((wr (wr m 214 5 x) 214 6 x) 214 6 : Int) = x from by rw [wr_self]] at hf_72 ⊢
          refine go_aload_n dX12_go_75 rfl ?_
          refine go_getf_i (ki := 4) dX12_go_76 fl_12_27 ob_214 rfl rfl (fun hf_76 => ?_)
          rw [show ((wr (wr m 214 5 x) 214 6 x) 214 4 : Int) = lim from by rw [wr_ni (by decide), wr_ni (by decide)]; exact htb.2.1] at hf_76 ⊢
          refine go_icmp_lt (tgt := 96) dX12_go_79 (by decide) ⟨by omega, by omega⟩ ⟨by omega, by omega⟩ (fun h_79 => ?_) (fun h_79 => ?_)
          · refine go_aload_n dX12_go_96 rfl ?_
            refine go_getf_i (ki := 5) dX12_go_97 fl_12_21 ob_214 rfl rfl (fun hf_97 => ?_)
            rw [show ((wr (wr m 214 5 x) 214 6 x) 214 5 : Int) = x from by rw [wr_ni (by decide), wr_self]] at hf_97 ⊢
            refine go_aload_n dX12_go_100 rfl ?_
            refine go_getf_i (ki := 3) dX12_go_101 fl_12_18 ob_214 rfl rfl (fun hf_101 => ?_)
            rw [show ((wr (wr m 214 5 x) 214 6 x) 214 3 : Int) = n from by rw [wr_ni (by decide), wr_ni (by decide)]; exact htb.1] at hf_101 ⊢
            refine go_icmp_lt (tgt := 113) dX12_go_104 (by decide) ⟨by omega, by omega⟩ ⟨by omega, by omega⟩ (fun h_104 => ?_) (fun h_104 => ?_)
            · have hPx : G 5 i = x := by omega
              refine go_aload_n dX12_go_113 rfl ?_
              refine go_getf_p (b := 215) dX12_go_114 fl_12_7 ob_214 rfl pt_214_1 ?_
              refine go_aload_n dX12_go_117 rfl ?_
              refine go_getf_i (ki := 5) dX12_go_118 fl_12_21 ob_214 rfl rfl (fun hf_118 => ?_)
              rw [show ((wr (wr m 214 5 x) 214 6 x) 214 5 : Int) = x from by rw [wr_ni (by decide), wr_self]] at hf_118 ⊢
              refine go_iaload dX12_go_121 ar_215 (by omega) (by omega) (fun he_121 => ?_)
              rw [show ((wr (wr m 214 5 x) 214 6 x) 215 x : Int) = (t x) from by rw [wr_na (by omega), wr_na (by omega)]; exact (htb.2.2 _ (by omega) (by omega))] at he_121 ⊢
              refine go_istore_n (L' := [vr 214, vi (t x), un, un, un]) dX12_go_122 (by decide) rfl rfl ?_
              refine go_iload_n dX12_go_123 rfl ?_
              have cut_179 : ∀  (kd : Int), ((kd = 4 ∧ isS (t x)) ∨ (kd = 1 ∧ ¬ isS (t x))) → (¬ (isL (t x) ∨ isD (t x))) → Go 0 2 mX12_go (fun r m' => Gx m m' ∧ TM G t kw n lim m' i) 179 [vr 214, vi (t x), un, un, un] [vi kd, vr 214] (wr (wr m 214 5 x) 214 6 x) := by
                intro kd hkd hnr
                refine go_putf_i (ki := 7) dX12_go_179 fw_12_30 ob_214 rfl rfl ⟨by omega, by omega⟩ ?_
                refine go_aload_n dX12_go_182 rfl ?_
                refine go_iload_n dX12_go_183 rfl ?_
                refine go_putf_i (ki := 9) dX12_go_184 fw_12_40 ob_214 rfl rfl ⟨by omega, by omega⟩ ?_
                refine go_aload_n dX12_go_187 rfl ?_
                refine go_dup_r dX12_go_188 ?_
                refine go_getf_i (ki := 5) dX12_go_189 fl_12_21 ob_214 rfl rfl (fun hf_189 => ?_)
                rw [show ((wr (wr (wr (wr m 214 5 x) 214 6 x) 214 7 kd) 214 9 (t x)) 214 5 : Int) = x from by rw [wr_ni (by decide), wr_ni (by decide), wr_ni (by decide), wr_self]] at hf_189 ⊢
                refine go_iconst dX12_go_192 ?_
                refine go_iadd dX12_go_193 ?_
                refine go_putf_i (ki := 5) dX12_go_194 fw_12_21 ob_214 rfl rfl ⟨by omega, by omega⟩ ?_
                refine go_ret (v := 0) rfl dX12_go_197 rfl ?_
                have hKx : G 4 i = if isS (t x) then t x else 1 := by rw [hK, ← hxa]; unfold tokK; rw [if_neg (by omega), if_neg (by omega), if_neg hnr]
                have hpx : posN t n lim (i + 1).toNat = x + 1 := by rw [hpn, ← hxa]; unfold tokE; rw [if_neg (by omega), if_neg hnr]
                refine TM.mk' htm (((((Gx.rf.w (by omega)).w (by omega)).w (by omega)).w (by omega)).w (by omega)) (fun h => by rw [wr_self, hpx]) (by rw [wr_ni (by decide), wr_ni (by decide), wr_ni (by decide), wr_self, hPx]) ?_
                unfold TKd
                rcases hkd with ⟨e, h⟩ | ⟨e, h⟩
                · rw [if_pos h] at hKx
                  exact Or.inr (Or.inr (Or.inr (Or.inr ⟨by rw [hKx]; exact h, by rw [wr_ni (by decide), wr_ni (by decide), wr_self]; exact e, by rw [wr_ni (by decide), wr_self]; exact hKx.symm⟩)))
                · rw [if_neg h] at hKx
                  exact Or.inr (Or.inl ⟨hKx, by rw [wr_ni (by decide), wr_ni (by decide), wr_self]; exact e⟩)
              have cut_198 :  (rnP (t x)) → Go 0 2 mX12_go (fun r m' => Gx m m' ∧ TM G t kw n lim m' i) 198 [vr 214, vi (t x), un, un, un] [] (wr (wr m 214 5 x) 214 6 x) := by
                intro hrun
                have hKx : G 4 i = runK t kw x (rn1 t n x) := by rw [hK, ← hxa]; unfold tokK; rw [if_neg (by omega), if_neg (by omega), if_pos (show isL (t x) ∨ isD (t x) from hrun)]
                have hpx : posN t n lim (i + 1).toNat = rn1 t n x := by rw [hpn, ← hxa]; unfold tokE; rw [if_neg (by omega), if_pos (show isL (t x) ∨ isD (t x) from hrun)]
                have hVx := hV ⟨by omega, by omega, by rw [← hxa]; exact hrun⟩
                rw [← hxa] at hVx
                refine go_iload_n dX12_go_198 rfl ?_
                refine go_callSp_z (as := [vi (t x)]) (S := []) (ev_X12_isLetter (m := (wr (wr m 214 5 x) 214 6 x)) (c := (t x)) (by first | assumption | omega | exact ⟨by omega, by omega⟩ | (constructor <;> omega))) rfl dX12_go_199 cs_12_33 rfl rfl (by decide) (Nat.le_of_ble_eq_true rfl) (fun r_199 hr_199 ho_199 => ?_)
                refine go_istore_n (L' := [vr 214, vi (t x), vi r_199, un, un]) dX12_go_202 (by decide) rfl rfl ?_
                refine go_iconst dX12_go_203 ?_
                refine go_istore_n (L' := [vr 214, vi (t x), vi r_199, vi 1, un]) dX12_go_204 (by decide) rfl rfl ?_
                refine go_aload_n dX12_go_205 rfl ?_
                refine go_lconst (z := 0) dX12_go_206 (by decide) ?_
                refine go_putf_l (ki := 12) dX12_go_207 fw_12_43 ob_214 rfl rfl ⟨by omega, by omega⟩ ?_
                refine go_aload_n dX12_go_210 rfl ?_
                refine go_iconst dX12_go_211 ?_
                refine go_putf_i (ki := 8) dX12_go_212 fw_12_47 ob_214 rfl rfl ⟨by omega, by omega⟩ ?_
                refine go_drop (j := 1) (L' := [vr 214, un, vi r_199, vi 1, un]) rfl ?_
                have lp_215 : ∀ (n_215 : Nat) (m2 : Mem) (gd : Int) (x2 : Int), (x ≤ x2) → (x2 ≤ n) → (rn1 t n x2 = rn1 t n x) → (gdP t r_199 x x2 gd) → (gd = 0 ∨ gd = 1) → (onP t r_199 x x2) → (Gx m m2) → (m2 214 5 = x2) → (m2 214 6 = x) → (m2 214 12 = wvN t x (x2 - x).toNat) → (m2 214 8 = nvN t x (x2 - x).toNat) → (n - x2).toNat < n_215 → Go 0 2 mX12_go (fun r m' => Gx m m' ∧ TM G t kw n lim m' i) 215 [vr 214, un, vi r_199, vi gd, un] [] m2 := by
                  intro n_215
                  induction n_215 with
                  | zero => intro m2 gd x2 hy0 hy1 hrn hgd hgd1 hone hgx h5 h6 h12 h8 hmu; exact absurd hmu (Nat.not_lt_zero _)
                  | succ n_215 ih_215 =>
                    intro m2 gd x2 hy0 hy1 hrn hgd hgd1 hone hgx h5 h6 h12 h8 hmu
                    have htx2 := h255 x2
                    have htb2 : TB t n lim m2 := htb.gx hgx
                    have hwR := wvN_R t x (x2 - x).toNat
                    have hnR := nvN_R t x (x2 - x).toNat
                    refine go_aload_n dX12_go_215 rfl ?_
                    have cut_243 :  (x2 < n) → (rnP (t x2)) → Go 0 2 mX12_go (fun r m' => Gx m m' ∧ TM G t kw n lim m' i) 243 [vr 214, un, vi r_199, vi gd, un] [] m2 := by
                      intro hcn hcr
                      refine go_aload_n dX12_go_243 rfl ?_
                      refine go_getf_p (b := 215) dX12_go_244 fl_12_7 ob_214 rfl pt_214_1 ?_
                      refine go_aload_n dX12_go_247 rfl ?_
                      refine go_getf_i (ki := 5) dX12_go_248 fl_12_21 ob_214 rfl rfl (fun hf_248 => ?_)
                      rw [show (m2 214 5 : Int) = x2 from h5] at hf_248 ⊢
                      refine go_iaload dX12_go_251 ar_215 (by omega) (by omega) (fun he_251 => ?_)
                      rw [show (m2 215 x2 : Int) = (t x2) from htb2.2.2 x2 (by omega) (by omega)] at he_251 ⊢
                      refine go_istore (L' := [vr 214, un, vi r_199, vi gd, vi (t x2)]) dX12_go_252 (by decide) rfl rfl ?_
                      have cut_272 : ∀  (g2 : Int), (gdP t r_199 x (x2 + 1) g2) → (g2 = 0 ∨ g2 = 1) → Go 0 2 mX12_go (fun r m' => Gx m m' ∧ TM G t kw n lim m' i) 272 [vr 214, un, vi r_199, un, vi (t x2)] [vi g2] m2 := by
                        intro g2 hg2 hg21
                        refine go_istore_n (L' := [vr 214, un, vi r_199, vi g2, vi (t x2)]) dX12_go_272 (by decide) rfl rfl ?_
                        refine go_aload_n dX12_go_273 rfl ?_
                        have cut_307 : ∀ (m3 : Mem)  , (Gx m m3) → (m3 214 5 = x2) → (m3 214 6 = x) → (m3 214 12 = wvN t x (x2 + 1 - x).toNat) → (m3 214 8 = nvN t x (x2 - x).toNat) → Go 0 2 mX12_go (fun r m' => Gx m m' ∧ TM G t kw n lim m' i) 307 [vr 214, un, vi r_199, vi g2, vi (t x2)] [] m3 := by
                          intro m3 kgx k5 k6 k12 k8
                          refine go_aload_n dX12_go_307 rfl ?_
                          have cut_337 : ∀ (m4 : Mem)  , (Gx m m4) → (m4 214 5 = x2) → (m4 214 6 = x) → (m4 214 12 = wvN t x (x2 + 1 - x).toNat) → (m4 214 8 = nvN t x (x2 + 1 - x).toNat) → Go 0 2 mX12_go (fun r m' => Gx m m' ∧ TM G t kw n lim m' i) 337 [vr 214, un, vi r_199, vi g2, un] [] m4 := by
                            intro m4 jgx j5 j6 j12 j8
                            refine go_aload_n dX12_go_337 rfl ?_
                            refine go_dup_r dX12_go_338 ?_
                            refine go_getf_i (ki := 5) dX12_go_339 fl_12_21 ob_214 rfl rfl (fun hf_339 => ?_)
                            rw [show (m4 214 5 : Int) = x2 from j5] at hf_339 ⊢
                            refine go_iconst dX12_go_342 ?_
                            refine go_iadd dX12_go_343 ?_
                            refine go_putf_i (ki := 5) dX12_go_344 fw_12_21 ob_214 rfl rfl ⟨by omega, by omega⟩ ?_
                            refine go_goto (tgt := 215) dX12_go_347 (by decide) ?_
                            exact ih_215 (wr m4 214 5 (x2 + 1)) g2 (x2 + 1) (by first | assumption | omega | rfl) (by first | assumption | omega | rfl) (by rw [← hrn]; exact (rn1_t hcn hcr).symm) hg2 hg21 (onP_s hy0 hone hr_199) (jgx.w (by omega)) (wr_self _ _ _ _) (by rw [wr_ni (by decide)]; exact j6) (by rw [wr_ni (by decide)]; exact j12) (by rw [wr_ni (by decide)]; exact j8) (by omega)
                          refine go_getf_i (ki := 5) dX12_go_308 fl_12_21 ob_214 rfl rfl (fun hf_308 => ?_)
                          rw [show (m3 214 5 : Int) = x2 from k5] at hf_308 ⊢
                          refine go_aload_n dX12_go_311 rfl ?_
                          refine go_getf_i (ki := 6) dX12_go_312 fl_12_24 ob_214 rfl rfl (fun hf_312 => ?_)
                          rw [show (m3 214 6 : Int) = x from k6] at hf_312 ⊢
                          refine go_isub dX12_go_315 ?_
                          refine go_iconst dX12_go_316 ?_
                          refine go_icmp_ge (tgt := 337) dX12_go_317 (by decide) ⟨by omega, by omega⟩ ⟨by omega, by omega⟩ (fun h_317 => ?_) (fun h_317 => ?_)
                          · refine go_drop (j := 4) (L' := [vr 214, un, vi r_199, vi g2, un]) rfl ?_
                            exact cut_337 m3 (by first | exact kgx | exact kgx.w (by omega)) (by first | exact k5 | (rw [wr_ni (by decide)]; exact k5)) (by first | exact k6 | (rw [wr_ni (by decide)]; exact k6)) (by first | exact k12 | (rw [wr_ni (by decide)]; exact k12)) (by rw [nvN_s hy0]; first | (rw [if_neg (by omega)]; exact k8) | (rw [if_pos (by omega), wr_self]))
                          · refine go_aload_n dX12_go_320 rfl ?_
                            refine go_bipush dX12_go_321 (by decide) ?_
                            refine go_aload_n dX12_go_323 rfl ?_
                            refine go_getf_i (ki := 8) dX12_go_324 fl_12_47 ob_214 rfl rfl (fun hf_324 => ?_)
                            rw [show (m3 214 8 : Int) = (nvN t x (x2 - x).toNat) from k8] at hf_324 ⊢
                            refine go_imul dX12_go_327 ?_
                            refine go_iload dX12_go_328 rfl ?_
                            refine go_iadd dX12_go_330 ?_
                            refine go_bipush dX12_go_331 (by decide) ?_
                            refine go_isub dX12_go_333 ?_
                            refine go_wrap ?_
                            refine go_putf_i (ki := 8) dX12_go_334 fw_12_47 ob_214 rfl rfl (w32_R _) ?_
                            refine go_drop (j := 4) (L' := [vr 214, un, vi r_199, vi g2, un]) rfl ?_
                            exact cut_337 (wr m3 214 8 (w32 (((10 * (nvN t x (x2 - x).toNat)) + (t x2)) - 48))) (by first | exact kgx | exact kgx.w (by omega)) (by first | exact k5 | (rw [wr_ni (by decide)]; exact k5)) (by first | exact k6 | (rw [wr_ni (by decide)]; exact k6)) (by first | exact k12 | (rw [wr_ni (by decide)]; exact k12)) (by rw [nvN_s hy0]; first | (rw [if_neg (by omega)]; exact k8) | (rw [if_pos (by omega), wr_self]))
                        refine go_getf_i (ki := 5) dX12_go_274 fl_12_21 ob_214 rfl rfl (fun hf_274 => ?_)
                        rw [show (m2 214 5 : Int) = x2 from h5] at hf_274 ⊢
                        refine go_aload_n dX12_go_277 rfl ?_
                        refine go_getf_i (ki := 6) dX12_go_278 fl_12_24 ob_214 rfl rfl (fun hf_278 => ?_)
                        rw [show (m2 214 6 : Int) = x from h6] at hf_278 ⊢
                        refine go_isub dX12_go_281 ?_
                        refine go_bipush dX12_go_282 (by decide) ?_
                        refine go_icmp_ge (tgt := 307) dX12_go_284 (by decide) ⟨by omega, by omega⟩ ⟨by omega, by omega⟩ (fun h_284 => ?_) (fun h_284 => ?_)
                        · exact cut_307 m2 (by first | exact hgx | exact hgx.w (by omega)) (by first | exact h5 | (rw [wr_ni (by decide)]; exact h5)) (by first | exact h6 | (rw [wr_ni (by decide)]; exact h6)) (by rw [wvN_s hy0]; first | (rw [if_neg (by omega)]; exact h12) | (rw [if_pos (by omega), wr_self])) (by first | exact h8 | (rw [wr_ni (by decide)]; exact h8))
                        · refine go_aload_n dX12_go_287 rfl ?_
                          refine go_ldc2 (x := 27) dX12_go_288 k_12_54 ?_
                          refine go_aload_n dX12_go_291 rfl ?_
                          refine go_getf_l (ki := 12) dX12_go_292 fl_12_43 ob_214 rfl rfl (fun hf_292 => ?_)
                          rw [show (m2 214 12 : Int) = (wvN t x (x2 - x).toNat) from h12] at hf_292 ⊢
                          refine go_lmul dX12_go_295 ?_
                          refine go_iload dX12_go_296 rfl ?_
                          refine go_i2l dX12_go_298 ⟨by omega, by omega⟩ ?_
                          refine go_ladd dX12_go_299 ?_
                          refine go_ldc2 (x := 96) dX12_go_300 k_12_56 ?_
                          refine go_lsub dX12_go_303 ?_
                          refine go_wrapL ?_
                          refine go_putf_l (ki := 12) dX12_go_304 fw_12_43 ob_214 rfl rfl (w64_R _) ?_
                          exact cut_307 (wr m2 214 12 (w64 (((27 * (wvN t x (x2 - x).toNat)) + (t x2)) - 96))) (by first | exact hgx | exact hgx.w (by omega)) (by first | exact h5 | (rw [wr_ni (by decide)]; exact h5)) (by first | exact h6 | (rw [wr_ni (by decide)]; exact h6)) (by rw [wvN_s hy0]; first | (rw [if_neg (by omega)]; exact h12) | (rw [if_pos (by omega), wr_self])) (by first | exact h8 | (rw [wr_ni (by decide)]; exact h8))
                      refine go_iload_n dX12_go_254 rfl ?_
                      refine go_if_eq (tgt := 271) dX12_go_255 (by decide) ⟨by omega, by omega⟩ (fun h_255 => ?_) (fun h_255 => ?_)
                      · refine go_iconst dX12_go_271 ?_
                        refine go_drop (j := 3) (L' := [vr 214, un, vi r_199, un, vi (t x2)]) rfl ?_
                        exact cut_272 0 (gdP_s hy0 hgd (by omega) (by first | (rw [if_pos ⟨by omega, by omega⟩]) | (rw [if_neg (fun y => by rcases y with ⟨y1, y2 | y2⟩ <;> omega)]))) (by first | assumption | rfl | omega)
                      · refine go_iload dX12_go_258 rfl ?_
                        refine go_callSp_z (as := [vi (t x2)]) (S := []) (ev_X12_isLetter (m := m2) (c := (t x2)) (by first | assumption | omega | exact ⟨by omega, by omega⟩ | (constructor <;> omega))) rfl dX12_go_260 cs_12_33 rfl rfl (by decide) (Nat.le_of_ble_eq_true rfl) (fun r_260 hr_260 ho_260 => ?_)
                        refine go_iload_n dX12_go_263 rfl ?_
                        refine go_icmp_ne (tgt := 271) dX12_go_264 (by decide) ⟨by omega, by omega⟩ ⟨by omega, by omega⟩ (fun h_264 => ?_) (fun h_264 => ?_)
                        · refine go_iconst dX12_go_271 ?_
                          refine go_drop (j := 3) (L' := [vr 214, un, vi r_199, un, vi (t x2)]) rfl ?_
                          exact cut_272 0 (gdP_s hy0 hgd (by omega) (by first | (rw [if_pos ⟨by omega, by omega⟩]) | (rw [if_neg (fun y => by rcases y with ⟨y1, y2 | y2⟩ <;> omega)]))) (by first | assumption | rfl | omega)
                        · refine go_iconst dX12_go_267 ?_
                          refine go_goto (tgt := 272) dX12_go_268 (by decide) ?_
                          refine go_drop (j := 3) (L' := [vr 214, un, vi r_199, un, vi (t x2)]) rfl ?_
                          exact cut_272 1 (gdP_s hy0 hgd (by omega) (by first | (rw [if_pos ⟨by omega, by omega⟩]) | (rw [if_neg (fun y => by rcases y with ⟨y1, y2 | y2⟩ <;> omega)]))) (by first | assumption | rfl | omega)
                    refine go_aload_n dX12_go_216 rfl ?_
                    refine go_getf_i (ki := 5) dX12_go_217 fl_12_21 ob_214 rfl rfl (fun hf_217 => ?_)
                    rw [show (m2 214 5 : Int) = x2 from h5] at hf_217 ⊢
                    refine go_callVp_i (as := [vi x2]) (S := []) (b := 214) (ev_X12_tapeAt (m := m2) (x := x2) (t := t) (n := n) (lim := lim) htb2 (by first | assumption | omega | exact ⟨by omega, by omega⟩ | (constructor <;> omega)) (by first | assumption | omega | exact ⟨by omega, by omega⟩ | (constructor <;> omega))) rfl dX12_go_220 cv_12_50 rfl rfl ob_214 rfl (by decide) (Nat.le_of_ble_eq_true rfl) (fun r_220 hr_220 ho_220 => ?_)
                    refine go_callSp_z (as := [vi r_220]) (S := []) (ev_X12_isLetter (m := m2) (c := r_220) (by first | assumption | omega | exact ⟨by omega, by omega⟩ | (constructor <;> omega))) rfl dX12_go_223 cs_12_33 rfl rfl (by decide) (Nat.le_of_ble_eq_true rfl) (fun r_223 hr_223 ho_223 => ?_)
                    refine go_if_ne (tgt := 243) dX12_go_226 (by decide) ⟨by omega, by omega⟩ (fun h_226 => ?_) (fun h_226 => ?_)
                    · exact cut_243  (by by_cases q : x2 < n; exact q; (exfalso; rw [if_neg q] at hr_220; first | (rw [hr_220] at hr_223; unfold isL at hr_223; omega) | (rw [if_neg q] at hr_234; rw [hr_234] at hr_237; unfold isD at hr_237; omega))) (by by_cases q : x2 < n; (rw [if_pos q] at hr_220; unfold rnP; first | (left; rw [← hr_220]; omega) | (right; rw [if_pos q] at hr_234; rw [← hr_234]; omega)); (exfalso; rw [if_neg q] at hr_220; first | (rw [hr_220] at hr_223; unfold isL at hr_223; omega) | (rw [if_neg q] at hr_234; rw [hr_234] at hr_237; unfold isD at hr_237; omega)))
                    · refine go_aload_n dX12_go_229 rfl ?_
                      refine go_aload_n dX12_go_230 rfl ?_
                      refine go_getf_i (ki := 5) dX12_go_231 fl_12_21 ob_214 rfl rfl (fun hf_231 => ?_)
                      rw [show (m2 214 5 : Int) = x2 from h5] at hf_231 ⊢
                      refine go_callVp_i (as := [vi x2]) (S := []) (b := 214) (ev_X12_tapeAt (m := m2) (x := x2) (t := t) (n := n) (lim := lim) htb2 (by first | assumption | omega | exact ⟨by omega, by omega⟩ | (constructor <;> omega)) (by first | assumption | omega | exact ⟨by omega, by omega⟩ | (constructor <;> omega))) rfl dX12_go_234 cv_12_50 rfl rfl ob_214 rfl (by decide) (Nat.le_of_ble_eq_true rfl) (fun r_234 hr_234 ho_234 => ?_)
                      refine go_callSp_z (as := [vi r_234]) (S := []) (ev_X12_isDigit (m := m2) (c := r_234) (by first | assumption | omega | exact ⟨by omega, by omega⟩ | (constructor <;> omega))) rfl dX12_go_237 cs_12_37 rfl rfl (by decide) (Nat.le_of_ble_eq_true rfl) (fun r_237 hr_237 ho_237 => ?_)
                      refine go_if_eq (tgt := 350) dX12_go_240 (by decide) ⟨by omega, by omega⟩ (fun h_240 => ?_) (fun h_240 => ?_)
                      · have hnc : ¬ (x2 < n ∧ (isL (t x2) ∨ isD (t x2))) := by
                          rintro ⟨q, h⟩
                          rw [if_pos q] at hr_220 hr_234; rw [hr_220] at hr_223; rw [hr_234] at hr_237
                          rcases h with h | h
                          · rcases hr_223 with z | z
                            · omega
                            · exact z.2 h
                          · rcases hr_237 with z | z
                            · omega
                            · exact z.2 h
                        have he : rn1 t n x = x2 := by rw [← hrn]; exact rn1_f hnc
                        rw [he] at hKx hVx hpx
                        have hx2x : x2 ≠ x := by
                          intro q; subst q; exact hnc ⟨by omega, hrun⟩
                        refine go_aload_n dX12_go_350 rfl ?_
                        refine go_iload_n dX12_go_351 rfl ?_
                        have cut_390 : ∀  (kd : Int), (kd = 1 ∨ kd = 2 ∨ kd = 3) → (kdP G t i x x2 kd) → Go 0 2 mX12_go (fun r m' => Gx m m' ∧ TM G t kw n lim m' i) 390 [un, un, un, un, un] [vi kd, vr 214] m2 := by
                          intro kd hkr hkd
                          refine go_putf_i (ki := 7) dX12_go_390 fw_12_30 ob_214 rfl rfl ⟨by omega, by omega⟩ ?_
                          refine go_ret (v := 0) rfl dX12_go_393 rfl ?_
                          refine TM.mk' htm (hgx.w (by omega)) (fun h => by rw [wr_ni (by decide), h5, hpx]) (by rw [wr_ni (by decide), h6, hPx]) ?_
                          unfold TKd
                          rw [wr_self, wr_ni (by decide), wr_ni (by decide), wr_ni (by decide), h8, h12]
                          rcases hkd with ⟨e, h⟩ | ⟨e, h1, h2, h3⟩ | ⟨e, h1, h2⟩
                          · exact Or.inr (Or.inl ⟨h, e⟩)
                          · exact Or.inr (Or.inr (Or.inr (Or.inl ⟨⟨h1, e⟩, h2, h3⟩)))
                          · exact Or.inr (Or.inr (Or.inl ⟨h1, e, h2⟩))
                        refine go_if_eq (tgt := 377) dX12_go_352 (by decide) ⟨by omega, by omega⟩ (fun h_352 => ?_) (fun h_352 => ?_)
                        · refine go_iconst dX12_go_377 ?_
                          refine go_goto (tgt := 390) dX12_go_378 (by decide) ?_
                          refine go_drop (j := 0) (L' := [un, un, vi r_199, vi gd, un]) rfl ?_
                          refine go_drop (j := 2) (L' := [un, un, un, vi gd, un]) rfl ?_
                          refine go_drop (j := 3) (L' := [un, un, un, un, un]) rfl ?_
                          exact cut_390 1 (by first | assumption | rfl | omega) (kdP_of hy0 hkw hKx hVx (by omega) hgd hone hx2x (by first | (exfalso; omega) | (rw [if_pos (by omega)]) | (rw [if_neg (by omega), if_pos (by omega)]) | (rw [if_neg (by omega), if_neg (by omega)])))
                        · refine go_aload_n dX12_go_355 rfl ?_
                          refine go_getf_i (ki := 5) dX12_go_356 fl_12_21 ob_214 rfl rfl (fun hf_356 => ?_)
                          rw [show (m2 214 5 : Int) = x2 from h5] at hf_356 ⊢
                          refine go_aload_n dX12_go_359 rfl ?_
                          refine go_getf_i (ki := 6) dX12_go_360 fl_12_24 ob_214 rfl rfl (fun hf_360 => ?_)
                          rw [show (m2 214 6 : Int) = x from h6] at hf_360 ⊢
                          refine go_isub dX12_go_363 ?_
                          refine go_iload_n dX12_go_364 rfl ?_
                          refine go_if_eq (tgt := 373) dX12_go_365 (by decide) ⟨by omega, by omega⟩ (fun h_365 => ?_) (fun h_365 => ?_)
                          · refine go_iconst dX12_go_373 ?_
                            refine go_icmp_le (tgt := 381) dX12_go_374 (by decide) ⟨by omega, by omega⟩ ⟨by omega, by omega⟩ (fun h_374 => ?_) (fun h_374 => ?_)
                            · refine go_iload_n dX12_go_381 rfl ?_
                              refine go_if_eq (tgt := 389) dX12_go_382 (by decide) ⟨by omega, by omega⟩ (fun h_382 => ?_) (fun h_382 => ?_)
                              · refine go_iconst dX12_go_389 ?_
                                refine go_drop (j := 0) (L' := [un, un, vi r_199, vi gd, un]) rfl ?_
                                refine go_drop (j := 2) (L' := [un, un, un, vi gd, un]) rfl ?_
                                refine go_drop (j := 3) (L' := [un, un, un, un, un]) rfl ?_
                                exact cut_390 3 (by first | assumption | rfl | omega) (kdP_of hy0 hkw hKx hVx (by omega) hgd hone hx2x (by first | (exfalso; omega) | (rw [if_pos (by omega)]) | (rw [if_neg (by omega), if_pos (by omega)]) | (rw [if_neg (by omega), if_neg (by omega)])))
                              · refine go_iconst dX12_go_385 ?_
                                refine go_goto (tgt := 390) dX12_go_386 (by decide) ?_
                                refine go_drop (j := 0) (L' := [un, un, vi r_199, vi gd, un]) rfl ?_
                                refine go_drop (j := 2) (L' := [un, un, un, vi gd, un]) rfl ?_
                                refine go_drop (j := 3) (L' := [un, un, un, un, un]) rfl ?_
                                exact cut_390 2 (by first | assumption | rfl | omega) (kdP_of hy0 hkw hKx hVx (by omega) hgd hone hx2x (by first | (exfalso; omega) | (rw [if_pos (by omega)]) | (rw [if_neg (by omega), if_pos (by omega)]) | (rw [if_neg (by omega), if_neg (by omega)])))
                            · refine go_iconst dX12_go_377 ?_
                              refine go_goto (tgt := 390) dX12_go_378 (by decide) ?_
                              refine go_drop (j := 0) (L' := [un, un, vi r_199, vi gd, un]) rfl ?_
                              refine go_drop (j := 2) (L' := [un, un, un, vi gd, un]) rfl ?_
                              refine go_drop (j := 3) (L' := [un, un, un, un, un]) rfl ?_
                              exact cut_390 1 (by first | assumption | rfl | omega) (kdP_of hy0 hkw hKx hVx (by omega) hgd hone hx2x (by first | (exfalso; omega) | (rw [if_pos (by omega)]) | (rw [if_neg (by omega), if_pos (by omega)]) | (rw [if_neg (by omega), if_neg (by omega)])))
                          · refine go_bipush dX12_go_368 (by decide) ?_
                            refine go_goto (tgt := 374) dX12_go_370 (by decide) ?_
                            refine go_icmp_le (tgt := 381) dX12_go_374 (by decide) ⟨by omega, by omega⟩ ⟨by omega, by omega⟩ (fun h_374 => ?_) (fun h_374 => ?_)
                            · refine go_iload_n dX12_go_381 rfl ?_
                              refine go_if_eq (tgt := 389) dX12_go_382 (by decide) ⟨by omega, by omega⟩ (fun h_382 => ?_) (fun h_382 => ?_)
                              · refine go_iconst dX12_go_389 ?_
                                refine go_drop (j := 0) (L' := [un, un, vi r_199, vi gd, un]) rfl ?_
                                refine go_drop (j := 2) (L' := [un, un, un, vi gd, un]) rfl ?_
                                refine go_drop (j := 3) (L' := [un, un, un, un, un]) rfl ?_
                                exact cut_390 3 (by first | assumption | rfl | omega) (kdP_of hy0 hkw hKx hVx (by omega) hgd hone hx2x (by first | (exfalso; omega) | (rw [if_pos (by omega)]) | (rw [if_neg (by omega), if_pos (by omega)]) | (rw [if_neg (by omega), if_neg (by omega)])))
                              · refine go_iconst dX12_go_385 ?_
                                refine go_goto (tgt := 390) dX12_go_386 (by decide) ?_
                                refine go_drop (j := 0) (L' := [un, un, vi r_199, vi gd, un]) rfl ?_
                                refine go_drop (j := 2) (L' := [un, un, un, vi gd, un]) rfl ?_
                                refine go_drop (j := 3) (L' := [un, un, un, un, un]) rfl ?_
                                exact cut_390 2 (by first | assumption | rfl | omega) (kdP_of hy0 hkw hKx hVx (by omega) hgd hone hx2x (by first | (exfalso; omega) | (rw [if_pos (by omega)]) | (rw [if_neg (by omega), if_pos (by omega)]) | (rw [if_neg (by omega), if_neg (by omega)])))
                            · refine go_iconst dX12_go_377 ?_
                              refine go_goto (tgt := 390) dX12_go_378 (by decide) ?_
                              refine go_drop (j := 0) (L' := [un, un, vi r_199, vi gd, un]) rfl ?_
                              refine go_drop (j := 2) (L' := [un, un, un, vi gd, un]) rfl ?_
                              refine go_drop (j := 3) (L' := [un, un, un, un, un]) rfl ?_
                              exact cut_390 1 (by first | assumption | rfl | omega) (kdP_of hy0 hkw hKx hVx (by omega) hgd hone hx2x (by first | (exfalso; omega) | (rw [if_pos (by omega)]) | (rw [if_neg (by omega), if_pos (by omega)]) | (rw [if_neg (by omega), if_neg (by omega)])))
                      · exact cut_243  (by by_cases q : x2 < n; exact q; (exfalso; rw [if_neg q] at hr_220; first | (rw [hr_220] at hr_223; unfold isL at hr_223; omega) | (rw [if_neg q] at hr_234; rw [hr_234] at hr_237; unfold isD at hr_237; omega))) (by by_cases q : x2 < n; (rw [if_pos q] at hr_220; unfold rnP; first | (left; rw [← hr_220]; omega) | (right; rw [if_pos q] at hr_234; rw [← hr_234]; omega)); (exfalso; rw [if_neg q] at hr_220; first | (rw [hr_220] at hr_223; unfold isL at hr_223; omega) | (rw [if_neg q] at hr_234; rw [hr_234] at hr_237; unfold isD at hr_237; omega)))
                exact lp_215 _ (wr (wr (wr (wr m 214 5 x) 214 6 x) 214 12 0) 214 8 0) 1 x (by first | assumption | omega | rfl) (by first | assumption | omega | rfl) (by first | assumption | omega | rfl) gdP_0 (by first | assumption | omega | rfl) (Or.inl rfl) ((((Gx.rf.w (by omega)).w (by omega)).w (by omega)).w (by omega)) (by rw [wr_ni (by decide), wr_ni (by decide), wr_ni (by decide), wr_self]) (by rw [wr_ni (by decide), wr_ni (by decide), wr_self]) (by rw [wr_ni (by decide), wr_self, show (x - x).toNat = 0 by omega]; rfl) (by rw [wr_self, show (x - x).toNat = 0 by omega]; rfl) (Nat.lt_succ_self _)
              refine go_callSp_z (as := [vi (t x)]) (S := []) (ev_X12_isLetter (m := (wr (wr m 214 5 x) 214 6 x)) (c := (t x)) (by first | assumption | omega | exact ⟨by omega, by omega⟩ | (constructor <;> omega))) rfl dX12_go_124 cs_12_33 rfl rfl (by decide) (Nat.le_of_ble_eq_true rfl) (fun r_124 hr_124 ho_124 => ?_)
              refine go_if_ne (tgt := 198) dX12_go_127 (by decide) ⟨by omega, by omega⟩ (fun h_127 => ?_) (fun h_127 => ?_)
              · exact cut_198  (by unfold rnP; omega)
              · refine go_iload_n dX12_go_130 rfl ?_
                refine go_callSp_z (as := [vi (t x)]) (S := []) (ev_X12_isDigit (m := (wr (wr m 214 5 x) 214 6 x)) (c := (t x)) (by first | assumption | omega | exact ⟨by omega, by omega⟩ | (constructor <;> omega))) rfl dX12_go_131 cs_12_37 rfl rfl (by decide) (Nat.le_of_ble_eq_true rfl) (fun r_131 hr_131 ho_131 => ?_)
                refine go_if_ne (tgt := 198) dX12_go_134 (by decide) ⟨by omega, by omega⟩ (fun h_134 => ?_) (fun h_134 => ?_)
                · exact cut_198  (by unfold rnP; omega)
                · refine go_aload_n dX12_go_137 rfl ?_
                  refine go_iload_n dX12_go_138 rfl ?_
                  refine go_bipush dX12_go_139 (by decide) ?_
                  refine go_icmp_eq (tgt := 174) dX12_go_141 (by decide) ⟨by omega, by omega⟩ ⟨by omega, by omega⟩ (fun h_141 => ?_) (fun h_141 => ?_)
                  · refine go_iconst dX12_go_174 ?_
                    refine go_goto (tgt := 179) dX12_go_175 (by decide) ?_
                    exact cut_179 4 (by first | assumption | rfl | omega) (by first | assumption | rfl | omega)
                  · refine go_iload_n dX12_go_144 rfl ?_
                    refine go_bipush dX12_go_145 (by decide) ?_
                    refine go_icmp_eq (tgt := 174) dX12_go_147 (by decide) ⟨by omega, by omega⟩ ⟨by omega, by omega⟩ (fun h_147 => ?_) (fun h_147 => ?_)
                    · refine go_iconst dX12_go_174 ?_
                      refine go_goto (tgt := 179) dX12_go_175 (by decide) ?_
                      exact cut_179 4 (by first | assumption | rfl | omega) (by first | assumption | rfl | omega)
                    · refine go_iload_n dX12_go_150 rfl ?_
                      refine go_bipush dX12_go_151 (by decide) ?_
                      refine go_icmp_eq (tgt := 174) dX12_go_153 (by decide) ⟨by omega, by omega⟩ ⟨by omega, by omega⟩ (fun h_153 => ?_) (fun h_153 => ?_)
                      · refine go_iconst dX12_go_174 ?_
                        refine go_goto (tgt := 179) dX12_go_175 (by decide) ?_
                        exact cut_179 4 (by first | assumption | rfl | omega) (by first | assumption | rfl | omega)
                      · refine go_iload_n dX12_go_156 rfl ?_
                        refine go_bipush dX12_go_157 (by decide) ?_
                        refine go_icmp_eq (tgt := 174) dX12_go_159 (by decide) ⟨by omega, by omega⟩ ⟨by omega, by omega⟩ (fun h_159 => ?_) (fun h_159 => ?_)
                        · refine go_iconst dX12_go_174 ?_
                          refine go_goto (tgt := 179) dX12_go_175 (by decide) ?_
                          exact cut_179 4 (by first | assumption | rfl | omega) (by first | assumption | rfl | omega)
                        · refine go_iload_n dX12_go_162 rfl ?_
                          refine go_bipush dX12_go_163 (by decide) ?_
                          refine go_icmp_eq (tgt := 174) dX12_go_165 (by decide) ⟨by omega, by omega⟩ ⟨by omega, by omega⟩ (fun h_165 => ?_) (fun h_165 => ?_)
                          · refine go_iconst dX12_go_174 ?_
                            refine go_goto (tgt := 179) dX12_go_175 (by decide) ?_
                            exact cut_179 4 (by first | assumption | rfl | omega) (by first | assumption | rfl | omega)
                          · refine go_iload_n dX12_go_168 rfl ?_
                            refine go_bipush dX12_go_169 (by decide) ?_
                            refine go_icmp_ne (tgt := 178) dX12_go_171 (by decide) ⟨by omega, by omega⟩ ⟨by omega, by omega⟩ (fun h_171 => ?_) (fun h_171 => ?_)
                            · refine go_iconst dX12_go_178 ?_
                              exact cut_179 1 (by first | assumption | rfl | omega) (by first | assumption | rfl | omega)
                            · refine go_iconst dX12_go_174 ?_
                              refine go_goto (tgt := 179) dX12_go_175 (by decide) ?_
                              exact cut_179 4 (by first | assumption | rfl | omega) (by first | assumption | rfl | omega)
            · refine go_aload_n dX12_go_107 rfl ?_
              refine go_iconst dX12_go_108 ?_
              refine go_putf_i (ki := 7) dX12_go_109 fw_12_30 ob_214 rfl rfl ⟨by omega, by omega⟩ ?_
              exact go_ret (v := 0) rfl dX12_go_112 rfl (TM.mk' htm (((Gx.rf.w (by omega)).w (by omega)).w (by omega)) (fun h => by exfalso; rw [hK, ← hxa] at h; unfold tokK at h; omega) (by rw [wr_ni (by decide), wr_self, hP]; omega) (Or.inl ⟨by rw [hK, ← hxa]; unfold tokK; omega, wr_self _ _ _ _⟩))
          · refine go_aload_n dX12_go_82 rfl ?_
            refine go_aload_n dX12_go_83 rfl ?_
            refine go_getf_i (ki := 4) dX12_go_84 fl_12_27 ob_214 rfl rfl (fun hf_84 => ?_)
            rw [show ((wr (wr m 214 5 x) 214 6 x) 214 4 : Int) = lim from by rw [wr_ni (by decide), wr_ni (by decide)]; exact htb.2.1] at hf_84 ⊢
            refine go_putf_i (ki := 6) dX12_go_87 fw_12_24 ob_214 rfl rfl ⟨by omega, by omega⟩ ?_
            refine go_aload_n dX12_go_90 rfl ?_
            refine go_iconst dX12_go_91 ?_
            refine go_putf_i (ki := 7) dX12_go_92 fw_12_30 ob_214 rfl rfl ⟨by omega, by omega⟩ ?_
            exact go_ret (v := 0) rfl dX12_go_95 rfl (TM.mk' htm ((((Gx.rf.w (by omega)).w (by omega)).w (by omega)).w (by omega)) (fun h => by exfalso; rw [hK, ← hxa] at h; unfold tokK at h; omega) (by rw [wr_ni (by decide), wr_self, hP]; omega) (Or.inr (Or.inl ⟨by rw [hK, ← hxa]; unfold tokK; omega, wr_self _ _ _ _⟩)))
      refine go_aload_n dX12_go_4 rfl ?_
      refine go_getf_i (ki := 3) dX12_go_5 fl_12_18 ob_214 rfl rfl (fun hf_5 => ?_)
      rw [show ((wr m 214 5 x) 214 3 : Int) = n from by rw [wr_ni (by decide)]; exact htb.1] at hf_5 ⊢
      refine go_icmp_ge (tgt := 52) dX12_go_8 (by decide) ⟨by omega, by omega⟩ ⟨by omega, by omega⟩ (fun h_8 => ?_) (fun h_8 => ?_)
      · exact cut_52  (by rw [← hsk]; exact (sk1_f (by omega)).symm)
      · refine go_aload_n dX12_go_11 rfl ?_
        refine go_getf_p (b := 215) dX12_go_12 fl_12_7 ob_214 rfl pt_214_1 ?_
        refine go_aload_n dX12_go_15 rfl ?_
        refine go_getf_i (ki := 5) dX12_go_16 fl_12_21 ob_214 rfl rfl (fun hf_16 => ?_)
        rw [show ((wr m 214 5 x) 214 5 : Int) = x from by rw [wr_self]] at hf_16 ⊢
        refine go_iaload dX12_go_19 ar_215 (by omega) (by omega) (fun he_19 => ?_)
        rw [show ((wr m 214 5 x) 215 x : Int) = (t x) from by rw [wr_na (by omega)]; exact (htb.2.2 _ (by omega) (by omega))] at he_19 ⊢
        refine go_bipush dX12_go_20 (by decide) ?_
        refine go_icmp_eq (tgt := 39) dX12_go_22 (by decide) ⟨by omega, by omega⟩ ⟨by omega, by omega⟩ (fun h_22 => ?_) (fun h_22 => ?_)
        · refine go_aload_n dX12_go_39 rfl ?_
          refine go_dup_r dX12_go_40 ?_
          refine go_getf_i (ki := 5) dX12_go_41 fl_12_21 ob_214 rfl rfl (fun hf_41 => ?_)
          rw [show ((wr m 214 5 x) 214 5 : Int) = x from by rw [wr_self]] at hf_41 ⊢
          refine go_iconst dX12_go_44 ?_
          refine go_iadd dX12_go_45 ?_
          refine go_putf_i (ki := 5) dX12_go_46 fw_12_21 ob_214 rfl rfl ⟨by omega, by omega⟩ ?_
          refine go_goto (tgt := 0) dX12_go_49 (by decide) ?_
          exact ih_0 (wr (wr m 214 5 x) 214 5 (x + 1)) (x + 1) (by first | assumption | omega | rfl) (by first | assumption | omega | rfl) (by rw [← hsk]; exact (sk1_t (by omega) (by omega)).symm) wr_wr (by omega)
        · refine go_aload_n dX12_go_25 rfl ?_
          refine go_getf_p (b := 215) dX12_go_26 fl_12_7 ob_214 rfl pt_214_1 ?_
          refine go_aload_n dX12_go_29 rfl ?_
          refine go_getf_i (ki := 5) dX12_go_30 fl_12_21 ob_214 rfl rfl (fun hf_30 => ?_)
          rw [show ((wr m 214 5 x) 214 5 : Int) = x from by rw [wr_self]] at hf_30 ⊢
          refine go_iaload dX12_go_33 ar_215 (by omega) (by omega) (fun he_33 => ?_)
          rw [show ((wr m 214 5 x) 215 x : Int) = (t x) from by rw [wr_na (by omega)]; exact (htb.2.2 _ (by omega) (by omega))] at he_33 ⊢
          refine go_bipush dX12_go_34 (by decide) ?_
          refine go_icmp_ne (tgt := 52) dX12_go_36 (by decide) ⟨by omega, by omega⟩ ⟨by omega, by omega⟩ (fun h_36 => ?_) (fun h_36 => ?_)
          · exact cut_52  (by rw [← hsk]; exact (sk1_f (by omega)).symm)
          · refine go_aload_n dX12_go_39 rfl ?_
            refine go_dup_r dX12_go_40 ?_
            refine go_getf_i (ki := 5) dX12_go_41 fl_12_21 ob_214 rfl rfl (fun hf_41 => ?_)
            rw [show ((wr m 214 5 x) 214 5 : Int) = x from by rw [wr_self]] at hf_41 ⊢
            refine go_iconst dX12_go_44 ?_
            refine go_iadd dX12_go_45 ?_
            refine go_putf_i (ki := 5) dX12_go_46 fw_12_21 ob_214 rfl rfl ⟨by omega, by omega⟩ ?_
            refine go_goto (tgt := 0) dX12_go_49 (by decide) ?_
            exact ih_0 (wr (wr m 214 5 x) 214 5 (x + 1)) (x + 1) (by first | assumption | omega | rfl) (by first | assumption | omega | rfl) (by rw [← hsk]; exact (sk1_t (by omega) (by omega)).symm) wr_wr (by omega)
  exact lp_0 _ m (m 214 5) (by omega) (by omega) hsk0 wr_id.symm (Nat.lt_succ_self _)
