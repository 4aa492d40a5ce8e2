/-! ===== the reference: a SENTENCE as a tree, and as the class keeps it ===== -/
def evL (A : Cd → Bool) : List Cd → List Bool → List Bool
  | [], S => S
  | c :: l, S => evL A l (stp1 A c S)
theorem evL_app {A : Cd → Bool} : ∀ {l l' : List Cd} {S : List Bool}, evL A (l ++ l') S = evL A l' (evL A l S) := by
  intro l
  induction l with
  | nil => intro l' S; rfl
  | cons c l ih => intro l' S; exact ih
def ndC (N : Int → Int) (k : Int) : Cd := if N (4 * k) < 69 then (N (4 * k) + 150, 0, 0) else if N (4 * k) < 71 then (N (4 * k) + 150, 0, N (4 * k + 1)) else (N (4 * k) + 150, N (4 * k + 3), N (4 * k + 2))
def evT (A : Cd → Bool) (N : Int → Int) : Nat → Int → Bool
  | 0, _ => false
  | f + 1, k => if N (4 * k) = 1 then !(evT A N f (N (4 * k + 1))) else if N (4 * k) = 2 then evT A N f (N (4 * k + 1)) && evT A N f (N (4 * k + 2)) else if N (4 * k) = 3 then evT A N f (N (4 * k + 1)) || evT A N f (N (4 * k + 2)) else A (ndC N k)
/-- nodes stand behind those that they join -/
def Wk (N : Int → Int) (P k : Int) : Prop := (N (4 * k) = 1 ∧ 0 ≤ N (4 * k + 1) ∧ N (4 * k + 1) < k) ∨ ((N (4 * k) = 2 ∨ N (4 * k) = 3) ∧ (0 ≤ N (4 * k + 1) ∧ N (4 * k + 1) < k) ∧ 0 ≤ N (4 * k + 2) ∧ N (4 * k + 2) < k) ∨ ((66 ≤ N (4 * k) ∧ N (4 * k) ≤ 69)) ∨ (N (4 * k) = 70 ∧ 0 ≤ N (4 * k + 1) ∧ N (4 * k + 1) < P) ∨ ((71 ≤ N (4 * k) ∧ N (4 * k) ≤ 74) ∧ 60 ≤ N (4 * k + 3) ∧ N (4 * k + 3) ≤ 62)
def Wf (N : Int → Int) (P n : Int) : Prop := ∀ k : Int, 0 ≤ k → k < n → Wk N P k
def Rep (N : Int → Int) (k : Int) (l : List Cd) : Prop := ∀ (A : Cd → Bool) (S : List Bool), evL A l S = evT A N (k + 1).toNat k :: S
section
variable {A : Cd → Bool} {N N' : Int → Int} {P n : Int}
theorem evT_c (h : ∀ j : Int, j < 4 * n → N' j = N j) (hw : Wf N P n) : ∀ (f : Nat) (k : Int), 0 ≤ k → k < n → evT A N' f k = evT A N f k := by
  intro f
  induction f with
  | zero => intro k _ _; rfl
  | succ f ih =>
    intro k h0 h1
    have w := hw k h0 h1
    unfold Wk at w
    have e0 := h (4 * k) (by omega)
    have e1 := h (4 * k + 1) (by omega)
    have e2 := h (4 * k + 2) (by omega)
    have e3 := h (4 * k + 3) (by omega)
    show (if N' (4 * k) = 1 then !(evT A N' f (N' (4 * k + 1))) else if N' (4 * k) = 2 then evT A N' f (N' (4 * k + 1)) && evT A N' f (N' (4 * k + 2)) else if N' (4 * k) = 3 then evT A N' f (N' (4 * k + 1)) || evT A N' f (N' (4 * k + 2)) else A (ndC N' k)) = (if N (4 * k) = 1 then !(evT A N f (N (4 * k + 1))) else if N (4 * k) = 2 then evT A N f (N (4 * k + 1)) && evT A N f (N (4 * k + 2)) else if N (4 * k) = 3 then evT A N f (N (4 * k + 1)) || evT A N f (N (4 * k + 2)) else A (ndC N k))
    have en : ndC N' k = ndC N k := by unfold ndC; rw [e0, e1, e2, e3]
    rw [en, e0, e1, e2]
    by_cases q1 : N (4 * k) = 1
    · rw [if_pos q1, if_pos q1, ih _ (by omega) (by omega)]
    · rw [if_neg q1, if_neg q1]
      by_cases q2 : N (4 * k) = 2
      · rw [if_pos q2, if_pos q2, ih _ (by omega) (by omega), ih _ (by omega) (by omega)]
      · rw [if_neg q2, if_neg q2]
        by_cases q3 : N (4 * k) = 3
        · rw [if_pos q3, if_pos q3, ih _ (by omega) (by omega), ih _ (by omega) (by omega)]
        · rw [if_neg q3, if_neg q3]
theorem evT_f (hw : Wf N P n) : ∀ (f g : Nat) (k : Int), 0 ≤ k → k < n → k + 1 ≤ f → k + 1 ≤ g → evT A N f k = evT A N g k := by
  intro f
  induction f with
  | zero => intro g k h0 _ h2; omega
  | succ f ih =>
    intro g k h0 h1 h2 h3
    cases g with
    | zero => omega
    | succ g =>
      have w := hw k h0 h1
      unfold Wk at w
      show (if N (4 * k) = 1 then !(evT A N f (N (4 * k + 1))) else if N (4 * k) = 2 then evT A N f (N (4 * k + 1)) && evT A N f (N (4 * k + 2)) else if N (4 * k) = 3 then evT A N f (N (4 * k + 1)) || evT A N f (N (4 * k + 2)) else A (ndC N k)) = (if N (4 * k) = 1 then !(evT A N g (N (4 * k + 1))) else if N (4 * k) = 2 then evT A N g (N (4 * k + 1)) && evT A N g (N (4 * k + 2)) else if N (4 * k) = 3 then evT A N g (N (4 * k + 1)) || evT A N g (N (4 * k + 2)) else A (ndC N k))
      by_cases q1 : N (4 * k) = 1
      · rw [if_pos q1, if_pos q1, ih g _ (by omega) (by omega) (by omega) (by omega)]
      · rw [if_neg q1, if_neg q1]
        by_cases q2 : N (4 * k) = 2
        · rw [if_pos q2, if_pos q2, ih g (N (4 * k + 1)) (by omega) (by omega) (by omega) (by omega), ih g (N (4 * k + 2)) (by omega) (by omega) (by omega) (by omega)]
        · rw [if_neg q2, if_neg q2]
          by_cases q3 : N (4 * k) = 3
          · rw [if_pos q3, if_pos q3, ih g (N (4 * k + 1)) (by omega) (by omega) (by omega) (by omega), ih g (N (4 * k + 2)) (by omega) (by omega) (by omega) (by omega)]
          · rw [if_neg q3, if_neg q3]
theorem Rep.c {k : Int} {l : List Cd} (hr : Rep N k l) (h : ∀ j : Int, j < 4 * n → N' j = N j) (hw : Wf N P n) (h0 : 0 ≤ k) (h1 : k < n) : Rep N' k l := fun A S => by
  rw [hr A S, evT_c h hw _ k h0 h1]
theorem Wf.c (hw : Wf N P n) (h : ∀ j : Int, j < 4 * n → N' j = N j) : Wf N' P n := fun k h0 h1 => by
  have w := hw k h0 h1
  unfold Wk at *
  rw [h (4 * k) (by omega), h (4 * k + 1) (by omega), h (4 * k + 2) (by omega), h (4 * k + 3) (by omega)]
  exact w
/-- one more node -/
def nodF (N : Int → Int) (n w a b r : Int) : Int → Int := fun j => if j = 4 * n + 3 then r else if j = 4 * n + 2 then b else if j = 4 * n + 1 then a else if j = 4 * n then w else N j
theorem nodF_o {w a b r : Int} : ∀ j : Int, j < 4 * n → nodF N n w a b r j = N j := fun j hj => by unfold nodF; rw [if_neg (by omega), if_neg (by omega), if_neg (by omega), if_neg (by omega)]
theorem nodF_n {w a b r : Int} : nodF N n w a b r (4 * n) = w ∧ nodF N n w a b r (4 * n + 1) = a ∧ nodF N n w a b r (4 * n + 2) = b ∧ nodF N n w a b r (4 * n + 3) = r := by
  unfold nodF
  refine ⟨?_, ?_, ?_, ?_⟩
  · rw [if_neg (by omega), if_neg (by omega), if_neg (by omega), if_pos rfl]
  · rw [if_neg (by omega), if_neg (by omega), if_pos rfl]
  · rw [if_neg (by omega), if_pos rfl]
  · rw [if_pos rfl]
theorem Wf.add {w a b r : Int} (hw : Wf N P n) (hn : 0 ≤ n) (hk : Wk (nodF N n w a b r) P n) : Wf (nodF N n w a b r) P (n + 1) := fun k h0 h1 => by
  by_cases q : k = n
  · rw [q]; exact hk
  · exact hw.c nodF_o k h0 (by omega)
theorem Rep.leaf {w a b r : Int} {c : Cd} (hn : 0 ≤ n) (hw : 66 ≤ w) (hc : c = if w < 69 then (w + 150, 0, 0) else if w < 71 then (w + 150, 0, a) else (w + 150, r, b)) : Rep (nodF N n w a b r) n [c] := fun A S => by
  obtain ⟨e0, e1, e2, e3⟩ := nodF_n (N := N) (n := n) (w := w) (a := a) (b := b) (r := r)
  rw [show (n + 1).toNat = n.toNat + 1 by omega]
  show stp1 A c S = (if nodF N n w a b r (4 * n) = 1 then _ else if nodF N n w a b r (4 * n) = 2 then _ else if nodF N n w a b r (4 * n) = 3 then _ else A (ndC (nodF N n w a b r) n)) :: S
  have ec : ndC (nodF N n w a b r) n = c := by unfold ndC; rw [e0, e1, e2, e3, hc]
  rw [ec, e0, if_neg (by omega), if_neg (by omega), if_neg (by omega)]
  have h1 : c.1 = w + 150 := by rw [hc]; split; rfl; split <;> rfl
  unfold stp1
  rw [if_neg (by omega), if_neg (by omega)]
theorem Rep.not {a b r : Int} {l : List Cd} (hr : Rep N a l) (hw : Wf N P n) (ha : 0 ≤ a) (ha1 : a < n) (hwn : Wf (nodF N n 1 a b r) P (n + 1)) : Rep (nodF N n 1 a b r) n (l ++ [(215, 0, 0)]) := fun A S => by
  obtain ⟨e0, e1, e2, e3⟩ := nodF_n (N := N) (n := n) (w := 1) (a := a) (b := b) (r := r)
  rw [evL_app, (hr.c (N' := nodF N n 1 a b r) nodF_o hw ha ha1) A S, show (n + 1).toNat = n.toNat + 1 by omega]
  have e : evT A (nodF N n 1 a b r) (n.toNat + 1) n = !(evT A (nodF N n 1 a b r) n.toNat a) := by
    rw [show evT A (nodF N n 1 a b r) (n.toNat + 1) n = if nodF N n 1 a b r (4 * n) = 1 then !(evT A (nodF N n 1 a b r) n.toNat (nodF N n 1 a b r (4 * n + 1))) else if nodF N n 1 a b r (4 * n) = 2 then evT A (nodF N n 1 a b r) n.toNat (nodF N n 1 a b r (4 * n + 1)) && evT A (nodF N n 1 a b r) n.toNat (nodF N n 1 a b r (4 * n + 2)) else if nodF N n 1 a b r (4 * n) = 3 then evT A (nodF N n 1 a b r) n.toNat (nodF N n 1 a b r (4 * n + 1)) || evT A (nodF N n 1 a b r) n.toNat (nodF N n 1 a b r (4 * n + 2)) else A (ndC (nodF N n 1 a b r) n) from rfl, e0, if_pos rfl, e1]
  rw [e, evT_f hwn n.toNat (a + 1).toNat a ha (by omega) (by omega) (by omega)]
  rfl
theorem Rep.bin {w a b r : Int} {l l' : List Cd} (hr : Rep N a l) (hr' : Rep N b l') (hw : Wf N P n) (ha : 0 ≤ a) (ha1 : a < n) (hb : 0 ≤ b) (hb1 : b < n) (hww : w = 2 ∨ w = 3) (hwn : Wf (nodF N n w a b r) P (n + 1)) : Rep (nodF N n w a b r) n (l ++ l' ++ [((if w = 2 then 214 else 213), 0, 0)]) := fun A S => by
  obtain ⟨e0, e1, e2, e3⟩ := nodF_n (N := N) (n := n) (w := w) (a := a) (b := b) (r := r)
  rw [evL_app, evL_app, (hr.c (N' := nodF N n w a b r) nodF_o hw ha ha1) A S, (hr'.c (N' := nodF N n w a b r) nodF_o hw hb hb1) A _, show (n + 1).toNat = n.toNat + 1 by omega]
  show stp1 A ((if w = 2 then 214 else 213), 0, 0) _ = (if nodF N n w a b r (4 * n) = 1 then _ else if nodF N n w a b r (4 * n) = 2 then evT A (nodF N n w a b r) n.toNat (nodF N n w a b r (4 * n + 1)) && evT A (nodF N n w a b r) n.toNat (nodF N n w a b r (4 * n + 2)) else if nodF N n w a b r (4 * n) = 3 then evT A (nodF N n w a b r) n.toNat (nodF N n w a b r (4 * n + 1)) || evT A (nodF N n w a b r) n.toNat (nodF N n w a b r (4 * n + 2)) else _) :: S
  rw [e0, e1, e2, evT_f hwn n.toNat (a + 1).toNat a ha (by omega) (by omega) (by omega), evT_f hwn n.toNat (b + 1).toNat b hb (by omega) (by omega) (by omega)]
  rcases hww with e | e
  · subst e; rfl
  · subst e; rfl
end
theorem rn1_all {t : Int → Int} {n : Int} : ∀ (f : Nat) (a j : Int), a ≤ j → j < rnN t n f a → isL (t j) ∨ isD (t j) := by
  intro f
  induction f with
  | zero => intro a j h0 h1; have h1 : j < a := h1; omega
  | succ f ih =>
    intro a j h0 h1
    rw [show rnN t n (f + 1) a = if a < n ∧ (isL (t a) ∨ isD (t a)) then rnN t n f (a + 1) else a from rfl] at h1
    by_cases q : a < n ∧ (isL (t a) ∨ isD (t a))
    · rw [if_pos q] at h1
      by_cases z : j = a
      · rw [z]; exact q.2
      · exact ih (a + 1) j (by omega) h1
    · rw [if_neg q] at h1; omega
theorem dv999 {t : Int → Int} {a : Int} : ∀ L : Nat, L ≤ 3 → (∀ j : Int, a ≤ j → j < a + L → isL (t j) ∨ isD (t j)) → lcN t a L = 0 → 0 ≤ dvN t a L ∧ dvN t a L < 10 ^ L := by
  intro L
  induction L with
  | zero => intro _ _ _; exact ⟨Int.le_refl 0, by show (0 : Int) < 10 ^ 0; decide⟩
  | succ L ih =>
    intro hL hd hc
    have hb := cnt_b t a L
    have hc2 : lcN t a L + (if isL (t (a + (L : Int))) then 1 else 0) = 0 := hc
    have hl : ¬ isL (t (a + (L : Int))) := by
      intro q
      rw [if_pos q] at hc2; omega
    rw [if_neg hl] at hc2
    have h1 := ih (by omega) (fun j x y => hd j x (by omega)) (by omega)
    have h2 : isD (t (a + (L : Int))) := (hd (a + (L : Int)) (by omega) (by omega)).resolve_left hl
    have p3 : (10 : Int) ^ L ≤ 100 := by
      have : L = 0 ∨ L = 1 ∨ L = 2 := by omega
      rcases this with e | e | e <;> rw [e] <;> decide
    have e : dvN t a (L + 1) = 10 * dvN t a L + t (a + (L : Int)) - 48 := by
      show (if isL (t (a + (L : Int))) then _ else w32 (10 * dvN t a L + t (a + (L : Int)) - 48)) = _
      rw [if_neg hl]
      exact w32_i ⟨by omega, by omega⟩
    rw [e, Int.pow_succ]
    omega
theorem num999 {G : Mem} {t kw : Int → Int} {n lim k : Int} (h : TE G t kw n lim) (h0 : 0 ≤ k) (h1 : k < G 1 11) (hk : G 4 k = 2) : 0 ≤ vN G k ∧ vN G k ≤ 999 := by
  obtain ⟨hT, -, -, -, -⟩ := h
  obtain ⟨a1, -, a3⟩ := hT.2.1 k h0 h1
  obtain ⟨a, ha⟩ : ∃ z, z = tokA t n lim k.toNat := ⟨_, rfl⟩
  unfold tK at a1
  rw [← ha] at a1 a3
  rw [hk] at a1
  unfold tokK at a1
  by_cases q1 : n ≤ a
  · rw [if_pos q1] at a1; split at a1 <;> omega
  · rw [if_neg q1] at a1
    by_cases q2 : lim ≤ a
    · rw [if_pos q2] at a1; omega
    · rw [if_neg q2] at a1
      by_cases q3 : isL (t a) ∨ isD (t a)
      · rw [if_pos q3] at a1
        have hv := a3 ⟨by omega, by omega, q3⟩
        unfold runK at a1
        by_cases q4 : lcN t a (rn1 t n a - a).toNat = 0
        · rw [if_pos q4] at a1
          by_cases q5 : dcN t a (rn1 t n a - a).toNat ≤ 3
          · have hb := cnt_b t a (rn1 t n a - a).toNat
            have hr := rn1_bb (t := t) (n := n) (a := a) (by omega)
            have hd := dv999 (t := t) (a := a) (rn1 t n a - a).toNat (by omega) (fun j x y => rn1_all (n - a).toNat a j x (by show j < rn1 t n a; omega)) q4
            unfold runV at hv
            rw [if_pos q4] at hv
            have p3 : (10 : Int) ^ (rn1 t n a - a).toNat ≤ 1000 := by
              have : (rn1 t n a - a).toNat = 0 ∨ (rn1 t n a - a).toNat = 1 ∨ (rn1 t n a - a).toNat = 2 ∨ (rn1 t n a - a).toNat = 3 := by omega
              rcases this with e | e | e | e <;> rw [e] <;> decide
            have e : vN G k = dvN t a (rn1 t n a - a).toNat := by unfold vN; rw [hv]; exact w32_i (dvN_R _ _ _)
            rw [e]; omega
          · rw [if_neg q5] at a1; omega
        · rw [if_neg q4] at a1
          by_cases q6 : dcN t a (rn1 t n a - a).toNat = 0 ∧ lcN t a (rn1 t n a - a).toNat ≤ 7
          · rw [if_pos q6] at a1
            have := kwd_b kw (lvN t a (rn1 t n a - a).toNat)
            omega
          · rw [if_neg q6] at a1; omega
      · rw [if_neg q3] at a1
        by_cases q7 : isS (t a)
        · rw [if_pos q7] at a1; unfold isS at q7; omega
        · rw [if_neg q7] at a1; omega
def CdA (P : Int) (l : List Cd) : Prop := ∀ c ∈ l, c.1 = 220 → 0 ≤ c.2.2 ∧ c.2.2 < P
theorem CdA.app {P : Int} {l l' : List Cd} (h : CdA P l) (h' : CdA P l') : CdA P (l ++ l') := fun c hc => by
  rcases List.mem_append.mp hc with z | z
  · exact h c z
  · exact h' c z
theorem CdA.one {P : Int} {c : Cd} (h : c.1 = 220 → 0 ≤ c.2.2 ∧ c.2.2 < P) : CdA P [c] := fun d hd => by
  have e : d = c := by simpa using hd
  rw [e]; exact h
theorem CdA.k {P k : Int} (h : k ≠ 220) {g v : Int} : CdA P [(k, g, v)] := CdA.one (fun e => absurd e h)
def Sx (m m' : Mem) : Prop := (∀ b : Nat, b ≠ 214 → b ≠ 234 → m' b = m b) ∧ ∀ j : Int, (j < 5 ∨ (13 < j ∧ j < 44) ∨ 47 < j) → m' 214 j = m 214 j
theorem Sx.rf {m : Mem} : Sx m m := ⟨fun _ _ _ => rfl, fun _ _ => rfl⟩
theorem Sx.tr {m n o : Mem} (h : Sx m n) (h' : Sx n o) : Sx m o := ⟨fun b h1 h2 => (h'.1 b h1 h2).trans (h.1 b h1 h2), fun j hj => (h'.2 j hj).trans (h.2 j hj)⟩
theorem Lx.s {m m' : Mem} (h : Lx m m') : Sx m m' := ⟨fun b h1 _ => h.1 b h1, fun j hj => h.2 j (by omega)⟩
theorem Sx.w {m n : Mem} {j x : Int} (h : Sx m n) (hj : 44 ≤ j) (hj1 : j ≤ 47) : Sx m (wr n 214 j x) := ⟨fun b h1 h2 => by rw [wr_row h1]; exact h.1 b h1 h2, fun k hk => by rw [wr_ni (by omega)]; exact h.2 k hk⟩
theorem Sx.n {m n : Mem} {j x : Int} (h : Sx m n) : Sx m (wr n 234 j x) := ⟨fun b h1 h2 => by rw [wr_row h2]; exact h.1 b h1 h2, fun k hk => by rw [wr_na (by decide)]; exact h.2 k hk⟩
/-- where the reference is in reading a SENTENCE: ONES, how deep within, nodes -/
def MS (m : Mem) (P o wi nn : Int) : Prop := m 214 45 = o ∧ m 214 46 = wi ∧ m 214 44 = nn ∧ Wf (m 234) P nn
def SaQ (G : Mem) (t kw : Int → Int) (n lim : Int) (m m' : Mem) (wi nn : Int) (R : Rs) (r : Int) : Prop := Sx m m' ∧ m' 214 46 = wi ∧ ((R.1 = 0 ∧ r = 1 ∧ m' 214 10 = m 214 10 ∧ TM G t kw n lim m' R.2.1 ∧ MS m' (G 8 3) R.2.2.1 wi (nn + (R.2.2.2.length : Int)) ∧ (∀ j : Int, j < 4 * nn → m' 234 j = m 234 j) ∧ (nn ≤ m' 214 47 ∧ m' 214 47 < nn + (R.2.2.2.length : Int)) ∧ Rep (m' 234) (m' 214 47) R.2.2.2 ∧ CdA (G 8 3) R.2.2.2) ∨ (R.1 ≠ 0 ∧ r = 0 ∧ m' 214 10 = R.1 ∧ m' 214 11 = G 5 R.2.1))
def nodW (m : Mem) (n w a b r : Int) : Mem := wr (wr (wr (wr (wr m 234 (4 * n) w) 234 (4 * n + 1) a) 234 (4 * n + 2) b) 234 (4 * n + 3) r) 214 44 (n + 1)
theorem nodW_234 {m : Mem} {n w a b r : Int} : nodW m n w a b r 234 = nodF (m 234) n w a b r := by
  unfold nodW nodF
  rw [wr_row (by decide), wr_rowat, wr_rowat, wr_rowat, wr_rowat]
theorem nodW_214 {m : Mem} {n w a b r j : Int} (h : j ≠ 44) : nodW m n w a b r 214 j = m 214 j := by
  unfold nodW
  rw [wr_ni h, wr_na (by decide), wr_na (by decide), wr_na (by decide), wr_na (by decide)]
theorem nodW_44 {m : Mem} {n w a b r : Int} : nodW m n w a b r 214 44 = n + 1 := by unfold nodW; rw [wr_self]
theorem nodW_row {m : Mem} {n w a b r : Int} {c : Nat} (h1 : c ≠ 214) (h2 : c ≠ 234) : nodW m n w a b r c = m c := by
  unfold nodW
  rw [wr_row h1, wr_row h2, wr_row h2, wr_row h2, wr_row h2]
theorem nodW_s {m : Mem} {n w a b r : Int} : Sx m (nodW m n w a b r) := by
  unfold nodW
  exact ((((Sx.rf.n).n).n).n).w (by omega) (by omega)
theorem TM.nod {G m : Mem} {t kw : Int → Int} {n lim i k w a b r : Int} (h : TM G t kw n lim m i) : TM G t kw n lim (nodW m k w a b r) i := by
  unfold nodW
  exact ((((h.w (by decide) (by omega)).w (by decide) (by omega)).w (by decide) (by omega)).w (by decide) (by omega)).w (by decide) (by omega)
theorem MS.l {m m' : Mem} {P o wi nn : Int} (h : MS m P o wi nn) (hl : Lx m m') : MS m' P o wi nn := ⟨by rw [hl.2 45 (by omega)]; exact h.1, by rw [hl.2 46 (by omega)]; exact h.2.1, by rw [hl.2 44 (by omega)]; exact h.2.2.1, by rw [hl.1 234 (by decide)]; exact h.2.2.2⟩

theorem dX12_saysOne_0 : decode mX12_saysOne.2.1 0 = .ok (.iconst 4, 1) := by decide +kernel
theorem dX12_saysOne_1 : decode mX12_saysOne.2.1 1 = .ok (.aload_n 0, 1) := by decide +kernel
theorem dX12_saysOne_2 : decode mX12_saysOne.2.1 2 = .ok (.getfield 424, 3) := by decide +kernel
theorem dX12_saysOne_5 : decode mX12_saysOne.2.1 5 = .ok (.imul, 1) := by decide +kernel
theorem dX12_saysOne_6 : decode mX12_saysOne.2.1 6 = .ok (.istore 5, 2) := by decide +kernel
theorem dX12_saysOne_8 : decode mX12_saysOne.2.1 8 = .ok (.aload_n 0, 1) := by decide +kernel
theorem dX12_saysOne_9 : decode mX12_saysOne.2.1 9 = .ok (.getfield 157, 3) := by decide +kernel
theorem dX12_saysOne_12 : decode mX12_saysOne.2.1 12 = .ok (.iload 5, 2) := by decide +kernel
theorem dX12_saysOne_14 : decode mX12_saysOne.2.1 14 = .ok (.iload_n 1, 1) := by decide +kernel
theorem dX12_saysOne_15 : decode mX12_saysOne.2.1 15 = .ok (.iastore, 1) := by decide +kernel
theorem dX12_saysOne_16 : decode mX12_saysOne.2.1 16 = .ok (.aload_n 0, 1) := by decide +kernel
theorem dX12_saysOne_17 : decode mX12_saysOne.2.1 17 = .ok (.getfield 157, 3) := by decide +kernel
theorem dX12_saysOne_20 : decode mX12_saysOne.2.1 20 = .ok (.iload 5, 2) := by decide +kernel
theorem dX12_saysOne_22 : decode mX12_saysOne.2.1 22 = .ok (.iconst 1, 1) := by decide +kernel
theorem dX12_saysOne_23 : decode mX12_saysOne.2.1 23 = .ok (.iadd, 1) := by decide +kernel
theorem dX12_saysOne_24 : decode mX12_saysOne.2.1 24 = .ok (.iload_n 2, 1) := by decide +kernel
theorem dX12_saysOne_25 : decode mX12_saysOne.2.1 25 = .ok (.iastore, 1) := by decide +kernel
theorem dX12_saysOne_26 : decode mX12_saysOne.2.1 26 = .ok (.aload_n 0, 1) := by decide +kernel
theorem dX12_saysOne_27 : decode mX12_saysOne.2.1 27 = .ok (.getfield 157, 3) := by decide +kernel
theorem dX12_saysOne_30 : decode mX12_saysOne.2.1 30 = .ok (.iload 5, 2) := by decide +kernel
theorem dX12_saysOne_32 : decode mX12_saysOne.2.1 32 = .ok (.iconst 2, 1) := by decide +kernel
theorem dX12_saysOne_33 : decode mX12_saysOne.2.1 33 = .ok (.iadd, 1) := by decide +kernel
theorem dX12_saysOne_34 : decode mX12_saysOne.2.1 34 = .ok (.iload_n 3, 1) := by decide +kernel
theorem dX12_saysOne_35 : decode mX12_saysOne.2.1 35 = .ok (.iastore, 1) := by decide +kernel
theorem dX12_saysOne_36 : decode mX12_saysOne.2.1 36 = .ok (.aload_n 0, 1) := by decide +kernel
theorem dX12_saysOne_37 : decode mX12_saysOne.2.1 37 = .ok (.getfield 157, 3) := by decide +kernel
theorem dX12_saysOne_40 : decode mX12_saysOne.2.1 40 = .ok (.iload 5, 2) := by decide +kernel
theorem dX12_saysOne_42 : decode mX12_saysOne.2.1 42 = .ok (.iconst 3, 1) := by decide +kernel
theorem dX12_saysOne_43 : decode mX12_saysOne.2.1 43 = .ok (.iadd, 1) := by decide +kernel
theorem dX12_saysOne_44 : decode mX12_saysOne.2.1 44 = .ok (.iload 4, 2) := by decide +kernel
theorem dX12_saysOne_46 : decode mX12_saysOne.2.1 46 = .ok (.iastore, 1) := by decide +kernel
theorem dX12_saysOne_47 : decode mX12_saysOne.2.1 47 = .ok (.aload_n 0, 1) := by decide +kernel
theorem dX12_saysOne_48 : decode mX12_saysOne.2.1 48 = .ok (.dup, 1) := by decide +kernel
theorem dX12_saysOne_49 : decode mX12_saysOne.2.1 49 = .ok (.getfield 424, 3) := by decide +kernel
theorem dX12_saysOne_52 : decode mX12_saysOne.2.1 52 = .ok (.iconst 1, 1) := by decide +kernel
theorem dX12_saysOne_53 : decode mX12_saysOne.2.1 53 = .ok (.iadd, 1) := by decide +kernel
theorem dX12_saysOne_54 : decode mX12_saysOne.2.1 54 = .ok (.putfield 424, 3) := by decide +kernel
theorem dX12_saysOne_57 : decode mX12_saysOne.2.1 57 = .ok (.aload_n 0, 1) := by decide +kernel
theorem dX12_saysOne_58 : decode mX12_saysOne.2.1 58 = .ok (.getfield 424, 3) := by decide +kernel
theorem dX12_saysOne_61 : decode mX12_saysOne.2.1 61 = .ok (.iconst 1, 1) := by decide +kernel
theorem dX12_saysOne_62 : decode mX12_saysOne.2.1 62 = .ok (.isub, 1) := by decide +kernel
theorem dX12_saysOne_63 : decode mX12_saysOne.2.1 63 = .ok (.ireturn, 1) := by decide +kernel
set_option maxRecDepth 4000 in
theorem ev_X12_saysOne {m : Mem} {w : Int} {a : Int} {b : Int} {s : Int} {nn : Int} (hn : m 214 44 = nn) (hnn : 0 ≤ nn ∧ nn < 60) (hw : InR w) (ha : InR a) (hb : InR b) (hs : InR s) : Ev 0 1 mX12_saysOne [vr 214, vi w, vi a, vi b, vi s] m (fun r m' => r = nn ∧ m' = nodW m nn w a b s) := by
  refine Ev.of (L := [vr 214, vi w, vi a, vi b, vi s, un]) (by decide +kernel) rfl (Nat.le_of_ble_eq_true rfl) rfl (fun t ht => by cases ht; first | exact Or.inl rfl | exact Or.inr (Or.inl rfl) | exact Or.inr (Or.inr rfl)) (fun hcan => ?_)
  refine go_iconst dX12_saysOne_0 ?_
  refine go_aload_n dX12_saysOne_1 rfl ?_
  refine go_getf_i (ki := 44) dX12_saysOne_2 fl_12_424 ob_214 rfl rfl (fun hf_2 => ?_)
  rw [show (m 214 44 : Int) = nn from hn] at hf_2 ⊢
  refine go_imul dX12_saysOne_5 ?_
  refine go_istore (L' := [vr 214, vi w, vi a, vi b, vi s, vi (4 * nn)]) dX12_saysOne_6 (by decide) rfl rfl ?_
  refine go_aload_n dX12_saysOne_8 rfl ?_
  refine go_getf_p (b := 234) dX12_saysOne_9 fl_12_157 ob_214 rfl pt_214_43 ?_
  refine go_iload dX12_saysOne_12 rfl ?_
  refine go_iload_n dX12_saysOne_14 rfl ?_
  refine go_iastore dX12_saysOne_15 ar_234 (by omega) (by omega) ⟨by omega, by omega⟩ ?_
  refine go_aload_n dX12_saysOne_16 rfl ?_
  refine go_getf_p (b := 234) dX12_saysOne_17 fl_12_157 ob_214 rfl pt_214_43 ?_
  refine go_iload dX12_saysOne_20 rfl ?_
  refine go_iconst dX12_saysOne_22 ?_
  refine go_iadd dX12_saysOne_23 ?_
  refine go_iload_n dX12_saysOne_24 rfl ?_
  refine go_iastore dX12_saysOne_25 ar_234 (by omega) (by omega) ⟨by omega, by omega⟩ ?_
  refine go_aload_n dX12_saysOne_26 rfl ?_
  refine go_getf_p (b := 234) dX12_saysOne_27 fl_12_157 ob_214 rfl pt_214_43 ?_
  refine go_iload dX12_saysOne_30 rfl ?_
  refine go_iconst dX12_saysOne_32 ?_
  refine go_iadd dX12_saysOne_33 ?_
  refine go_iload_n dX12_saysOne_34 rfl ?_
  refine go_iastore dX12_saysOne_35 ar_234 (by omega) (by omega) ⟨by omega, by omega⟩ ?_
  refine go_aload_n dX12_saysOne_36 rfl ?_
  refine go_getf_p (b := 234) dX12_saysOne_37 fl_12_157 ob_214 rfl pt_214_43 ?_
  refine go_iload dX12_saysOne_40 rfl ?_
  refine go_iconst dX12_saysOne_42 ?_
  refine go_iadd dX12_saysOne_43 ?_
  refine go_iload dX12_saysOne_44 rfl ?_
  refine go_iastore dX12_saysOne_46 ar_234 (by omega) (by omega) ⟨by omega, by omega⟩ ?_
  refine go_aload_n dX12_saysOne_47 rfl ?_
  refine go_dup_r dX12_saysOne_48 ?_
  refine go_getf_i (ki := 44) dX12_saysOne_49 fl_12_424 ob_214 rfl rfl (fun hf_49 => ?_)
  rw [show ((wr (wr (wr (wr m 234 (4 * nn) w) 234 ((4 * nn) + 1) a) 234 ((4 * nn) + 2) b) 234 ((4 * nn) + 3) s) 214 44 : Int) = nn from by rw [wr_na (by decide), wr_na (by decide), wr_na (by decide), wr_na (by decide)]; exact hn] at hf_49 ⊢
  refine go_iconst dX12_saysOne_52 ?_
  refine go_iadd dX12_saysOne_53 ?_
  refine go_putf_i (ki := 44) dX12_saysOne_54 fw_12_424 ob_214 rfl rfl ⟨by omega, by omega⟩ ?_
  refine go_aload_n dX12_saysOne_57 rfl ?_
  refine go_getf_i (ki := 44) dX12_saysOne_58 fl_12_424 ob_214 rfl rfl (fun hf_58 => ?_)
  rw [show ((wr (wr (wr (wr (wr m 234 (4 * nn) w) 234 ((4 * nn) + 1) a) 234 ((4 * nn) + 2) b) 234 ((4 * nn) + 3) s) 214 44 (nn + 1)) 214 44 : Int) = (nn + 1) from wr_self _ _ _ _] at hf_58 ⊢
  refine go_iconst dX12_saysOne_61 ?_
  refine go_isub dX12_saysOne_62 ?_
  exact go_ret (v := ((nn + 1) - 1)) rfl dX12_saysOne_63 (okI ⟨by omega, by omega⟩) ⟨by omega, rfl⟩
theorem dX12_readThat_0 : decode mX12_readThat.2.1 0 = .ok (.iload_n 1, 1) := by decide +kernel
theorem dX12_readThat_1 : decode mX12_readThat.2.1 1 = .ok (.bipush 19, 2) := by decide +kernel
theorem dX12_readThat_3 : decode mX12_readThat.2.1 3 = .ok (.if_icmp .ne 18, 3) := by decide +kernel
theorem dX12_readThat_6 : decode mX12_readThat.2.1 6 = .ok (.aload_n 0, 1) := by decide +kernel
theorem dX12_readThat_7 : decode mX12_readThat.2.1 7 = .ok (.bipush 11, 2) := by decide +kernel
theorem dX12_readThat_9 : decode mX12_readThat.2.1 9 = .ok (.aload_n 0, 1) := by decide +kernel
theorem dX12_readThat_10 : decode mX12_readThat.2.1 10 = .ok (.getfield 98, 3) := by decide +kernel
theorem dX12_readThat_13 : decode mX12_readThat.2.1 13 = .ok (.iconst 4, 1) := by decide +kernel
theorem dX12_readThat_14 : decode mX12_readThat.2.1 14 = .ok (.iaload, 1) := by decide +kernel
theorem dX12_readThat_15 : decode mX12_readThat.2.1 15 = .ok (.invokevirtual 396, 3) := by decide +kernel
theorem dX12_readThat_18 : decode mX12_readThat.2.1 18 = .ok (.goto 15, 3) := by decide +kernel
theorem dX12_readThat_21 : decode mX12_readThat.2.1 21 = .ok (.aload_n 0, 1) := by decide +kernel
theorem dX12_readThat_22 : decode mX12_readThat.2.1 22 = .ok (.bipush 6, 2) := by decide +kernel
theorem dX12_readThat_24 : decode mX12_readThat.2.1 24 = .ok (.aload_n 0, 1) := by decide +kernel
theorem dX12_readThat_25 : decode mX12_readThat.2.1 25 = .ok (.getfield 98, 3) := by decide +kernel
theorem dX12_readThat_28 : decode mX12_readThat.2.1 28 = .ok (.iconst 3, 1) := by decide +kernel
theorem dX12_readThat_29 : decode mX12_readThat.2.1 29 = .ok (.iaload, 1) := by decide +kernel
theorem dX12_readThat_30 : decode mX12_readThat.2.1 30 = .ok (.invokevirtual 396, 3) := by decide +kernel
theorem dX12_readThat_33 : decode mX12_readThat.2.1 33 = .ok (.ireturn, 1) := by decide +kernel
set_option maxRecDepth 4000 in
theorem ev_X12_readThat {m : Mem} {G : Mem} {t : Int → Int} {kw : Int → Int} {n : Int} {lim : Int} {i : Int} {w : Int} (htm : TM G t kw n lim m i) (hb : Bg G 8 18 (m 216)) (hdn : DnOk G 8) (hnm : NmR G 8 (m 221)) (hw : w = 19 ∨ w = 20) : Ev 0 5 mX12_readThat [vr 214, vi w] m (fun r m' => RmP G t kw n lim m m' (if w = 19 then 8 + 6 else 8 + 4) (if w = 19 then G 8 4 else G 8 3) i r) := by
  refine Ev.of (L := [vr 214, vi w]) (by decide +kernel) rfl (Nat.le_of_ble_eq_true rfl) rfl (fun t ht => by cases ht; first | exact Or.inl rfl | exact Or.inr (Or.inl rfl) | exact Or.inr (Or.inr rfl)) (fun hcan => ?_)
  obtain ⟨⟨hd0, hd1⟩, ⟨hd2, hd3⟩, ⟨hd4, hd5⟩, ⟨hd6, hd7⟩, ⟨hd8, hd9⟩, hdf, hdp, hdq⟩ := id hdn
  refine go_iload_n dX12_readThat_0 rfl ?_
  refine go_bipush dX12_readThat_1 (by decide) ?_
  refine go_icmp_ne (tgt := 21) dX12_readThat_3 (by decide) ⟨by omega, by omega⟩ ⟨by omega, by omega⟩ (fun h_3 => ?_) (fun h_3 => ?_)
  · refine go_aload_n dX12_readThat_21 rfl ?_
    refine go_bipush dX12_readThat_22 (by decide) ?_
    refine go_aload_n dX12_readThat_24 rfl ?_
    refine go_getf_p (b := 216) dX12_readThat_25 fl_12_98 ob_214 rfl pt_214_14 ?_
    refine go_iconst dX12_readThat_28 ?_
    refine go_iaload dX12_readThat_29 ar_216 (by omega) (by omega) (fun he_29 => ?_)
    rw [show (m 216 3 : Int) = (G 8 3) from hb.n3] at he_29 ⊢
    refine go_callV_z (as := [vi 6, vi (G 8 3)]) (S := []) (b := 214) (ev_X12_readNamed (m := m) (b := 6) (c := (G 8 3)) (G := G) (t := t) (kw := kw) (n := n) (lim := lim) (i := i) (a := (8 + 4)) htm (by first | assumption | omega | exact ⟨by omega, by omega⟩ | (constructor <;> omega)) (fun k a b => hnm.2.1 k a b)) rfl dX12_readThat_30 cv_12_396 rfl rfl ob_214 rfl (by decide) (Nat.le_of_ble_eq_true rfl) (fun r_30 m_30 hr_30 ho_30 => ?_)
    exact go_ret (v := r_30) rfl dX12_readThat_33 (okZ (by first | exact Or.inl rfl | exact Or.inr rfl | assumption | omega)) (by first | (rw [if_pos (by omega), if_pos (by omega)]; exact hr_15) | (rw [if_neg (by omega), if_neg (by omega)]; exact hr_30))
  · refine go_aload_n dX12_readThat_6 rfl ?_
    refine go_bipush dX12_readThat_7 (by decide) ?_
    refine go_aload_n dX12_readThat_9 rfl ?_
    refine go_getf_p (b := 216) dX12_readThat_10 fl_12_98 ob_214 rfl pt_214_14 ?_
    refine go_iconst dX12_readThat_13 ?_
    refine go_iaload dX12_readThat_14 ar_216 (by omega) (by omega) (fun he_14 => ?_)
    rw [show (m 216 4 : Int) = (G 8 4) from hb.n4] at he_14 ⊢
    refine go_callV_z (as := [vi 11, vi (G 8 4)]) (S := []) (b := 214) (ev_X12_readNamed (m := m) (b := 11) (c := (G 8 4)) (G := G) (t := t) (kw := kw) (n := n) (lim := lim) (i := i) (a := (8 + 6)) htm (by first | assumption | omega | exact ⟨by omega, by omega⟩ | (constructor <;> omega)) (fun k a b => hnm.2.2 k a b)) rfl dX12_readThat_15 cv_12_396 rfl rfl ob_214 rfl (by decide) (Nat.le_of_ble_eq_true rfl) (fun r_15 m_15 hr_15 ho_15 => ?_)
    refine go_goto (tgt := 33) dX12_readThat_18 (by decide) ?_
    exact go_ret (v := r_15) rfl dX12_readThat_33 (okZ (by first | exact Or.inl rfl | exact Or.inr rfl | assumption | omega)) (by first | (rw [if_pos (by omega), if_pos (by omega)]; exact hr_15) | (rw [if_neg (by omega), if_neg (by omega)]; exact hr_30))
theorem dX12_readOf_0 : decode mX12_readOf.2.1 0 = .ok (.aload_n 0, 1) := by decide +kernel
theorem dX12_readOf_1 : decode mX12_readOf.2.1 1 = .ok (.iload_n 1, 1) := by decide +kernel
theorem dX12_readOf_2 : decode mX12_readOf.2.1 2 = .ok (.invokevirtual 460, 3) := by decide +kernel
theorem dX12_readOf_5 : decode mX12_readOf.2.1 5 = .ok (.ifCond .ne 5, 3) := by decide +kernel
theorem dX12_readOf_8 : decode mX12_readOf.2.1 8 = .ok (.iconst 0, 1) := by decide +kernel
theorem dX12_readOf_9 : decode mX12_readOf.2.1 9 = .ok (.ireturn, 1) := by decide +kernel
theorem dX12_readOf_10 : decode mX12_readOf.2.1 10 = .ok (.aload_n 0, 1) := by decide +kernel
theorem dX12_readOf_11 : decode mX12_readOf.2.1 11 = .ok (.aload_n 0, 1) := by decide +kernel
theorem dX12_readOf_12 : decode mX12_readOf.2.1 12 = .ok (.bipush 50, 2) := by decide +kernel
theorem dX12_readOf_14 : decode mX12_readOf.2.1 14 = .ok (.iload_n 1, 1) := by decide +kernel
theorem dX12_readOf_15 : decode mX12_readOf.2.1 15 = .ok (.iadd, 1) := by decide +kernel
theorem dX12_readOf_16 : decode mX12_readOf.2.1 16 = .ok (.aload_n 0, 1) := by decide +kernel
theorem dX12_readOf_17 : decode mX12_readOf.2.1 17 = .ok (.getfield 79, 3) := by decide +kernel
theorem dX12_readOf_20 : decode mX12_readOf.2.1 20 = .ok (.iconst 0, 1) := by decide +kernel
theorem dX12_readOf_21 : decode mX12_readOf.2.1 21 = .ok (.iconst 0, 1) := by decide +kernel
theorem dX12_readOf_22 : decode mX12_readOf.2.1 22 = .ok (.invokevirtual 433, 3) := by decide +kernel
theorem dX12_readOf_25 : decode mX12_readOf.2.1 25 = .ok (.putfield 430, 3) := by decide +kernel
theorem dX12_readOf_28 : decode mX12_readOf.2.1 28 = .ok (.iconst 1, 1) := by decide +kernel
theorem dX12_readOf_29 : decode mX12_readOf.2.1 29 = .ok (.ireturn, 1) := by decide +kernel
set_option maxRecDepth 4000 in
theorem ev_X12_readOf {m : Mem} {G : Mem} {t : Int → Int} {kw : Int → Int} {n : Int} {lim : Int} {i : Int} {o : Int} {wi : Int} {nn : Int} {w : Int} (htm : TM G t kw n lim m i) (hb : Bg G 8 18 (m 216)) (hdn : DnOk G 8) (hnm : NmR G 8 (m 221)) (hms : MS m (G 8 3) o wi nn) (ho : 1 ≤ o ∧ o ≤ 20) (hnn : 0 ≤ nn ∧ nn + 2 ≤ 2 * o) (hw : w = 19 ∨ w = 20) (hk : G 4 (i - 1) = 200 + w) : Ev 0 6 mX12_readOf [vr 214, vi w] m (fun r m' => SaQ G t kw n lim m m' wi nn (namF G (i - 1) o) r) := by
  refine Ev.of (L := [vr 214, vi w]) (by decide +kernel) rfl (Nat.le_of_ble_eq_true rfl) rfl (fun t ht => by cases ht; first | exact Or.inl rfl | exact Or.inr (Or.inl rfl) | exact Or.inr (Or.inr rfl)) (fun hcan => ?_)
  obtain ⟨⟨hd0, hd1⟩, ⟨hd2, hd3⟩, ⟨hd4, hd5⟩, ⟨hd6, hd7⟩, ⟨hd8, hd9⟩, hdf, hdp, hdq⟩ := id hdn
  obtain ⟨hm1, hm2, hm3, hm4⟩ := id hms
  have hni : i - 1 + 1 = i := by omega
  refine go_aload_n dX12_readOf_0 rfl ?_
  refine go_iload_n dX12_readOf_1 rfl ?_
  refine go_callV_z (as := [vi w]) (S := []) (b := 214) (ev_X12_readThat (m := m) (w := w) (G := G) (t := t) (kw := kw) (n := n) (lim := lim) (i := i) htm (by first | assumption | omega | exact ⟨by omega, by omega⟩ | (constructor <;> omega)) (by first | assumption | omega | exact ⟨by omega, by omega⟩ | (constructor <;> omega)) (by first | assumption | omega | exact ⟨by omega, by omega⟩ | (constructor <;> omega)) (by first | assumption | omega | exact ⟨by omega, by omega⟩ | (constructor <;> omega))) rfl dX12_readOf_2 cv_12_460 rfl rfl ob_214 rfl (by decide) (Nat.le_of_ble_eq_true rfl) (fun r_2 m_2 hr_2 ho_2 => ?_)
  have hr_2 : RmP G t kw n lim m m_2 (if w = 19 then 8 + 6 else 8 + 4) (if w = 19 then G 8 4 else G 8 3) i r_2 := hr_2
  have hnw : nameAt G (if w = 19 then 8 + 6 else 8 + 4) (G 6 i) (if w = 19 then G 8 4 else G 8 3) = nmW G (G 4 (i - 1)) i := by
    unfold nmW
    by_cases q : w = 19
    · rw [if_pos q, if_pos q, if_pos (by omega)]
    · rw [if_neg q, if_neg q, if_neg (by omega)]
  have hnb := nameAt_b G (if w = 19 then 8 + 6 else 8 + 4) (G 6 i) (if w = 19 then G 8 4 else G 8 3)
  have hrf : rmF G (if w = 19 then 8 + 6 else 8 + 4) (if w = 19 then G 8 4 else G 8 3) i = if G 4 i = 3 then (if nmW G (G 4 (i - 1)) i = -1 then 3 else 0) else 1 := by unfold rmF; rw [hnw]
  rw [hnw] at hnb
  rw [RmP, hnw, hrf] at hr_2
  rcases hr_2 with ⟨f_2, e_2, ok_2, v_2⟩ | ⟨f_2, e_2, no_2⟩
  · refine go_if_ne (tgt := 10) dX12_readOf_5 (by decide) ⟨by omega, by omega⟩ (fun h_5 => ?_) (fun h_5 => ?_)
    · refine go_aload_n dX12_readOf_10 rfl ?_
      refine go_aload_n dX12_readOf_11 rfl ?_
      refine go_bipush dX12_readOf_12 (by decide) ?_
      refine go_iload_n dX12_readOf_14 rfl ?_
      refine go_iadd dX12_readOf_15 ?_
      refine go_aload_n dX12_readOf_16 rfl ?_
      refine go_getf_i (ki := 13) dX12_readOf_17 fl_12_79 ob_214 rfl rfl (fun hf_17 => ?_)
      rw [show (m_2 214 13 : Int) = (nmW G (G 4 (i - 1)) i) from v_2] at hf_17 ⊢
      refine go_iconst dX12_readOf_20 ?_
      refine go_iconst dX12_readOf_21 ?_
      refine go_callV_i (as := [vi (50 + w), vi (nmW G (G 4 (i - 1)) i), vi 0, vi 0]) (S := [vr 214]) (b := 214) (ev_X12_saysOne (m := m_2) (w := (50 + w)) (a := (nmW G (G 4 (i - 1)) i)) (b := 0) (s := 0) (nn := nn) (by rw [ok_2.1.2 44 (by omega)]; exact hm3) (by omega) (by first | assumption | omega | exact ⟨by omega, by omega⟩ | (constructor <;> omega)) hf_17 (by first | assumption | omega | exact ⟨by omega, by omega⟩ | (constructor <;> omega)) (by first | assumption | omega | exact ⟨by omega, by omega⟩ | (constructor <;> omega))) rfl dX12_readOf_22 cv_12_433 rfl rfl ob_214 rfl (by decide) (Nat.le_of_ble_eq_true rfl) (fun r_22 m_22 hr_22 ho_22 => ?_)
      obtain ⟨e_22, hm_22⟩ := hr_22
      refine go_putf_i (ki := 47) dX12_readOf_25 fw_12_430 ob_214 rfl rfl ⟨by omega, by omega⟩ ?_
      refine go_iconst dX12_readOf_28 ?_
      refine go_ret (v := 1) rfl dX12_readOf_29 (okZ (by first | exact Or.inl rfl | exact Or.inr rfl | assumption | omega)) ?_
      have hz : G 4 i = 3 ∧ nmW G (G 4 (i - 1)) i ≠ -1 := by omega
      have hq : namF G (i - 1) o = (0, i + 1, o, [(G 4 (i - 1), 0, nmW G (G 4 (i - 1)) i)]) := by
        unfold namF
        rw [hni, if_neg (fun y => y hz.1), if_neg hz.2, show i - 1 + 2 = i + 1 by omega]
      have hw3 : Wf (m_2 234) (G 8 3) nn := by rw [ok_2.1.1 234 (by decide)]; exact hm4
      have hwk : Wk (nodF (m_2 234) nn (50 + w) (nmW G (G 4 (i - 1)) i) 0 0) (G 8 3) nn := by
        obtain ⟨e0, e1, e2, e3⟩ := nodF_n (N := m_2 234) (n := nn) (w := 50 + w) (a := nmW G (G 4 (i - 1)) i) (b := 0) (r := 0)
        unfold Wk
        rw [e0, e1, e2, e3]
        by_cases q : w = 19
        · right; right; left; omega
        · right; right; right; left
          rw [if_neg q] at hnb
          omega
      have hwn := hw3.add (by omega) hwk
      rw [SaQ, hq, hm_22]
      refine ⟨(ok_2.1.s.tr nodW_s).w (by omega) (by omega), by rw [wr_ni (by decide), nodW_214 (by decide), ok_2.1.2 46 (by omega)]; exact hm2, Or.inl ⟨rfl, rfl, ?_, (ok_2.2.2.nod).w (by decide) (by omega), ⟨?_, ?_, ?_, ?_⟩, fun j hj => ?_, ?_, ?_, CdA.one (fun e => ?_)⟩⟩
      · rw [wr_ni (by decide), nodW_214 (by decide)]; exact ok_2.2.1
      · rw [wr_ni (by decide), nodW_214 (by decide), ok_2.1.2 45 (by omega)]; exact hm1
      · rw [wr_ni (by decide), nodW_214 (by decide), ok_2.1.2 46 (by omega)]; exact hm2
      · rw [wr_ni (by decide), nodW_44]; rfl
      · rw [wr_row (by decide), nodW_234]; exact hwn
      · rw [wr_na (by decide), nodW_234, nodF_o j hj, ok_2.1.1 234 (by decide)]
      · rw [wr_self, e_22]; show nn ≤ nn ∧ nn < nn + 1; omega
      · rw [wr_self, e_22, wr_row (by decide), nodW_234]
        refine Rep.leaf (by omega) (by omega) ?_
        rw [if_neg (by omega), if_pos (by omega), show 50 + w + 150 = 200 + w by omega, hk]
      · have e2 : w = 20 := by have e3 : G 4 (i - 1) = 220 := e; omega
        rw [if_neg (by omega)] at hnb
        show 0 ≤ nmW G (G 4 (i - 1)) i ∧ nmW G (G 4 (i - 1)) i < G 8 3
        omega
    · exfalso; omega
  · refine go_if_ne (tgt := 10) dX12_readOf_5 (by decide) ⟨by omega, by omega⟩ (fun h_5 => ?_) (fun h_5 => ?_)
    · exfalso; omega
    · refine go_iconst dX12_readOf_8 ?_
      refine go_ret (v := 0) rfl dX12_readOf_9 (okZ (by first | exact Or.inl rfl | exact Or.inr rfl | assumption | omega)) ?_
      have hq : (namF G (i - 1) o).1 = (if G 4 i = 3 then (if nmW G (G 4 (i - 1)) i = -1 then 3 else 0) else 1) ∧ (namF G (i - 1) o).2.1 = i := by
        unfold namF
        rw [hni]
        by_cases q : G 4 i = 3
        · rw [if_pos q] at f_2 ⊢
          by_cases z : nmW G (G 4 (i - 1)) i = -1
          · rw [if_neg (fun y => y q), if_pos z, if_pos z]; exact ⟨rfl, rfl⟩
          · rw [if_neg z] at f_2; exact absurd rfl f_2
        · rw [if_pos q, if_neg q]; exact ⟨rfl, rfl⟩
      exact ⟨no_2.1.s, by rw [no_2.1.2 46 (by omega)]; exact hm2, Or.inr ⟨by rw [hq.1]; exact f_2, rfl, by rw [hq.1]; exact no_2.2.1, by rw [hq.2]; exact no_2.2.2⟩⟩
theorem dX12_readCompare_0 : decode mX12_readCompare.2.1 0 = .ok (.aload_n 0, 1) := by decide +kernel
theorem dX12_readCompare_1 : decode mX12_readCompare.2.1 1 = .ok (.bipush 60, 2) := by decide +kernel
theorem dX12_readCompare_3 : decode mX12_readCompare.2.1 3 = .ok (.invokevirtual 86, 3) := by decide +kernel
theorem dX12_readCompare_6 : decode mX12_readCompare.2.1 6 = .ok (.ifCond .ne 27, 3) := by decide +kernel
theorem dX12_readCompare_9 : decode mX12_readCompare.2.1 9 = .ok (.aload_n 0, 1) := by decide +kernel
theorem dX12_readCompare_10 : decode mX12_readCompare.2.1 10 = .ok (.bipush 61, 2) := by decide +kernel
theorem dX12_readCompare_12 : decode mX12_readCompare.2.1 12 = .ok (.invokevirtual 86, 3) := by decide +kernel
theorem dX12_readCompare_15 : decode mX12_readCompare.2.1 15 = .ok (.ifCond .ne 18, 3) := by decide +kernel
theorem dX12_readCompare_18 : decode mX12_readCompare.2.1 18 = .ok (.aload_n 0, 1) := by decide +kernel
theorem dX12_readCompare_19 : decode mX12_readCompare.2.1 19 = .ok (.bipush 62, 2) := by decide +kernel
theorem dX12_readCompare_21 : decode mX12_readCompare.2.1 21 = .ok (.invokevirtual 86, 3) := by decide +kernel
theorem dX12_readCompare_24 : decode mX12_readCompare.2.1 24 = .ok (.ifCond .ne 9, 3) := by decide +kernel
theorem dX12_readCompare_27 : decode mX12_readCompare.2.1 27 = .ok (.aload_n 0, 1) := by decide +kernel
theorem dX12_readCompare_28 : decode mX12_readCompare.2.1 28 = .ok (.iconst 1, 1) := by decide +kernel
theorem dX12_readCompare_29 : decode mX12_readCompare.2.1 29 = .ok (.invokevirtual 72, 3) := by decide +kernel
theorem dX12_readCompare_32 : decode mX12_readCompare.2.1 32 = .ok (.ireturn, 1) := by decide +kernel
theorem dX12_readCompare_33 : decode mX12_readCompare.2.1 33 = .ok (.aload_n 0, 1) := by decide +kernel
theorem dX12_readCompare_34 : decode mX12_readCompare.2.1 34 = .ok (.getfield 40, 3) := by decide +kernel
theorem dX12_readCompare_37 : decode mX12_readCompare.2.1 37 = .ok (.istore_n 2, 1) := by decide +kernel
theorem dX12_readCompare_38 : decode mX12_readCompare.2.1 38 = .ok (.aload_n 0, 1) := by decide +kernel
theorem dX12_readCompare_39 : decode mX12_readCompare.2.1 39 = .ok (.invokevirtual 82, 3) := by decide +kernel
theorem dX12_readCompare_42 : decode mX12_readCompare.2.1 42 = .ok (.aload_n 0, 1) := by decide +kernel
theorem dX12_readCompare_43 : decode mX12_readCompare.2.1 43 = .ok (.iconst 0, 1) := by decide +kernel
theorem dX12_readCompare_44 : decode mX12_readCompare.2.1 44 = .ok (.sipush 999, 3) := by decide +kernel
theorem dX12_readCompare_47 : decode mX12_readCompare.2.1 47 = .ok (.invokevirtual 181, 3) := by decide +kernel
theorem dX12_readCompare_50 : decode mX12_readCompare.2.1 50 = .ok (.ifCond .ne 5, 3) := by decide +kernel
theorem dX12_readCompare_53 : decode mX12_readCompare.2.1 53 = .ok (.iconst 0, 1) := by decide +kernel
theorem dX12_readCompare_54 : decode mX12_readCompare.2.1 54 = .ok (.ireturn, 1) := by decide +kernel
theorem dX12_readCompare_55 : decode mX12_readCompare.2.1 55 = .ok (.aload_n 0, 1) := by decide +kernel
theorem dX12_readCompare_56 : decode mX12_readCompare.2.1 56 = .ok (.aload_n 0, 1) := by decide +kernel
theorem dX12_readCompare_57 : decode mX12_readCompare.2.1 57 = .ok (.bipush 50, 2) := by decide +kernel
theorem dX12_readCompare_59 : decode mX12_readCompare.2.1 59 = .ok (.iload_n 1, 1) := by decide +kernel
theorem dX12_readCompare_60 : decode mX12_readCompare.2.1 60 = .ok (.iadd, 1) := by decide +kernel
theorem dX12_readCompare_61 : decode mX12_readCompare.2.1 61 = .ok (.iconst 0, 1) := by decide +kernel
theorem dX12_readCompare_62 : decode mX12_readCompare.2.1 62 = .ok (.aload_n 0, 1) := by decide +kernel
theorem dX12_readCompare_63 : decode mX12_readCompare.2.1 63 = .ok (.getfield 79, 3) := by decide +kernel
theorem dX12_readCompare_66 : decode mX12_readCompare.2.1 66 = .ok (.iload_n 2, 1) := by decide +kernel
theorem dX12_readCompare_67 : decode mX12_readCompare.2.1 67 = .ok (.invokevirtual 433, 3) := by decide +kernel
theorem dX12_readCompare_70 : decode mX12_readCompare.2.1 70 = .ok (.putfield 430, 3) := by decide +kernel
theorem dX12_readCompare_73 : decode mX12_readCompare.2.1 73 = .ok (.iconst 1, 1) := by decide +kernel
theorem dX12_readCompare_74 : decode mX12_readCompare.2.1 74 = .ok (.ireturn, 1) := by decide +kernel
set_option maxRecDepth 4000 in
theorem ev_X12_readCompare {m : Mem} {G : Mem} {t : Int → Int} {kw : Int → Int} {n : Int} {lim : Int} {i : Int} {o : Int} {wi : Int} {nn : Int} {w : Int} (htm : TM G t kw n lim m i) (hb : Bg G 8 18 (m 216)) (hdn : DnOk G 8) (hms : MS m (G 8 3) o wi nn) (ho : 1 ≤ o ∧ o ≤ 20) (hnn : 0 ≤ nn ∧ nn + 2 ≤ 2 * o) (hw : 21 ≤ w ∧ w ≤ 24) (hk : G 4 (i - 1) = 200 + w) : Ev 0 4 mX12_readCompare [vr 214, vi w] m (fun r m' => SaQ G t kw n lim m m' wi nn (cmpF G (i - 1) o) r) := by
  refine Ev.of (L := [vr 214, vi w, un]) (by decide +kernel) rfl (Nat.le_of_ble_eq_true rfl) rfl (fun t ht => by cases ht; first | exact Or.inl rfl | exact Or.inr (Or.inl rfl) | exact Or.inr (Or.inr rfl)) (fun hcan => ?_)
  obtain ⟨hm1, hm2, hm3, hm4⟩ := id hms
  have hni : i - 1 + 1 = i := by omega
  have hni2 : i - 1 + 2 = i + 1 := by omega
  have hkd := htm.kd
  refine go_aload_n dX12_readCompare_0 rfl ?_
  refine go_bipush dX12_readCompare_1 (by decide) ?_
  have cut_33 :  (60 ≤ G 4 i ∧ G 4 i ≤ 62) → Go 0 4 mX12_readCompare (fun r m' => SaQ G t kw n lim m m' wi nn (cmpF G (i - 1) o) r) 33 [vr 214, vi w, un] [] m := by
    intro hsg
    have hk4 : m 214 7 = 4 := by
      by_cases q : m 214 7 = 4
      · exact q
      · exact absurd (show isS (G 4 i) by unfold isS; omega) (hkd.n4 q)
    refine go_aload_n dX12_readCompare_33 rfl ?_
    refine go_getf_i (ki := 9) dX12_readCompare_34 fl_12_40 ob_214 rfl rfl (fun hf_34 => ?_)
    rw [show (m 214 9 : Int) = (G 4 i) from (hkd.k4 hk4).2] at hf_34 ⊢
    refine go_istore_n (L' := [vr 214, vi w, vi (G 4 i)]) dX12_readCompare_37 (by decide) rfl rfl ?_
    refine go_aload_n dX12_readCompare_38 rfl ?_
    refine go_callV_v (as := []) (S := []) (b := 214) (ev_X12_go (m := m) (G := G) (t := t) (kw := kw) (n := n) (lim := lim) (i := (i + 1)) (htm.nx (by omega))) rfl dX12_readCompare_39 cv_12_82 rfl rfl ob_214 rfl (by decide) (Nat.le_of_ble_eq_true rfl) (fun m_39 hr_39 => ?_)
    refine go_aload_n dX12_readCompare_42 rfl ?_
    refine go_iconst dX12_readCompare_43 ?_
    refine go_sipush dX12_readCompare_44 (by decide) ?_
    refine go_callV_z (as := [vi 0, vi 999]) (S := []) (b := 214) (ev_X12_readNumber (m := m_39) (lo := 0) (hi := 999) (G := G) (t := t) (kw := kw) (n := n) (lim := lim) (i := (i + 1)) hr_39.2 (by first | assumption | omega | exact ⟨by omega, by omega⟩ | (constructor <;> omega)) (by first | assumption | omega | exact ⟨by omega, by omega⟩ | (constructor <;> omega))) rfl dX12_readCompare_47 cv_12_181 rfl rfl ob_214 rfl (by decide) (Nat.le_of_ble_eq_true rfl) (fun r_47 m_47 hr_47 ho_47 => ?_)
    rcases hr_47 with ⟨f_47, e_47, ok_47, v_47⟩ | ⟨f_47, e_47, no_47⟩
    · refine go_if_ne (tgt := 55) dX12_readCompare_50 (by decide) ⟨by omega, by omega⟩ (fun h_50 => ?_) (fun h_50 => ?_)
      · refine go_aload_n dX12_readCompare_55 rfl ?_
        refine go_aload_n dX12_readCompare_56 rfl ?_
        refine go_bipush dX12_readCompare_57 (by decide) ?_
        refine go_iload_n dX12_readCompare_59 rfl ?_
        refine go_iadd dX12_readCompare_60 ?_
        refine go_iconst dX12_readCompare_61 ?_
        refine go_aload_n dX12_readCompare_62 rfl ?_
        refine go_getf_i (ki := 13) dX12_readCompare_63 fl_12_79 ob_214 rfl rfl (fun hf_63 => ?_)
        rw [show (m_47 214 13 : Int) = (vN G (i + 1)) from v_47] at hf_63 ⊢
        refine go_iload_n dX12_readCompare_66 rfl ?_
        refine go_callV_i (as := [vi (50 + w), vi 0, vi (vN G (i + 1)), vi (G 4 i)]) (S := [vr 214]) (b := 214) (ev_X12_saysOne (m := m_47) (w := (50 + w)) (a := 0) (b := (vN G (i + 1))) (s := (G 4 i)) (nn := nn) (by rw [ok_47.1.2 44 (by omega), hr_39.1.l.2 44 (by omega)]; exact hm3) (by omega) (by first | assumption | omega | exact ⟨by omega, by omega⟩ | (constructor <;> omega)) (by first | assumption | omega | exact ⟨by omega, by omega⟩ | (constructor <;> omega)) hf_63 (by omega)) rfl dX12_readCompare_67 cv_12_433 rfl rfl ob_214 rfl (by decide) (Nat.le_of_ble_eq_true rfl) (fun r_67 m_67 hr_67 ho_67 => ?_)
        obtain ⟨e_67, hm_67⟩ := hr_67
        refine go_putf_i (ki := 47) dX12_readCompare_70 fw_12_430 ob_214 rfl rfl ⟨by omega, by omega⟩ ?_
        refine go_iconst dX12_readCompare_73 ?_
        refine go_ret (v := 1) rfl dX12_readCompare_74 (okZ (by first | exact Or.inl rfl | exact Or.inr rfl | assumption | omega)) ?_
        have hnf := numF_0 f_47
        have hq : cmpF G (i - 1) o = (0, i + 1 + 1, o, [(G 4 (i - 1), G 4 i, vN G (i + 1))]) := by unfold cmpF; rw [hni, hni2, if_neg (by omega), if_neg (fun z => z hnf.1), show i - 1 + 3 = i + 1 + 1 by omega]
        have hl47 : Lx m m_47 := hr_39.1.l.tr ok_47.1
        have hw3 : Wf (m_47 234) (G 8 3) nn := by rw [hl47.1 234 (by decide)]; exact hm4
        have hwk : Wk (nodF (m_47 234) nn (50 + w) 0 (vN G (i + 1)) (G 4 i)) (G 8 3) nn := by
          obtain ⟨e0, e1, e2, e3⟩ := nodF_n (N := m_47 234) (n := nn) (w := 50 + w) (a := 0) (b := vN G (i + 1)) (r := G 4 i)
          unfold Wk
          rw [e0, e1, e2, e3]
          right; right; right; right; omega
        have hwn := hw3.add (by omega) hwk
        rw [SaQ, hq, hm_67]
        refine ⟨(hl47.s.tr nodW_s).w (by omega) (by omega), by rw [wr_ni (by decide), nodW_214 (by decide), hl47.2 46 (by omega)]; exact hm2, Or.inl ⟨rfl, rfl, ?_, (ok_47.2.2.nod).w (by decide) (by omega), ⟨?_, ?_, ?_, ?_⟩, fun j hj => ?_, ?_, ?_, CdA.k (by omega)⟩⟩
        · rw [wr_ni (by decide), nodW_214 (by decide), ok_47.2.1, hr_39.1.2 10 (by decide) (by decide) (by decide) (by decide) (by decide) (by decide)]
        · rw [wr_ni (by decide), nodW_214 (by decide), hl47.2 45 (by omega)]; exact hm1
        · rw [wr_ni (by decide), nodW_214 (by decide), hl47.2 46 (by omega)]; exact hm2
        · rw [wr_ni (by decide), nodW_44]; rfl
        · rw [wr_row (by decide), nodW_234]; exact hwn
        · rw [wr_na (by decide), nodW_234, nodF_o j hj, hl47.1 234 (by decide)]
        · rw [wr_self, e_67]; show nn ≤ nn ∧ nn < nn + 1; omega
        · rw [wr_self, e_67, wr_row (by decide), nodW_234]
          refine Rep.leaf (by omega) (by omega) ?_
          rw [if_neg (by omega), if_neg (by omega), show 50 + w + 150 = 200 + w by omega, hk]
      · exfalso; omega
    · refine go_if_ne (tgt := 55) dX12_readCompare_50 (by decide) ⟨by omega, by omega⟩ (fun h_50 => ?_) (fun h_50 => ?_)
      · exfalso; omega
      · refine go_iconst dX12_readCompare_53 ?_
        refine go_ret (v := 0) rfl dX12_readCompare_54 (okZ (by first | exact Or.inl rfl | exact Or.inr rfl | assumption | omega)) ?_
        have hnf : G 4 (i + 1) ≠ 2 := fun z => by
          have h9 := num999 htm.1 (by have := htm.2.2.1; omega) hr_39.2.2.2.1.2 z
          apply f_47
          unfold numF
          rw [if_pos z, if_pos h9]
        have hf : numF (G 4) (vN G) (i + 1) 0 999 = 1 := by unfold numF; rw [if_neg hnf]
        have hq : cmpF G (i - 1) o = (1, i + 1, 0, []) := by unfold cmpF; rw [hni, hni2, if_neg (by omega), if_pos hnf]
        rw [hf] at no_47
        rw [SaQ, hq]
        exact ⟨hr_39.1.l.s.tr no_47.1.s, by rw [no_47.1.2 46 (by omega), hr_39.1.l.2 46 (by omega)]; exact hm2, Or.inr ⟨(show (1 : Int) ≠ 0 by decide), rfl, no_47.2.1, no_47.2.2⟩⟩
  refine go_callVp_z (as := [vi 60]) (S := []) (b := 214) (ev_X12_isSign (m := m) (c := 60) (G := G) (t := t) (kw := kw) (n := n) (lim := lim) (i := i) htm (by unfold isS; omega)) rfl dX12_readCompare_3 cv_12_86 rfl rfl ob_214 rfl (by decide) (Nat.le_of_ble_eq_true rfl) (fun r_3 hr_3 ho_3 => ?_)
  refine go_if_ne (tgt := 33) dX12_readCompare_6 (by decide) ⟨by omega, by omega⟩ (fun h_6 => ?_) (fun h_6 => ?_)
  · exact cut_33  (by omega)
  · refine go_aload_n dX12_readCompare_9 rfl ?_
    refine go_bipush dX12_readCompare_10 (by decide) ?_
    refine go_callVp_z (as := [vi 61]) (S := []) (b := 214) (ev_X12_isSign (m := m) (c := 61) (G := G) (t := t) (kw := kw) (n := n) (lim := lim) (i := i) htm (by unfold isS; omega)) rfl dX12_readCompare_12 cv_12_86 rfl rfl ob_214 rfl (by decide) (Nat.le_of_ble_eq_true rfl) (fun r_12 hr_12 ho_12 => ?_)
    refine go_if_ne (tgt := 33) dX12_readCompare_15 (by decide) ⟨by omega, by omega⟩ (fun h_15 => ?_) (fun h_15 => ?_)
    · exact cut_33  (by omega)
    · refine go_aload_n dX12_readCompare_18 rfl ?_
      refine go_bipush dX12_readCompare_19 (by decide) ?_
      refine go_callVp_z (as := [vi 62]) (S := []) (b := 214) (ev_X12_isSign (m := m) (c := 62) (G := G) (t := t) (kw := kw) (n := n) (lim := lim) (i := i) htm (by unfold isS; omega)) rfl dX12_readCompare_21 cv_12_86 rfl rfl ob_214 rfl (by decide) (Nat.le_of_ble_eq_true rfl) (fun r_21 hr_21 ho_21 => ?_)
      refine go_if_ne (tgt := 33) dX12_readCompare_24 (by decide) ⟨by omega, by omega⟩ (fun h_24 => ?_) (fun h_24 => ?_)
      · exact cut_33  (by omega)
      · refine go_aload_n dX12_readCompare_27 rfl ?_
        refine go_iconst dX12_readCompare_28 ?_
        refine go_callV_z (as := [vi 1]) (S := []) (b := 214) (ev_X12_bad (m := m) (k := 1) (G := G) (t := t) (kw := kw) (n := n) (lim := lim) (i := i) htm (by first | assumption | omega | exact ⟨by omega, by omega⟩ | (constructor <;> omega))) rfl dX12_readCompare_29 cv_12_72 rfl rfl ob_214 rfl (by decide) (Nat.le_of_ble_eq_true rfl) (fun r_29 m_29 hr_29 ho_29 => ?_)
        refine go_ret (v := r_29) rfl dX12_readCompare_32 (okZ (by first | exact Or.inl rfl | exact Or.inr rfl | assumption | omega)) ?_
        have hq : cmpF G (i - 1) o = (1, i, 0, []) := by unfold cmpF; rw [hni, if_pos (by omega)]
        have z := NoT.b (G := G) (m := m) (m' := m_29) (f := 1) (i := i) (by rw [hr_29.2]; congr 2; split <;> rfl)
        rw [SaQ, hq]
        exact ⟨z.1.s, by rw [z.1.2 46 (by omega)]; exact hm2, Or.inr ⟨(show (1 : Int) ≠ 0 by decide), hr_29.1, z.2.1, z.2.2⟩⟩
