abbrev Cd : Type := Int × Int × Int
abbrev Rs : Type := Int × Int × Int × List Cd
/-- a SENTENCE's code in rows -/
def putT (M : Mem) (e : Nat) : Int → List Cd → Prop
  | _, [] => True
  | s, c :: l => (M (e + 1) s = c.1 ∧ M (e + 2) s = c.2.1 ∧ M (e + 3) s = c.2.2) ∧ putT M e (s + 1) l
theorem putT_congr {M N : Mem} {e e' : Nat} : ∀ {l : List Cd} {s : Int}, (∀ j : Int, s ≤ j → j < s + l.length → N (e' + 1) j = M (e + 1) j ∧ N (e' + 2) j = M (e + 2) j ∧ N (e' + 3) j = M (e + 3) j) → putT M e s l → putT N e' s l := by
  intro l
  induction l with
  | nil => intro s _ _; trivial
  | cons c l ih =>
    intro s h hp
    have h0 := h s (by omega) (by rw [List.length_cons]; omega)
    exact ⟨by rw [h0.1, h0.2.1, h0.2.2]; exact hp.1, ih (fun j a b => h j (by omega) (by rw [List.length_cons]; omega)) hp.2⟩
theorem putT_app {M : Mem} {e : Nat} {c : Cd} : ∀ {l : List Cd} {s : Int}, putT M e s l → (M (e + 1) (s + l.length) = c.1 ∧ M (e + 2) (s + l.length) = c.2.1 ∧ M (e + 3) (s + l.length) = c.2.2) → putT M e s (l ++ [c]) := by
  intro l
  induction l with
  | nil => intro s _ h; rw [show s + (([] : List Cd).length : Int) = s by simp] at h; exact ⟨h, trivial⟩
  | cons d l ih =>
    intro s hp h
    rw [show s + ((d :: l).length : Int) = s + 1 + l.length by rw [List.length_cons]; omega] at h
    exact ⟨hp.1, ih hp.2 h⟩
/-- at the i-th TOKEN, so many ones and this code behind -/
def SQ (B M : Mem) (i o : Int) (l : List Cd) : Prop := TP B M (i + 1) ∧ (0 ≤ i ∧ i < B 1 11) ∧ M 76 0 = o ∧ M 76 1 = (l.length : Int) ∧ putT M 76 0 l ∧ ∀ b : Nat, b ≠ 1 → (b < 76 ∨ 80 ≤ b) → M b = B b
def FQ (B M : Mem) (i f : Int) : Prop := PT B M (i + 1) f ∧ ∀ b : Nat, b ≠ 1 → (b < 76 ∨ 80 ≤ b) → M b = B b
section
variable {B M M' : Mem} {i o f : Int} {l : List Cd}
theorem SQ.kd (h : SQ B M i o l) : M 1 2 = B 4 i := by have q := h.1.2.2.2.2.2.2.1; rw [show i + 1 - 1 = i by omega] at q; exact q
theorem SQ.wd (h : SQ B M i o l) : M 1 5 = B 6 i := by have q := h.1.2.2.2.2.2.2.2.2.1; rw [show i + 1 - 1 = i by omega] at q; exact q
theorem SQ.nu (h : SQ B M i o l) : M 1 4 = vN B i := by have q := h.1.2.2.2.2.2.2.2.2.2.1; rw [show i + 1 - 1 = i by omega] at q; exact q
theorem SQ.adv (h : SQ B M i o l) (ha : Adv M M' (M 1 6)) (hi : i + 1 < B 1 11) : SQ B M' (i + 1) o l := by
  obtain ⟨h1, h2, h3, h4, h5, h6⟩ := h
  refine ⟨adv_ok h1 ha, by omega, by rw [ha.2 76 (by decide)]; exact h3, by rw [ha.2 76 (by decide)]; exact h4, putT_congr (fun j _ _ => ?_) h5, fun b hb h => by rw [ha.2 b hb]; exact h6 b hb h⟩
  rw [ha.2 (76 + 1) (by decide), ha.2 (76 + 2) (by decide), ha.2 (76 + 3) (by decide)]
  exact ⟨rfl, rfl, rfl⟩
theorem SQ.nx (h : SQ B M i o l) (hk : TkS B) (h2 : 2 ≤ B 4 i) : SQ B (nxt M) (i + 1) o l := h.adv (nxt_adv M) (hk.lt h.2.1.2 h2)
theorem SQ.no (h : SQ B M i o l) (ha : Adv M M' f) : FQ B M' (i + 1) f := ⟨adv_no h.1 ha, fun b hb q => by rw [ha.2 b hb]; exact h.2.2.2.2.2 b hb q⟩
theorem SQ.ref (h : SQ B M i o l) : FQ B (wr M 1 6 f) i f := ⟨h.1.2.2.2.2.2.flt, fun b hb q => by rw [wr_row hb]; exact h.2.2.2.2.2 b hb q⟩
theorem SQ.one (h : SQ B M i o l) {x : Int} : SQ B (wr M 76 0 x) i x l := by
  obtain ⟨h1, h2, h3, h4, h5, h6⟩ := h
  refine ⟨TP.w h1 (by decide) (by decide) (by decide) (by decide), h2, wr_self _ _ _ _, by rw [wr_ni (by decide)]; exact h4, putT_congr (fun j _ _ => ?_) h5, fun b hb h => by rw [wr_row (by omega)]; exact h6 b hb h⟩
  rw [wr_na (by decide), wr_na (by decide), wr_na (by decide)]
  exact ⟨rfl, rfl, rfl⟩
def addM (M : Mem) (k g v : Int) : Mem := wr (wr (wr (wr M 77 (M 76 1) k) 78 (M 76 1) g) 79 (M 76 1) v) 76 1 (M 76 1 + 1)
theorem SQ.add (h : SQ B M i o l) {k g v : Int} : SQ B (addM M k g v) i o (l ++ [(k, g, v)]) := by
  obtain ⟨h1, h2, h3, h4, h5, h6⟩ := h
  refine ⟨TP.w (TP.w (TP.w (TP.w h1 (by decide) (by decide) (by decide) (by decide)) (by decide) (by decide) (by decide) (by decide)) (by decide) (by decide) (by decide) (by decide)) (by decide) (by decide) (by decide) (by decide), h2, ?_, ?_, putT_app (putT_congr (fun j a b => ?_) h5) ?_, fun b hb h => ?_⟩
  · unfold addM; rw [wr_ni (by decide)]; simp (disch := decide) only [wr_na]; exact h3
  · unfold addM; rw [wr_self, h4]; simp
  · have hj : j ≠ M 76 1 := by omega
    unfold addM
    refine ⟨?_, ?_, ?_⟩
    · show wr (wr (wr (wr M 77 (M 76 1) k) 78 (M 76 1) g) 79 (M 76 1) v) 76 1 (M 76 1 + 1) 77 j = M 77 j
      rw [wr_na (by decide), wr_na (by decide), wr_na (by decide), wr_ni hj]
    · show wr (wr (wr (wr M 77 (M 76 1) k) 78 (M 76 1) g) 79 (M 76 1) v) 76 1 (M 76 1 + 1) 78 j = M 78 j
      rw [wr_na (by decide), wr_na (by decide), wr_ni hj, wr_na (by decide)]
    · show wr (wr (wr (wr M 77 (M 76 1) k) 78 (M 76 1) g) 79 (M 76 1) v) 76 1 (M 76 1 + 1) 79 j = M 79 j
      rw [wr_na (by decide), wr_ni hj, wr_na (by decide), wr_na (by decide)]
  · rw [show (0 : Int) + (l.length : Int) = M 76 1 by omega]
    unfold addM
    refine ⟨?_, ?_, ?_⟩
    · show wr (wr (wr (wr M 77 (M 76 1) k) 78 (M 76 1) g) 79 (M 76 1) v) 76 1 (M 76 1 + 1) 77 (M 76 1) = k
      rw [wr_na (by decide), wr_na (by decide), wr_na (by decide), wr_self]
    · show wr (wr (wr (wr M 77 (M 76 1) k) 78 (M 76 1) g) 79 (M 76 1) v) 76 1 (M 76 1 + 1) 78 (M 76 1) = g
      rw [wr_na (by decide), wr_na (by decide), wr_self]
    · show wr (wr (wr (wr M 77 (M 76 1) k) 78 (M 76 1) g) 79 (M 76 1) v) 76 1 (M 76 1 + 1) 79 (M 76 1) = v
      rw [wr_na (by decide), wr_self]
  · unfold addM; rw [wr_row (by omega), wr_row (by omega), wr_row (by omega), wr_row (by omega)]; exact h6 b hb h
end
/-! the readers, as functions of the TOKENS -/
def seqL (K : Int → Int) (kw : Int) (p : Int → Int → Rs) : Nat → Rs → Rs
  | 0, a => a
  | f + 1, a => if K a.2.1 = kw then (if (p (a.2.1 + 1) a.2.2.1).1 ≠ 0 then p (a.2.1 + 1) a.2.2.1 else seqL K kw p f (0, (p (a.2.1 + 1) a.2.2.1).2.1, (p (a.2.1 + 1) a.2.2.1).2.2.1, a.2.2.2 ++ (p (a.2.1 + 1) a.2.2.1).2.2.2 ++ [(kw, 0, 0)])) else a
def seqF (K : Int → Int) (kw : Int) (p : Int → Int → Rs) (i o : Int) : Rs := if (p i o).1 ≠ 0 then p i o else seqL K kw p 21 (p i o)
theorem seqF_e (K : Int → Int) (kw : Int) (p : Int → Int → Rs) (i o : Int) : seqF K kw p i o = if (p i o).1 ≠ 0 then p i o else seqL K kw p 21 (p i o) := rfl
def notF (p : Int → Int → Rs) (i o : Int) : Rs := ((p (i + 1) o).1, (p (i + 1) o).2.1, (p (i + 1) o).2.2.1, (p (i + 1) o).2.2.2 ++ [(215, 0, 0)])
def brkF (K : Int → Int) (p : Int → Int → Rs) (i o : Int) : Rs := if (p (i + 1) o).1 ≠ 0 then p (i + 1) o else if K (p (i + 1) o).2.1 = 41 then (0, (p (i + 1) o).2.1 + 1, (p (i + 1) o).2.2.1, (p (i + 1) o).2.2.2) else (1, (p (i + 1) o).2.1, 0, [])
def nmW (B : Mem) (k i : Int) : Int := if k = 219 then nameAt B (8 + 6) (B 6 i) (B 8 4) else nameAt B (8 + 4) (B 6 i) (B 8 3)
def namF (B : Mem) (i o : Int) : Rs := if B 4 (i + 1) ≠ 3 then (1, i + 1, 0, []) else if nmW B (B 4 i) (i + 1) = -1 then (3, i + 1, 0, []) else (0, i + 2, o, [(B 4 i, 0, nmW B (B 4 i) (i + 1))])
def cmpF (B : Mem) (i o : Int) : Rs := if ¬ (60 ≤ B 4 (i + 1) ∧ B 4 (i + 1) ≤ 62) then (1, i + 1, 0, []) else if B 4 (i + 2) ≠ 2 then (1, i + 2, 0, []) else (0, i + 3, o, [(B 4 i, B 4 (i + 1), vN B (i + 2))])
abbrev stK (k : Int) : Prop := k = 40 ∨ (215 ≤ k ∧ k ≤ 224)
def oneF (B : Mem) : Nat → Int → Int → Rs
  | 0, i, o => if ¬ stK (B 4 i) then (1, i, o, []) else (4, i, o, [])
  | n + 1, i, o => if ¬ stK (B 4 i) then (1, i, o, []) else if 20 ≤ o then (4, i, o, []) else
      if B 4 i = 215 then notF (oneF B n) i (o + 1) else if B 4 i = 40 then brkF (B 4) (seqF (B 4) 213 (seqF (B 4) 214 (oneF B n))) i (o + 1)
      else if B 4 i = 219 ∨ B 4 i = 220 then namF B i (o + 1) else if 221 ≤ B 4 i then cmpF B i (o + 1) else (0, i + 1, o + 1, [(B 4 i, 0, 0)])
def RB (o : Int) (R : Rs) : Prop := R.1 = 0 → o + 1 ≤ R.2.2.1 ∧ R.2.2.1 ≤ 20 ∧ (R.2.2.2.length : Int) + 1 ≤ 2 * (R.2.2.1 - o)
def PB (p : Int → Int → Rs) : Prop := ∀ i o : Int, 0 ≤ o → o ≤ 20 → RB o (p i o)
theorem seqL_b {K : Int → Int} {kw : Int} {p : Int → Int → Rs} (hp : PB p) {o : Int} (ho : 0 ≤ o) : ∀ (f : Nat) (a : Rs), a.1 = 0 → (o + 1 ≤ a.2.2.1 ∧ a.2.2.1 ≤ 20 ∧ (a.2.2.2.length : Int) + 1 ≤ 2 * (a.2.2.1 - o)) → RB o (seqL K kw p f a) := by
  intro f
  induction f with
  | zero => intro a _ h _; exact h
  | succ f ih =>
    intro a h0 h
    unfold seqL
    by_cases c : K a.2.1 = kw
    · rw [if_pos c]
      by_cases e : (p (a.2.1 + 1) a.2.2.1).1 = 0
      · rw [if_neg (fun z => z e)]
        have := hp (a.2.1 + 1) a.2.2.1 (by omega) (by omega) e
        refine ih _ rfl ⟨?_, ?_, ?_⟩
        · show o + 1 ≤ (p (a.2.1 + 1) a.2.2.1).2.2.1; omega
        · show (p (a.2.1 + 1) a.2.2.1).2.2.1 ≤ 20; omega
        · show ((a.2.2.2 ++ (p (a.2.1 + 1) a.2.2.1).2.2.2 ++ [(kw, 0, 0)]).length : Int) + 1 ≤ 2 * ((p (a.2.1 + 1) a.2.2.1).2.2.1 - o)
          simp only [List.length_append, List.length_singleton]
          omega
      · rw [if_pos e]; exact fun z => absurd z e
    · rw [if_neg c]; exact fun _ => h
theorem seqF_b {K : Int → Int} {kw : Int} {p : Int → Int → Rs} (hp : PB p) : PB (seqF K kw p) := by
  intro i o h0 h1
  unfold seqF
  by_cases e : (p i o).1 = 0
  · rw [if_neg (fun z => z e)]; exact seqL_b hp h0 21 _ e (hp i o h0 h1 e)
  · rw [if_pos e]; exact fun z => absurd z e
theorem oneF_b (B : Mem) : ∀ n : Nat, PB (oneF B n) := by
  intro n
  induction n with
  | zero => intro i o h0 h1; unfold oneF; split <;> exact fun h => absurd h (by simp)
  | succ n ih =>
    intro i o h0 h1
    unfold oneF
    split
    · exact fun h => absurd h (by simp)
    · split
      · exact fun h => absurd h (by simp)
      · split
        · intro h
          have h : (oneF B n (i + 1) (o + 1)).1 = 0 := h
          have := ih (i + 1) (o + 1) (by omega) (by omega) h
          unfold notF
          simp only [List.length_append, List.length_singleton]
          omega
        · split
          · intro h
            unfold brkF at h ⊢
            by_cases e : (seqF (B 4) 213 (seqF (B 4) 214 (oneF B n)) (i + 1) (o + 1)).1 = 0
            · rw [if_neg (fun z => z e)] at h ⊢
              have := seqF_b (seqF_b ih) (i + 1) (o + 1) (by omega) (by omega) e
              split at h
              · rename_i c
                rw [if_pos c]
                show o + 1 ≤ (seqF (B 4) 213 (seqF (B 4) 214 (oneF B n)) (i + 1) (o + 1)).2.2.1 ∧ (seqF (B 4) 213 (seqF (B 4) 214 (oneF B n)) (i + 1) (o + 1)).2.2.1 ≤ 20 ∧ ((seqF (B 4) 213 (seqF (B 4) 214 (oneF B n)) (i + 1) (o + 1)).2.2.2.length : Int) + 1 ≤ 2 * ((seqF (B 4) 213 (seqF (B 4) 214 (oneF B n)) (i + 1) (o + 1)).2.2.1 - o)
                omega
              · exact absurd h (by simp)
            · rw [if_pos e] at h; exact absurd h e
          · split
            · unfold namF
              split
              · exact fun h => absurd h (by simp)
              · split
                · exact fun h => absurd h (by simp)
                · intro _
                  show o + 1 ≤ o + 1 ∧ o + 1 ≤ 20 ∧ ((1 : Nat) : Int) + 1 ≤ 2 * (o + 1 - o)
                  omega
            · split
              · unfold cmpF
                split
                · exact fun h => absurd h (by simp)
                · split
                  · exact fun h => absurd h (by simp)
                  · intro _
                    show o + 1 ≤ o + 1 ∧ o + 1 ≤ 20 ∧ ((1 : Nat) : Int) + 1 ≤ 2 * (o + 1 - o)
                    omega
              · intro _
                show o + 1 ≤ o + 1 ∧ o + 1 ≤ 20 ∧ ((1 : Nat) : Int) + 1 ≤ 2 * (o + 1 - o)
                omega
def QP (B : Mem) (r : Int) (m' : Mem) (l : List Cd) (R : Rs) : Prop := (r = 1 ∧ R.1 = 0 ∧ SQ B m' R.2.1 R.2.2.1 (l ++ R.2.2.2)) ∨ (r = 0 ∧ R.1 ≠ 0 ∧ FQ B m' R.2.1 R.1)
theorem SQ.tks {B M : Mem} {i o : Int} {l : List Cd} (h : SQ B M i o l) (hk : TkS B) : TkS M := hk.tp h.1
theorem SQ.dn {B M : Mem} {i o : Int} {l : List Cd} (h : SQ B M i o l) (hd : DnOk B 8) : DnOk M 8 := hd.congr (fun k hk => h.2.2.2.2.2 _ (by omega) (by omega))
theorem SQ.row {B M : Mem} {i o : Int} {l : List Cd} (h : SQ B M i o l) {b : Nat} (h1 : b ≠ 1) (h2 : b < 76 ∨ 80 ≤ b) : M b = B b := h.2.2.2.2.2 b h1 h2

theorem dX5_add_0 : decode mX5_add.2.1 0 = .ok (.aload_n 0, 1) := by decide +kernel
theorem dX5_add_1 : decode mX5_add.2.1 1 = .ok (.getfield 15, 3) := by decide +kernel
theorem dX5_add_4 : decode mX5_add.2.1 4 = .ok (.aload_n 0, 1) := by decide +kernel
theorem dX5_add_5 : decode mX5_add.2.1 5 = .ok (.getfield 18, 3) := by decide +kernel
theorem dX5_add_8 : decode mX5_add.2.1 8 = .ok (.arraylength, 1) := by decide +kernel
theorem dX5_add_9 : decode mX5_add.2.1 9 = .ok (.if_icmp .ge 43, 3) := by decide +kernel
theorem dX5_add_12 : decode mX5_add.2.1 12 = .ok (.aload_n 0, 1) := by decide +kernel
theorem dX5_add_13 : decode mX5_add.2.1 13 = .ok (.getfield 18, 3) := by decide +kernel
theorem dX5_add_16 : decode mX5_add.2.1 16 = .ok (.aload_n 0, 1) := by decide +kernel
theorem dX5_add_17 : decode mX5_add.2.1 17 = .ok (.getfield 15, 3) := by decide +kernel
theorem dX5_add_20 : decode mX5_add.2.1 20 = .ok (.iload_n 1, 1) := by decide +kernel
theorem dX5_add_21 : decode mX5_add.2.1 21 = .ok (.iastore, 1) := by decide +kernel
theorem dX5_add_22 : decode mX5_add.2.1 22 = .ok (.aload_n 0, 1) := by decide +kernel
theorem dX5_add_23 : decode mX5_add.2.1 23 = .ok (.getfield 22, 3) := by decide +kernel
theorem dX5_add_26 : decode mX5_add.2.1 26 = .ok (.aload_n 0, 1) := by decide +kernel
theorem dX5_add_27 : decode mX5_add.2.1 27 = .ok (.getfield 15, 3) := by decide +kernel
theorem dX5_add_30 : decode mX5_add.2.1 30 = .ok (.iload_n 2, 1) := by decide +kernel
theorem dX5_add_31 : decode mX5_add.2.1 31 = .ok (.iastore, 1) := by decide +kernel
theorem dX5_add_32 : decode mX5_add.2.1 32 = .ok (.aload_n 0, 1) := by decide +kernel
theorem dX5_add_33 : decode mX5_add.2.1 33 = .ok (.getfield 25, 3) := by decide +kernel
theorem dX5_add_36 : decode mX5_add.2.1 36 = .ok (.aload_n 0, 1) := by decide +kernel
theorem dX5_add_37 : decode mX5_add.2.1 37 = .ok (.getfield 15, 3) := by decide +kernel
theorem dX5_add_40 : decode mX5_add.2.1 40 = .ok (.iload_n 3, 1) := by decide +kernel
theorem dX5_add_41 : decode mX5_add.2.1 41 = .ok (.iastore, 1) := by decide +kernel
theorem dX5_add_42 : decode mX5_add.2.1 42 = .ok (.aload_n 0, 1) := by decide +kernel
theorem dX5_add_43 : decode mX5_add.2.1 43 = .ok (.dup, 1) := by decide +kernel
theorem dX5_add_44 : decode mX5_add.2.1 44 = .ok (.getfield 15, 3) := by decide +kernel
theorem dX5_add_47 : decode mX5_add.2.1 47 = .ok (.iconst 1, 1) := by decide +kernel
theorem dX5_add_48 : decode mX5_add.2.1 48 = .ok (.iadd, 1) := by decide +kernel
theorem dX5_add_49 : decode mX5_add.2.1 49 = .ok (.putfield 15, 3) := by decide +kernel
theorem dX5_add_52 : decode mX5_add.2.1 52 = .ok (.return_, 1) := by decide +kernel
set_option maxRecDepth 4000 in
theorem ev_X5_add {m : Mem} {k : Int} {g : Int} {v : Int} (hk : InR k) (hg : InR g) (hv : InR v) (hn : 0 ≤ m 76 1 ∧ m 76 1 < 40) : Ev 0 1 mX5_add [vr 76, vi k, vi g, vi v] m (fun r m' => m' = addM m k g v) := by
  refine Ev.of (L := [vr 76, vi k, vi g, vi v]) (by decide +kernel) rfl (Nat.le_of_ble_eq_true rfl) rfl (fun t ht => by cases ht) (fun hcan => ?_)
  refine go_aload_n dX5_add_0 rfl ?_
  refine go_getf_i (ki := 1) dX5_add_1 fl_5_15 ob_76 rfl rfl (fun hf_1 => ?_)
  refine go_aload_n dX5_add_4 rfl ?_
  refine go_getf_p (b := 77) dX5_add_5 fl_5_18 ob_76 rfl pt_76_2 ?_
  refine go_alen (x := 40) dX5_add_8 ar_77 (by decide) rfl ?_
  refine go_icmp_ge (tgt := 52) dX5_add_9 (by decide) ⟨by omega, by omega⟩ ⟨by omega, by omega⟩ (fun h_9 => ?_) (fun h_9 => ?_)
  · refine go_ret (v := 0) rfl dX5_add_52 rfl ?_
    first
    | (exfalso; omega)
    | rfl
  · refine go_aload_n dX5_add_12 rfl ?_
    refine go_getf_p (b := 77) dX5_add_13 fl_5_18 ob_76 rfl pt_76_2 ?_
    refine go_aload_n dX5_add_16 rfl ?_
    refine go_getf_i (ki := 1) dX5_add_17 fl_5_15 ob_76 rfl rfl (fun hf_17 => ?_)
    refine go_iload_n dX5_add_20 rfl ?_
    refine go_iastore dX5_add_21 ar_77 (by omega) (by omega) ⟨by omega, by omega⟩ ?_
    refine go_aload_n dX5_add_22 rfl ?_
    refine go_getf_p (b := 78) dX5_add_23 fl_5_22 ob_76 rfl pt_76_3 ?_
    refine go_aload_n dX5_add_26 rfl ?_
    refine go_getf_i (ki := 1) dX5_add_27 fl_5_15 ob_76 rfl rfl (fun hf_27 => ?_)
    rw [show ((wr m 77 (m 76 1) k) 76 1 : Int) = (m 76 1) from by rw [wr_na (by omega)]] at hf_27 ⊢
    refine go_iload_n dX5_add_30 rfl ?_
    refine go_iastore dX5_add_31 ar_78 (by omega) (by omega) ⟨by omega, by omega⟩ ?_
    refine go_aload_n dX5_add_32 rfl ?_
    refine go_getf_p (b := 79) dX5_add_33 fl_5_25 ob_76 rfl pt_76_4 ?_
    refine go_aload_n dX5_add_36 rfl ?_
    refine go_getf_i (ki := 1) dX5_add_37 fl_5_15 ob_76 rfl rfl (fun hf_37 => ?_)
    rw [show ((wr (wr m 77 (m 76 1) k) 78 (m 76 1) g) 76 1 : Int) = (m 76 1) from by rw [wr_na (by omega), wr_na (by omega)]] at hf_37 ⊢
    refine go_iload_n dX5_add_40 rfl ?_
    refine go_iastore dX5_add_41 ar_79 (by omega) (by omega) ⟨by omega, by omega⟩ ?_
    refine go_aload_n dX5_add_42 rfl ?_
    refine go_dup_r dX5_add_43 ?_
    refine go_getf_i (ki := 1) dX5_add_44 fl_5_15 ob_76 rfl rfl (fun hf_44 => ?_)
    rw [show ((wr (wr (wr m 77 (m 76 1) k) 78 (m 76 1) g) 79 (m 76 1) v) 76 1 : Int) = (m 76 1) from by rw [wr_na (by omega), wr_na (by omega), wr_na (by omega)]] at hf_44 ⊢
    refine go_iconst dX5_add_47 ?_
    refine go_iadd dX5_add_48 ?_
    refine go_putf_i (ki := 1) dX5_add_49 fw_5_15 ob_76 rfl rfl ⟨by omega, by omega⟩ ?_
    refine go_ret (v := 0) rfl dX5_add_52 rfl ?_
    first
    | (exfalso; omega)
    | rfl
theorem dX5_readNamed_0 : decode mX5_readNamed.2.1 0 = .ok (.aload_n 1, 1) := by decide +kernel
theorem dX5_readNamed_1 : decode mX5_readNamed.2.1 1 = .ok (.iconst 3, 1) := by decide +kernel
theorem dX5_readNamed_2 : decode mX5_readNamed.2.1 2 = .ok (.invokevirtual 88, 3) := by decide +kernel
theorem dX5_readNamed_5 : decode mX5_readNamed.2.1 5 = .ok (.ifCond .ne 5, 3) := by decide +kernel
theorem dX5_readNamed_8 : decode mX5_readNamed.2.1 8 = .ok (.iconst 0, 1) := by decide +kernel
theorem dX5_readNamed_9 : decode mX5_readNamed.2.1 9 = .ok (.ireturn, 1) := by decide +kernel
theorem dX5_readNamed_10 : decode mX5_readNamed.2.1 10 = .ok (.iload_n 3, 1) := by decide +kernel
theorem dX5_readNamed_11 : decode mX5_readNamed.2.1 11 = .ok (.sipush 219, 3) := by decide +kernel
theorem dX5_readNamed_14 : decode mX5_readNamed.2.1 14 = .ok (.if_icmp .ne 14, 3) := by decide +kernel
theorem dX5_readNamed_17 : decode mX5_readNamed.2.1 17 = .ok (.aload_n 2, 1) := by decide +kernel
theorem dX5_readNamed_18 : decode mX5_readNamed.2.1 18 = .ok (.aload_n 1, 1) := by decide +kernel
theorem dX5_readNamed_19 : decode mX5_readNamed.2.1 19 = .ok (.getfield 91, 3) := by decide +kernel
theorem dX5_readNamed_22 : decode mX5_readNamed.2.1 22 = .ok (.invokevirtual 95, 3) := by decide +kernel
theorem dX5_readNamed_25 : decode mX5_readNamed.2.1 25 = .ok (.goto 11, 3) := by decide +kernel
theorem dX5_readNamed_28 : decode mX5_readNamed.2.1 28 = .ok (.aload_n 2, 1) := by decide +kernel
theorem dX5_readNamed_29 : decode mX5_readNamed.2.1 29 = .ok (.aload_n 1, 1) := by decide +kernel
theorem dX5_readNamed_30 : decode mX5_readNamed.2.1 30 = .ok (.getfield 91, 3) := by decide +kernel
theorem dX5_readNamed_33 : decode mX5_readNamed.2.1 33 = .ok (.invokevirtual 101, 3) := by decide +kernel
theorem dX5_readNamed_36 : decode mX5_readNamed.2.1 36 = .ok (.istore 4, 2) := by decide +kernel
theorem dX5_readNamed_38 : decode mX5_readNamed.2.1 38 = .ok (.iload 4, 2) := by decide +kernel
theorem dX5_readNamed_40 : decode mX5_readNamed.2.1 40 = .ok (.iconst (-1), 1) := by decide +kernel
theorem dX5_readNamed_41 : decode mX5_readNamed.2.1 41 = .ok (.if_icmp .ne 9, 3) := by decide +kernel
theorem dX5_readNamed_44 : decode mX5_readNamed.2.1 44 = .ok (.aload_n 1, 1) := by decide +kernel
theorem dX5_readNamed_45 : decode mX5_readNamed.2.1 45 = .ok (.iconst 3, 1) := by decide +kernel
theorem dX5_readNamed_46 : decode mX5_readNamed.2.1 46 = .ok (.invokevirtual 57, 3) := by decide +kernel
theorem dX5_readNamed_49 : decode mX5_readNamed.2.1 49 = .ok (.ireturn, 1) := by decide +kernel
theorem dX5_readNamed_50 : decode mX5_readNamed.2.1 50 = .ok (.aload_n 0, 1) := by decide +kernel
theorem dX5_readNamed_51 : decode mX5_readNamed.2.1 51 = .ok (.iload_n 3, 1) := by decide +kernel
theorem dX5_readNamed_52 : decode mX5_readNamed.2.1 52 = .ok (.iconst 0, 1) := by decide +kernel
theorem dX5_readNamed_53 : decode mX5_readNamed.2.1 53 = .ok (.iload 4, 2) := by decide +kernel
theorem dX5_readNamed_55 : decode mX5_readNamed.2.1 55 = .ok (.invokevirtual 64, 3) := by decide +kernel
theorem dX5_readNamed_58 : decode mX5_readNamed.2.1 58 = .ok (.aload_n 1, 1) := by decide +kernel
theorem dX5_readNamed_59 : decode mX5_readNamed.2.1 59 = .ok (.invokevirtual 47, 3) := by decide +kernel
theorem dX5_readNamed_62 : decode mX5_readNamed.2.1 62 = .ok (.iconst 1, 1) := by decide +kernel
theorem dX5_readNamed_63 : decode mX5_readNamed.2.1 63 = .ok (.ireturn, 1) := by decide +kernel
set_option maxRecDepth 4000 in
theorem ev_X5_readNamed {m : Mem} {B : Mem} {i : Int} {o : Int} {l : List Cd} {k : Int} (hsq : SQ B m i o l) (hk : TkS B) (hdb : DnOk B 8) (ho : 1 ≤ o ∧ o ≤ 20) (hl : (l.length : Int) + 2 ≤ 2 * o) (hkk : k = B 4 i) (hkr : k = 219 ∨ k = 220) : Ev 0 3 mX5_readNamed [vr 76, vr 1, vr 8, vi k] m (fun r m' => QP B r m' l (namF B i o)) := by
  refine Ev.of (L := [vr 76, vr 1, vr 8, vi k, un]) (by decide +kernel) rfl (Nat.le_of_ble_eq_true rfl) rfl (fun t ht => by cases ht; first | exact Or.inl rfl | exact Or.inr (Or.inl rfl) | exact Or.inr (Or.inr rfl)) (fun hcan => ?_)
  have hi := hsq.2.1
  have hkb := hk.1
  have h0 := hsq.2.2.1
  have h1 := hsq.2.2.2.1
  have e12 := hsq.1.1
  have e11 := hsq.1.2.1
  obtain ⟨hd00, hd11, hd22, hd33, hd44, -⟩ := id hdb
  have hlt : i + 1 < B 1 11 := hk.lt hi.2 (by omega)
  refine go_aload_n dX5_readNamed_0 rfl ?_
  refine go_iconst dX5_readNamed_1 ?_
  refine go_callV_z (as := [vi 3]) (S := []) (b := 1) (ev_X7_wantKind (m := m) (k := 3) (by rw [hsq.1.1, hsq.1.2.1]; have h := hk.lt hsq.2.1.2 (by omega); have h2 := hsq.2.1; omega) (by first | assumption | omega | exact ⟨by omega, by omega⟩ | (constructor <;> omega))) rfl dX5_readNamed_2 cv_5_88 rfl rfl ob_1 rfl (by decide) (Nat.le_of_ble_eq_true rfl) (fun r_2 m_2 hr_2 ho_2 => ?_)
  have rwf_2 : ∀ b : Nat, b ≠ 1 → m_2 b = m b := by
    rcases hr_2 with h | h
    · exact h.2.2.2
    · exact h.2.2.2
  rw [hsq.1.2.2.1, e12] at hr_2
  refine go_if_ne (tgt := 10) dX5_readNamed_5 (by decide) ⟨by omega, by omega⟩ (fun h_5 => ?_) (fun h_5 => ?_)
  · obtain ⟨z_2, -, a_2⟩ := hr_2.resolve_right (fun h => h_5 h.2.1)
    have sq2 := hsq.adv a_2 hlt
    refine go_iload_n dX5_readNamed_10 rfl ?_
    refine go_sipush dX5_readNamed_11 (by decide) ?_
    refine go_icmp_ne (tgt := 28) dX5_readNamed_14 (by decide) ⟨by omega, by omega⟩ ⟨by omega, by omega⟩ (fun h_14 => ?_) (fun h_14 => ?_)
    · refine go_aload_n dX5_readNamed_28 rfl ?_
      refine go_aload_n dX5_readNamed_29 rfl ?_
      refine go_getf_l (ki := 5) dX5_readNamed_30 fl_5_91 ob_1 rfl rfl (fun hf_30 => ?_)
      rw [show (m_2 1 5 : Int) = (B 6 (i + 1)) from sq2.wd] at hf_30 ⊢
      refine go_callVp_i (as := [vl (B 6 (i + 1))]) (S := []) (b := 8) (ev_X1_personNamed (m := m_2) (d := 8) (v := (B 6 (i + 1))) isDn_8 (by rw [rwf_2 8 (by decide), hsq.row (by decide) (by omega)]; exact hd33) (by first | assumption | omega | exact ⟨by omega, by omega⟩ | (constructor <;> omega))) rfl dX5_readNamed_33 cv_5_101 rfl rfl ob_8 rfl (by decide) (Nat.le_of_ble_eq_true rfl) (fun r_33 hr_33 ho_33 => ?_)
      have hw : r_33 = nmW B k (i + 1) := by rw [hr_33]; unfold nmW nameAt; rw [if_neg (by omega), rwf_2 8 (by decide), rwf_2 (8 + 4) (by decide), hsq.row (b := 8) (by decide) (by omega), hsq.row (b := 8 + 4) (by decide) (by omega)]
      have hnb := nameAt_b B (8 + 4) (B 6 (i + 1)) (B 8 3)
      have hnb : -1 ≤ nmW B k (i + 1) ∧ nmW B k (i + 1) < 6 := by unfold nmW; rw [if_neg (by omega)]; omega
      clear hr_33
      subst hw
      refine go_istore (L' := [vr 76, vr 1, vr 8, vi k, vi (nmW B k (i + 1))]) dX5_readNamed_36 (by decide) rfl rfl ?_
      refine go_iload dX5_readNamed_38 rfl ?_
      refine go_iconst dX5_readNamed_40 ?_
      refine go_icmp_ne (tgt := 50) dX5_readNamed_41 (by decide) ⟨by omega, by omega⟩ ⟨by omega, by omega⟩ (fun h_41 => ?_) (fun h_41 => ?_)
      · refine go_aload_n dX5_readNamed_50 rfl ?_
        refine go_iload_n dX5_readNamed_51 rfl ?_
        refine go_iconst dX5_readNamed_52 ?_
        refine go_iload dX5_readNamed_53 rfl ?_
        refine go_callV_v (as := [vi k, vi 0, vi (nmW B k (i + 1))]) (S := []) (b := 76) (ev_X5_add (m := m_2) (k := k) (g := 0) (v := (nmW B k (i + 1))) (by first | assumption | omega | exact ⟨by omega, by omega⟩ | (constructor <;> omega)) (by first | assumption | omega | exact ⟨by omega, by omega⟩ | (constructor <;> omega)) (by first | assumption | omega | exact ⟨by omega, by omega⟩ | (constructor <;> omega)) (by rw [sq2.2.2.2.1]; omega)) rfl dX5_readNamed_55 cv_5_64 rfl rfl ob_76 rfl (by decide) (Nat.le_of_ble_eq_true rfl) (fun m_55 hr_55 => ?_)
        have sq3 := sq2.add (k := k) (g := 0) (v := nmW B k (i + 1))
        subst hr_55
        refine go_aload_n dX5_readNamed_58 rfl ?_
        refine go_callV_v (as := []) (S := []) (b := 1) (ev_X7_next (m := (addM m_2 k 0 (nmW B k (i + 1))))  (by rw [sq3.1.1, sq3.1.2.1]; have h := hk.lt sq3.2.1.2 (by omega); have h2 := sq3.2.1; omega)) rfl dX5_readNamed_59 cv_5_47 rfl rfl ob_1 rfl (by decide) (Nat.le_of_ble_eq_true rfl) (fun m_59 hr_59 => ?_)
        have sq4 := sq3.nx hk (by omega)
        subst hr_59
        refine go_iconst dX5_readNamed_62 ?_
        refine go_ret (v := 1) rfl dX5_readNamed_63 (okZ (by first | exact Or.inl rfl | exact Or.inr rfl | assumption | omega)) ?_
        rw [show namF B i o = (0, i + 2, o, [(k, 0, nmW B k (i + 1))]) by unfold namF; rw [if_neg (fun z => z z_2), ← hkk, if_neg (by omega)]]
        rw [show i + 1 + 1 = i + 2 by omega] at sq4
        exact Or.inl ⟨rfl, rfl, sq4⟩
      · refine go_aload_n dX5_readNamed_44 rfl ?_
        refine go_iconst dX5_readNamed_45 ?_
        refine go_callV_z (as := [vi 3]) (S := []) (b := 1) (ev_X7_refuse (m := m_2) (k := 3) (by first | assumption | omega | exact ⟨by omega, by omega⟩ | (constructor <;> omega))) rfl dX5_readNamed_46 cv_5_57 rfl rfl ob_1 rfl (by decide) (Nat.le_of_ble_eq_true rfl) (fun r_46 m_46 hr_46 ho_46 => ?_)
        refine go_ret (v := r_46) rfl dX5_readNamed_49 (okZ (by first | exact Or.inl rfl | exact Or.inr rfl | assumption | omega)) ?_
        rw [hr_46.2, show namF B i o = (3, i + 1, 0, []) by unfold namF; rw [if_neg (fun z => z z_2), ← hkk, if_pos (by omega)]]
        exact Or.inr ⟨by omega, (show (3 : Int) ≠ 0 by decide), sq2.ref⟩
    · refine go_aload_n dX5_readNamed_17 rfl ?_
      refine go_aload_n dX5_readNamed_18 rfl ?_
      refine go_getf_l (ki := 5) dX5_readNamed_19 fl_5_91 ob_1 rfl rfl (fun hf_19 => ?_)
      rw [show (m_2 1 5 : Int) = (B 6 (i + 1)) from sq2.wd] at hf_19 ⊢
      refine go_callVp_i (as := [vl (B 6 (i + 1))]) (S := []) (b := 8) (ev_X1_pointNamed (m := m_2) (d := 8) (v := (B 6 (i + 1))) isDn_8 (by rw [rwf_2 8 (by decide), hsq.row (by decide) (by omega)]; exact hd44) (by first | assumption | omega | exact ⟨by omega, by omega⟩ | (constructor <;> omega))) rfl dX5_readNamed_22 cv_5_95 rfl rfl ob_8 rfl (by decide) (Nat.le_of_ble_eq_true rfl) (fun r_22 hr_22 ho_22 => ?_)
      have hw : r_22 = nmW B k (i + 1) := by rw [hr_22]; unfold nmW nameAt; rw [if_pos (by omega), rwf_2 8 (by decide), rwf_2 (8 + 6) (by decide), hsq.row (b := 8) (by decide) (by omega), hsq.row (b := 8 + 6) (by decide) (by omega)]
      have hnb := nameAt_b B (8 + 6) (B 6 (i + 1)) (B 8 4)
      have hnb : -1 ≤ nmW B k (i + 1) ∧ nmW B k (i + 1) < 6 := by unfold nmW; rw [if_pos (by omega)]; omega
      clear hr_22
      subst hw
      refine go_goto (tgt := 36) dX5_readNamed_25 (by decide) ?_
      refine go_istore (L' := [vr 76, vr 1, vr 8, vi k, vi (nmW B k (i + 1))]) dX5_readNamed_36 (by decide) rfl rfl ?_
      refine go_iload dX5_readNamed_38 rfl ?_
      refine go_iconst dX5_readNamed_40 ?_
      refine go_icmp_ne (tgt := 50) dX5_readNamed_41 (by decide) ⟨by omega, by omega⟩ ⟨by omega, by omega⟩ (fun h_41 => ?_) (fun h_41 => ?_)
      · refine go_aload_n dX5_readNamed_50 rfl ?_
        refine go_iload_n dX5_readNamed_51 rfl ?_
        refine go_iconst dX5_readNamed_52 ?_
        refine go_iload dX5_readNamed_53 rfl ?_
        refine go_callV_v (as := [vi k, vi 0, vi (nmW B k (i + 1))]) (S := []) (b := 76) (ev_X5_add (m := m_2) (k := k) (g := 0) (v := (nmW B k (i + 1))) (by first | assumption | omega | exact ⟨by omega, by omega⟩ | (constructor <;> omega)) (by first | assumption | omega | exact ⟨by omega, by omega⟩ | (constructor <;> omega)) (by first | assumption | omega | exact ⟨by omega, by omega⟩ | (constructor <;> omega)) (by rw [sq2.2.2.2.1]; omega)) rfl dX5_readNamed_55 cv_5_64 rfl rfl ob_76 rfl (by decide) (Nat.le_of_ble_eq_true rfl) (fun m_55 hr_55 => ?_)
        have sq3 := sq2.add (k := k) (g := 0) (v := nmW B k (i + 1))
        subst hr_55
        refine go_aload_n dX5_readNamed_58 rfl ?_
        refine go_callV_v (as := []) (S := []) (b := 1) (ev_X7_next (m := (addM m_2 k 0 (nmW B k (i + 1))))  (by rw [sq3.1.1, sq3.1.2.1]; have h := hk.lt sq3.2.1.2 (by omega); have h2 := sq3.2.1; omega)) rfl dX5_readNamed_59 cv_5_47 rfl rfl ob_1 rfl (by decide) (Nat.le_of_ble_eq_true rfl) (fun m_59 hr_59 => ?_)
        have sq4 := sq3.nx hk (by omega)
        subst hr_59
        refine go_iconst dX5_readNamed_62 ?_
        refine go_ret (v := 1) rfl dX5_readNamed_63 (okZ (by first | exact Or.inl rfl | exact Or.inr rfl | assumption | omega)) ?_
        rw [show namF B i o = (0, i + 2, o, [(k, 0, nmW B k (i + 1))]) by unfold namF; rw [if_neg (fun z => z z_2), ← hkk, if_neg (by omega)]]
        rw [show i + 1 + 1 = i + 2 by omega] at sq4
        exact Or.inl ⟨rfl, rfl, sq4⟩
      · refine go_aload_n dX5_readNamed_44 rfl ?_
        refine go_iconst dX5_readNamed_45 ?_
        refine go_callV_z (as := [vi 3]) (S := []) (b := 1) (ev_X7_refuse (m := m_2) (k := 3) (by first | assumption | omega | exact ⟨by omega, by omega⟩ | (constructor <;> omega))) rfl dX5_readNamed_46 cv_5_57 rfl rfl ob_1 rfl (by decide) (Nat.le_of_ble_eq_true rfl) (fun r_46 m_46 hr_46 ho_46 => ?_)
        refine go_ret (v := r_46) rfl dX5_readNamed_49 (okZ (by first | exact Or.inl rfl | exact Or.inr rfl | assumption | omega)) ?_
        rw [hr_46.2, show namF B i o = (3, i + 1, 0, []) by unfold namF; rw [if_neg (fun z => z z_2), ← hkk, if_pos (by omega)]]
        exact Or.inr ⟨by omega, (show (3 : Int) ≠ 0 by decide), sq2.ref⟩
  · refine go_iconst dX5_readNamed_8 ?_
    refine go_ret (v := 0) rfl dX5_readNamed_9 (okZ (by first | exact Or.inl rfl | exact Or.inr rfl | assumption | omega)) ?_
    obtain ⟨z, -, a⟩ := hr_2.resolve_left (fun h => by omega)
    rw [show namF B i o = (1, i + 1, 0, []) by unfold namF; rw [if_pos z]]
    exact Or.inr ⟨rfl, (show (1 : Int) ≠ 0 by decide), hsq.no a⟩
theorem dX5_readCompared_0 : decode mX5_readCompared.2.1 0 = .ok (.aload_n 1, 1) := by decide +kernel
theorem dX5_readCompared_1 : decode mX5_readCompared.2.1 1 = .ok (.invokevirtual 47, 3) := by decide +kernel
theorem dX5_readCompared_4 : decode mX5_readCompared.2.1 4 = .ok (.aload_n 1, 1) := by decide +kernel
theorem dX5_readCompared_5 : decode mX5_readCompared.2.1 5 = .ok (.getfield 54, 3) := by decide +kernel
theorem dX5_readCompared_8 : decode mX5_readCompared.2.1 8 = .ok (.istore_n 3, 1) := by decide +kernel
theorem dX5_readCompared_9 : decode mX5_readCompared.2.1 9 = .ok (.iload_n 3, 1) := by decide +kernel
theorem dX5_readCompared_10 : decode mX5_readCompared.2.1 10 = .ok (.bipush 60, 2) := by decide +kernel
theorem dX5_readCompared_12 : decode mX5_readCompared.2.1 12 = .ok (.bipush 62, 2) := by decide +kernel
theorem dX5_readCompared_14 : decode mX5_readCompared.2.1 14 = .ok (.invokestatic 71, 3) := by decide +kernel
theorem dX5_readCompared_17 : decode mX5_readCompared.2.1 17 = .ok (.ifCond .ne 9, 3) := by decide +kernel
theorem dX5_readCompared_20 : decode mX5_readCompared.2.1 20 = .ok (.aload_n 1, 1) := by decide +kernel
theorem dX5_readCompared_21 : decode mX5_readCompared.2.1 21 = .ok (.iconst 1, 1) := by decide +kernel
theorem dX5_readCompared_22 : decode mX5_readCompared.2.1 22 = .ok (.invokevirtual 57, 3) := by decide +kernel
theorem dX5_readCompared_25 : decode mX5_readCompared.2.1 25 = .ok (.ireturn, 1) := by decide +kernel
theorem dX5_readCompared_26 : decode mX5_readCompared.2.1 26 = .ok (.aload_n 1, 1) := by decide +kernel
theorem dX5_readCompared_27 : decode mX5_readCompared.2.1 27 = .ok (.iconst 2, 1) := by decide +kernel
theorem dX5_readCompared_28 : decode mX5_readCompared.2.1 28 = .ok (.invokevirtual 88, 3) := by decide +kernel
theorem dX5_readCompared_31 : decode mX5_readCompared.2.1 31 = .ok (.ifCond .ne 5, 3) := by decide +kernel
theorem dX5_readCompared_34 : decode mX5_readCompared.2.1 34 = .ok (.iconst 0, 1) := by decide +kernel
theorem dX5_readCompared_35 : decode mX5_readCompared.2.1 35 = .ok (.ireturn, 1) := by decide +kernel
theorem dX5_readCompared_36 : decode mX5_readCompared.2.1 36 = .ok (.aload_n 0, 1) := by decide +kernel
theorem dX5_readCompared_37 : decode mX5_readCompared.2.1 37 = .ok (.iload_n 2, 1) := by decide +kernel
theorem dX5_readCompared_38 : decode mX5_readCompared.2.1 38 = .ok (.iload_n 3, 1) := by decide +kernel
theorem dX5_readCompared_39 : decode mX5_readCompared.2.1 39 = .ok (.aload_n 1, 1) := by decide +kernel
theorem dX5_readCompared_40 : decode mX5_readCompared.2.1 40 = .ok (.getfield 104, 3) := by decide +kernel
theorem dX5_readCompared_43 : decode mX5_readCompared.2.1 43 = .ok (.invokevirtual 64, 3) := by decide +kernel
theorem dX5_readCompared_46 : decode mX5_readCompared.2.1 46 = .ok (.aload_n 1, 1) := by decide +kernel
theorem dX5_readCompared_47 : decode mX5_readCompared.2.1 47 = .ok (.invokevirtual 47, 3) := by decide +kernel
theorem dX5_readCompared_50 : decode mX5_readCompared.2.1 50 = .ok (.iconst 1, 1) := by decide +kernel
theorem dX5_readCompared_51 : decode mX5_readCompared.2.1 51 = .ok (.ireturn, 1) := by decide +kernel
set_option maxRecDepth 4000 in
theorem ev_X5_readCompared {m : Mem} {B : Mem} {i : Int} {o : Int} {l : List Cd} {k : Int} (hsq : SQ B m i o l) (hk : TkS B) (hdb : DnOk B 8) (ho : 1 ≤ o ∧ o ≤ 20) (hl : (l.length : Int) + 2 ≤ 2 * o) (hkk : k = B 4 i) (hkr : 221 ≤ k ∧ k ≤ 224) : Ev 0 3 mX5_readCompared [vr 76, vr 1, vi k] m (fun r m' => QP B r m' l (cmpF B i o)) := by
  refine Ev.of (L := [vr 76, vr 1, vi k, un]) (by decide +kernel) rfl (Nat.le_of_ble_eq_true rfl) rfl (fun t ht => by cases ht; first | exact Or.inl rfl | exact Or.inr (Or.inl rfl) | exact Or.inr (Or.inr rfl)) (fun hcan => ?_)
  have hi := hsq.2.1
  have hkb := hk.1
  have h0 := hsq.2.2.1
  have h1 := hsq.2.2.2.1
  have e12 := hsq.1.1
  have e11 := hsq.1.2.1
  have hlt : i + 1 < B 1 11 := hk.lt hi.2 (by omega)
  have hbR := fun z => (hk.2.2 (i + 2) (by omega) z)
  refine go_aload_n dX5_readCompared_0 rfl ?_
  refine go_callV_v (as := []) (S := []) (b := 1) (ev_X7_next (m := m)  (by rw [hsq.1.1, hsq.1.2.1]; have h := hk.lt hsq.2.1.2 (by omega); have h2 := hsq.2.1; omega)) rfl dX5_readCompared_1 cv_5_47 rfl rfl ob_1 rfl (by decide) (Nat.le_of_ble_eq_true rfl) (fun m_1 hr_1 => ?_)
  have sq1 := hsq.nx hk (by omega)
  subst hr_1
  refine go_aload_n dX5_readCompared_4 rfl ?_
  refine go_getf_i (ki := 2) dX5_readCompared_5 fl_5_54 ob_1 rfl rfl (fun hf_5 => ?_)
  rw [show ((nxt m) 1 2 : Int) = (B 4 (i + 1)) from sq1.kd] at hf_5 ⊢
  refine go_istore_n (L' := [vr 76, vr 1, vi k, vi (B 4 (i + 1))]) dX5_readCompared_8 (by decide) rfl rfl ?_
  refine go_iload_n dX5_readCompared_9 rfl ?_
  refine go_bipush dX5_readCompared_10 (by decide) ?_
  refine go_bipush dX5_readCompared_12 (by decide) ?_
  refine go_callSp_z (as := [vi (B 4 (i + 1)), vi 60, vi 62]) (S := []) (ev_X11_isIn (m := (nxt m)) (n := (B 4 (i + 1))) (lo := 60) (hi := 62) (by first | assumption | omega | exact ⟨by omega, by omega⟩ | (constructor <;> omega)) (by first | assumption | omega | exact ⟨by omega, by omega⟩ | (constructor <;> omega)) (by first | assumption | omega | exact ⟨by omega, by omega⟩ | (constructor <;> omega))) rfl dX5_readCompared_14 cs_5_71 rfl rfl (by decide) (Nat.le_of_ble_eq_true rfl) (fun r_14 hr_14 ho_14 => ?_)
  refine go_if_ne (tgt := 26) dX5_readCompared_17 (by decide) ⟨by omega, by omega⟩ (fun h_17 => ?_) (fun h_17 => ?_)
  · refine go_aload_n dX5_readCompared_26 rfl ?_
    refine go_iconst dX5_readCompared_27 ?_
    refine go_callV_z (as := [vi 2]) (S := []) (b := 1) (ev_X7_wantKind (m := (nxt m)) (k := 2) (by rw [sq1.1.1, sq1.1.2.1]; have h := hk.lt sq1.2.1.2 (by omega); have h2 := sq1.2.1; omega) (by first | assumption | omega | exact ⟨by omega, by omega⟩ | (constructor <;> omega))) rfl dX5_readCompared_28 cv_5_88 rfl rfl ob_1 rfl (by decide) (Nat.le_of_ble_eq_true rfl) (fun r_28 m_28 hr_28 ho_28 => ?_)
    have hlt2 : i + 1 + 1 < B 1 11 := hk.lt sq1.2.1.2 (by omega)
    have rwf_28 : ∀ b : Nat, b ≠ 1 → m_28 b = nxt m b := by
      rcases hr_28 with h | h
      · exact h.2.2.2
      · exact h.2.2.2
    rw [sq1.1.2.2.1, sq1.1.1, show i + 1 + 1 = i + 2 by omega] at hr_28
    refine go_if_ne (tgt := 36) dX5_readCompared_31 (by decide) ⟨by omega, by omega⟩ (fun h_31 => ?_) (fun h_31 => ?_)
    · obtain ⟨z_28, -, a_28⟩ := hr_28.resolve_right (fun h => h_31 h.2.1)
      have sq2 := sq1.adv a_28 hlt2
      rw [show i + 1 + 1 = i + 2 by omega] at sq2
      refine go_aload_n dX5_readCompared_36 rfl ?_
      refine go_iload_n dX5_readCompared_37 rfl ?_
      refine go_iload_n dX5_readCompared_38 rfl ?_
      refine go_aload_n dX5_readCompared_39 rfl ?_
      refine go_getf_i (ki := 4) dX5_readCompared_40 fl_5_104 ob_1 rfl rfl (fun hf_40 => ?_)
      rw [show (m_28 1 4 : Int) = (vN B (i + 2)) from sq2.nu] at hf_40 ⊢
      refine go_callV_v (as := [vi k, vi (B 4 (i + 1)), vi (vN B (i + 2))]) (S := []) (b := 76) (ev_X5_add (m := m_28) (k := k) (g := (B 4 (i + 1))) (v := (vN B (i + 2))) (by first | assumption | omega | exact ⟨by omega, by omega⟩ | (constructor <;> omega)) (by first | assumption | omega | exact ⟨by omega, by omega⟩ | (constructor <;> omega)) (w32_R _) (by rw [sq2.2.2.2.1]; omega)) rfl dX5_readCompared_43 cv_5_64 rfl rfl ob_76 rfl (by decide) (Nat.le_of_ble_eq_true rfl) (fun m_43 hr_43 => ?_)
      have sq3 := sq2.add (k := k) (g := B 4 (i + 1)) (v := vN B (i + 2))
      subst hr_43
      refine go_aload_n dX5_readCompared_46 rfl ?_
      refine go_callV_v (as := []) (S := []) (b := 1) (ev_X7_next (m := (addM m_28 k (B 4 (i + 1)) (vN B (i + 2))))  (by rw [sq3.1.1, sq3.1.2.1]; have h := hk.lt sq3.2.1.2 (by omega); have h2 := sq3.2.1; omega)) rfl dX5_readCompared_47 cv_5_47 rfl rfl ob_1 rfl (by decide) (Nat.le_of_ble_eq_true rfl) (fun m_47 hr_47 => ?_)
      have sq4 := sq3.nx hk (by omega)
      subst hr_47
      refine go_iconst dX5_readCompared_50 ?_
      refine go_ret (v := 1) rfl dX5_readCompared_51 (okZ (by first | exact Or.inl rfl | exact Or.inr rfl | assumption | omega)) ?_
      rw [show cmpF B i o = (0, i + 3, o, [(k, B 4 (i + 1), vN B (i + 2))]) by unfold cmpF; rw [if_neg (by omega), if_neg (by omega), ← hkk]]
      rw [show i + 2 + 1 = i + 3 by omega] at sq4
      exact Or.inl ⟨rfl, rfl, sq4⟩
    · refine go_iconst dX5_readCompared_34 ?_
      refine go_ret (v := 0) rfl dX5_readCompared_35 (okZ (by first | exact Or.inl rfl | exact Or.inr rfl | assumption | omega)) ?_
      obtain ⟨z, -, a⟩ := hr_28.resolve_left (fun h => by omega)
      rw [show cmpF B i o = (1, i + 2, 0, []) by unfold cmpF; rw [if_neg (by omega), if_pos z]]
      have h := sq1.no a
      rw [show i + 1 + 1 = i + 2 by omega] at h
      exact Or.inr ⟨rfl, (show (1 : Int) ≠ 0 by decide), h⟩
  · refine go_aload_n dX5_readCompared_20 rfl ?_
    refine go_iconst dX5_readCompared_21 ?_
    refine go_callV_z (as := [vi 1]) (S := []) (b := 1) (ev_X7_refuse (m := (nxt m)) (k := 1) (by first | assumption | omega | exact ⟨by omega, by omega⟩ | (constructor <;> omega))) rfl dX5_readCompared_22 cv_5_57 rfl rfl ob_1 rfl (by decide) (Nat.le_of_ble_eq_true rfl) (fun r_22 m_22 hr_22 ho_22 => ?_)
    refine go_ret (v := r_22) rfl dX5_readCompared_25 (okZ (by first | exact Or.inl rfl | exact Or.inr rfl | assumption | omega)) ?_
    rw [hr_22.2, show cmpF B i o = (1, i + 1, 0, []) by unfold cmpF; rw [if_pos (by omega)]]
    exact Or.inr ⟨by omega, (show (1 : Int) ≠ 0 by decide), sq1.ref⟩
theorem dX5_readOne_0 : decode mX5_readOne.2.1 0 = .ok (.aload_n 1, 1) := by decide +kernel
theorem dX5_readOne_1 : decode mX5_readOne.2.1 1 = .ok (.getfield 54, 3) := by decide +kernel
theorem dX5_readOne_4 : decode mX5_readOne.2.1 4 = .ok (.istore 4, 2) := by decide +kernel
theorem dX5_readOne_6 : decode mX5_readOne.2.1 6 = .ok (.iload 4, 2) := by decide +kernel
theorem dX5_readOne_8 : decode mX5_readOne.2.1 8 = .ok (.bipush 40, 2) := by decide +kernel
theorem dX5_readOne_10 : decode mX5_readOne.2.1 10 = .ok (.if_icmp .eq 23, 3) := by decide +kernel
theorem dX5_readOne_13 : decode mX5_readOne.2.1 13 = .ok (.iload 4, 2) := by decide +kernel
theorem dX5_readOne_15 : decode mX5_readOne.2.1 15 = .ok (.sipush 215, 3) := by decide +kernel
theorem dX5_readOne_18 : decode mX5_readOne.2.1 18 = .ok (.sipush 224, 3) := by decide +kernel
theorem dX5_readOne_21 : decode mX5_readOne.2.1 21 = .ok (.invokestatic 71, 3) := by decide +kernel
theorem dX5_readOne_24 : decode mX5_readOne.2.1 24 = .ok (.ifCond .ne 9, 3) := by decide +kernel
theorem dX5_readOne_27 : decode mX5_readOne.2.1 27 = .ok (.aload_n 1, 1) := by decide +kernel
theorem dX5_readOne_28 : decode mX5_readOne.2.1 28 = .ok (.iconst 1, 1) := by decide +kernel
theorem dX5_readOne_29 : decode mX5_readOne.2.1 29 = .ok (.invokevirtual 57, 3) := by decide +kernel
theorem dX5_readOne_32 : decode mX5_readOne.2.1 32 = .ok (.ireturn, 1) := by decide +kernel
theorem dX5_readOne_33 : decode mX5_readOne.2.1 33 = .ok (.aload_n 0, 1) := by decide +kernel
theorem dX5_readOne_34 : decode mX5_readOne.2.1 34 = .ok (.getfield 9, 3) := by decide +kernel
theorem dX5_readOne_37 : decode mX5_readOne.2.1 37 = .ok (.bipush 20, 2) := by decide +kernel
theorem dX5_readOne_39 : decode mX5_readOne.2.1 39 = .ok (.if_icmp .ge 9, 3) := by decide +kernel
theorem dX5_readOne_42 : decode mX5_readOne.2.1 42 = .ok (.iload_n 3, 1) := by decide +kernel
theorem dX5_readOne_43 : decode mX5_readOne.2.1 43 = .ok (.bipush 8, 2) := by decide +kernel
theorem dX5_readOne_45 : decode mX5_readOne.2.1 45 = .ok (.if_icmp .le 9, 3) := by decide +kernel
theorem dX5_readOne_48 : decode mX5_readOne.2.1 48 = .ok (.aload_n 1, 1) := by decide +kernel
theorem dX5_readOne_49 : decode mX5_readOne.2.1 49 = .ok (.iconst 4, 1) := by decide +kernel
theorem dX5_readOne_50 : decode mX5_readOne.2.1 50 = .ok (.invokevirtual 57, 3) := by decide +kernel
theorem dX5_readOne_53 : decode mX5_readOne.2.1 53 = .ok (.ireturn, 1) := by decide +kernel
set_option maxRecDepth 4000 in
theorem ev_X5_one0 {m : Mem} {B : Mem} {i : Int} {o : Int} {l : List Cd} {k : Int} (hsq : SQ B m i o l) (hk : TkS B) (hdb : DnOk B 8) (ho : 0 ≤ o ∧ o ≤ 20) (hl : (l.length : Int) ≤ 2 * o) (hd : k = 9) : Ev 0 10 mX5_readOne [vr 76, vr 1, vr 8, vi k] m (fun r m' => QP B r m' l (oneF B 0 i o)) := by
  refine Ev.of (L := [vr 76, vr 1, vr 8, vi k, un]) (by decide +kernel) rfl (Nat.le_of_ble_eq_true rfl) rfl (fun t ht => by cases ht; first | exact Or.inl rfl | exact Or.inr (Or.inl rfl) | exact Or.inr (Or.inr rfl)) (fun hcan => ?_)
  have hi := hsq.2.1
  have hkb := hk.1
  have h0 := hsq.2.2.1
  have h1 := hsq.2.2.2.1
  have e12 := hsq.1.1
  have e11 := hsq.1.2.1
  refine go_aload_n dX5_readOne_0 rfl ?_
  refine go_getf_i (ki := 2) dX5_readOne_1 fl_5_54 ob_1 rfl rfl (fun hf_1 => ?_)
  rw [show (m 1 2 : Int) = (B 4 i) from hsq.kd] at hf_1 ⊢
  refine go_istore (L' := [vr 76, vr 1, vr 8, vi k, vi (B 4 i)]) dX5_readOne_4 (by decide) rfl rfl ?_
  refine go_iload dX5_readOne_6 rfl ?_
  refine go_bipush dX5_readOne_8 (by decide) ?_
  refine go_icmp_eq (tgt := 33) dX5_readOne_10 (by decide) ⟨by omega, by omega⟩ ⟨by omega, by omega⟩ (fun h_10 => ?_) (fun h_10 => ?_)
  · refine go_aload_n dX5_readOne_33 rfl ?_
    refine go_getf_i (ki := 0) dX5_readOne_34 fl_5_9 ob_76 rfl rfl (fun hf_34 => ?_)
    rw [show (m 76 0 : Int) = o from h0] at hf_34 ⊢
    refine go_bipush dX5_readOne_37 (by decide) ?_
    refine go_icmp_ge (tgt := 48) dX5_readOne_39 (by decide) ⟨by omega, by omega⟩ ⟨by omega, by omega⟩ (fun h_39 => ?_) (fun h_39 => ?_)
    · refine go_aload_n dX5_readOne_48 rfl ?_
      refine go_iconst dX5_readOne_49 ?_
      refine go_callV_z (as := [vi 4]) (S := []) (b := 1) (ev_X7_refuse (m := m) (k := 4) (by first | assumption | omega | exact ⟨by omega, by omega⟩ | (constructor <;> omega))) rfl dX5_readOne_50 cv_5_57 rfl rfl ob_1 rfl (by decide) (Nat.le_of_ble_eq_true rfl) (fun r_50 m_50 hr_50 ho_50 => ?_)
      refine go_ret (v := r_50) rfl dX5_readOne_53 (okZ (by first | exact Or.inl rfl | exact Or.inr rfl | assumption | omega)) ?_
      rw [hr_50.2, show oneF B 0 i o = (4, i, o, []) by unfold oneF; rw [if_neg (by omega)]]
      exact Or.inr ⟨by omega, (show (4 : Int) ≠ 0 by decide), hsq.ref⟩
    · refine go_iload_n dX5_readOne_42 rfl ?_
      refine go_bipush dX5_readOne_43 (by decide) ?_
      refine go_icmp_le (tgt := 54) dX5_readOne_45 (by decide) ⟨by omega, by omega⟩ ⟨by omega, by omega⟩ (fun h_45 => ?_) (fun h_45 => ?_)
      · exfalso; omega
      · refine go_aload_n dX5_readOne_48 rfl ?_
        refine go_iconst dX5_readOne_49 ?_
        refine go_callV_z (as := [vi 4]) (S := []) (b := 1) (ev_X7_refuse (m := m) (k := 4) (by first | assumption | omega | exact ⟨by omega, by omega⟩ | (constructor <;> omega))) rfl dX5_readOne_50 cv_5_57 rfl rfl ob_1 rfl (by decide) (Nat.le_of_ble_eq_true rfl) (fun r_50 m_50 hr_50 ho_50 => ?_)
        refine go_ret (v := r_50) rfl dX5_readOne_53 (okZ (by first | exact Or.inl rfl | exact Or.inr rfl | assumption | omega)) ?_
        rw [hr_50.2, show oneF B 0 i o = (4, i, o, []) by unfold oneF; rw [if_neg (by omega)]]
        exact Or.inr ⟨by omega, (show (4 : Int) ≠ 0 by decide), hsq.ref⟩
  · refine go_iload dX5_readOne_13 rfl ?_
    refine go_sipush dX5_readOne_15 (by decide) ?_
    refine go_sipush dX5_readOne_18 (by decide) ?_
    refine go_callSp_z (as := [vi (B 4 i), vi 215, vi 224]) (S := []) (ev_X11_isIn (m := m) (n := (B 4 i)) (lo := 215) (hi := 224) (by first | assumption | omega | exact ⟨by omega, by omega⟩ | (constructor <;> omega)) (by first | assumption | omega | exact ⟨by omega, by omega⟩ | (constructor <;> omega)) (by first | assumption | omega | exact ⟨by omega, by omega⟩ | (constructor <;> omega))) rfl dX5_readOne_21 cs_5_71 rfl rfl (by decide) (Nat.le_of_ble_eq_true rfl) (fun r_21 hr_21 ho_21 => ?_)
    refine go_if_ne (tgt := 33) dX5_readOne_24 (by decide) ⟨by omega, by omega⟩ (fun h_24 => ?_) (fun h_24 => ?_)
    · refine go_aload_n dX5_readOne_33 rfl ?_
      refine go_getf_i (ki := 0) dX5_readOne_34 fl_5_9 ob_76 rfl rfl (fun hf_34 => ?_)
      rw [show (m 76 0 : Int) = o from h0] at hf_34 ⊢
      refine go_bipush dX5_readOne_37 (by decide) ?_
      refine go_icmp_ge (tgt := 48) dX5_readOne_39 (by decide) ⟨by omega, by omega⟩ ⟨by omega, by omega⟩ (fun h_39 => ?_) (fun h_39 => ?_)
      · refine go_aload_n dX5_readOne_48 rfl ?_
        refine go_iconst dX5_readOne_49 ?_
        refine go_callV_z (as := [vi 4]) (S := []) (b := 1) (ev_X7_refuse (m := m) (k := 4) (by first | assumption | omega | exact ⟨by omega, by omega⟩ | (constructor <;> omega))) rfl dX5_readOne_50 cv_5_57 rfl rfl ob_1 rfl (by decide) (Nat.le_of_ble_eq_true rfl) (fun r_50 m_50 hr_50 ho_50 => ?_)
        refine go_ret (v := r_50) rfl dX5_readOne_53 (okZ (by first | exact Or.inl rfl | exact Or.inr rfl | assumption | omega)) ?_
        rw [hr_50.2, show oneF B 0 i o = (4, i, o, []) by unfold oneF; rw [if_neg (by omega)]]
        exact Or.inr ⟨by omega, (show (4 : Int) ≠ 0 by decide), hsq.ref⟩
      · refine go_iload_n dX5_readOne_42 rfl ?_
        refine go_bipush dX5_readOne_43 (by decide) ?_
        refine go_icmp_le (tgt := 54) dX5_readOne_45 (by decide) ⟨by omega, by omega⟩ ⟨by omega, by omega⟩ (fun h_45 => ?_) (fun h_45 => ?_)
        · exfalso; omega
        · refine go_aload_n dX5_readOne_48 rfl ?_
          refine go_iconst dX5_readOne_49 ?_
          refine go_callV_z (as := [vi 4]) (S := []) (b := 1) (ev_X7_refuse (m := m) (k := 4) (by first | assumption | omega | exact ⟨by omega, by omega⟩ | (constructor <;> omega))) rfl dX5_readOne_50 cv_5_57 rfl rfl ob_1 rfl (by decide) (Nat.le_of_ble_eq_true rfl) (fun r_50 m_50 hr_50 ho_50 => ?_)
          refine go_ret (v := r_50) rfl dX5_readOne_53 (okZ (by first | exact Or.inl rfl | exact Or.inr rfl | assumption | omega)) ?_
          rw [hr_50.2, show oneF B 0 i o = (4, i, o, []) by unfold oneF; rw [if_neg (by omega)]]
          exact Or.inr ⟨by omega, (show (4 : Int) ≠ 0 by decide), hsq.ref⟩
    · refine go_aload_n dX5_readOne_27 rfl ?_
      refine go_iconst dX5_readOne_28 ?_
      refine go_callV_z (as := [vi 1]) (S := []) (b := 1) (ev_X7_refuse (m := m) (k := 1) (by first | assumption | omega | exact ⟨by omega, by omega⟩ | (constructor <;> omega))) rfl dX5_readOne_29 cv_5_57 rfl rfl ob_1 rfl (by decide) (Nat.le_of_ble_eq_true rfl) (fun r_29 m_29 hr_29 ho_29 => ?_)
      refine go_ret (v := r_29) rfl dX5_readOne_32 (okZ (by first | exact Or.inl rfl | exact Or.inr rfl | assumption | omega)) ?_
      rw [hr_29.2, show oneF B 0 i o = (1, i, o, []) by unfold oneF; rw [if_pos (by omega)]]
      exact Or.inr ⟨by omega, (show (1 : Int) ≠ 0 by decide), hsq.ref⟩
theorem dX5_readAll_0 : decode mX5_readAll.2.1 0 = .ok (.aload_n 0, 1) := by decide +kernel
theorem dX5_readAll_1 : decode mX5_readAll.2.1 1 = .ok (.aload_n 1, 1) := by decide +kernel
theorem dX5_readAll_2 : decode mX5_readAll.2.1 2 = .ok (.aload_n 2, 1) := by decide +kernel
theorem dX5_readAll_3 : decode mX5_readAll.2.1 3 = .ok (.iload_n 3, 1) := by decide +kernel
theorem dX5_readAll_4 : decode mX5_readAll.2.1 4 = .ok (.invokevirtual 68, 3) := by decide +kernel
theorem dX5_readAll_7 : decode mX5_readAll.2.1 7 = .ok (.ifCond .ne 5, 3) := by decide +kernel
theorem dX5_readAll_10 : decode mX5_readAll.2.1 10 = .ok (.iconst 0, 1) := by decide +kernel
theorem dX5_readAll_11 : decode mX5_readAll.2.1 11 = .ok (.ireturn, 1) := by decide +kernel
theorem dX5_readAll_12 : decode mX5_readAll.2.1 12 = .ok (.iconst 0, 1) := by decide +kernel
theorem dX5_readAll_13 : decode mX5_readAll.2.1 13 = .ok (.istore 4, 2) := by decide +kernel
theorem dX5_readAll_15 : decode mX5_readAll.2.1 15 = .ok (.iload 4, 2) := by decide +kernel
theorem dX5_readAll_17 : decode mX5_readAll.2.1 17 = .ok (.bipush 20, 2) := by decide +kernel
theorem dX5_readAll_19 : decode mX5_readAll.2.1 19 = .ok (.if_icmp .ge 44, 3) := by decide +kernel
theorem dX5_readAll_22 : decode mX5_readAll.2.1 22 = .ok (.aload_n 1, 1) := by decide +kernel
theorem dX5_readAll_23 : decode mX5_readAll.2.1 23 = .ok (.getfield 54, 3) := by decide +kernel
theorem dX5_readAll_26 : decode mX5_readAll.2.1 26 = .ok (.sipush 214, 3) := by decide +kernel
theorem dX5_readAll_29 : decode mX5_readAll.2.1 29 = .ok (.if_icmp .ne 34, 3) := by decide +kernel
theorem dX5_readAll_32 : decode mX5_readAll.2.1 32 = .ok (.aload_n 1, 1) := by decide +kernel
theorem dX5_readAll_33 : decode mX5_readAll.2.1 33 = .ok (.invokevirtual 47, 3) := by decide +kernel
theorem dX5_readAll_36 : decode mX5_readAll.2.1 36 = .ok (.aload_n 0, 1) := by decide +kernel
theorem dX5_readAll_37 : decode mX5_readAll.2.1 37 = .ok (.aload_n 1, 1) := by decide +kernel
theorem dX5_readAll_38 : decode mX5_readAll.2.1 38 = .ok (.aload_n 2, 1) := by decide +kernel
theorem dX5_readAll_39 : decode mX5_readAll.2.1 39 = .ok (.iload_n 3, 1) := by decide +kernel
theorem dX5_readAll_40 : decode mX5_readAll.2.1 40 = .ok (.invokevirtual 68, 3) := by decide +kernel
theorem dX5_readAll_43 : decode mX5_readAll.2.1 43 = .ok (.ifCond .ne 5, 3) := by decide +kernel
theorem dX5_readAll_46 : decode mX5_readAll.2.1 46 = .ok (.iconst 0, 1) := by decide +kernel
theorem dX5_readAll_47 : decode mX5_readAll.2.1 47 = .ok (.ireturn, 1) := by decide +kernel
theorem dX5_readAll_48 : decode mX5_readAll.2.1 48 = .ok (.aload_n 0, 1) := by decide +kernel
theorem dX5_readAll_49 : decode mX5_readAll.2.1 49 = .ok (.sipush 214, 3) := by decide +kernel
theorem dX5_readAll_52 : decode mX5_readAll.2.1 52 = .ok (.iconst 0, 1) := by decide +kernel
theorem dX5_readAll_53 : decode mX5_readAll.2.1 53 = .ok (.iconst 0, 1) := by decide +kernel
theorem dX5_readAll_54 : decode mX5_readAll.2.1 54 = .ok (.invokevirtual 64, 3) := by decide +kernel
theorem dX5_readAll_57 : decode mX5_readAll.2.1 57 = .ok (.iinc 4 1, 3) := by decide +kernel
theorem dX5_readAll_60 : decode mX5_readAll.2.1 60 = .ok (.goto (-45), 3) := by decide +kernel
theorem dX5_readAll_63 : decode mX5_readAll.2.1 63 = .ok (.iconst 1, 1) := by decide +kernel
theorem dX5_readAll_64 : decode mX5_readAll.2.1 64 = .ok (.ireturn, 1) := by decide +kernel
set_option maxRecDepth 4000 in
theorem ev_X5_all0 {m : Mem} {B : Mem} {i : Int} {o : Int} {l : List Cd} {k : Int} (hsq : SQ B m i o l) (hk : TkS B) (hdb : DnOk B 8) (ho : 0 ≤ o ∧ o ≤ 20) (hl : (l.length : Int) ≤ 2 * o) (hd : k = 9) : Ev 0 11 mX5_readAll [vr 76, vr 1, vr 8, vi k] m (fun r m' => QP B r m' l (seqF (B 4) 214 (oneF B 0) i o)) := by
  refine Ev.of (L := [vr 76, vr 1, vr 8, vi k, un]) (by decide +kernel) rfl (Nat.le_of_ble_eq_true rfl) rfl (fun t ht => by cases ht; first | exact Or.inl rfl | exact Or.inr (Or.inl rfl) | exact Or.inr (Or.inr rfl)) (fun hcan => ?_)
  have hi := hsq.2.1
  have hkb := hk.1
  have h0 := hsq.2.2.1
  have h1 := hsq.2.2.2.1
  have e12 := hsq.1.1
  have e11 := hsq.1.2.1
  have hPB : PB (oneF B 0) := (oneF_b B 0)
  refine go_aload_n dX5_readAll_0 rfl ?_
  refine go_aload_n dX5_readAll_1 rfl ?_
  refine go_aload_n dX5_readAll_2 rfl ?_
  refine go_iload_n dX5_readAll_3 rfl ?_
  refine go_callV_z (as := [vr 1, vr 8, vi k]) (S := []) (b := 76) (ev_X5_one0 (m := m) (k := k) (B := B) (i := i) (o := o) (l := l) hsq (by first | assumption | omega | exact ⟨by omega, by omega⟩ | (constructor <;> omega)) (by first | assumption | omega | exact ⟨by omega, by omega⟩ | (constructor <;> omega)) (by first | assumption | omega | exact ⟨by omega, by omega⟩ | (constructor <;> omega)) (by first | assumption | omega | exact ⟨by omega, by omega⟩ | (constructor <;> omega)) (by first | assumption | omega | exact ⟨by omega, by omega⟩ | (constructor <;> omega))) rfl dX5_readAll_4 cv_5_68 rfl rfl ob_76 rfl (by decide) (Nat.le_of_ble_eq_true rfl) (fun r_4 m_4 hr_4 ho_4 => ?_)
  refine go_if_ne (tgt := 12) dX5_readAll_7 (by decide) ⟨by omega, by omega⟩ (fun h_7 => ?_) (fun h_7 => ?_)
  · obtain ⟨-, x1, x2⟩ := hr_4.resolve_right (fun h => h_7 h.1)
    have hR1 := hPB i o (by omega) (by omega) x1
    refine go_iconst dX5_readAll_12 ?_
    refine go_istore (L' := [vr 76, vr 1, vr 8, vi k, vi 0]) dX5_readAll_13 (by decide) rfl rfl ?_
    have lp_15 : ∀ (n_15 : Nat) (m1 : Mem) (j : Int) (a : Rs) (f : Nat), (a.1 = 0) → (SQ B m1 a.2.1 a.2.2.1 (l ++ a.2.2.2)) → (seqL (B 4) 214 (oneF B 0) f a = seqL (B 4) 214 (oneF B 0) 21 ((oneF B 0) i o)) → (0 ≤ j ∧ j + (f : Int) = 21) → ((o + 1 + j ≤ a.2.2.1 ∧ a.2.2.1 ≤ 20) ∧ (a.2.2.2.length : Int) + 1 ≤ 2 * (a.2.2.1 - o)) → f < n_15 → Go 0 11 mX5_readAll (fun r m' => QP B r m' l (seqF (B 4) 214 (oneF B 0) i o)) 15 [vr 76, vr 1, vr 8, vi k, vi j] [] m1 := by
      intro n_15
      induction n_15 with
      | zero => intro m1 j a f ha0 hs1 hsl hj hab hmu; exact absurd hmu (Nat.not_lt_zero _)
      | succ n_15 ih_15 =>
        intro m1 j a f ha0 hs1 hsl hj hab hmu
        obtain ⟨hab1, hab2⟩ := hab
        have hsu : seqL (B 4) 214 (oneF B 0) f a = if B 4 a.2.1 = 214 then (if ((oneF B 0) (a.2.1 + 1) a.2.2.1).1 ≠ 0 then ((oneF B 0) (a.2.1 + 1) a.2.2.1) else seqL (B 4) 214 (oneF B 0) (f - 1) (0, ((oneF B 0) (a.2.1 + 1) a.2.2.1).2.1, ((oneF B 0) (a.2.1 + 1) a.2.2.1).2.2.1, a.2.2.2 ++ ((oneF B 0) (a.2.1 + 1) a.2.2.1).2.2.2 ++ [(214, 0, 0)])) else a := by
          obtain ⟨g, rfl⟩ : ∃ g, f = g + 1 := ⟨f - 1, by omega⟩
          rfl
        refine go_iload dX5_readAll_15 rfl ?_
        refine go_bipush dX5_readAll_17 (by decide) ?_
        refine go_icmp_ge (tgt := 63) dX5_readAll_19 (by decide) ⟨by omega, by omega⟩ ⟨by omega, by omega⟩ (fun h_19 => ?_) (fun h_19 => ?_)
        · exfalso; omega
        · refine go_aload_n dX5_readAll_22 rfl ?_
          refine go_getf_i (ki := 2) dX5_readAll_23 fl_5_54 ob_1 rfl rfl (fun hf_23 => ?_)
          rw [show (m1 1 2 : Int) = (B 4 a.2.1) from hs1.kd] at hf_23 ⊢
          refine go_sipush dX5_readAll_26 (by decide) ?_
          refine go_icmp_ne (tgt := 63) dX5_readAll_29 (by decide) hf_23 ⟨by omega, by omega⟩ (fun h_29 => ?_) (fun h_29 => ?_)
          · refine go_iconst dX5_readAll_63 ?_
            refine go_ret (v := 1) rfl dX5_readAll_64 (okZ (by first | exact Or.inl rfl | exact Or.inr rfl | assumption | omega)) ?_
            rw [seqF_e (B 4) 214, if_neg (fun z => z x1), ← hsl, hsu, if_neg (by omega)]
            exact Or.inl ⟨rfl, ha0, hs1⟩
          · refine go_aload_n dX5_readAll_32 rfl ?_
            refine go_callV_v (as := []) (S := []) (b := 1) (ev_X7_next (m := m1)  (by rw [hs1.1.1, hs1.1.2.1]; have h := hs1.2.1; have := hk.lt h.2 (by omega); omega)) rfl dX5_readAll_33 cv_5_47 rfl rfl ob_1 rfl (by decide) (Nat.le_of_ble_eq_true rfl) (fun m_33 hr_33 => ?_)
            have sq1 := hs1.nx hk (by omega)
            subst hr_33
            refine go_aload_n dX5_readAll_36 rfl ?_
            refine go_aload_n dX5_readAll_37 rfl ?_
            refine go_aload_n dX5_readAll_38 rfl ?_
            refine go_iload_n dX5_readAll_39 rfl ?_
            refine go_callV_z (as := [vr 1, vr 8, vi k]) (S := []) (b := 76) (ev_X5_one0 (m := (nxt m1)) (k := k) (B := B) (i := (a.2.1 + 1)) (o := a.2.2.1) (l := (l ++ a.2.2.2)) sq1 (by first | assumption | omega | exact ⟨by omega, by omega⟩ | (constructor <;> omega)) (by first | assumption | omega | exact ⟨by omega, by omega⟩ | (constructor <;> omega)) (by omega) (by simp only [List.length_append]; omega) (by first | assumption | omega | exact ⟨by omega, by omega⟩ | (constructor <;> omega))) rfl dX5_readAll_40 cv_5_68 rfl rfl ob_76 rfl (by decide) (Nat.le_of_ble_eq_true rfl) (fun r_40 m_40 hr_40 ho_40 => ?_)
            refine go_if_ne (tgt := 48) dX5_readAll_43 (by decide) ⟨by omega, by omega⟩ (fun h_43 => ?_) (fun h_43 => ?_)
            · obtain ⟨-, x1, x2⟩ := hr_40.resolve_right (fun h => h_43 h.1)
              have hR2 := hPB (a.2.1 + 1) a.2.2.1 (by omega) (by omega) x1
              refine go_aload_n dX5_readAll_48 rfl ?_
              refine go_sipush dX5_readAll_49 (by decide) ?_
              refine go_iconst dX5_readAll_52 ?_
              refine go_iconst dX5_readAll_53 ?_
              refine go_callV_v (as := [vi 214, vi 0, vi 0]) (S := []) (b := 76) (ev_X5_add (m := m_40) (k := 214) (g := 0) (v := 0) (by first | assumption | omega | exact ⟨by omega, by omega⟩ | (constructor <;> omega)) (by first | assumption | omega | exact ⟨by omega, by omega⟩ | (constructor <;> omega)) (by first | assumption | omega | exact ⟨by omega, by omega⟩ | (constructor <;> omega)) (by rw [x2.2.2.2.1]; simp only [List.length_append]; omega)) rfl dX5_readAll_54 cv_5_64 rfl rfl ob_76 rfl (by decide) (Nat.le_of_ble_eq_true rfl) (fun m_54 hr_54 => ?_)
              have sq3 := x2.add (k := 214) (g := 0) (v := 0)
              subst hr_54
              refine go_iinc (L' := [vr 76, vr 1, vr 8, vi k, vi (j + 1)]) dX5_readAll_57 rfl (by decide) rfl rfl ?_
              refine go_goto (tgt := 15) dX5_readAll_60 (by decide) ?_
              exact ih_15 (addM m_40 214 0 0) (j + 1) (0, ((oneF B 0) (a.2.1 + 1) a.2.2.1).2.1, ((oneF B 0) (a.2.1 + 1) a.2.2.1).2.2.1, a.2.2.2 ++ ((oneF B 0) (a.2.1 + 1) a.2.2.1).2.2.2 ++ [(214, 0, 0)]) (f - 1) rfl (by show SQ B _ _ _ (l ++ (a.2.2.2 ++ _ ++ _)); rw [← List.append_assoc, ← List.append_assoc]; exact sq3) (by rw [← hsl, hsu, if_pos (by omega), if_neg (fun z => z x1)]) (by first | assumption | omega | rfl) (by
                    refine ⟨⟨?_, ?_⟩, ?_⟩
                    · show o + 1 + (j + 1) ≤ ((oneF B 0) (a.2.1 + 1) a.2.2.1).2.2.1; omega
                    · show ((oneF B 0) (a.2.1 + 1) a.2.2.1).2.2.1 ≤ 20; omega
                    · show ((a.2.2.2 ++ ((oneF B 0) (a.2.1 + 1) a.2.2.1).2.2.2 ++ [(214, 0, 0)] : List Cd).length : Int) + 1 ≤ 2 * (((oneF B 0) (a.2.1 + 1) a.2.2.1).2.2.1 - o)
                      simp only [List.length_append, List.length_singleton]
                      omega) (by omega)
            · refine go_iconst dX5_readAll_46 ?_
              refine go_ret (v := 0) rfl dX5_readAll_47 (okZ (by first | exact Or.inl rfl | exact Or.inr rfl | assumption | omega)) ?_
              obtain ⟨-, y1, y2⟩ := hr_40.resolve_left (fun h => by have := h.1; omega)
              rw [seqF_e (B 4) 214, if_neg (fun z => z x1), ← hsl, hsu, if_pos (by omega), if_pos y1]
              exact Or.inr ⟨rfl, y1, y2⟩
    exact lp_15 _ m_4 0 ((oneF B 0) i o) 21 x1 x2 rfl (by first | assumption | omega | rfl) ⟨by omega, hR1.2.2⟩ (Nat.lt_succ_self _)
  · refine go_iconst dX5_readAll_10 ?_
    refine go_ret (v := 0) rfl dX5_readAll_11 (okZ (by first | exact Or.inl rfl | exact Or.inr rfl | assumption | omega)) ?_
    obtain ⟨-, x1, x2⟩ := hr_4.resolve_left (fun h => by have := h.1; omega)
    rw [seqF_e (B 4) 214, if_pos x1]
    exact Or.inr ⟨rfl, x1, x2⟩
theorem dX5_readCond_0 : decode mX5_readCond.2.1 0 = .ok (.aload_n 0, 1) := by decide +kernel
theorem dX5_readCond_1 : decode mX5_readCond.2.1 1 = .ok (.aload_n 1, 1) := by decide +kernel
theorem dX5_readCond_2 : decode mX5_readCond.2.1 2 = .ok (.aload_n 2, 1) := by decide +kernel
theorem dX5_readCond_3 : decode mX5_readCond.2.1 3 = .ok (.iload_n 3, 1) := by decide +kernel
theorem dX5_readCond_4 : decode mX5_readCond.2.1 4 = .ok (.invokevirtual 61, 3) := by decide +kernel
theorem dX5_readCond_7 : decode mX5_readCond.2.1 7 = .ok (.ifCond .ne 5, 3) := by decide +kernel
theorem dX5_readCond_10 : decode mX5_readCond.2.1 10 = .ok (.iconst 0, 1) := by decide +kernel
theorem dX5_readCond_11 : decode mX5_readCond.2.1 11 = .ok (.ireturn, 1) := by decide +kernel
theorem dX5_readCond_12 : decode mX5_readCond.2.1 12 = .ok (.iconst 0, 1) := by decide +kernel
theorem dX5_readCond_13 : decode mX5_readCond.2.1 13 = .ok (.istore 4, 2) := by decide +kernel
theorem dX5_readCond_15 : decode mX5_readCond.2.1 15 = .ok (.iload 4, 2) := by decide +kernel
theorem dX5_readCond_17 : decode mX5_readCond.2.1 17 = .ok (.bipush 20, 2) := by decide +kernel
theorem dX5_readCond_19 : decode mX5_readCond.2.1 19 = .ok (.if_icmp .ge 44, 3) := by decide +kernel
theorem dX5_readCond_22 : decode mX5_readCond.2.1 22 = .ok (.aload_n 1, 1) := by decide +kernel
theorem dX5_readCond_23 : decode mX5_readCond.2.1 23 = .ok (.getfield 54, 3) := by decide +kernel
theorem dX5_readCond_26 : decode mX5_readCond.2.1 26 = .ok (.sipush 213, 3) := by decide +kernel
theorem dX5_readCond_29 : decode mX5_readCond.2.1 29 = .ok (.if_icmp .ne 34, 3) := by decide +kernel
theorem dX5_readCond_32 : decode mX5_readCond.2.1 32 = .ok (.aload_n 1, 1) := by decide +kernel
theorem dX5_readCond_33 : decode mX5_readCond.2.1 33 = .ok (.invokevirtual 47, 3) := by decide +kernel
theorem dX5_readCond_36 : decode mX5_readCond.2.1 36 = .ok (.aload_n 0, 1) := by decide +kernel
theorem dX5_readCond_37 : decode mX5_readCond.2.1 37 = .ok (.aload_n 1, 1) := by decide +kernel
theorem dX5_readCond_38 : decode mX5_readCond.2.1 38 = .ok (.aload_n 2, 1) := by decide +kernel
theorem dX5_readCond_39 : decode mX5_readCond.2.1 39 = .ok (.iload_n 3, 1) := by decide +kernel
theorem dX5_readCond_40 : decode mX5_readCond.2.1 40 = .ok (.invokevirtual 61, 3) := by decide +kernel
theorem dX5_readCond_43 : decode mX5_readCond.2.1 43 = .ok (.ifCond .ne 5, 3) := by decide +kernel
theorem dX5_readCond_46 : decode mX5_readCond.2.1 46 = .ok (.iconst 0, 1) := by decide +kernel
theorem dX5_readCond_47 : decode mX5_readCond.2.1 47 = .ok (.ireturn, 1) := by decide +kernel
theorem dX5_readCond_48 : decode mX5_readCond.2.1 48 = .ok (.aload_n 0, 1) := by decide +kernel
theorem dX5_readCond_49 : decode mX5_readCond.2.1 49 = .ok (.sipush 213, 3) := by decide +kernel
theorem dX5_readCond_52 : decode mX5_readCond.2.1 52 = .ok (.iconst 0, 1) := by decide +kernel
theorem dX5_readCond_53 : decode mX5_readCond.2.1 53 = .ok (.iconst 0, 1) := by decide +kernel
theorem dX5_readCond_54 : decode mX5_readCond.2.1 54 = .ok (.invokevirtual 64, 3) := by decide +kernel
theorem dX5_readCond_57 : decode mX5_readCond.2.1 57 = .ok (.iinc 4 1, 3) := by decide +kernel
theorem dX5_readCond_60 : decode mX5_readCond.2.1 60 = .ok (.goto (-45), 3) := by decide +kernel
theorem dX5_readCond_63 : decode mX5_readCond.2.1 63 = .ok (.iconst 1, 1) := by decide +kernel
theorem dX5_readCond_64 : decode mX5_readCond.2.1 64 = .ok (.ireturn, 1) := by decide +kernel
set_option maxRecDepth 4000 in
theorem ev_X5_con0 {m : Mem} {B : Mem} {i : Int} {o : Int} {l : List Cd} {k : Int} (hsq : SQ B m i o l) (hk : TkS B) (hdb : DnOk B 8) (ho : 0 ≤ o ∧ o ≤ 20) (hl : (l.length : Int) ≤ 2 * o) (hd : k = 9) : Ev 0 12 mX5_readCond [vr 76, vr 1, vr 8, vi k] m (fun r m' => QP B r m' l (seqF (B 4) 213 (seqF (B 4) 214 (oneF B 0)) i o)) := by
  refine Ev.of (L := [vr 76, vr 1, vr 8, vi k, un]) (by decide +kernel) rfl (Nat.le_of_ble_eq_true rfl) rfl (fun t ht => by cases ht; first | exact Or.inl rfl | exact Or.inr (Or.inl rfl) | exact Or.inr (Or.inr rfl)) (fun hcan => ?_)
  have hi := hsq.2.1
  have hkb := hk.1
  have h0 := hsq.2.2.1
  have h1 := hsq.2.2.2.1
  have e12 := hsq.1.1
  have e11 := hsq.1.2.1
  have hPB : PB (seqF (B 4) 214 (oneF B 0)) := (seqF_b (oneF_b B 0))
  refine go_aload_n dX5_readCond_0 rfl ?_
  refine go_aload_n dX5_readCond_1 rfl ?_
  refine go_aload_n dX5_readCond_2 rfl ?_
  refine go_iload_n dX5_readCond_3 rfl ?_
  refine go_callV_z (as := [vr 1, vr 8, vi k]) (S := []) (b := 76) (ev_X5_all0 (m := m) (k := k) (B := B) (i := i) (o := o) (l := l) hsq (by first | assumption | omega | exact ⟨by omega, by omega⟩ | (constructor <;> omega)) (by first | assumption | omega | exact ⟨by omega, by omega⟩ | (constructor <;> omega)) (by first | assumption | omega | exact ⟨by omega, by omega⟩ | (constructor <;> omega)) (by first | assumption | omega | exact ⟨by omega, by omega⟩ | (constructor <;> omega)) (by first | assumption | omega | exact ⟨by omega, by omega⟩ | (constructor <;> omega))) rfl dX5_readCond_4 cv_5_61 rfl rfl ob_76 rfl (by decide) (Nat.le_of_ble_eq_true rfl) (fun r_4 m_4 hr_4 ho_4 => ?_)
  refine go_if_ne (tgt := 12) dX5_readCond_7 (by decide) ⟨by omega, by omega⟩ (fun h_7 => ?_) (fun h_7 => ?_)
  · obtain ⟨-, x1, x2⟩ := hr_4.resolve_right (fun h => h_7 h.1)
    have hR1 := hPB i o (by omega) (by omega) x1
    refine go_iconst dX5_readCond_12 ?_
    refine go_istore (L' := [vr 76, vr 1, vr 8, vi k, vi 0]) dX5_readCond_13 (by decide) rfl rfl ?_
    have lp_15 : ∀ (n_15 : Nat) (m1 : Mem) (j : Int) (a : Rs) (f : Nat), (a.1 = 0) → (SQ B m1 a.2.1 a.2.2.1 (l ++ a.2.2.2)) → (seqL (B 4) 213 (seqF (B 4) 214 (oneF B 0)) f a = seqL (B 4) 213 (seqF (B 4) 214 (oneF B 0)) 21 ((seqF (B 4) 214 (oneF B 0)) i o)) → (0 ≤ j ∧ j + (f : Int) = 21) → ((o + 1 + j ≤ a.2.2.1 ∧ a.2.2.1 ≤ 20) ∧ (a.2.2.2.length : Int) + 1 ≤ 2 * (a.2.2.1 - o)) → f < n_15 → Go 0 12 mX5_readCond (fun r m' => QP B r m' l (seqF (B 4) 213 (seqF (B 4) 214 (oneF B 0)) i o)) 15 [vr 76, vr 1, vr 8, vi k, vi j] [] m1 := by
      intro n_15
      induction n_15 with
      | zero => intro m1 j a f ha0 hs1 hsl hj hab hmu; exact absurd hmu (Nat.not_lt_zero _)
      | succ n_15 ih_15 =>
        intro m1 j a f ha0 hs1 hsl hj hab hmu
        obtain ⟨hab1, hab2⟩ := hab
        have hsu : seqL (B 4) 213 (seqF (B 4) 214 (oneF B 0)) f a = if B 4 a.2.1 = 213 then (if ((seqF (B 4) 214 (oneF B 0)) (a.2.1 + 1) a.2.2.1).1 ≠ 0 then ((seqF (B 4) 214 (oneF B 0)) (a.2.1 + 1) a.2.2.1) else seqL (B 4) 213 (seqF (B 4) 214 (oneF B 0)) (f - 1) (0, ((seqF (B 4) 214 (oneF B 0)) (a.2.1 + 1) a.2.2.1).2.1, ((seqF (B 4) 214 (oneF B 0)) (a.2.1 + 1) a.2.2.1).2.2.1, a.2.2.2 ++ ((seqF (B 4) 214 (oneF B 0)) (a.2.1 + 1) a.2.2.1).2.2.2 ++ [(213, 0, 0)])) else a := by
          obtain ⟨g, rfl⟩ : ∃ g, f = g + 1 := ⟨f - 1, by omega⟩
          rfl
        refine go_iload dX5_readCond_15 rfl ?_
        refine go_bipush dX5_readCond_17 (by decide) ?_
        refine go_icmp_ge (tgt := 63) dX5_readCond_19 (by decide) ⟨by omega, by omega⟩ ⟨by omega, by omega⟩ (fun h_19 => ?_) (fun h_19 => ?_)
        · exfalso; omega
        · refine go_aload_n dX5_readCond_22 rfl ?_
          refine go_getf_i (ki := 2) dX5_readCond_23 fl_5_54 ob_1 rfl rfl (fun hf_23 => ?_)
          rw [show (m1 1 2 : Int) = (B 4 a.2.1) from hs1.kd] at hf_23 ⊢
          refine go_sipush dX5_readCond_26 (by decide) ?_
          refine go_icmp_ne (tgt := 63) dX5_readCond_29 (by decide) hf_23 ⟨by omega, by omega⟩ (fun h_29 => ?_) (fun h_29 => ?_)
          · refine go_iconst dX5_readCond_63 ?_
            refine go_ret (v := 1) rfl dX5_readCond_64 (okZ (by first | exact Or.inl rfl | exact Or.inr rfl | assumption | omega)) ?_
            rw [seqF_e (B 4) 213, if_neg (fun z => z x1), ← hsl, hsu, if_neg (by omega)]
            exact Or.inl ⟨rfl, ha0, hs1⟩
          · refine go_aload_n dX5_readCond_32 rfl ?_
            refine go_callV_v (as := []) (S := []) (b := 1) (ev_X7_next (m := m1)  (by rw [hs1.1.1, hs1.1.2.1]; have h := hs1.2.1; have := hk.lt h.2 (by omega); omega)) rfl dX5_readCond_33 cv_5_47 rfl rfl ob_1 rfl (by decide) (Nat.le_of_ble_eq_true rfl) (fun m_33 hr_33 => ?_)
            have sq1 := hs1.nx hk (by omega)
            subst hr_33
            refine go_aload_n dX5_readCond_36 rfl ?_
            refine go_aload_n dX5_readCond_37 rfl ?_
            refine go_aload_n dX5_readCond_38 rfl ?_
            refine go_iload_n dX5_readCond_39 rfl ?_
            refine go_callV_z (as := [vr 1, vr 8, vi k]) (S := []) (b := 76) (ev_X5_all0 (m := (nxt m1)) (k := k) (B := B) (i := (a.2.1 + 1)) (o := a.2.2.1) (l := (l ++ a.2.2.2)) sq1 (by first | assumption | omega | exact ⟨by omega, by omega⟩ | (constructor <;> omega)) (by first | assumption | omega | exact ⟨by omega, by omega⟩ | (constructor <;> omega)) (by omega) (by simp only [List.length_append]; omega) (by first | assumption | omega | exact ⟨by omega, by omega⟩ | (constructor <;> omega))) rfl dX5_readCond_40 cv_5_61 rfl rfl ob_76 rfl (by decide) (Nat.le_of_ble_eq_true rfl) (fun r_40 m_40 hr_40 ho_40 => ?_)
            refine go_if_ne (tgt := 48) dX5_readCond_43 (by decide) ⟨by omega, by omega⟩ (fun h_43 => ?_) (fun h_43 => ?_)
            · obtain ⟨-, x1, x2⟩ := hr_40.resolve_right (fun h => h_43 h.1)
              have hR2 := hPB (a.2.1 + 1) a.2.2.1 (by omega) (by omega) x1
              refine go_aload_n dX5_readCond_48 rfl ?_
              refine go_sipush dX5_readCond_49 (by decide) ?_
              refine go_iconst dX5_readCond_52 ?_
              refine go_iconst dX5_readCond_53 ?_
              refine go_callV_v (as := [vi 213, vi 0, vi 0]) (S := []) (b := 76) (ev_X5_add (m := m_40) (k := 213) (g := 0) (v := 0) (by first | assumption | omega | exact ⟨by omega, by omega⟩ | (constructor <;> omega)) (by first | assumption | omega | exact ⟨by omega, by omega⟩ | (constructor <;> omega)) (by first | assumption | omega | exact ⟨by omega, by omega⟩ | (constructor <;> omega)) (by rw [x2.2.2.2.1]; simp only [List.length_append]; omega)) rfl dX5_readCond_54 cv_5_64 rfl rfl ob_76 rfl (by decide) (Nat.le_of_ble_eq_true rfl) (fun m_54 hr_54 => ?_)
              have sq3 := x2.add (k := 213) (g := 0) (v := 0)
              subst hr_54
              refine go_iinc (L' := [vr 76, vr 1, vr 8, vi k, vi (j + 1)]) dX5_readCond_57 rfl (by decide) rfl rfl ?_
              refine go_goto (tgt := 15) dX5_readCond_60 (by decide) ?_
              exact ih_15 (addM m_40 213 0 0) (j + 1) (0, ((seqF (B 4) 214 (oneF B 0)) (a.2.1 + 1) a.2.2.1).2.1, ((seqF (B 4) 214 (oneF B 0)) (a.2.1 + 1) a.2.2.1).2.2.1, a.2.2.2 ++ ((seqF (B 4) 214 (oneF B 0)) (a.2.1 + 1) a.2.2.1).2.2.2 ++ [(213, 0, 0)]) (f - 1) rfl (by show SQ B _ _ _ (l ++ (a.2.2.2 ++ _ ++ _)); rw [← List.append_assoc, ← List.append_assoc]; exact sq3) (by rw [← hsl, hsu, if_pos (by omega), if_neg (fun z => z x1)]) (by first | assumption | omega | rfl) (by
                    refine ⟨⟨?_, ?_⟩, ?_⟩
                    · show o + 1 + (j + 1) ≤ ((seqF (B 4) 214 (oneF B 0)) (a.2.1 + 1) a.2.2.1).2.2.1; omega
                    · show ((seqF (B 4) 214 (oneF B 0)) (a.2.1 + 1) a.2.2.1).2.2.1 ≤ 20; omega
                    · show ((a.2.2.2 ++ ((seqF (B 4) 214 (oneF B 0)) (a.2.1 + 1) a.2.2.1).2.2.2 ++ [(213, 0, 0)] : List Cd).length : Int) + 1 ≤ 2 * (((seqF (B 4) 214 (oneF B 0)) (a.2.1 + 1) a.2.2.1).2.2.1 - o)
                      simp only [List.length_append, List.length_singleton]
                      omega) (by omega)
            · refine go_iconst dX5_readCond_46 ?_
              refine go_ret (v := 0) rfl dX5_readCond_47 (okZ (by first | exact Or.inl rfl | exact Or.inr rfl | assumption | omega)) ?_
              obtain ⟨-, y1, y2⟩ := hr_40.resolve_left (fun h => by have := h.1; omega)
              rw [seqF_e (B 4) 213, if_neg (fun z => z x1), ← hsl, hsu, if_pos (by omega), if_pos y1]
              exact Or.inr ⟨rfl, y1, y2⟩
    exact lp_15 _ m_4 0 ((seqF (B 4) 214 (oneF B 0)) i o) 21 x1 x2 rfl (by first | assumption | omega | rfl) ⟨by omega, hR1.2.2⟩ (Nat.lt_succ_self _)
  · refine go_iconst dX5_readCond_10 ?_
    refine go_ret (v := 0) rfl dX5_readCond_11 (okZ (by first | exact Or.inl rfl | exact Or.inr rfl | assumption | omega)) ?_
    obtain ⟨-, x1, x2⟩ := hr_4.resolve_left (fun h => by have := h.1; omega)
    rw [seqF_e (B 4) 213, if_pos x1]
    exact Or.inr ⟨rfl, x1, x2⟩
theorem dX5_readNot_0 : decode mX5_readNot.2.1 0 = .ok (.aload_n 1, 1) := by decide +kernel
theorem dX5_readNot_1 : decode mX5_readNot.2.1 1 = .ok (.invokevirtual 47, 3) := by decide +kernel
theorem dX5_readNot_4 : decode mX5_readNot.2.1 4 = .ok (.aload_n 0, 1) := by decide +kernel
theorem dX5_readNot_5 : decode mX5_readNot.2.1 5 = .ok (.aload_n 1, 1) := by decide +kernel
theorem dX5_readNot_6 : decode mX5_readNot.2.1 6 = .ok (.aload_n 2, 1) := by decide +kernel
theorem dX5_readNot_7 : decode mX5_readNot.2.1 7 = .ok (.iload_n 3, 1) := by decide +kernel
theorem dX5_readNot_8 : decode mX5_readNot.2.1 8 = .ok (.iconst 1, 1) := by decide +kernel
theorem dX5_readNot_9 : decode mX5_readNot.2.1 9 = .ok (.iadd, 1) := by decide +kernel
theorem dX5_readNot_10 : decode mX5_readNot.2.1 10 = .ok (.invokevirtual 68, 3) := by decide +kernel
theorem dX5_readNot_13 : decode mX5_readNot.2.1 13 = .ok (.ifCond .ne 5, 3) := by decide +kernel
theorem dX5_readNot_16 : decode mX5_readNot.2.1 16 = .ok (.iconst 0, 1) := by decide +kernel
theorem dX5_readNot_17 : decode mX5_readNot.2.1 17 = .ok (.ireturn, 1) := by decide +kernel
theorem dX5_readNot_18 : decode mX5_readNot.2.1 18 = .ok (.aload_n 0, 1) := by decide +kernel
theorem dX5_readNot_19 : decode mX5_readNot.2.1 19 = .ok (.sipush 215, 3) := by decide +kernel
theorem dX5_readNot_22 : decode mX5_readNot.2.1 22 = .ok (.iconst 0, 1) := by decide +kernel
theorem dX5_readNot_23 : decode mX5_readNot.2.1 23 = .ok (.iconst 0, 1) := by decide +kernel
theorem dX5_readNot_24 : decode mX5_readNot.2.1 24 = .ok (.invokevirtual 64, 3) := by decide +kernel
theorem dX5_readNot_27 : decode mX5_readNot.2.1 27 = .ok (.iconst 1, 1) := by decide +kernel
theorem dX5_readNot_28 : decode mX5_readNot.2.1 28 = .ok (.ireturn, 1) := by decide +kernel
set_option maxRecDepth 4000 in
theorem ev_X5_not1 {m : Mem} {B : Mem} {i : Int} {o : Int} {l : List Cd} {k : Int} (hsq : SQ B m i o l) (hk : TkS B) (hdb : DnOk B 8) (ho : 1 ≤ o ∧ o ≤ 20) (hl : (l.length : Int) + 2 ≤ 2 * o) (hd : k = 8) (hki : B 4 i = 215) : Ev 0 14 mX5_readNot [vr 76, vr 1, vr 8, vi k] m (fun r m' => QP B r m' l (notF (oneF B 0) i o)) := by
  refine Ev.of (L := [vr 76, vr 1, vr 8, vi k]) (by decide +kernel) rfl (Nat.le_of_ble_eq_true rfl) rfl (fun t ht => by cases ht; first | exact Or.inl rfl | exact Or.inr (Or.inl rfl) | exact Or.inr (Or.inr rfl)) (fun hcan => ?_)
  have hi := hsq.2.1
  have hkb := hk.1
  have h0 := hsq.2.2.1
  have h1 := hsq.2.2.2.1
  have e12 := hsq.1.1
  have e11 := hsq.1.2.1
  have hR : RB o ((oneF B 0) (i + 1) o) := oneF_b B 0 (i + 1) o (by omega) (by omega)
  refine go_aload_n dX5_readNot_0 rfl ?_
  refine go_callV_v (as := []) (S := []) (b := 1) (ev_X7_next (m := m)  (by rw [hsq.1.1, hsq.1.2.1]; have h := hk.lt hsq.2.1.2 (by omega); have h2 := hsq.2.1; omega)) rfl dX5_readNot_1 cv_5_47 rfl rfl ob_1 rfl (by decide) (Nat.le_of_ble_eq_true rfl) (fun m_1 hr_1 => ?_)
  have sq1 := hsq.nx hk (by omega)
  subst hr_1
  refine go_aload_n dX5_readNot_4 rfl ?_
  refine go_aload_n dX5_readNot_5 rfl ?_
  refine go_aload_n dX5_readNot_6 rfl ?_
  refine go_iload_n dX5_readNot_7 rfl ?_
  refine go_iconst dX5_readNot_8 ?_
  refine go_iadd dX5_readNot_9 ?_
  refine go_callV_z (as := [vr 1, vr 8, vi (k + 1)]) (S := []) (b := 76) (ev_X5_one0 (m := (nxt m)) (k := (k + 1)) (B := B) (i := (i + 1)) (o := o) (l := l) sq1 (by first | assumption | omega | exact ⟨by omega, by omega⟩ | (constructor <;> omega)) (by first | assumption | omega | exact ⟨by omega, by omega⟩ | (constructor <;> omega)) (by first | assumption | omega | exact ⟨by omega, by omega⟩ | (constructor <;> omega)) (by omega) (by first | assumption | omega | exact ⟨by omega, by omega⟩ | (constructor <;> omega))) rfl dX5_readNot_10 cv_5_68 rfl rfl ob_76 rfl (by decide) (Nat.le_of_ble_eq_true rfl) (fun r_10 m_10 hr_10 ho_10 => ?_)
  refine go_if_ne (tgt := 18) dX5_readNot_13 (by decide) ⟨by omega, by omega⟩ (fun h_13 => ?_) (fun h_13 => ?_)
  · obtain ⟨-, x1, x2⟩ := hr_10.resolve_right (fun h => h_13 h.1)
    refine go_aload_n dX5_readNot_18 rfl ?_
    refine go_sipush dX5_readNot_19 (by decide) ?_
    refine go_iconst dX5_readNot_22 ?_
    refine go_iconst dX5_readNot_23 ?_
    refine go_callV_v (as := [vi 215, vi 0, vi 0]) (S := []) (b := 76) (ev_X5_add (m := m_10) (k := 215) (g := 0) (v := 0) (by first | assumption | omega | exact ⟨by omega, by omega⟩ | (constructor <;> omega)) (by first | assumption | omega | exact ⟨by omega, by omega⟩ | (constructor <;> omega)) (by first | assumption | omega | exact ⟨by omega, by omega⟩ | (constructor <;> omega)) (by rw [x2.2.2.2.1]; simp only [List.length_append]; have h := hR x1; omega)) rfl dX5_readNot_24 cv_5_64 rfl rfl ob_76 rfl (by decide) (Nat.le_of_ble_eq_true rfl) (fun m_24 hr_24 => ?_)
    have sq3 := x2.add (k := 215) (g := 0) (v := 0)
    subst hr_24
    refine go_iconst dX5_readNot_27 ?_
    refine go_ret (v := 1) rfl dX5_readNot_28 (okZ (by first | exact Or.inl rfl | exact Or.inr rfl | assumption | omega)) ?_
    rw [List.append_assoc] at sq3
    exact Or.inl ⟨rfl, x1, sq3⟩
  · refine go_iconst dX5_readNot_16 ?_
    refine go_ret (v := 0) rfl dX5_readNot_17 (okZ (by first | exact Or.inl rfl | exact Or.inr rfl | assumption | omega)) ?_
    obtain ⟨-, x1, x2⟩ := hr_10.resolve_left (fun h => by have := h.1; omega)
    exact Or.inr ⟨rfl, x1, x2⟩
theorem dX5_readBracket_0 : decode mX5_readBracket.2.1 0 = .ok (.aload_n 1, 1) := by decide +kernel
theorem dX5_readBracket_1 : decode mX5_readBracket.2.1 1 = .ok (.invokevirtual 47, 3) := by decide +kernel
theorem dX5_readBracket_4 : decode mX5_readBracket.2.1 4 = .ok (.aload_n 0, 1) := by decide +kernel
theorem dX5_readBracket_5 : decode mX5_readBracket.2.1 5 = .ok (.aload_n 1, 1) := by decide +kernel
theorem dX5_readBracket_6 : decode mX5_readBracket.2.1 6 = .ok (.aload_n 2, 1) := by decide +kernel
theorem dX5_readBracket_7 : decode mX5_readBracket.2.1 7 = .ok (.iload_n 3, 1) := by decide +kernel
theorem dX5_readBracket_8 : decode mX5_readBracket.2.1 8 = .ok (.iconst 1, 1) := by decide +kernel
theorem dX5_readBracket_9 : decode mX5_readBracket.2.1 9 = .ok (.iadd, 1) := by decide +kernel
theorem dX5_readBracket_10 : decode mX5_readBracket.2.1 10 = .ok (.invokevirtual 50, 3) := by decide +kernel
theorem dX5_readBracket_13 : decode mX5_readBracket.2.1 13 = .ok (.ifCond .ne 5, 3) := by decide +kernel
theorem dX5_readBracket_16 : decode mX5_readBracket.2.1 16 = .ok (.iconst 0, 1) := by decide +kernel
theorem dX5_readBracket_17 : decode mX5_readBracket.2.1 17 = .ok (.ireturn, 1) := by decide +kernel
theorem dX5_readBracket_18 : decode mX5_readBracket.2.1 18 = .ok (.aload_n 1, 1) := by decide +kernel
theorem dX5_readBracket_19 : decode mX5_readBracket.2.1 19 = .ok (.getfield 54, 3) := by decide +kernel
theorem dX5_readBracket_22 : decode mX5_readBracket.2.1 22 = .ok (.bipush 41, 2) := by decide +kernel
theorem dX5_readBracket_24 : decode mX5_readBracket.2.1 24 = .ok (.if_icmp .eq 9, 3) := by decide +kernel
theorem dX5_readBracket_27 : decode mX5_readBracket.2.1 27 = .ok (.aload_n 1, 1) := by decide +kernel
theorem dX5_readBracket_28 : decode mX5_readBracket.2.1 28 = .ok (.iconst 1, 1) := by decide +kernel
theorem dX5_readBracket_29 : decode mX5_readBracket.2.1 29 = .ok (.invokevirtual 57, 3) := by decide +kernel
theorem dX5_readBracket_32 : decode mX5_readBracket.2.1 32 = .ok (.ireturn, 1) := by decide +kernel
theorem dX5_readBracket_33 : decode mX5_readBracket.2.1 33 = .ok (.aload_n 1, 1) := by decide +kernel
theorem dX5_readBracket_34 : decode mX5_readBracket.2.1 34 = .ok (.invokevirtual 47, 3) := by decide +kernel
theorem dX5_readBracket_37 : decode mX5_readBracket.2.1 37 = .ok (.iconst 1, 1) := by decide +kernel
theorem dX5_readBracket_38 : decode mX5_readBracket.2.1 38 = .ok (.ireturn, 1) := by decide +kernel
set_option maxRecDepth 4000 in
theorem ev_X5_brk1 {m : Mem} {B : Mem} {i : Int} {o : Int} {l : List Cd} {k : Int} (hsq : SQ B m i o l) (hk : TkS B) (hdb : DnOk B 8) (ho : 1 ≤ o ∧ o ≤ 20) (hl : (l.length : Int) + 2 ≤ 2 * o) (hd : k = 8) (hki : B 4 i = 40) : Ev 0 14 mX5_readBracket [vr 76, vr 1, vr 8, vi k] m (fun r m' => QP B r m' l (brkF (B 4) (seqF (B 4) 213 (seqF (B 4) 214 (oneF B 0))) i o)) := by
  refine Ev.of (L := [vr 76, vr 1, vr 8, vi k]) (by decide +kernel) rfl (Nat.le_of_ble_eq_true rfl) rfl (fun t ht => by cases ht; first | exact Or.inl rfl | exact Or.inr (Or.inl rfl) | exact Or.inr (Or.inr rfl)) (fun hcan => ?_)
  have hi := hsq.2.1
  have hkb := hk.1
  have h0 := hsq.2.2.1
  have h1 := hsq.2.2.2.1
  have e12 := hsq.1.1
  have e11 := hsq.1.2.1
  refine go_aload_n dX5_readBracket_0 rfl ?_
  refine go_callV_v (as := []) (S := []) (b := 1) (ev_X7_next (m := m)  (by rw [hsq.1.1, hsq.1.2.1]; have h := hk.lt hsq.2.1.2 (by omega); have h2 := hsq.2.1; omega)) rfl dX5_readBracket_1 cv_5_47 rfl rfl ob_1 rfl (by decide) (Nat.le_of_ble_eq_true rfl) (fun m_1 hr_1 => ?_)
  have sq1 := hsq.nx hk (by omega)
  subst hr_1
  refine go_aload_n dX5_readBracket_4 rfl ?_
  refine go_aload_n dX5_readBracket_5 rfl ?_
  refine go_aload_n dX5_readBracket_6 rfl ?_
  refine go_iload_n dX5_readBracket_7 rfl ?_
  refine go_iconst dX5_readBracket_8 ?_
  refine go_iadd dX5_readBracket_9 ?_
  refine go_callV_z (as := [vr 1, vr 8, vi (k + 1)]) (S := []) (b := 76) (ev_X5_con0 (m := (nxt m)) (k := (k + 1)) (B := B) (i := (i + 1)) (o := o) (l := l) sq1 (by first | assumption | omega | exact ⟨by omega, by omega⟩ | (constructor <;> omega)) (by first | assumption | omega | exact ⟨by omega, by omega⟩ | (constructor <;> omega)) (by first | assumption | omega | exact ⟨by omega, by omega⟩ | (constructor <;> omega)) (by omega) (by first | assumption | omega | exact ⟨by omega, by omega⟩ | (constructor <;> omega))) rfl dX5_readBracket_10 cv_5_50 rfl rfl ob_76 rfl (by decide) (Nat.le_of_ble_eq_true rfl) (fun r_10 m_10 hr_10 ho_10 => ?_)
  obtain ⟨R, hRe⟩ : ∃ z, z = seqF (B 4) 213 (seqF (B 4) 214 (oneF B 0)) (i + 1) o := ⟨_, rfl⟩
  rw [← hRe] at hr_10
  refine go_if_ne (tgt := 18) dX5_readBracket_13 (by decide) ⟨by omega, by omega⟩ (fun h_13 => ?_) (fun h_13 => ?_)
  · obtain ⟨-, x1, x2⟩ := hr_10.resolve_right (fun h => h_13 h.1)
    refine go_aload_n dX5_readBracket_18 rfl ?_
    refine go_getf_i (ki := 2) dX5_readBracket_19 fl_5_54 ob_1 rfl rfl (fun hf_19 => ?_)
    rw [show (m_10 1 2 : Int) = (B 4 R.2.1) from x2.kd] at hf_19 ⊢
    refine go_bipush dX5_readBracket_22 (by decide) ?_
    refine go_icmp_eq (tgt := 33) dX5_readBracket_24 (by decide) ⟨by omega, by omega⟩ ⟨by omega, by omega⟩ (fun h_24 => ?_) (fun h_24 => ?_)
    · refine go_aload_n dX5_readBracket_33 rfl ?_
      refine go_callV_v (as := []) (S := []) (b := 1) (ev_X7_next (m := m_10)  (by rw [x2.1.1, x2.1.2.1]; have h := x2.2.1; have := hk.lt h.2 (by omega); omega)) rfl dX5_readBracket_34 cv_5_47 rfl rfl ob_1 rfl (by decide) (Nat.le_of_ble_eq_true rfl) (fun m_34 hr_34 => ?_)
      have sq3 := x2.nx hk (by omega)
      subst hr_34
      refine go_iconst dX5_readBracket_37 ?_
      refine go_ret (v := 1) rfl dX5_readBracket_38 (okZ (by first | exact Or.inl rfl | exact Or.inr rfl | assumption | omega)) ?_
      unfold brkF
      rw [← hRe, if_neg (fun z => z x1), if_pos (by omega)]
      exact Or.inl ⟨rfl, rfl, sq3⟩
    · refine go_aload_n dX5_readBracket_27 rfl ?_
      refine go_iconst dX5_readBracket_28 ?_
      refine go_callV_z (as := [vi 1]) (S := []) (b := 1) (ev_X7_refuse (m := m_10) (k := 1) (by first | assumption | omega | exact ⟨by omega, by omega⟩ | (constructor <;> omega))) rfl dX5_readBracket_29 cv_5_57 rfl rfl ob_1 rfl (by decide) (Nat.le_of_ble_eq_true rfl) (fun r_29 m_29 hr_29 ho_29 => ?_)
      refine go_ret (v := r_29) rfl dX5_readBracket_32 (okZ (by first | exact Or.inl rfl | exact Or.inr rfl | assumption | omega)) ?_
      unfold brkF
      rw [← hRe, if_neg (fun z => z x1), if_neg (by omega), hr_29.2]
      exact Or.inr ⟨by omega, (show (1 : Int) ≠ 0 by decide), x2.ref⟩
  · refine go_iconst dX5_readBracket_16 ?_
    refine go_ret (v := 0) rfl dX5_readBracket_17 (okZ (by first | exact Or.inl rfl | exact Or.inr rfl | assumption | omega)) ?_
    obtain ⟨-, x1, x2⟩ := hr_10.resolve_left (fun h => by have := h.1; omega)
    unfold brkF
    rw [← hRe, if_pos x1]
    exact Or.inr ⟨rfl, x1, x2⟩
theorem dX5_readOne_54 : decode mX5_readOne.2.1 54 = .ok (.aload_n 0, 1) := by decide +kernel
theorem dX5_readOne_55 : decode mX5_readOne.2.1 55 = .ok (.dup, 1) := by decide +kernel
theorem dX5_readOne_56 : decode mX5_readOne.2.1 56 = .ok (.getfield 9, 3) := by decide +kernel
theorem dX5_readOne_59 : decode mX5_readOne.2.1 59 = .ok (.iconst 1, 1) := by decide +kernel
theorem dX5_readOne_60 : decode mX5_readOne.2.1 60 = .ok (.iadd, 1) := by decide +kernel
theorem dX5_readOne_61 : decode mX5_readOne.2.1 61 = .ok (.putfield 9, 3) := by decide +kernel
theorem dX5_readOne_64 : decode mX5_readOne.2.1 64 = .ok (.iload 4, 2) := by decide +kernel
theorem dX5_readOne_66 : decode mX5_readOne.2.1 66 = .ok (.lookupswitch 107 #[(40, 82), (215, 74), (219, 90), (220, 90), (221, 99), (222, 99), (223, 99), (224, 99)], 74) := by decide +kernel
theorem dX5_readOne_140 : decode mX5_readOne.2.1 140 = .ok (.aload_n 0, 1) := by decide +kernel
theorem dX5_readOne_141 : decode mX5_readOne.2.1 141 = .ok (.aload_n 1, 1) := by decide +kernel
theorem dX5_readOne_142 : decode mX5_readOne.2.1 142 = .ok (.aload_n 2, 1) := by decide +kernel
theorem dX5_readOne_143 : decode mX5_readOne.2.1 143 = .ok (.iload_n 3, 1) := by decide +kernel
theorem dX5_readOne_144 : decode mX5_readOne.2.1 144 = .ok (.invokevirtual 75, 3) := by decide +kernel
theorem dX5_readOne_147 : decode mX5_readOne.2.1 147 = .ok (.ireturn, 1) := by decide +kernel
theorem dX5_readOne_148 : decode mX5_readOne.2.1 148 = .ok (.aload_n 0, 1) := by decide +kernel
theorem dX5_readOne_149 : decode mX5_readOne.2.1 149 = .ok (.aload_n 1, 1) := by decide +kernel
theorem dX5_readOne_150 : decode mX5_readOne.2.1 150 = .ok (.aload_n 2, 1) := by decide +kernel
theorem dX5_readOne_151 : decode mX5_readOne.2.1 151 = .ok (.iload_n 3, 1) := by decide +kernel
theorem dX5_readOne_152 : decode mX5_readOne.2.1 152 = .ok (.invokevirtual 78, 3) := by decide +kernel
theorem dX5_readOne_155 : decode mX5_readOne.2.1 155 = .ok (.ireturn, 1) := by decide +kernel
theorem dX5_readOne_156 : decode mX5_readOne.2.1 156 = .ok (.aload_n 0, 1) := by decide +kernel
theorem dX5_readOne_157 : decode mX5_readOne.2.1 157 = .ok (.aload_n 1, 1) := by decide +kernel
theorem dX5_readOne_158 : decode mX5_readOne.2.1 158 = .ok (.aload_n 2, 1) := by decide +kernel
theorem dX5_readOne_159 : decode mX5_readOne.2.1 159 = .ok (.iload 4, 2) := by decide +kernel
theorem dX5_readOne_161 : decode mX5_readOne.2.1 161 = .ok (.invokevirtual 81, 3) := by decide +kernel
theorem dX5_readOne_164 : decode mX5_readOne.2.1 164 = .ok (.ireturn, 1) := by decide +kernel
theorem dX5_readOne_165 : decode mX5_readOne.2.1 165 = .ok (.aload_n 0, 1) := by decide +kernel
theorem dX5_readOne_166 : decode mX5_readOne.2.1 166 = .ok (.aload_n 1, 1) := by decide +kernel
theorem dX5_readOne_167 : decode mX5_readOne.2.1 167 = .ok (.iload 4, 2) := by decide +kernel
theorem dX5_readOne_169 : decode mX5_readOne.2.1 169 = .ok (.invokevirtual 84, 3) := by decide +kernel
theorem dX5_readOne_172 : decode mX5_readOne.2.1 172 = .ok (.ireturn, 1) := by decide +kernel
theorem dX5_readOne_173 : decode mX5_readOne.2.1 173 = .ok (.aload_n 0, 1) := by decide +kernel
theorem dX5_readOne_174 : decode mX5_readOne.2.1 174 = .ok (.iload 4, 2) := by decide +kernel
theorem dX5_readOne_176 : decode mX5_readOne.2.1 176 = .ok (.iconst 0, 1) := by decide +kernel
theorem dX5_readOne_177 : decode mX5_readOne.2.1 177 = .ok (.iconst 0, 1) := by decide +kernel
theorem dX5_readOne_178 : decode mX5_readOne.2.1 178 = .ok (.invokevirtual 64, 3) := by decide +kernel
theorem dX5_readOne_181 : decode mX5_readOne.2.1 181 = .ok (.aload_n 1, 1) := by decide +kernel
theorem dX5_readOne_182 : decode mX5_readOne.2.1 182 = .ok (.invokevirtual 47, 3) := by decide +kernel
theorem dX5_readOne_185 : decode mX5_readOne.2.1 185 = .ok (.iconst 1, 1) := by decide +kernel
theorem dX5_readOne_186 : decode mX5_readOne.2.1 186 = .ok (.ireturn, 1) := by decide +kernel
set_option maxRecDepth 4000 in
theorem ev_X5_one1 {m : Mem} {B : Mem} {i : Int} {o : Int} {l : List Cd} {k : Int} (hsq : SQ B m i o l) (hk : TkS B) (hdb : DnOk B 8) (ho : 0 ≤ o ∧ o ≤ 20) (hl : (l.length : Int) ≤ 2 * o) (hd : k = 8) : Ev 0 15 mX5_readOne [vr 76, vr 1, vr 8, vi k] m (fun r m' => QP B r m' l (oneF B 1 i o)) := by
  refine Ev.of (L := [vr 76, vr 1, vr 8, vi k, un]) (by decide +kernel) rfl (Nat.le_of_ble_eq_true rfl) rfl (fun t ht => by cases ht; first | exact Or.inl rfl | exact Or.inr (Or.inl rfl) | exact Or.inr (Or.inr rfl)) (fun hcan => ?_)
  have hi := hsq.2.1
  have hkb := hk.1
  have h0 := hsq.2.2.1
  have h1 := hsq.2.2.2.1
  have e12 := hsq.1.1
  have e11 := hsq.1.2.1
  refine go_aload_n dX5_readOne_0 rfl ?_
  refine go_getf_i (ki := 2) dX5_readOne_1 fl_5_54 ob_1 rfl rfl (fun hf_1 => ?_)
  rw [show (m 1 2 : Int) = (B 4 i) from hsq.kd] at hf_1 ⊢
  refine go_istore (L' := [vr 76, vr 1, vr 8, vi k, vi (B 4 i)]) dX5_readOne_4 (by decide) rfl rfl ?_
  refine go_iload dX5_readOne_6 rfl ?_
  refine go_bipush dX5_readOne_8 (by decide) ?_
  refine go_icmp_eq (tgt := 33) dX5_readOne_10 (by decide) ⟨by omega, by omega⟩ ⟨by omega, by omega⟩ (fun h_10 => ?_) (fun h_10 => ?_)
  · refine go_aload_n dX5_readOne_33 rfl ?_
    refine go_getf_i (ki := 0) dX5_readOne_34 fl_5_9 ob_76 rfl rfl (fun hf_34 => ?_)
    rw [show (m 76 0 : Int) = o from h0] at hf_34 ⊢
    refine go_bipush dX5_readOne_37 (by decide) ?_
    refine go_icmp_ge (tgt := 48) dX5_readOne_39 (by decide) ⟨by omega, by omega⟩ ⟨by omega, by omega⟩ (fun h_39 => ?_) (fun h_39 => ?_)
    · refine go_aload_n dX5_readOne_48 rfl ?_
      refine go_iconst dX5_readOne_49 ?_
      refine go_callV_z (as := [vi 4]) (S := []) (b := 1) (ev_X7_refuse (m := m) (k := 4) (by first | assumption | omega | exact ⟨by omega, by omega⟩ | (constructor <;> omega))) rfl dX5_readOne_50 cv_5_57 rfl rfl ob_1 rfl (by decide) (Nat.le_of_ble_eq_true rfl) (fun r_50 m_50 hr_50 ho_50 => ?_)
      refine go_ret (v := r_50) rfl dX5_readOne_53 (okZ (by first | exact Or.inl rfl | exact Or.inr rfl | assumption | omega)) ?_
      rw [hr_50.2, show oneF B 1 i o = (4, i, o, []) by unfold oneF; rw [if_neg (by omega), if_pos (by omega)]]
      exact Or.inr ⟨by omega, (show (4 : Int) ≠ 0 by decide), hsq.ref⟩
    · refine go_iload_n dX5_readOne_42 rfl ?_
      refine go_bipush dX5_readOne_43 (by decide) ?_
      refine go_icmp_le (tgt := 54) dX5_readOne_45 (by decide) ⟨by omega, by omega⟩ ⟨by omega, by omega⟩ (fun h_45 => ?_) (fun h_45 => ?_)
      · refine go_aload_n dX5_readOne_54 rfl ?_
        refine go_dup_r dX5_readOne_55 ?_
        refine go_getf_i (ki := 0) dX5_readOne_56 fl_5_9 ob_76 rfl rfl (fun hf_56 => ?_)
        rw [show (m 76 0 : Int) = o from h0] at hf_56 ⊢
        refine go_iconst dX5_readOne_59 ?_
        refine go_iadd dX5_readOne_60 ?_
        refine go_putf_i (ki := 0) dX5_readOne_61 fw_5_9 ob_76 rfl rfl ⟨by omega, by omega⟩ ?_
        have sq1 := hsq.one (x := o + 1)
        refine go_iload dX5_readOne_64 rfl ?_
        by_cases hk_66_0 : (B 4 i) = 40
        · refine go_lswitch (off := 82) (tgt := 148) dX5_readOne_66 ⟨by omega, by omega⟩ (by decide) (by rw [hk_66_0] <;> rfl) (by decide) ?_
          refine go_aload_n dX5_readOne_148 rfl ?_
          refine go_aload_n dX5_readOne_149 rfl ?_
          refine go_aload_n dX5_readOne_150 rfl ?_
          refine go_iload_n dX5_readOne_151 rfl ?_
          refine go_callV_z (as := [vr 1, vr 8, vi k]) (S := []) (b := 76) (ev_X5_brk1 (m := (wr m 76 0 (o + 1))) (k := k) (B := B) (i := i) (o := (o + 1)) (l := l) sq1 (by first | assumption | omega | exact ⟨by omega, by omega⟩ | (constructor <;> omega)) (by first | assumption | omega | exact ⟨by omega, by omega⟩ | (constructor <;> omega)) (by omega) (by omega) (by first | assumption | omega | exact ⟨by omega, by omega⟩ | (constructor <;> omega)) (by first | assumption | omega | exact ⟨by omega, by omega⟩ | (constructor <;> omega))) rfl dX5_readOne_152 cv_5_78 rfl rfl ob_76 rfl (by decide) (Nat.le_of_ble_eq_true rfl) (fun r_152 m_152 hr_152 ho_152 => ?_)
          refine go_ret (v := r_152) rfl dX5_readOne_155 (okZ (by first | exact Or.inl rfl | exact Or.inr rfl | assumption | omega)) ?_
          rw [show oneF B 1 i o = brkF (B 4) (seqF (B 4) 213 (seqF (B 4) 214 (oneF B 0))) i (o + 1) by unfold oneF; rw [if_neg (by omega), if_neg (by omega), if_neg (by omega), if_pos (by omega)]]
          exact hr_152
        · skip
          by_cases hk_66_1 : (B 4 i) = 215
          · refine go_lswitch (off := 74) (tgt := 140) dX5_readOne_66 ⟨by omega, by omega⟩ (by decide) (by rw [hk_66_1] <;> rfl) (by decide) ?_
            refine go_aload_n dX5_readOne_140 rfl ?_
            refine go_aload_n dX5_readOne_141 rfl ?_
            refine go_aload_n dX5_readOne_142 rfl ?_
            refine go_iload_n dX5_readOne_143 rfl ?_
            refine go_callV_z (as := [vr 1, vr 8, vi k]) (S := []) (b := 76) (ev_X5_not1 (m := (wr m 76 0 (o + 1))) (k := k) (B := B) (i := i) (o := (o + 1)) (l := l) sq1 (by first | assumption | omega | exact ⟨by omega, by omega⟩ | (constructor <;> omega)) (by first | assumption | omega | exact ⟨by omega, by omega⟩ | (constructor <;> omega)) (by omega) (by omega) (by first | assumption | omega | exact ⟨by omega, by omega⟩ | (constructor <;> omega)) (by first | assumption | omega | exact ⟨by omega, by omega⟩ | (constructor <;> omega))) rfl dX5_readOne_144 cv_5_75 rfl rfl ob_76 rfl (by decide) (Nat.le_of_ble_eq_true rfl) (fun r_144 m_144 hr_144 ho_144 => ?_)
            refine go_ret (v := r_144) rfl dX5_readOne_147 (okZ (by first | exact Or.inl rfl | exact Or.inr rfl | assumption | omega)) ?_
            rw [show oneF B 1 i o = notF (oneF B 0) i (o + 1) by unfold oneF; rw [if_neg (by omega), if_neg (by omega), if_pos (by omega)]]
            exact hr_144
          · skip
            by_cases hk_66_2 : (B 4 i) = 219
            · refine go_lswitch (off := 90) (tgt := 156) dX5_readOne_66 ⟨by omega, by omega⟩ (by decide) (by rw [hk_66_2] <;> rfl) (by decide) ?_
              refine go_aload_n dX5_readOne_156 rfl ?_
              refine go_aload_n dX5_readOne_157 rfl ?_
              refine go_aload_n dX5_readOne_158 rfl ?_
              refine go_iload dX5_readOne_159 rfl ?_
              refine go_callV_z (as := [vr 1, vr 8, vi (B 4 i)]) (S := []) (b := 76) (ev_X5_readNamed (m := (wr m 76 0 (o + 1))) (k := (B 4 i)) (B := B) (i := i) (o := (o + 1)) (l := l) sq1 (by first | assumption | omega | exact ⟨by omega, by omega⟩ | (constructor <;> omega)) (by first | assumption | omega | exact ⟨by omega, by omega⟩ | (constructor <;> omega)) (by omega) (by omega) (by first | assumption | omega | exact ⟨by omega, by omega⟩ | (constructor <;> omega)) (by first | assumption | omega | exact ⟨by omega, by omega⟩ | (constructor <;> omega))) rfl dX5_readOne_161 cv_5_81 rfl rfl ob_76 rfl (by decide) (Nat.le_of_ble_eq_true rfl) (fun r_161 m_161 hr_161 ho_161 => ?_)
              refine go_ret (v := r_161) rfl dX5_readOne_164 (okZ (by first | exact Or.inl rfl | exact Or.inr rfl | assumption | omega)) ?_
              rw [show oneF B 1 i o = namF B i (o + 1) by unfold oneF; rw [if_neg (by omega), if_neg (by omega), if_neg (by omega), if_neg (by omega), if_pos (by omega)]]
              exact hr_161
            · skip
              by_cases hk_66_3 : (B 4 i) = 220
              · refine go_lswitch (off := 90) (tgt := 156) dX5_readOne_66 ⟨by omega, by omega⟩ (by decide) (by rw [hk_66_3] <;> rfl) (by decide) ?_
                refine go_aload_n dX5_readOne_156 rfl ?_
                refine go_aload_n dX5_readOne_157 rfl ?_
                refine go_aload_n dX5_readOne_158 rfl ?_
                refine go_iload dX5_readOne_159 rfl ?_
                refine go_callV_z (as := [vr 1, vr 8, vi (B 4 i)]) (S := []) (b := 76) (ev_X5_readNamed (m := (wr m 76 0 (o + 1))) (k := (B 4 i)) (B := B) (i := i) (o := (o + 1)) (l := l) sq1 (by first | assumption | omega | exact ⟨by omega, by omega⟩ | (constructor <;> omega)) (by first | assumption | omega | exact ⟨by omega, by omega⟩ | (constructor <;> omega)) (by omega) (by omega) (by first | assumption | omega | exact ⟨by omega, by omega⟩ | (constructor <;> omega)) (by first | assumption | omega | exact ⟨by omega, by omega⟩ | (constructor <;> omega))) rfl dX5_readOne_161 cv_5_81 rfl rfl ob_76 rfl (by decide) (Nat.le_of_ble_eq_true rfl) (fun r_161 m_161 hr_161 ho_161 => ?_)
                refine go_ret (v := r_161) rfl dX5_readOne_164 (okZ (by first | exact Or.inl rfl | exact Or.inr rfl | assumption | omega)) ?_
                rw [show oneF B 1 i o = namF B i (o + 1) by unfold oneF; rw [if_neg (by omega), if_neg (by omega), if_neg (by omega), if_neg (by omega), if_pos (by omega)]]
                exact hr_161
              · skip
                by_cases hk_66_4 : (B 4 i) = 221
                · refine go_lswitch (off := 99) (tgt := 165) dX5_readOne_66 ⟨by omega, by omega⟩ (by decide) (by rw [hk_66_4] <;> rfl) (by decide) ?_
                  refine go_aload_n dX5_readOne_165 rfl ?_
                  refine go_aload_n dX5_readOne_166 rfl ?_
                  refine go_iload dX5_readOne_167 rfl ?_
                  refine go_callV_z (as := [vr 1, vi (B 4 i)]) (S := []) (b := 76) (ev_X5_readCompared (m := (wr m 76 0 (o + 1))) (k := (B 4 i)) (B := B) (i := i) (o := (o + 1)) (l := l) sq1 (by first | assumption | omega | exact ⟨by omega, by omega⟩ | (constructor <;> omega)) (by first | assumption | omega | exact ⟨by omega, by omega⟩ | (constructor <;> omega)) (by omega) (by omega) (by first | assumption | omega | exact ⟨by omega, by omega⟩ | (constructor <;> omega)) (by first | assumption | omega | exact ⟨by omega, by omega⟩ | (constructor <;> omega))) rfl dX5_readOne_169 cv_5_84 rfl rfl ob_76 rfl (by decide) (Nat.le_of_ble_eq_true rfl) (fun r_169 m_169 hr_169 ho_169 => ?_)
                  refine go_ret (v := r_169) rfl dX5_readOne_172 (okZ (by first | exact Or.inl rfl | exact Or.inr rfl | assumption | omega)) ?_
                  rw [show oneF B 1 i o = cmpF B i (o + 1) by unfold oneF; rw [if_neg (by omega), if_neg (by omega), if_neg (by omega), if_neg (by omega), if_neg (by omega), if_pos (by omega)]]
                  exact hr_169
                · skip
                  by_cases hk_66_5 : (B 4 i) = 222
                  · refine go_lswitch (off := 99) (tgt := 165) dX5_readOne_66 ⟨by omega, by omega⟩ (by decide) (by rw [hk_66_5] <;> rfl) (by decide) ?_
                    refine go_aload_n dX5_readOne_165 rfl ?_
                    refine go_aload_n dX5_readOne_166 rfl ?_
                    refine go_iload dX5_readOne_167 rfl ?_
                    refine go_callV_z (as := [vr 1, vi (B 4 i)]) (S := []) (b := 76) (ev_X5_readCompared (m := (wr m 76 0 (o + 1))) (k := (B 4 i)) (B := B) (i := i) (o := (o + 1)) (l := l) sq1 (by first | assumption | omega | exact ⟨by omega, by omega⟩ | (constructor <;> omega)) (by first | assumption | omega | exact ⟨by omega, by omega⟩ | (constructor <;> omega)) (by omega) (by omega) (by first | assumption | omega | exact ⟨by omega, by omega⟩ | (constructor <;> omega)) (by first | assumption | omega | exact ⟨by omega, by omega⟩ | (constructor <;> omega))) rfl dX5_readOne_169 cv_5_84 rfl rfl ob_76 rfl (by decide) (Nat.le_of_ble_eq_true rfl) (fun r_169 m_169 hr_169 ho_169 => ?_)
                    refine go_ret (v := r_169) rfl dX5_readOne_172 (okZ (by first | exact Or.inl rfl | exact Or.inr rfl | assumption | omega)) ?_
                    rw [show oneF B 1 i o = cmpF B i (o + 1) by unfold oneF; rw [if_neg (by omega), if_neg (by omega), if_neg (by omega), if_neg (by omega), if_neg (by omega), if_pos (by omega)]]
                    exact hr_169
                  · skip
                    by_cases hk_66_6 : (B 4 i) = 223
                    · refine go_lswitch (off := 99) (tgt := 165) dX5_readOne_66 ⟨by omega, by omega⟩ (by decide) (by rw [hk_66_6] <;> rfl) (by decide) ?_
                      refine go_aload_n dX5_readOne_165 rfl ?_
                      refine go_aload_n dX5_readOne_166 rfl ?_
                      refine go_iload dX5_readOne_167 rfl ?_
                      refine go_callV_z (as := [vr 1, vi (B 4 i)]) (S := []) (b := 76) (ev_X5_readCompared (m := (wr m 76 0 (o + 1))) (k := (B 4 i)) (B := B) (i := i) (o := (o + 1)) (l := l) sq1 (by first | assumption | omega | exact ⟨by omega, by omega⟩ | (constructor <;> omega)) (by first | assumption | omega | exact ⟨by omega, by omega⟩ | (constructor <;> omega)) (by omega) (by omega) (by first | assumption | omega | exact ⟨by omega, by omega⟩ | (constructor <;> omega)) (by first | assumption | omega | exact ⟨by omega, by omega⟩ | (constructor <;> omega))) rfl dX5_readOne_169 cv_5_84 rfl rfl ob_76 rfl (by decide) (Nat.le_of_ble_eq_true rfl) (fun r_169 m_169 hr_169 ho_169 => ?_)
                      refine go_ret (v := r_169) rfl dX5_readOne_172 (okZ (by first | exact Or.inl rfl | exact Or.inr rfl | assumption | omega)) ?_
                      rw [show oneF B 1 i o = cmpF B i (o + 1) by unfold oneF; rw [if_neg (by omega), if_neg (by omega), if_neg (by omega), if_neg (by omega), if_neg (by omega), if_pos (by omega)]]
                      exact hr_169
                    · skip
                      by_cases hk_66_7 : (B 4 i) = 224
                      · refine go_lswitch (off := 99) (tgt := 165) dX5_readOne_66 ⟨by omega, by omega⟩ (by decide) (by rw [hk_66_7] <;> rfl) (by decide) ?_
                        refine go_aload_n dX5_readOne_165 rfl ?_
                        refine go_aload_n dX5_readOne_166 rfl ?_
                        refine go_iload dX5_readOne_167 rfl ?_
                        refine go_callV_z (as := [vr 1, vi (B 4 i)]) (S := []) (b := 76) (ev_X5_readCompared (m := (wr m 76 0 (o + 1))) (k := (B 4 i)) (B := B) (i := i) (o := (o + 1)) (l := l) sq1 (by first | assumption | omega | exact ⟨by omega, by omega⟩ | (constructor <;> omega)) (by first | assumption | omega | exact ⟨by omega, by omega⟩ | (constructor <;> omega)) (by omega) (by omega) (by first | assumption | omega | exact ⟨by omega, by omega⟩ | (constructor <;> omega)) (by first | assumption | omega | exact ⟨by omega, by omega⟩ | (constructor <;> omega))) rfl dX5_readOne_169 cv_5_84 rfl rfl ob_76 rfl (by decide) (Nat.le_of_ble_eq_true rfl) (fun r_169 m_169 hr_169 ho_169 => ?_)
                        refine go_ret (v := r_169) rfl dX5_readOne_172 (okZ (by first | exact Or.inl rfl | exact Or.inr rfl | assumption | omega)) ?_
                        rw [show oneF B 1 i o = cmpF B i (o + 1) by unfold oneF; rw [if_neg (by omega), if_neg (by omega), if_neg (by omega), if_neg (by omega), if_neg (by omega), if_pos (by omega)]]
                        exact hr_169
                      · skip
                        refine go_lswitch (off := 107) (tgt := 173) dX5_readOne_66 ⟨by omega, by omega⟩ (by decide) (by simp [Op.lookupswitch.offset, hk_66_0, show ¬ (40 : Int) = (B 4 i) from fun z => hk_66_0 z.symm, hk_66_1, show ¬ (215 : Int) = (B 4 i) from fun z => hk_66_1 z.symm, hk_66_2, show ¬ (219 : Int) = (B 4 i) from fun z => hk_66_2 z.symm, hk_66_3, show ¬ (220 : Int) = (B 4 i) from fun z => hk_66_3 z.symm, hk_66_4, show ¬ (221 : Int) = (B 4 i) from fun z => hk_66_4 z.symm, hk_66_5, show ¬ (222 : Int) = (B 4 i) from fun z => hk_66_5 z.symm, hk_66_6, show ¬ (223 : Int) = (B 4 i) from fun z => hk_66_6 z.symm, hk_66_7, show ¬ (224 : Int) = (B 4 i) from fun z => hk_66_7 z.symm]) (by decide) ?_
                        refine go_aload_n dX5_readOne_173 rfl ?_
                        refine go_iload dX5_readOne_174 rfl ?_
                        refine go_iconst dX5_readOne_176 ?_
                        refine go_iconst dX5_readOne_177 ?_
                        refine go_callV_v (as := [vi (B 4 i), vi 0, vi 0]) (S := []) (b := 76) (ev_X5_add (m := (wr m 76 0 (o + 1))) (k := (B 4 i)) (g := 0) (v := 0) (by first | assumption | omega | exact ⟨by omega, by omega⟩ | (constructor <;> omega)) (by first | assumption | omega | exact ⟨by omega, by omega⟩ | (constructor <;> omega)) (by first | assumption | omega | exact ⟨by omega, by omega⟩ | (constructor <;> omega)) (by rw [sq1.2.2.2.1]; omega)) rfl dX5_readOne_178 cv_5_64 rfl rfl ob_76 rfl (by decide) (Nat.le_of_ble_eq_true rfl) (fun m_178 hr_178 => ?_)
                        have sq3 := sq1.add (k := B 4 i) (g := 0) (v := 0)
                        subst hr_178
                        refine go_aload_n dX5_readOne_181 rfl ?_
                        refine go_callV_v (as := []) (S := []) (b := 1) (ev_X7_next (m := (addM (wr m 76 0 (o + 1)) (B 4 i) 0 0))  (by rw [sq3.1.1, sq3.1.2.1]; have h := hk.lt sq3.2.1.2 (by omega); have h2 := sq3.2.1; omega)) rfl dX5_readOne_182 cv_5_47 rfl rfl ob_1 rfl (by decide) (Nat.le_of_ble_eq_true rfl) (fun m_182 hr_182 => ?_)
                        have sq4 := sq3.nx hk (by omega)
                        subst hr_182
                        refine go_iconst dX5_readOne_185 ?_
                        refine go_ret (v := 1) rfl dX5_readOne_186 (okZ (by first | exact Or.inl rfl | exact Or.inr rfl | assumption | omega)) ?_
                        rw [show oneF B 1 i o = (0, i + 1, o + 1, [(B 4 i, 0, 0)]) by unfold oneF; rw [if_neg (by omega), if_neg (by omega), if_neg (by omega), if_neg (by omega), if_neg (by omega), if_neg (by omega)]]
                        exact Or.inl ⟨rfl, rfl, sq4⟩
      · exfalso; omega
  · refine go_iload dX5_readOne_13 rfl ?_
    refine go_sipush dX5_readOne_15 (by decide) ?_
    refine go_sipush dX5_readOne_18 (by decide) ?_
    refine go_callSp_z (as := [vi (B 4 i), vi 215, vi 224]) (S := []) (ev_X11_isIn (m := m) (n := (B 4 i)) (lo := 215) (hi := 224) (by first | assumption | omega | exact ⟨by omega, by omega⟩ | (constructor <;> omega)) (by first | assumption | omega | exact ⟨by omega, by omega⟩ | (constructor <;> omega)) (by first | assumption | omega | exact ⟨by omega, by omega⟩ | (constructor <;> omega))) rfl dX5_readOne_21 cs_5_71 rfl rfl (by decide) (Nat.le_of_ble_eq_true rfl) (fun r_21 hr_21 ho_21 => ?_)
    refine go_if_ne (tgt := 33) dX5_readOne_24 (by decide) ⟨by omega, by omega⟩ (fun h_24 => ?_) (fun h_24 => ?_)
    · refine go_aload_n dX5_readOne_33 rfl ?_
      refine go_getf_i (ki := 0) dX5_readOne_34 fl_5_9 ob_76 rfl rfl (fun hf_34 => ?_)
      rw [show (m 76 0 : Int) = o from h0] at hf_34 ⊢
      refine go_bipush dX5_readOne_37 (by decide) ?_
      refine go_icmp_ge (tgt := 48) dX5_readOne_39 (by decide) ⟨by omega, by omega⟩ ⟨by omega, by omega⟩ (fun h_39 => ?_) (fun h_39 => ?_)
      · refine go_aload_n dX5_readOne_48 rfl ?_
        refine go_iconst dX5_readOne_49 ?_
        refine go_callV_z (as := [vi 4]) (S := []) (b := 1) (ev_X7_refuse (m := m) (k := 4) (by first | assumption | omega | exact ⟨by omega, by omega⟩ | (constructor <;> omega))) rfl dX5_readOne_50 cv_5_57 rfl rfl ob_1 rfl (by decide) (Nat.le_of_ble_eq_true rfl) (fun r_50 m_50 hr_50 ho_50 => ?_)
        refine go_ret (v := r_50) rfl dX5_readOne_53 (okZ (by first | exact Or.inl rfl | exact Or.inr rfl | assumption | omega)) ?_
        rw [hr_50.2, show oneF B 1 i o = (4, i, o, []) by unfold oneF; rw [if_neg (by omega), if_pos (by omega)]]
        exact Or.inr ⟨by omega, (show (4 : Int) ≠ 0 by decide), hsq.ref⟩
      · refine go_iload_n dX5_readOne_42 rfl ?_
        refine go_bipush dX5_readOne_43 (by decide) ?_
        refine go_icmp_le (tgt := 54) dX5_readOne_45 (by decide) ⟨by omega, by omega⟩ ⟨by omega, by omega⟩ (fun h_45 => ?_) (fun h_45 => ?_)
        · refine go_aload_n dX5_readOne_54 rfl ?_
          refine go_dup_r dX5_readOne_55 ?_
          refine go_getf_i (ki := 0) dX5_readOne_56 fl_5_9 ob_76 rfl rfl (fun hf_56 => ?_)
          rw [show (m 76 0 : Int) = o from h0] at hf_56 ⊢
          refine go_iconst dX5_readOne_59 ?_
          refine go_iadd dX5_readOne_60 ?_
          refine go_putf_i (ki := 0) dX5_readOne_61 fw_5_9 ob_76 rfl rfl ⟨by omega, by omega⟩ ?_
          have sq1 := hsq.one (x := o + 1)
          refine go_iload dX5_readOne_64 rfl ?_
          by_cases hk_66_0 : (B 4 i) = 40
          · refine go_lswitch (off := 82) (tgt := 148) dX5_readOne_66 ⟨by omega, by omega⟩ (by decide) (by rw [hk_66_0] <;> rfl) (by decide) ?_
            refine go_aload_n dX5_readOne_148 rfl ?_
            refine go_aload_n dX5_readOne_149 rfl ?_
            refine go_aload_n dX5_readOne_150 rfl ?_
            refine go_iload_n dX5_readOne_151 rfl ?_
            refine go_callV_z (as := [vr 1, vr 8, vi k]) (S := []) (b := 76) (ev_X5_brk1 (m := (wr m 76 0 (o + 1))) (k := k) (B := B) (i := i) (o := (o + 1)) (l := l) sq1 (by first | assumption | omega | exact ⟨by omega, by omega⟩ | (constructor <;> omega)) (by first | assumption | omega | exact ⟨by omega, by omega⟩ | (constructor <;> omega)) (by omega) (by omega) (by first | assumption | omega | exact ⟨by omega, by omega⟩ | (constructor <;> omega)) (by first | assumption | omega | exact ⟨by omega, by omega⟩ | (constructor <;> omega))) rfl dX5_readOne_152 cv_5_78 rfl rfl ob_76 rfl (by decide) (Nat.le_of_ble_eq_true rfl) (fun r_152 m_152 hr_152 ho_152 => ?_)
            refine go_ret (v := r_152) rfl dX5_readOne_155 (okZ (by first | exact Or.inl rfl | exact Or.inr rfl | assumption | omega)) ?_
            rw [show oneF B 1 i o = brkF (B 4) (seqF (B 4) 213 (seqF (B 4) 214 (oneF B 0))) i (o + 1) by unfold oneF; rw [if_neg (by omega), if_neg (by omega), if_neg (by omega), if_pos (by omega)]]
            exact hr_152
          · skip
            by_cases hk_66_1 : (B 4 i) = 215
            · refine go_lswitch (off := 74) (tgt := 140) dX5_readOne_66 ⟨by omega, by omega⟩ (by decide) (by rw [hk_66_1] <;> rfl) (by decide) ?_
              refine go_aload_n dX5_readOne_140 rfl ?_
              refine go_aload_n dX5_readOne_141 rfl ?_
              refine go_aload_n dX5_readOne_142 rfl ?_
              refine go_iload_n dX5_readOne_143 rfl ?_
              refine go_callV_z (as := [vr 1, vr 8, vi k]) (S := []) (b := 76) (ev_X5_not1 (m := (wr m 76 0 (o + 1))) (k := k) (B := B) (i := i) (o := (o + 1)) (l := l) sq1 (by first | assumption | omega | exact ⟨by omega, by omega⟩ | (constructor <;> omega)) (by first | assumption | omega | exact ⟨by omega, by omega⟩ | (constructor <;> omega)) (by omega) (by omega) (by first | assumption | omega | exact ⟨by omega, by omega⟩ | (constructor <;> omega)) (by first | assumption | omega | exact ⟨by omega, by omega⟩ | (constructor <;> omega))) rfl dX5_readOne_144 cv_5_75 rfl rfl ob_76 rfl (by decide) (Nat.le_of_ble_eq_true rfl) (fun r_144 m_144 hr_144 ho_144 => ?_)
              refine go_ret (v := r_144) rfl dX5_readOne_147 (okZ (by first | exact Or.inl rfl | exact Or.inr rfl | assumption | omega)) ?_
              rw [show oneF B 1 i o = notF (oneF B 0) i (o + 1) by unfold oneF; rw [if_neg (by omega), if_neg (by omega), if_pos (by omega)]]
              exact hr_144
            · skip
              by_cases hk_66_2 : (B 4 i) = 219
              · refine go_lswitch (off := 90) (tgt := 156) dX5_readOne_66 ⟨by omega, by omega⟩ (by decide) (by rw [hk_66_2] <;> rfl) (by decide) ?_
                refine go_aload_n dX5_readOne_156 rfl ?_
                refine go_aload_n dX5_readOne_157 rfl ?_
                refine go_aload_n dX5_readOne_158 rfl ?_
                refine go_iload dX5_readOne_159 rfl ?_
                refine go_callV_z (as := [vr 1, vr 8, vi (B 4 i)]) (S := []) (b := 76) (ev_X5_readNamed (m := (wr m 76 0 (o + 1))) (k := (B 4 i)) (B := B) (i := i) (o := (o + 1)) (l := l) sq1 (by first | assumption | omega | exact ⟨by omega, by omega⟩ | (constructor <;> omega)) (by first | assumption | omega | exact ⟨by omega, by omega⟩ | (constructor <;> omega)) (by omega) (by omega) (by first | assumption | omega | exact ⟨by omega, by omega⟩ | (constructor <;> omega)) (by first | assumption | omega | exact ⟨by omega, by omega⟩ | (constructor <;> omega))) rfl dX5_readOne_161 cv_5_81 rfl rfl ob_76 rfl (by decide) (Nat.le_of_ble_eq_true rfl) (fun r_161 m_161 hr_161 ho_161 => ?_)
                refine go_ret (v := r_161) rfl dX5_readOne_164 (okZ (by first | exact Or.inl rfl | exact Or.inr rfl | assumption | omega)) ?_
                rw [show oneF B 1 i o = namF B i (o + 1) by unfold oneF; rw [if_neg (by omega), if_neg (by omega), if_neg (by omega), if_neg (by omega), if_pos (by omega)]]
                exact hr_161
              · skip
                by_cases hk_66_3 : (B 4 i) = 220
                · refine go_lswitch (off := 90) (tgt := 156) dX5_readOne_66 ⟨by omega, by omega⟩ (by decide) (by rw [hk_66_3] <;> rfl) (by decide) ?_
                  refine go_aload_n dX5_readOne_156 rfl ?_
                  refine go_aload_n dX5_readOne_157 rfl ?_
                  refine go_aload_n dX5_readOne_158 rfl ?_
                  refine go_iload dX5_readOne_159 rfl ?_
                  refine go_callV_z (as := [vr 1, vr 8, vi (B 4 i)]) (S := []) (b := 76) (ev_X5_readNamed (m := (wr m 76 0 (o + 1))) (k := (B 4 i)) (B := B) (i := i) (o := (o + 1)) (l := l) sq1 (by first | assumption | omega | exact ⟨by omega, by omega⟩ | (constructor <;> omega)) (by first | assumption | omega | exact ⟨by omega, by omega⟩ | (constructor <;> omega)) (by omega) (by omega) (by first | assumption | omega | exact ⟨by omega, by omega⟩ | (constructor <;> omega)) (by first | assumption | omega | exact ⟨by omega, by omega⟩ | (constructor <;> omega))) rfl dX5_readOne_161 cv_5_81 rfl rfl ob_76 rfl (by decide) (Nat.le_of_ble_eq_true rfl) (fun r_161 m_161 hr_161 ho_161 => ?_)
                  refine go_ret (v := r_161) rfl dX5_readOne_164 (okZ (by first | exact Or.inl rfl | exact Or.inr rfl | assumption | omega)) ?_
                  rw [show oneF B 1 i o = namF B i (o + 1) by unfold oneF; rw [if_neg (by omega), if_neg (by omega), if_neg (by omega), if_neg (by omega), if_pos (by omega)]]
                  exact hr_161
                · skip
                  by_cases hk_66_4 : (B 4 i) = 221
                  · refine go_lswitch (off := 99) (tgt := 165) dX5_readOne_66 ⟨by omega, by omega⟩ (by decide) (by rw [hk_66_4] <;> rfl) (by decide) ?_
                    refine go_aload_n dX5_readOne_165 rfl ?_
                    refine go_aload_n dX5_readOne_166 rfl ?_
                    refine go_iload dX5_readOne_167 rfl ?_
                    refine go_callV_z (as := [vr 1, vi (B 4 i)]) (S := []) (b := 76) (ev_X5_readCompared (m := (wr m 76 0 (o + 1))) (k := (B 4 i)) (B := B) (i := i) (o := (o + 1)) (l := l) sq1 (by first | assumption | omega | exact ⟨by omega, by omega⟩ | (constructor <;> omega)) (by first | assumption | omega | exact ⟨by omega, by omega⟩ | (constructor <;> omega)) (by omega) (by omega) (by first | assumption | omega | exact ⟨by omega, by omega⟩ | (constructor <;> omega)) (by first | assumption | omega | exact ⟨by omega, by omega⟩ | (constructor <;> omega))) rfl dX5_readOne_169 cv_5_84 rfl rfl ob_76 rfl (by decide) (Nat.le_of_ble_eq_true rfl) (fun r_169 m_169 hr_169 ho_169 => ?_)
                    refine go_ret (v := r_169) rfl dX5_readOne_172 (okZ (by first | exact Or.inl rfl | exact Or.inr rfl | assumption | omega)) ?_
                    rw [show oneF B 1 i o = cmpF B i (o + 1) by unfold oneF; rw [if_neg (by omega), if_neg (by omega), if_neg (by omega), if_neg (by omega), if_neg (by omega), if_pos (by omega)]]
                    exact hr_169
                  · skip
                    by_cases hk_66_5 : (B 4 i) = 222
                    · refine go_lswitch (off := 99) (tgt := 165) dX5_readOne_66 ⟨by omega, by omega⟩ (by decide) (by rw [hk_66_5] <;> rfl) (by decide) ?_
                      refine go_aload_n dX5_readOne_165 rfl ?_
                      refine go_aload_n dX5_readOne_166 rfl ?_
                      refine go_iload dX5_readOne_167 rfl ?_
                      refine go_callV_z (as := [vr 1, vi (B 4 i)]) (S := []) (b := 76) (ev_X5_readCompared (m := (wr m 76 0 (o + 1))) (k := (B 4 i)) (B := B) (i := i) (o := (o + 1)) (l := l) sq1 (by first | assumption | omega | exact ⟨by omega, by omega⟩ | (constructor <;> omega)) (by first | assumption | omega | exact ⟨by omega, by omega⟩ | (constructor <;> omega)) (by omega) (by omega) (by first | assumption | omega | exact ⟨by omega, by omega⟩ | (constructor <;> omega)) (by first | assumption | omega | exact ⟨by omega, by omega⟩ | (constructor <;> omega))) rfl dX5_readOne_169 cv_5_84 rfl rfl ob_76 rfl (by decide) (Nat.le_of_ble_eq_true rfl) (fun r_169 m_169 hr_169 ho_169 => ?_)
                      refine go_ret (v := r_169) rfl dX5_readOne_172 (okZ (by first | exact Or.inl rfl | exact Or.inr rfl | assumption | omega)) ?_
                      rw [show oneF B 1 i o = cmpF B i (o + 1) by unfold oneF; rw [if_neg (by omega), if_neg (by omega), if_neg (by omega), if_neg (by omega), if_neg (by omega), if_pos (by omega)]]
                      exact hr_169
                    · skip
                      by_cases hk_66_6 : (B 4 i) = 223
                      · refine go_lswitch (off := 99) (tgt := 165) dX5_readOne_66 ⟨by omega, by omega⟩ (by decide) (by rw [hk_66_6] <;> rfl) (by decide) ?_
                        refine go_aload_n dX5_readOne_165 rfl ?_
                        refine go_aload_n dX5_readOne_166 rfl ?_
                        refine go_iload dX5_readOne_167 rfl ?_
                        refine go_callV_z (as := [vr 1, vi (B 4 i)]) (S := []) (b := 76) (ev_X5_readCompared (m := (wr m 76 0 (o + 1))) (k := (B 4 i)) (B := B) (i := i) (o := (o + 1)) (l := l) sq1 (by first | assumption | omega | exact ⟨by omega, by omega⟩ | (constructor <;> omega)) (by first | assumption | omega | exact ⟨by omega, by omega⟩ | (constructor <;> omega)) (by omega) (by omega) (by first | assumption | omega | exact ⟨by omega, by omega⟩ | (constructor <;> omega)) (by first | assumption | omega | exact ⟨by omega, by omega⟩ | (constructor <;> omega))) rfl dX5_readOne_169 cv_5_84 rfl rfl ob_76 rfl (by decide) (Nat.le_of_ble_eq_true rfl) (fun r_169 m_169 hr_169 ho_169 => ?_)
                        refine go_ret (v := r_169) rfl dX5_readOne_172 (okZ (by first | exact Or.inl rfl | exact Or.inr rfl | assumption | omega)) ?_
                        rw [show oneF B 1 i o = cmpF B i (o + 1) by unfold oneF; rw [if_neg (by omega), if_neg (by omega), if_neg (by omega), if_neg (by omega), if_neg (by omega), if_pos (by omega)]]
                        exact hr_169
                      · skip
                        by_cases hk_66_7 : (B 4 i) = 224
                        · refine go_lswitch (off := 99) (tgt := 165) dX5_readOne_66 ⟨by omega, by omega⟩ (by decide) (by rw [hk_66_7] <;> rfl) (by decide) ?_
                          refine go_aload_n dX5_readOne_165 rfl ?_
                          refine go_aload_n dX5_readOne_166 rfl ?_
                          refine go_iload dX5_readOne_167 rfl ?_
                          refine go_callV_z (as := [vr 1, vi (B 4 i)]) (S := []) (b := 76) (ev_X5_readCompared (m := (wr m 76 0 (o + 1))) (k := (B 4 i)) (B := B) (i := i) (o := (o + 1)) (l := l) sq1 (by first | assumption | omega | exact ⟨by omega, by omega⟩ | (constructor <;> omega)) (by first | assumption | omega | exact ⟨by omega, by omega⟩ | (constructor <;> omega)) (by omega) (by omega) (by first | assumption | omega | exact ⟨by omega, by omega⟩ | (constructor <;> omega)) (by first | assumption | omega | exact ⟨by omega, by omega⟩ | (constructor <;> omega))) rfl dX5_readOne_169 cv_5_84 rfl rfl ob_76 rfl (by decide) (Nat.le_of_ble_eq_true rfl) (fun r_169 m_169 hr_169 ho_169 => ?_)
                          refine go_ret (v := r_169) rfl dX5_readOne_172 (okZ (by first | exact Or.inl rfl | exact Or.inr rfl | assumption | omega)) ?_
                          rw [show oneF B 1 i o = cmpF B i (o + 1) by unfold oneF; rw [if_neg (by omega), if_neg (by omega), if_neg (by omega), if_neg (by omega), if_neg (by omega), if_pos (by omega)]]
                          exact hr_169
                        · skip
                          refine go_lswitch (off := 107) (tgt := 173) dX5_readOne_66 ⟨by omega, by omega⟩ (by decide) (by simp [Op.lookupswitch.offset, hk_66_0, show ¬ (40 : Int) = (B 4 i) from fun z => hk_66_0 z.symm, hk_66_1, show ¬ (215 : Int) = (B 4 i) from fun z => hk_66_1 z.symm, hk_66_2, show ¬ (219 : Int) = (B 4 i) from fun z => hk_66_2 z.symm, hk_66_3, show ¬ (220 : Int) = (B 4 i) from fun z => hk_66_3 z.symm, hk_66_4, show ¬ (221 : Int) = (B 4 i) from fun z => hk_66_4 z.symm, hk_66_5, show ¬ (222 : Int) = (B 4 i) from fun z => hk_66_5 z.symm, hk_66_6, show ¬ (223 : Int) = (B 4 i) from fun z => hk_66_6 z.symm, hk_66_7, show ¬ (224 : Int) = (B 4 i) from fun z => hk_66_7 z.symm]) (by decide) ?_
                          refine go_aload_n dX5_readOne_173 rfl ?_
                          refine go_iload dX5_readOne_174 rfl ?_
                          refine go_iconst dX5_readOne_176 ?_
                          refine go_iconst dX5_readOne_177 ?_
                          refine go_callV_v (as := [vi (B 4 i), vi 0, vi 0]) (S := []) (b := 76) (ev_X5_add (m := (wr m 76 0 (o + 1))) (k := (B 4 i)) (g := 0) (v := 0) (by first | assumption | omega | exact ⟨by omega, by omega⟩ | (constructor <;> omega)) (by first | assumption | omega | exact ⟨by omega, by omega⟩ | (constructor <;> omega)) (by first | assumption | omega | exact ⟨by omega, by omega⟩ | (constructor <;> omega)) (by rw [sq1.2.2.2.1]; omega)) rfl dX5_readOne_178 cv_5_64 rfl rfl ob_76 rfl (by decide) (Nat.le_of_ble_eq_true rfl) (fun m_178 hr_178 => ?_)
                          have sq3 := sq1.add (k := B 4 i) (g := 0) (v := 0)
                          subst hr_178
                          refine go_aload_n dX5_readOne_181 rfl ?_
                          refine go_callV_v (as := []) (S := []) (b := 1) (ev_X7_next (m := (addM (wr m 76 0 (o + 1)) (B 4 i) 0 0))  (by rw [sq3.1.1, sq3.1.2.1]; have h := hk.lt sq3.2.1.2 (by omega); have h2 := sq3.2.1; omega)) rfl dX5_readOne_182 cv_5_47 rfl rfl ob_1 rfl (by decide) (Nat.le_of_ble_eq_true rfl) (fun m_182 hr_182 => ?_)
                          have sq4 := sq3.nx hk (by omega)
                          subst hr_182
                          refine go_iconst dX5_readOne_185 ?_
                          refine go_ret (v := 1) rfl dX5_readOne_186 (okZ (by first | exact Or.inl rfl | exact Or.inr rfl | assumption | omega)) ?_
                          rw [show oneF B 1 i o = (0, i + 1, o + 1, [(B 4 i, 0, 0)]) by unfold oneF; rw [if_neg (by omega), if_neg (by omega), if_neg (by omega), if_neg (by omega), if_neg (by omega), if_neg (by omega)]]
                          exact Or.inl ⟨rfl, rfl, sq4⟩
        · exfalso; omega
    · refine go_aload_n dX5_readOne_27 rfl ?_
      refine go_iconst dX5_readOne_28 ?_
      refine go_callV_z (as := [vi 1]) (S := []) (b := 1) (ev_X7_refuse (m := m) (k := 1) (by first | assumption | omega | exact ⟨by omega, by omega⟩ | (constructor <;> omega))) rfl dX5_readOne_29 cv_5_57 rfl rfl ob_1 rfl (by decide) (Nat.le_of_ble_eq_true rfl) (fun r_29 m_29 hr_29 ho_29 => ?_)
      refine go_ret (v := r_29) rfl dX5_readOne_32 (okZ (by first | exact Or.inl rfl | exact Or.inr rfl | assumption | omega)) ?_
      rw [hr_29.2, show oneF B 1 i o = (1, i, o, []) by unfold oneF; rw [if_pos (by omega)]]
      exact Or.inr ⟨by omega, (show (1 : Int) ≠ 0 by decide), hsq.ref⟩
set_option maxRecDepth 4000 in
theorem ev_X5_all1 {m : Mem} {B : Mem} {i : Int} {o : Int} {l : List Cd} {k : Int} (hsq : SQ B m i o l) (hk : TkS B) (hdb : DnOk B 8) (ho : 0 ≤ o ∧ o ≤ 20) (hl : (l.length : Int) ≤ 2 * o) (hd : k = 8) : Ev 0 16 mX5_readAll [vr 76, vr 1, vr 8, vi k] m (fun r m' => QP B r m' l (seqF (B 4) 214 (oneF B 1) i o)) := by
  refine Ev.of (L := [vr 76, vr 1, vr 8, vi k, un]) (by decide +kernel) rfl (Nat.le_of_ble_eq_true rfl) rfl (fun t ht => by cases ht; first | exact Or.inl rfl | exact Or.inr (Or.inl rfl) | exact Or.inr (Or.inr rfl)) (fun hcan => ?_)
  have hi := hsq.2.1
  have hkb := hk.1
  have h0 := hsq.2.2.1
  have h1 := hsq.2.2.2.1
  have e12 := hsq.1.1
  have e11 := hsq.1.2.1
  have hPB : PB (oneF B 1) := (oneF_b B 1)
  refine go_aload_n dX5_readAll_0 rfl ?_
  refine go_aload_n dX5_readAll_1 rfl ?_
  refine go_aload_n dX5_readAll_2 rfl ?_
  refine go_iload_n dX5_readAll_3 rfl ?_
  refine go_callV_z (as := [vr 1, vr 8, vi k]) (S := []) (b := 76) (ev_X5_one1 (m := m) (k := k) (B := B) (i := i) (o := o) (l := l) hsq (by first | assumption | omega | exact ⟨by omega, by omega⟩ | (constructor <;> omega)) (by first | assumption | omega | exact ⟨by omega, by omega⟩ | (constructor <;> omega)) (by first | assumption | omega | exact ⟨by omega, by omega⟩ | (constructor <;> omega)) (by first | assumption | omega | exact ⟨by omega, by omega⟩ | (constructor <;> omega)) (by first | assumption | omega | exact ⟨by omega, by omega⟩ | (constructor <;> omega))) rfl dX5_readAll_4 cv_5_68 rfl rfl ob_76 rfl (by decide) (Nat.le_of_ble_eq_true rfl) (fun r_4 m_4 hr_4 ho_4 => ?_)
  refine go_if_ne (tgt := 12) dX5_readAll_7 (by decide) ⟨by omega, by omega⟩ (fun h_7 => ?_) (fun h_7 => ?_)
  · obtain ⟨-, x1, x2⟩ := hr_4.resolve_right (fun h => h_7 h.1)
    have hR1 := hPB i o (by omega) (by omega) x1
    refine go_iconst dX5_readAll_12 ?_
    refine go_istore (L' := [vr 76, vr 1, vr 8, vi k, vi 0]) dX5_readAll_13 (by decide) rfl rfl ?_
    have lp_15 : ∀ (n_15 : Nat) (m1 : Mem) (j : Int) (a : Rs) (f : Nat), (a.1 = 0) → (SQ B m1 a.2.1 a.2.2.1 (l ++ a.2.2.2)) → (seqL (B 4) 214 (oneF B 1) f a = seqL (B 4) 214 (oneF B 1) 21 ((oneF B 1) i o)) → (0 ≤ j ∧ j + (f : Int) = 21) → ((o + 1 + j ≤ a.2.2.1 ∧ a.2.2.1 ≤ 20) ∧ (a.2.2.2.length : Int) + 1 ≤ 2 * (a.2.2.1 - o)) → f < n_15 → Go 0 16 mX5_readAll (fun r m' => QP B r m' l (seqF (B 4) 214 (oneF B 1) i o)) 15 [vr 76, vr 1, vr 8, vi k, vi j] [] m1 := by
      intro n_15
      induction n_15 with
      | zero => intro m1 j a f ha0 hs1 hsl hj hab hmu; exact absurd hmu (Nat.not_lt_zero _)
      | succ n_15 ih_15 =>
        intro m1 j a f ha0 hs1 hsl hj hab hmu
        obtain ⟨hab1, hab2⟩ := hab
        have hsu : seqL (B 4) 214 (oneF B 1) f a = if B 4 a.2.1 = 214 then (if ((oneF B 1) (a.2.1 + 1) a.2.2.1).1 ≠ 0 then ((oneF B 1) (a.2.1 + 1) a.2.2.1) else seqL (B 4) 214 (oneF B 1) (f - 1) (0, ((oneF B 1) (a.2.1 + 1) a.2.2.1).2.1, ((oneF B 1) (a.2.1 + 1) a.2.2.1).2.2.1, a.2.2.2 ++ ((oneF B 1) (a.2.1 + 1) a.2.2.1).2.2.2 ++ [(214, 0, 0)])) else a := by
          obtain ⟨g, rfl⟩ : ∃ g, f = g + 1 := ⟨f - 1, by omega⟩
          rfl
        refine go_iload dX5_readAll_15 rfl ?_
        refine go_bipush dX5_readAll_17 (by decide) ?_
        refine go_icmp_ge (tgt := 63) dX5_readAll_19 (by decide) ⟨by omega, by omega⟩ ⟨by omega, by omega⟩ (fun h_19 => ?_) (fun h_19 => ?_)
        · exfalso; omega
        · refine go_aload_n dX5_readAll_22 rfl ?_
          refine go_getf_i (ki := 2) dX5_readAll_23 fl_5_54 ob_1 rfl rfl (fun hf_23 => ?_)
          rw [show (m1 1 2 : Int) = (B 4 a.2.1) from hs1.kd] at hf_23 ⊢
          refine go_sipush dX5_readAll_26 (by decide) ?_
          refine go_icmp_ne (tgt := 63) dX5_readAll_29 (by decide) hf_23 ⟨by omega, by omega⟩ (fun h_29 => ?_) (fun h_29 => ?_)
          · refine go_iconst dX5_readAll_63 ?_
            refine go_ret (v := 1) rfl dX5_readAll_64 (okZ (by first | exact Or.inl rfl | exact Or.inr rfl | assumption | omega)) ?_
            rw [seqF_e (B 4) 214, if_neg (fun z => z x1), ← hsl, hsu, if_neg (by omega)]
            exact Or.inl ⟨rfl, ha0, hs1⟩
          · refine go_aload_n dX5_readAll_32 rfl ?_
            refine go_callV_v (as := []) (S := []) (b := 1) (ev_X7_next (m := m1)  (by rw [hs1.1.1, hs1.1.2.1]; have h := hs1.2.1; have := hk.lt h.2 (by omega); omega)) rfl dX5_readAll_33 cv_5_47 rfl rfl ob_1 rfl (by decide) (Nat.le_of_ble_eq_true rfl) (fun m_33 hr_33 => ?_)
            have sq1 := hs1.nx hk (by omega)
            subst hr_33
            refine go_aload_n dX5_readAll_36 rfl ?_
            refine go_aload_n dX5_readAll_37 rfl ?_
            refine go_aload_n dX5_readAll_38 rfl ?_
            refine go_iload_n dX5_readAll_39 rfl ?_
            refine go_callV_z (as := [vr 1, vr 8, vi k]) (S := []) (b := 76) (ev_X5_one1 (m := (nxt m1)) (k := k) (B := B) (i := (a.2.1 + 1)) (o := a.2.2.1) (l := (l ++ a.2.2.2)) sq1 (by first | assumption | omega | exact ⟨by omega, by omega⟩ | (constructor <;> omega)) (by first | assumption | omega | exact ⟨by omega, by omega⟩ | (constructor <;> omega)) (by omega) (by simp only [List.length_append]; omega) (by first | assumption | omega | exact ⟨by omega, by omega⟩ | (constructor <;> omega))) rfl dX5_readAll_40 cv_5_68 rfl rfl ob_76 rfl (by decide) (Nat.le_of_ble_eq_true rfl) (fun r_40 m_40 hr_40 ho_40 => ?_)
            refine go_if_ne (tgt := 48) dX5_readAll_43 (by decide) ⟨by omega, by omega⟩ (fun h_43 => ?_) (fun h_43 => ?_)
            · obtain ⟨-, x1, x2⟩ := hr_40.resolve_right (fun h => h_43 h.1)
              have hR2 := hPB (a.2.1 + 1) a.2.2.1 (by omega) (by omega) x1
              refine go_aload_n dX5_readAll_48 rfl ?_
              refine go_sipush dX5_readAll_49 (by decide) ?_
              refine go_iconst dX5_readAll_52 ?_
              refine go_iconst dX5_readAll_53 ?_
              refine go_callV_v (as := [vi 214, vi 0, vi 0]) (S := []) (b := 76) (ev_X5_add (m := m_40) (k := 214) (g := 0) (v := 0) (by first | assumption | omega | exact ⟨by omega, by omega⟩ | (constructor <;> omega)) (by first | assumption | omega | exact ⟨by omega, by omega⟩ | (constructor <;> omega)) (by first | assumption | omega | exact ⟨by omega, by omega⟩ | (constructor <;> omega)) (by rw [x2.2.2.2.1]; simp only [List.length_append]; omega)) rfl dX5_readAll_54 cv_5_64 rfl rfl ob_76 rfl (by decide) (Nat.le_of_ble_eq_true rfl) (fun m_54 hr_54 => ?_)
              have sq3 := x2.add (k := 214) (g := 0) (v := 0)
              subst hr_54
              refine go_iinc (L' := [vr 76, vr 1, vr 8, vi k, vi (j + 1)]) dX5_readAll_57 rfl (by decide) rfl rfl ?_
              refine go_goto (tgt := 15) dX5_readAll_60 (by decide) ?_
              exact ih_15 (addM m_40 214 0 0) (j + 1) (0, ((oneF B 1) (a.2.1 + 1) a.2.2.1).2.1, ((oneF B 1) (a.2.1 + 1) a.2.2.1).2.2.1, a.2.2.2 ++ ((oneF B 1) (a.2.1 + 1) a.2.2.1).2.2.2 ++ [(214, 0, 0)]) (f - 1) rfl (by show SQ B _ _ _ (l ++ (a.2.2.2 ++ _ ++ _)); rw [← List.append_assoc, ← List.append_assoc]; exact sq3) (by rw [← hsl, hsu, if_pos (by omega), if_neg (fun z => z x1)]) (by first | assumption | omega | rfl) (by
                    refine ⟨⟨?_, ?_⟩, ?_⟩
                    · show o + 1 + (j + 1) ≤ ((oneF B 1) (a.2.1 + 1) a.2.2.1).2.2.1; omega
                    · show ((oneF B 1) (a.2.1 + 1) a.2.2.1).2.2.1 ≤ 20; omega
                    · show ((a.2.2.2 ++ ((oneF B 1) (a.2.1 + 1) a.2.2.1).2.2.2 ++ [(214, 0, 0)] : List Cd).length : Int) + 1 ≤ 2 * (((oneF B 1) (a.2.1 + 1) a.2.2.1).2.2.1 - o)
                      simp only [List.length_append, List.length_singleton]
                      omega) (by omega)
            · refine go_iconst dX5_readAll_46 ?_
              refine go_ret (v := 0) rfl dX5_readAll_47 (okZ (by first | exact Or.inl rfl | exact Or.inr rfl | assumption | omega)) ?_
              obtain ⟨-, y1, y2⟩ := hr_40.resolve_left (fun h => by have := h.1; omega)
              rw [seqF_e (B 4) 214, if_neg (fun z => z x1), ← hsl, hsu, if_pos (by omega), if_pos y1]
              exact Or.inr ⟨rfl, y1, y2⟩
    exact lp_15 _ m_4 0 ((oneF B 1) i o) 21 x1 x2 rfl (by first | assumption | omega | rfl) ⟨by omega, hR1.2.2⟩ (Nat.lt_succ_self _)
  · refine go_iconst dX5_readAll_10 ?_
    refine go_ret (v := 0) rfl dX5_readAll_11 (okZ (by first | exact Or.inl rfl | exact Or.inr rfl | assumption | omega)) ?_
    obtain ⟨-, x1, x2⟩ := hr_4.resolve_left (fun h => by have := h.1; omega)
    rw [seqF_e (B 4) 214, if_pos x1]
    exact Or.inr ⟨rfl, x1, x2⟩
set_option maxRecDepth 4000 in
theorem ev_X5_con1 {m : Mem} {B : Mem} {i : Int} {o : Int} {l : List Cd} {k : Int} (hsq : SQ B m i o l) (hk : TkS B) (hdb : DnOk B 8) (ho : 0 ≤ o ∧ o ≤ 20) (hl : (l.length : Int) ≤ 2 * o) (hd : k = 8) : Ev 0 17 mX5_readCond [vr 76, vr 1, vr 8, vi k] m (fun r m' => QP B r m' l (seqF (B 4) 213 (seqF (B 4) 214 (oneF B 1)) i o)) := by
  refine Ev.of (L := [vr 76, vr 1, vr 8, vi k, un]) (by decide +kernel) rfl (Nat.le_of_ble_eq_true rfl) rfl (fun t ht => by cases ht; first | exact Or.inl rfl | exact Or.inr (Or.inl rfl) | exact Or.inr (Or.inr rfl)) (fun hcan => ?_)
  have hi := hsq.2.1
  have hkb := hk.1
  have h0 := hsq.2.2.1
  have h1 := hsq.2.2.2.1
  have e12 := hsq.1.1
  have e11 := hsq.1.2.1
  have hPB : PB (seqF (B 4) 214 (oneF B 1)) := (seqF_b (oneF_b B 1))
  refine go_aload_n dX5_readCond_0 rfl ?_
  refine go_aload_n dX5_readCond_1 rfl ?_
  refine go_aload_n dX5_readCond_2 rfl ?_
  refine go_iload_n dX5_readCond_3 rfl ?_
  refine go_callV_z (as := [vr 1, vr 8, vi k]) (S := []) (b := 76) (ev_X5_all1 (m := m) (k := k) (B := B) (i := i) (o := o) (l := l) hsq (by first | assumption | omega | exact ⟨by omega, by omega⟩ | (constructor <;> omega)) (by first | assumption | omega | exact ⟨by omega, by omega⟩ | (constructor <;> omega)) (by first | assumption | omega | exact ⟨by omega, by omega⟩ | (constructor <;> omega)) (by first | assumption | omega | exact ⟨by omega, by omega⟩ | (constructor <;> omega)) (by first | assumption | omega | exact ⟨by omega, by omega⟩ | (constructor <;> omega))) rfl dX5_readCond_4 cv_5_61 rfl rfl ob_76 rfl (by decide) (Nat.le_of_ble_eq_true rfl) (fun r_4 m_4 hr_4 ho_4 => ?_)
  refine go_if_ne (tgt := 12) dX5_readCond_7 (by decide) ⟨by omega, by omega⟩ (fun h_7 => ?_) (fun h_7 => ?_)
  · obtain ⟨-, x1, x2⟩ := hr_4.resolve_right (fun h => h_7 h.1)
    have hR1 := hPB i o (by omega) (by omega) x1
    refine go_iconst dX5_readCond_12 ?_
    refine go_istore (L' := [vr 76, vr 1, vr 8, vi k, vi 0]) dX5_readCond_13 (by decide) rfl rfl ?_
    have lp_15 : ∀ (n_15 : Nat) (m1 : Mem) (j : Int) (a : Rs) (f : Nat), (a.1 = 0) → (SQ B m1 a.2.1 a.2.2.1 (l ++ a.2.2.2)) → (seqL (B 4) 213 (seqF (B 4) 214 (oneF B 1)) f a = seqL (B 4) 213 (seqF (B 4) 214 (oneF B 1)) 21 ((seqF (B 4) 214 (oneF B 1)) i o)) → (0 ≤ j ∧ j + (f : Int) = 21) → ((o + 1 + j ≤ a.2.2.1 ∧ a.2.2.1 ≤ 20) ∧ (a.2.2.2.length : Int) + 1 ≤ 2 * (a.2.2.1 - o)) → f < n_15 → Go 0 17 mX5_readCond (fun r m' => QP B r m' l (seqF (B 4) 213 (seqF (B 4) 214 (oneF B 1)) i o)) 15 [vr 76, vr 1, vr 8, vi k, vi j] [] m1 := by
      intro n_15
      induction n_15 with
      | zero => intro m1 j a f ha0 hs1 hsl hj hab hmu; exact absurd hmu (Nat.not_lt_zero _)
      | succ n_15 ih_15 =>
        intro m1 j a f ha0 hs1 hsl hj hab hmu
        obtain ⟨hab1, hab2⟩ := hab
        have hsu : seqL (B 4) 213 (seqF (B 4) 214 (oneF B 1)) f a = if B 4 a.2.1 = 213 then (if ((seqF (B 4) 214 (oneF B 1)) (a.2.1 + 1) a.2.2.1).1 ≠ 0 then ((seqF (B 4) 214 (oneF B 1)) (a.2.1 + 1) a.2.2.1) else seqL (B 4) 213 (seqF (B 4) 214 (oneF B 1)) (f - 1) (0, ((seqF (B 4) 214 (oneF B 1)) (a.2.1 + 1) a.2.2.1).2.1, ((seqF (B 4) 214 (oneF B 1)) (a.2.1 + 1) a.2.2.1).2.2.1, a.2.2.2 ++ ((seqF (B 4) 214 (oneF B 1)) (a.2.1 + 1) a.2.2.1).2.2.2 ++ [(213, 0, 0)])) else a := by
          obtain ⟨g, rfl⟩ : ∃ g, f = g + 1 := ⟨f - 1, by omega⟩
          rfl
        refine go_iload dX5_readCond_15 rfl ?_
        refine go_bipush dX5_readCond_17 (by decide) ?_
        refine go_icmp_ge (tgt := 63) dX5_readCond_19 (by decide) ⟨by omega, by omega⟩ ⟨by omega, by omega⟩ (fun h_19 => ?_) (fun h_19 => ?_)
        · exfalso; omega
        · refine go_aload_n dX5_readCond_22 rfl ?_
          refine go_getf_i (ki := 2) dX5_readCond_23 fl_5_54 ob_1 rfl rfl (fun hf_23 => ?_)
          rw [show (m1 1 2 : Int) = (B 4 a.2.1) from hs1.kd] at hf_23 ⊢
          refine go_sipush dX5_readCond_26 (by decide) ?_
          refine go_icmp_ne (tgt := 63) dX5_readCond_29 (by decide) hf_23 ⟨by omega, by omega⟩ (fun h_29 => ?_) (fun h_29 => ?_)
          · refine go_iconst dX5_readCond_63 ?_
            refine go_ret (v := 1) rfl dX5_readCond_64 (okZ (by first | exact Or.inl rfl | exact Or.inr rfl | assumption | omega)) ?_
            rw [seqF_e (B 4) 213, if_neg (fun z => z x1), ← hsl, hsu, if_neg (by omega)]
            exact Or.inl ⟨rfl, ha0, hs1⟩
          · refine go_aload_n dX5_readCond_32 rfl ?_
            refine go_callV_v (as := []) (S := []) (b := 1) (ev_X7_next (m := m1)  (by rw [hs1.1.1, hs1.1.2.1]; have h := hs1.2.1; have := hk.lt h.2 (by omega); omega)) rfl dX5_readCond_33 cv_5_47 rfl rfl ob_1 rfl (by decide) (Nat.le_of_ble_eq_true rfl) (fun m_33 hr_33 => ?_)
            have sq1 := hs1.nx hk (by omega)
            subst hr_33
            refine go_aload_n dX5_readCond_36 rfl ?_
            refine go_aload_n dX5_readCond_37 rfl ?_
            refine go_aload_n dX5_readCond_38 rfl ?_
            refine go_iload_n dX5_readCond_39 rfl ?_
            refine go_callV_z (as := [vr 1, vr 8, vi k]) (S := []) (b := 76) (ev_X5_all1 (m := (nxt m1)) (k := k) (B := B) (i := (a.2.1 + 1)) (o := a.2.2.1) (l := (l ++ a.2.2.2)) sq1 (by first | assumption | omega | exact ⟨by omega, by omega⟩ | (constructor <;> omega)) (by first | assumption | omega | exact ⟨by omega, by omega⟩ | (constructor <;> omega)) (by omega) (by simp only [List.length_append]; omega) (by first | assumption | omega | exact ⟨by omega, by omega⟩ | (constructor <;> omega))) rfl dX5_readCond_40 cv_5_61 rfl rfl ob_76 rfl (by decide) (Nat.le_of_ble_eq_true rfl) (fun r_40 m_40 hr_40 ho_40 => ?_)
            refine go_if_ne (tgt := 48) dX5_readCond_43 (by decide) ⟨by omega, by omega⟩ (fun h_43 => ?_) (fun h_43 => ?_)
            · obtain ⟨-, x1, x2⟩ := hr_40.resolve_right (fun h => h_43 h.1)
              have hR2 := hPB (a.2.1 + 1) a.2.2.1 (by omega) (by omega) x1
              refine go_aload_n dX5_readCond_48 rfl ?_
              refine go_sipush dX5_readCond_49 (by decide) ?_
              refine go_iconst dX5_readCond_52 ?_
              refine go_iconst dX5_readCond_53 ?_
              refine go_callV_v (as := [vi 213, vi 0, vi 0]) (S := []) (b := 76) (ev_X5_add (m := m_40) (k := 213) (g := 0) (v := 0) (by first | assumption | omega | exact ⟨by omega, by omega⟩ | (constructor <;> omega)) (by first | assumption | omega | exact ⟨by omega, by omega⟩ | (constructor <;> omega)) (by first | assumption | omega | exact ⟨by omega, by omega⟩ | (constructor <;> omega)) (by rw [x2.2.2.2.1]; simp only [List.length_append]; omega)) rfl dX5_readCond_54 cv_5_64 rfl rfl ob_76 rfl (by decide) (Nat.le_of_ble_eq_true rfl) (fun m_54 hr_54 => ?_)
              have sq3 := x2.add (k := 213) (g := 0) (v := 0)
              subst hr_54
              refine go_iinc (L' := [vr 76, vr 1, vr 8, vi k, vi (j + 1)]) dX5_readCond_57 rfl (by decide) rfl rfl ?_
              refine go_goto (tgt := 15) dX5_readCond_60 (by decide) ?_
              exact ih_15 (addM m_40 213 0 0) (j + 1) (0, ((seqF (B 4) 214 (oneF B 1)) (a.2.1 + 1) a.2.2.1).2.1, ((seqF (B 4) 214 (oneF B 1)) (a.2.1 + 1) a.2.2.1).2.2.1, a.2.2.2 ++ ((seqF (B 4) 214 (oneF B 1)) (a.2.1 + 1) a.2.2.1).2.2.2 ++ [(213, 0, 0)]) (f - 1) rfl (by show SQ B _ _ _ (l ++ (a.2.2.2 ++ _ ++ _)); rw [← List.append_assoc, ← List.append_assoc]; exact sq3) (by rw [← hsl, hsu, if_pos (by omega), if_neg (fun z => z x1)]) (by first | assumption | omega | rfl) (by
                    refine ⟨⟨?_, ?_⟩, ?_⟩
                    · show o + 1 + (j + 1) ≤ ((seqF (B 4) 214 (oneF B 1)) (a.2.1 + 1) a.2.2.1).2.2.1; omega
                    · show ((seqF (B 4) 214 (oneF B 1)) (a.2.1 + 1) a.2.2.1).2.2.1 ≤ 20; omega
                    · show ((a.2.2.2 ++ ((seqF (B 4) 214 (oneF B 1)) (a.2.1 + 1) a.2.2.1).2.2.2 ++ [(213, 0, 0)] : List Cd).length : Int) + 1 ≤ 2 * (((seqF (B 4) 214 (oneF B 1)) (a.2.1 + 1) a.2.2.1).2.2.1 - o)
                      simp only [List.length_append, List.length_singleton]
                      omega) (by omega)
            · refine go_iconst dX5_readCond_46 ?_
              refine go_ret (v := 0) rfl dX5_readCond_47 (okZ (by first | exact Or.inl rfl | exact Or.inr rfl | assumption | omega)) ?_
              obtain ⟨-, y1, y2⟩ := hr_40.resolve_left (fun h => by have := h.1; omega)
              rw [seqF_e (B 4) 213, if_neg (fun z => z x1), ← hsl, hsu, if_pos (by omega), if_pos y1]
              exact Or.inr ⟨rfl, y1, y2⟩
    exact lp_15 _ m_4 0 ((seqF (B 4) 214 (oneF B 1)) i o) 21 x1 x2 rfl (by first | assumption | omega | rfl) ⟨by omega, hR1.2.2⟩ (Nat.lt_succ_self _)
  · refine go_iconst dX5_readCond_10 ?_
    refine go_ret (v := 0) rfl dX5_readCond_11 (okZ (by first | exact Or.inl rfl | exact Or.inr rfl | assumption | omega)) ?_
    obtain ⟨-, x1, x2⟩ := hr_4.resolve_left (fun h => by have := h.1; omega)
    rw [seqF_e (B 4) 213, if_pos x1]
    exact Or.inr ⟨rfl, x1, x2⟩
set_option maxRecDepth 4000 in
theorem ev_X5_not2 {m : Mem} {B : Mem} {i : Int} {o : Int} {l : List Cd} {k : Int} (hsq : SQ B m i o l) (hk : TkS B) (hdb : DnOk B 8) (ho : 1 ≤ o ∧ o ≤ 20) (hl : (l.length : Int) + 2 ≤ 2 * o) (hd : k = 7) (hki : B 4 i = 215) : Ev 0 19 mX5_readNot [vr 76, vr 1, vr 8, vi k] m (fun r m' => QP B r m' l (notF (oneF B 1) i o)) := by
  refine Ev.of (L := [vr 76, vr 1, vr 8, vi k]) (by decide +kernel) rfl (Nat.le_of_ble_eq_true rfl) rfl (fun t ht => by cases ht; first | exact Or.inl rfl | exact Or.inr (Or.inl rfl) | exact Or.inr (Or.inr rfl)) (fun hcan => ?_)
  have hi := hsq.2.1
  have hkb := hk.1
  have h0 := hsq.2.2.1
  have h1 := hsq.2.2.2.1
  have e12 := hsq.1.1
  have e11 := hsq.1.2.1
  have hR : RB o ((oneF B 1) (i + 1) o) := oneF_b B 1 (i + 1) o (by omega) (by omega)
  refine go_aload_n dX5_readNot_0 rfl ?_
  refine go_callV_v (as := []) (S := []) (b := 1) (ev_X7_next (m := m)  (by rw [hsq.1.1, hsq.1.2.1]; have h := hk.lt hsq.2.1.2 (by omega); have h2 := hsq.2.1; omega)) rfl dX5_readNot_1 cv_5_47 rfl rfl ob_1 rfl (by decide) (Nat.le_of_ble_eq_true rfl) (fun m_1 hr_1 => ?_)
  have sq1 := hsq.nx hk (by omega)
  subst hr_1
  refine go_aload_n dX5_readNot_4 rfl ?_
  refine go_aload_n dX5_readNot_5 rfl ?_
  refine go_aload_n dX5_readNot_6 rfl ?_
  refine go_iload_n dX5_readNot_7 rfl ?_
  refine go_iconst dX5_readNot_8 ?_
  refine go_iadd dX5_readNot_9 ?_
  refine go_callV_z (as := [vr 1, vr 8, vi (k + 1)]) (S := []) (b := 76) (ev_X5_one1 (m := (nxt m)) (k := (k + 1)) (B := B) (i := (i + 1)) (o := o) (l := l) sq1 (by first | assumption | omega | exact ⟨by omega, by omega⟩ | (constructor <;> omega)) (by first | assumption | omega | exact ⟨by omega, by omega⟩ | (constructor <;> omega)) (by first | assumption | omega | exact ⟨by omega, by omega⟩ | (constructor <;> omega)) (by omega) (by first | assumption | omega | exact ⟨by omega, by omega⟩ | (constructor <;> omega))) rfl dX5_readNot_10 cv_5_68 rfl rfl ob_76 rfl (by decide) (Nat.le_of_ble_eq_true rfl) (fun r_10 m_10 hr_10 ho_10 => ?_)
  refine go_if_ne (tgt := 18) dX5_readNot_13 (by decide) ⟨by omega, by omega⟩ (fun h_13 => ?_) (fun h_13 => ?_)
  · obtain ⟨-, x1, x2⟩ := hr_10.resolve_right (fun h => h_13 h.1)
    refine go_aload_n dX5_readNot_18 rfl ?_
    refine go_sipush dX5_readNot_19 (by decide) ?_
    refine go_iconst dX5_readNot_22 ?_
    refine go_iconst dX5_readNot_23 ?_
    refine go_callV_v (as := [vi 215, vi 0, vi 0]) (S := []) (b := 76) (ev_X5_add (m := m_10) (k := 215) (g := 0) (v := 0) (by first | assumption | omega | exact ⟨by omega, by omega⟩ | (constructor <;> omega)) (by first | assumption | omega | exact ⟨by omega, by omega⟩ | (constructor <;> omega)) (by first | assumption | omega | exact ⟨by omega, by omega⟩ | (constructor <;> omega)) (by rw [x2.2.2.2.1]; simp only [List.length_append]; have h := hR x1; omega)) rfl dX5_readNot_24 cv_5_64 rfl rfl ob_76 rfl (by decide) (Nat.le_of_ble_eq_true rfl) (fun m_24 hr_24 => ?_)
    have sq3 := x2.add (k := 215) (g := 0) (v := 0)
    subst hr_24
    refine go_iconst dX5_readNot_27 ?_
    refine go_ret (v := 1) rfl dX5_readNot_28 (okZ (by first | exact Or.inl rfl | exact Or.inr rfl | assumption | omega)) ?_
    rw [List.append_assoc] at sq3
    exact Or.inl ⟨rfl, x1, sq3⟩
  · refine go_iconst dX5_readNot_16 ?_
    refine go_ret (v := 0) rfl dX5_readNot_17 (okZ (by first | exact Or.inl rfl | exact Or.inr rfl | assumption | omega)) ?_
    obtain ⟨-, x1, x2⟩ := hr_10.resolve_left (fun h => by have := h.1; omega)
    exact Or.inr ⟨rfl, x1, x2⟩
set_option maxRecDepth 4000 in
theorem ev_X5_brk2 {m : Mem} {B : Mem} {i : Int} {o : Int} {l : List Cd} {k : Int} (hsq : SQ B m i o l) (hk : TkS B) (hdb : DnOk B 8) (ho : 1 ≤ o ∧ o ≤ 20) (hl : (l.length : Int) + 2 ≤ 2 * o) (hd : k = 7) (hki : B 4 i = 40) : Ev 0 19 mX5_readBracket [vr 76, vr 1, vr 8, vi k] m (fun r m' => QP B r m' l (brkF (B 4) (seqF (B 4) 213 (seqF (B 4) 214 (oneF B 1))) i o)) := by
  refine Ev.of (L := [vr 76, vr 1, vr 8, vi k]) (by decide +kernel) rfl (Nat.le_of_ble_eq_true rfl) rfl (fun t ht => by cases ht; first | exact Or.inl rfl | exact Or.inr (Or.inl rfl) | exact Or.inr (Or.inr rfl)) (fun hcan => ?_)
  have hi := hsq.2.1
  have hkb := hk.1
  have h0 := hsq.2.2.1
  have h1 := hsq.2.2.2.1
  have e12 := hsq.1.1
  have e11 := hsq.1.2.1
  refine go_aload_n dX5_readBracket_0 rfl ?_
  refine go_callV_v (as := []) (S := []) (b := 1) (ev_X7_next (m := m)  (by rw [hsq.1.1, hsq.1.2.1]; have h := hk.lt hsq.2.1.2 (by omega); have h2 := hsq.2.1; omega)) rfl dX5_readBracket_1 cv_5_47 rfl rfl ob_1 rfl (by decide) (Nat.le_of_ble_eq_true rfl) (fun m_1 hr_1 => ?_)
  have sq1 := hsq.nx hk (by omega)
  subst hr_1
  refine go_aload_n dX5_readBracket_4 rfl ?_
  refine go_aload_n dX5_readBracket_5 rfl ?_
  refine go_aload_n dX5_readBracket_6 rfl ?_
  refine go_iload_n dX5_readBracket_7 rfl ?_
  refine go_iconst dX5_readBracket_8 ?_
  refine go_iadd dX5_readBracket_9 ?_
  refine go_callV_z (as := [vr 1, vr 8, vi (k + 1)]) (S := []) (b := 76) (ev_X5_con1 (m := (nxt m)) (k := (k + 1)) (B := B) (i := (i + 1)) (o := o) (l := l) sq1 (by first | assumption | omega | exact ⟨by omega, by omega⟩ | (constructor <;> omega)) (by first | assumption | omega | exact ⟨by omega, by omega⟩ | (constructor <;> omega)) (by first | assumption | omega | exact ⟨by omega, by omega⟩ | (constructor <;> omega)) (by omega) (by first | assumption | omega | exact ⟨by omega, by omega⟩ | (constructor <;> omega))) rfl dX5_readBracket_10 cv_5_50 rfl rfl ob_76 rfl (by decide) (Nat.le_of_ble_eq_true rfl) (fun r_10 m_10 hr_10 ho_10 => ?_)
  obtain ⟨R, hRe⟩ : ∃ z, z = seqF (B 4) 213 (seqF (B 4) 214 (oneF B 1)) (i + 1) o := ⟨_, rfl⟩
  rw [← hRe] at hr_10
  refine go_if_ne (tgt := 18) dX5_readBracket_13 (by decide) ⟨by omega, by omega⟩ (fun h_13 => ?_) (fun h_13 => ?_)
  · obtain ⟨-, x1, x2⟩ := hr_10.resolve_right (fun h => h_13 h.1)
    refine go_aload_n dX5_readBracket_18 rfl ?_
    refine go_getf_i (ki := 2) dX5_readBracket_19 fl_5_54 ob_1 rfl rfl (fun hf_19 => ?_)
    rw [show (m_10 1 2 : Int) = (B 4 R.2.1) from x2.kd] at hf_19 ⊢
    refine go_bipush dX5_readBracket_22 (by decide) ?_
    refine go_icmp_eq (tgt := 33) dX5_readBracket_24 (by decide) ⟨by omega, by omega⟩ ⟨by omega, by omega⟩ (fun h_24 => ?_) (fun h_24 => ?_)
    · refine go_aload_n dX5_readBracket_33 rfl ?_
      refine go_callV_v (as := []) (S := []) (b := 1) (ev_X7_next (m := m_10)  (by rw [x2.1.1, x2.1.2.1]; have h := x2.2.1; have := hk.lt h.2 (by omega); omega)) rfl dX5_readBracket_34 cv_5_47 rfl rfl ob_1 rfl (by decide) (Nat.le_of_ble_eq_true rfl) (fun m_34 hr_34 => ?_)
      have sq3 := x2.nx hk (by omega)
      subst hr_34
      refine go_iconst dX5_readBracket_37 ?_
      refine go_ret (v := 1) rfl dX5_readBracket_38 (okZ (by first | exact Or.inl rfl | exact Or.inr rfl | assumption | omega)) ?_
      unfold brkF
      rw [← hRe, if_neg (fun z => z x1), if_pos (by omega)]
      exact Or.inl ⟨rfl, rfl, sq3⟩
    · refine go_aload_n dX5_readBracket_27 rfl ?_
      refine go_iconst dX5_readBracket_28 ?_
      refine go_callV_z (as := [vi 1]) (S := []) (b := 1) (ev_X7_refuse (m := m_10) (k := 1) (by first | assumption | omega | exact ⟨by omega, by omega⟩ | (constructor <;> omega))) rfl dX5_readBracket_29 cv_5_57 rfl rfl ob_1 rfl (by decide) (Nat.le_of_ble_eq_true rfl) (fun r_29 m_29 hr_29 ho_29 => ?_)
      refine go_ret (v := r_29) rfl dX5_readBracket_32 (okZ (by first | exact Or.inl rfl | exact Or.inr rfl | assumption | omega)) ?_
      unfold brkF
      rw [← hRe, if_neg (fun z => z x1), if_neg (by omega), hr_29.2]
      exact Or.inr ⟨by omega, (show (1 : Int) ≠ 0 by decide), x2.ref⟩
  · refine go_iconst dX5_readBracket_16 ?_
    refine go_ret (v := 0) rfl dX5_readBracket_17 (okZ (by first | exact Or.inl rfl | exact Or.inr rfl | assumption | omega)) ?_
    obtain ⟨-, x1, x2⟩ := hr_10.resolve_left (fun h => by have := h.1; omega)
    unfold brkF
    rw [← hRe, if_pos x1]
    exact Or.inr ⟨rfl, x1, x2⟩
set_option maxRecDepth 4000 in
theorem ev_X5_one2 {m : Mem} {B : Mem} {i : Int} {o : Int} {l : List Cd} {k : Int} (hsq : SQ B m i o l) (hk : TkS B) (hdb : DnOk B 8) (ho : 0 ≤ o ∧ o ≤ 20) (hl : (l.length : Int) ≤ 2 * o) (hd : k = 7) : Ev 0 20 mX5_readOne [vr 76, vr 1, vr 8, vi k] m (fun r m' => QP B r m' l (oneF B 2 i o)) := by
  refine Ev.of (L := [vr 76, vr 1, vr 8, vi k, un]) (by decide +kernel) rfl (Nat.le_of_ble_eq_true rfl) rfl (fun t ht => by cases ht; first | exact Or.inl rfl | exact Or.inr (Or.inl rfl) | exact Or.inr (Or.inr rfl)) (fun hcan => ?_)
  have hi := hsq.2.1
  have hkb := hk.1
  have h0 := hsq.2.2.1
  have h1 := hsq.2.2.2.1
  have e12 := hsq.1.1
  have e11 := hsq.1.2.1
  refine go_aload_n dX5_readOne_0 rfl ?_
  refine go_getf_i (ki := 2) dX5_readOne_1 fl_5_54 ob_1 rfl rfl (fun hf_1 => ?_)
  rw [show (m 1 2 : Int) = (B 4 i) from hsq.kd] at hf_1 ⊢
  refine go_istore (L' := [vr 76, vr 1, vr 8, vi k, vi (B 4 i)]) dX5_readOne_4 (by decide) rfl rfl ?_
  refine go_iload dX5_readOne_6 rfl ?_
  refine go_bipush dX5_readOne_8 (by decide) ?_
  refine go_icmp_eq (tgt := 33) dX5_readOne_10 (by decide) ⟨by omega, by omega⟩ ⟨by omega, by omega⟩ (fun h_10 => ?_) (fun h_10 => ?_)
  · refine go_aload_n dX5_readOne_33 rfl ?_
    refine go_getf_i (ki := 0) dX5_readOne_34 fl_5_9 ob_76 rfl rfl (fun hf_34 => ?_)
    rw [show (m 76 0 : Int) = o from h0] at hf_34 ⊢
    refine go_bipush dX5_readOne_37 (by decide) ?_
    refine go_icmp_ge (tgt := 48) dX5_readOne_39 (by decide) ⟨by omega, by omega⟩ ⟨by omega, by omega⟩ (fun h_39 => ?_) (fun h_39 => ?_)
    · refine go_aload_n dX5_readOne_48 rfl ?_
      refine go_iconst dX5_readOne_49 ?_
      refine go_callV_z (as := [vi 4]) (S := []) (b := 1) (ev_X7_refuse (m := m) (k := 4) (by first | assumption | omega | exact ⟨by omega, by omega⟩ | (constructor <;> omega))) rfl dX5_readOne_50 cv_5_57 rfl rfl ob_1 rfl (by decide) (Nat.le_of_ble_eq_true rfl) (fun r_50 m_50 hr_50 ho_50 => ?_)
      refine go_ret (v := r_50) rfl dX5_readOne_53 (okZ (by first | exact Or.inl rfl | exact Or.inr rfl | assumption | omega)) ?_
      rw [hr_50.2, show oneF B 2 i o = (4, i, o, []) by unfold oneF; rw [if_neg (by omega), if_pos (by omega)]]
      exact Or.inr ⟨by omega, (show (4 : Int) ≠ 0 by decide), hsq.ref⟩
    · refine go_iload_n dX5_readOne_42 rfl ?_
      refine go_bipush dX5_readOne_43 (by decide) ?_
      refine go_icmp_le (tgt := 54) dX5_readOne_45 (by decide) ⟨by omega, by omega⟩ ⟨by omega, by omega⟩ (fun h_45 => ?_) (fun h_45 => ?_)
      · refine go_aload_n dX5_readOne_54 rfl ?_
        refine go_dup_r dX5_readOne_55 ?_
        refine go_getf_i (ki := 0) dX5_readOne_56 fl_5_9 ob_76 rfl rfl (fun hf_56 => ?_)
        rw [show (m 76 0 : Int) = o from h0] at hf_56 ⊢
        refine go_iconst dX5_readOne_59 ?_
        refine go_iadd dX5_readOne_60 ?_
        refine go_putf_i (ki := 0) dX5_readOne_61 fw_5_9 ob_76 rfl rfl ⟨by omega, by omega⟩ ?_
        have sq1 := hsq.one (x := o + 1)
        refine go_iload dX5_readOne_64 rfl ?_
        by_cases hk_66_0 : (B 4 i) = 40
        · refine go_lswitch (off := 82) (tgt := 148) dX5_readOne_66 ⟨by omega, by omega⟩ (by decide) (by rw [hk_66_0] <;> rfl) (by decide) ?_
          refine go_aload_n dX5_readOne_148 rfl ?_
          refine go_aload_n dX5_readOne_149 rfl ?_
          refine go_aload_n dX5_readOne_150 rfl ?_
          refine go_iload_n dX5_readOne_151 rfl ?_
          refine go_callV_z (as := [vr 1, vr 8, vi k]) (S := []) (b := 76) (ev_X5_brk2 (m := (wr m 76 0 (o + 1))) (k := k) (B := B) (i := i) (o := (o + 1)) (l := l) sq1 (by first | assumption | omega | exact ⟨by omega, by omega⟩ | (constructor <;> omega)) (by first | assumption | omega | exact ⟨by omega, by omega⟩ | (constructor <;> omega)) (by omega) (by omega) (by first | assumption | omega | exact ⟨by omega, by omega⟩ | (constructor <;> omega)) (by first | assumption | omega | exact ⟨by omega, by omega⟩ | (constructor <;> omega))) rfl dX5_readOne_152 cv_5_78 rfl rfl ob_76 rfl (by decide) (Nat.le_of_ble_eq_true rfl) (fun r_152 m_152 hr_152 ho_152 => ?_)
          refine go_ret (v := r_152) rfl dX5_readOne_155 (okZ (by first | exact Or.inl rfl | exact Or.inr rfl | assumption | omega)) ?_
          rw [show oneF B 2 i o = brkF (B 4) (seqF (B 4) 213 (seqF (B 4) 214 (oneF B 1))) i (o + 1) by unfold oneF; rw [if_neg (by omega), if_neg (by omega), if_neg (by omega), if_pos (by omega)]]
          exact hr_152
        · skip
          by_cases hk_66_1 : (B 4 i) = 215
          · refine go_lswitch (off := 74) (tgt := 140) dX5_readOne_66 ⟨by omega, by omega⟩ (by decide) (by rw [hk_66_1] <;> rfl) (by decide) ?_
            refine go_aload_n dX5_readOne_140 rfl ?_
            refine go_aload_n dX5_readOne_141 rfl ?_
            refine go_aload_n dX5_readOne_142 rfl ?_
            refine go_iload_n dX5_readOne_143 rfl ?_
            refine go_callV_z (as := [vr 1, vr 8, vi k]) (S := []) (b := 76) (ev_X5_not2 (m := (wr m 76 0 (o + 1))) (k := k) (B := B) (i := i) (o := (o + 1)) (l := l) sq1 (by first | assumption | omega | exact ⟨by omega, by omega⟩ | (constructor <;> omega)) (by first | assumption | omega | exact ⟨by omega, by omega⟩ | (constructor <;> omega)) (by omega) (by omega) (by first | assumption | omega | exact ⟨by omega, by omega⟩ | (constructor <;> omega)) (by first | assumption | omega | exact ⟨by omega, by omega⟩ | (constructor <;> omega))) rfl dX5_readOne_144 cv_5_75 rfl rfl ob_76 rfl (by decide) (Nat.le_of_ble_eq_true rfl) (fun r_144 m_144 hr_144 ho_144 => ?_)
            refine go_ret (v := r_144) rfl dX5_readOne_147 (okZ (by first | exact Or.inl rfl | exact Or.inr rfl | assumption | omega)) ?_
            rw [show oneF B 2 i o = notF (oneF B 1) i (o + 1) by unfold oneF; rw [if_neg (by omega), if_neg (by omega), if_pos (by omega)]]
            exact hr_144
          · skip
            by_cases hk_66_2 : (B 4 i) = 219
            · refine go_lswitch (off := 90) (tgt := 156) dX5_readOne_66 ⟨by omega, by omega⟩ (by decide) (by rw [hk_66_2] <;> rfl) (by decide) ?_
              refine go_aload_n dX5_readOne_156 rfl ?_
              refine go_aload_n dX5_readOne_157 rfl ?_
              refine go_aload_n dX5_readOne_158 rfl ?_
              refine go_iload dX5_readOne_159 rfl ?_
              refine go_callV_z (as := [vr 1, vr 8, vi (B 4 i)]) (S := []) (b := 76) (ev_X5_readNamed (m := (wr m 76 0 (o + 1))) (k := (B 4 i)) (B := B) (i := i) (o := (o + 1)) (l := l) sq1 (by first | assumption | omega | exact ⟨by omega, by omega⟩ | (constructor <;> omega)) (by first | assumption | omega | exact ⟨by omega, by omega⟩ | (constructor <;> omega)) (by omega) (by omega) (by first | assumption | omega | exact ⟨by omega, by omega⟩ | (constructor <;> omega)) (by first | assumption | omega | exact ⟨by omega, by omega⟩ | (constructor <;> omega))) rfl dX5_readOne_161 cv_5_81 rfl rfl ob_76 rfl (by decide) (Nat.le_of_ble_eq_true rfl) (fun r_161 m_161 hr_161 ho_161 => ?_)
              refine go_ret (v := r_161) rfl dX5_readOne_164 (okZ (by first | exact Or.inl rfl | exact Or.inr rfl | assumption | omega)) ?_
              rw [show oneF B 2 i o = namF B i (o + 1) by unfold oneF; rw [if_neg (by omega), if_neg (by omega), if_neg (by omega), if_neg (by omega), if_pos (by omega)]]
              exact hr_161
            · skip
              by_cases hk_66_3 : (B 4 i) = 220
              · refine go_lswitch (off := 90) (tgt := 156) dX5_readOne_66 ⟨by omega, by omega⟩ (by decide) (by rw [hk_66_3] <;> rfl) (by decide) ?_
                refine go_aload_n dX5_readOne_156 rfl ?_
                refine go_aload_n dX5_readOne_157 rfl ?_
                refine go_aload_n dX5_readOne_158 rfl ?_
                refine go_iload dX5_readOne_159 rfl ?_
                refine go_callV_z (as := [vr 1, vr 8, vi (B 4 i)]) (S := []) (b := 76) (ev_X5_readNamed (m := (wr m 76 0 (o + 1))) (k := (B 4 i)) (B := B) (i := i) (o := (o + 1)) (l := l) sq1 (by first | assumption | omega | exact ⟨by omega, by omega⟩ | (constructor <;> omega)) (by first | assumption | omega | exact ⟨by omega, by omega⟩ | (constructor <;> omega)) (by omega) (by omega) (by first | assumption | omega | exact ⟨by omega, by omega⟩ | (constructor <;> omega)) (by first | assumption | omega | exact ⟨by omega, by omega⟩ | (constructor <;> omega))) rfl dX5_readOne_161 cv_5_81 rfl rfl ob_76 rfl (by decide) (Nat.le_of_ble_eq_true rfl) (fun r_161 m_161 hr_161 ho_161 => ?_)
                refine go_ret (v := r_161) rfl dX5_readOne_164 (okZ (by first | exact Or.inl rfl | exact Or.inr rfl | assumption | omega)) ?_
                rw [show oneF B 2 i o = namF B i (o + 1) by unfold oneF; rw [if_neg (by omega), if_neg (by omega), if_neg (by omega), if_neg (by omega), if_pos (by omega)]]
                exact hr_161
              · skip
                by_cases hk_66_4 : (B 4 i) = 221
                · refine go_lswitch (off := 99) (tgt := 165) dX5_readOne_66 ⟨by omega, by omega⟩ (by decide) (by rw [hk_66_4] <;> rfl) (by decide) ?_
                  refine go_aload_n dX5_readOne_165 rfl ?_
                  refine go_aload_n dX5_readOne_166 rfl ?_
                  refine go_iload dX5_readOne_167 rfl ?_
                  refine go_callV_z (as := [vr 1, vi (B 4 i)]) (S := []) (b := 76) (ev_X5_readCompared (m := (wr m 76 0 (o + 1))) (k := (B 4 i)) (B := B) (i := i) (o := (o + 1)) (l := l) sq1 (by first | assumption | omega | exact ⟨by omega, by omega⟩ | (constructor <;> omega)) (by first | assumption | omega | exact ⟨by omega, by omega⟩ | (constructor <;> omega)) (by omega) (by omega) (by first | assumption | omega | exact ⟨by omega, by omega⟩ | (constructor <;> omega)) (by first | assumption | omega | exact ⟨by omega, by omega⟩ | (constructor <;> omega))) rfl dX5_readOne_169 cv_5_84 rfl rfl ob_76 rfl (by decide) (Nat.le_of_ble_eq_true rfl) (fun r_169 m_169 hr_169 ho_169 => ?_)
                  refine go_ret (v := r_169) rfl dX5_readOne_172 (okZ (by first | exact Or.inl rfl | exact Or.inr rfl | assumption | omega)) ?_
                  rw [show oneF B 2 i o = cmpF B i (o + 1) by unfold oneF; rw [if_neg (by omega), if_neg (by omega), if_neg (by omega), if_neg (by omega), if_neg (by omega), if_pos (by omega)]]
                  exact hr_169
                · skip
                  by_cases hk_66_5 : (B 4 i) = 222
                  · refine go_lswitch (off := 99) (tgt := 165) dX5_readOne_66 ⟨by omega, by omega⟩ (by decide) (by rw [hk_66_5] <;> rfl) (by decide) ?_
                    refine go_aload_n dX5_readOne_165 rfl ?_
                    refine go_aload_n dX5_readOne_166 rfl ?_
                    refine go_iload dX5_readOne_167 rfl ?_
                    refine go_callV_z (as := [vr 1, vi (B 4 i)]) (S := []) (b := 76) (ev_X5_readCompared (m := (wr m 76 0 (o + 1))) (k := (B 4 i)) (B := B) (i := i) (o := (o + 1)) (l := l) sq1 (by first | assumption | omega | exact ⟨by omega, by omega⟩ | (constructor <;> omega)) (by first | assumption | omega | exact ⟨by omega, by omega⟩ | (constructor <;> omega)) (by omega) (by omega) (by first | assumption | omega | exact ⟨by omega, by omega⟩ | (constructor <;> omega)) (by first | assumption | omega | exact ⟨by omega, by omega⟩ | (constructor <;> omega))) rfl dX5_readOne_169 cv_5_84 rfl rfl ob_76 rfl (by decide) (Nat.le_of_ble_eq_true rfl) (fun r_169 m_169 hr_169 ho_169 => ?_)
                    refine go_ret (v := r_169) rfl dX5_readOne_172 (okZ (by first | exact Or.inl rfl | exact Or.inr rfl | assumption | omega)) ?_
                    rw [show oneF B 2 i o = cmpF B i (o + 1) by unfold oneF; rw [if_neg (by omega), if_neg (by omega), if_neg (by omega), if_neg (by omega), if_neg (by omega), if_pos (by omega)]]
                    exact hr_169
                  · skip
                    by_cases hk_66_6 : (B 4 i) = 223
                    · refine go_lswitch (off := 99) (tgt := 165) dX5_readOne_66 ⟨by omega, by omega⟩ (by decide) (by rw [hk_66_6] <;> rfl) (by decide) ?_
                      refine go_aload_n dX5_readOne_165 rfl ?_
                      refine go_aload_n dX5_readOne_166 rfl ?_
                      refine go_iload dX5_readOne_167 rfl ?_
                      refine go_callV_z (as := [vr 1, vi (B 4 i)]) (S := []) (b := 76) (ev_X5_readCompared (m := (wr m 76 0 (o + 1))) (k := (B 4 i)) (B := B) (i := i) (o := (o + 1)) (l := l) sq1 (by first | assumption | omega | exact ⟨by omega, by omega⟩ | (constructor <;> omega)) (by first | assumption | omega | exact ⟨by omega, by omega⟩ | (constructor <;> omega)) (by omega) (by omega) (by first | assumption | omega | exact ⟨by omega, by omega⟩ | (constructor <;> omega)) (by first | assumption | omega | exact ⟨by omega, by omega⟩ | (constructor <;> omega))) rfl dX5_readOne_169 cv_5_84 rfl rfl ob_76 rfl (by decide) (Nat.le_of_ble_eq_true rfl) (fun r_169 m_169 hr_169 ho_169 => ?_)
                      refine go_ret (v := r_169) rfl dX5_readOne_172 (okZ (by first | exact Or.inl rfl | exact Or.inr rfl | assumption | omega)) ?_
                      rw [show oneF B 2 i o = cmpF B i (o + 1) by unfold oneF; rw [if_neg (by omega), if_neg (by omega), if_neg (by omega), if_neg (by omega), if_neg (by omega), if_pos (by omega)]]
                      exact hr_169
                    · skip
                      by_cases hk_66_7 : (B 4 i) = 224
                      · refine go_lswitch (off := 99) (tgt := 165) dX5_readOne_66 ⟨by omega, by omega⟩ (by decide) (by rw [hk_66_7] <;> rfl) (by decide) ?_
                        refine go_aload_n dX5_readOne_165 rfl ?_
                        refine go_aload_n dX5_readOne_166 rfl ?_
                        refine go_iload dX5_readOne_167 rfl ?_
                        refine go_callV_z (as := [vr 1, vi (B 4 i)]) (S := []) (b := 76) (ev_X5_readCompared (m := (wr m 76 0 (o + 1))) (k := (B 4 i)) (B := B) (i := i) (o := (o + 1)) (l := l) sq1 (by first | assumption | omega | exact ⟨by omega, by omega⟩ | (constructor <;> omega)) (by first | assumption | omega | exact ⟨by omega, by omega⟩ | (constructor <;> omega)) (by omega) (by omega) (by first | assumption | omega | exact ⟨by omega, by omega⟩ | (constructor <;> omega)) (by first | assumption | omega | exact ⟨by omega, by omega⟩ | (constructor <;> omega))) rfl dX5_readOne_169 cv_5_84 rfl rfl ob_76 rfl (by decide) (Nat.le_of_ble_eq_true rfl) (fun r_169 m_169 hr_169 ho_169 => ?_)
                        refine go_ret (v := r_169) rfl dX5_readOne_172 (okZ (by first | exact Or.inl rfl | exact Or.inr rfl | assumption | omega)) ?_
                        rw [show oneF B 2 i o = cmpF B i (o + 1) by unfold oneF; rw [if_neg (by omega), if_neg (by omega), if_neg (by omega), if_neg (by omega), if_neg (by omega), if_pos (by omega)]]
                        exact hr_169
                      · skip
                        refine go_lswitch (off := 107) (tgt := 173) dX5_readOne_66 ⟨by omega, by omega⟩ (by decide) (by simp [Op.lookupswitch.offset, hk_66_0, show ¬ (40 : Int) = (B 4 i) from fun z => hk_66_0 z.symm, hk_66_1, show ¬ (215 : Int) = (B 4 i) from fun z => hk_66_1 z.symm, hk_66_2, show ¬ (219 : Int) = (B 4 i) from fun z => hk_66_2 z.symm, hk_66_3, show ¬ (220 : Int) = (B 4 i) from fun z => hk_66_3 z.symm, hk_66_4, show ¬ (221 : Int) = (B 4 i) from fun z => hk_66_4 z.symm, hk_66_5, show ¬ (222 : Int) = (B 4 i) from fun z => hk_66_5 z.symm, hk_66_6, show ¬ (223 : Int) = (B 4 i) from fun z => hk_66_6 z.symm, hk_66_7, show ¬ (224 : Int) = (B 4 i) from fun z => hk_66_7 z.symm]) (by decide) ?_
                        refine go_aload_n dX5_readOne_173 rfl ?_
                        refine go_iload dX5_readOne_174 rfl ?_
                        refine go_iconst dX5_readOne_176 ?_
                        refine go_iconst dX5_readOne_177 ?_
                        refine go_callV_v (as := [vi (B 4 i), vi 0, vi 0]) (S := []) (b := 76) (ev_X5_add (m := (wr m 76 0 (o + 1))) (k := (B 4 i)) (g := 0) (v := 0) (by first | assumption | omega | exact ⟨by omega, by omega⟩ | (constructor <;> omega)) (by first | assumption | omega | exact ⟨by omega, by omega⟩ | (constructor <;> omega)) (by first | assumption | omega | exact ⟨by omega, by omega⟩ | (constructor <;> omega)) (by rw [sq1.2.2.2.1]; omega)) rfl dX5_readOne_178 cv_5_64 rfl rfl ob_76 rfl (by decide) (Nat.le_of_ble_eq_true rfl) (fun m_178 hr_178 => ?_)
                        have sq3 := sq1.add (k := B 4 i) (g := 0) (v := 0)
                        subst hr_178
                        refine go_aload_n dX5_readOne_181 rfl ?_
                        refine go_callV_v (as := []) (S := []) (b := 1) (ev_X7_next (m := (addM (wr m 76 0 (o + 1)) (B 4 i) 0 0))  (by rw [sq3.1.1, sq3.1.2.1]; have h := hk.lt sq3.2.1.2 (by omega); have h2 := sq3.2.1; omega)) rfl dX5_readOne_182 cv_5_47 rfl rfl ob_1 rfl (by decide) (Nat.le_of_ble_eq_true rfl) (fun m_182 hr_182 => ?_)
                        have sq4 := sq3.nx hk (by omega)
                        subst hr_182
                        refine go_iconst dX5_readOne_185 ?_
                        refine go_ret (v := 1) rfl dX5_readOne_186 (okZ (by first | exact Or.inl rfl | exact Or.inr rfl | assumption | omega)) ?_
                        rw [show oneF B 2 i o = (0, i + 1, o + 1, [(B 4 i, 0, 0)]) by unfold oneF; rw [if_neg (by omega), if_neg (by omega), if_neg (by omega), if_neg (by omega), if_neg (by omega), if_neg (by omega)]]
                        exact Or.inl ⟨rfl, rfl, sq4⟩
      · exfalso; omega
  · refine go_iload dX5_readOne_13 rfl ?_
    refine go_sipush dX5_readOne_15 (by decide) ?_
    refine go_sipush dX5_readOne_18 (by decide) ?_
    refine go_callSp_z (as := [vi (B 4 i), vi 215, vi 224]) (S := []) (ev_X11_isIn (m := m) (n := (B 4 i)) (lo := 215) (hi := 224) (by first | assumption | omega | exact ⟨by omega, by omega⟩ | (constructor <;> omega)) (by first | assumption | omega | exact ⟨by omega, by omega⟩ | (constructor <;> omega)) (by first | assumption | omega | exact ⟨by omega, by omega⟩ | (constructor <;> omega))) rfl dX5_readOne_21 cs_5_71 rfl rfl (by decide) (Nat.le_of_ble_eq_true rfl) (fun r_21 hr_21 ho_21 => ?_)
    refine go_if_ne (tgt := 33) dX5_readOne_24 (by decide) ⟨by omega, by omega⟩ (fun h_24 => ?_) (fun h_24 => ?_)
    · refine go_aload_n dX5_readOne_33 rfl ?_
      refine go_getf_i (ki := 0) dX5_readOne_34 fl_5_9 ob_76 rfl rfl (fun hf_34 => ?_)
      rw [show (m 76 0 : Int) = o from h0] at hf_34 ⊢
      refine go_bipush dX5_readOne_37 (by decide) ?_
      refine go_icmp_ge (tgt := 48) dX5_readOne_39 (by decide) ⟨by omega, by omega⟩ ⟨by omega, by omega⟩ (fun h_39 => ?_) (fun h_39 => ?_)
      · refine go_aload_n dX5_readOne_48 rfl ?_
        refine go_iconst dX5_readOne_49 ?_
        refine go_callV_z (as := [vi 4]) (S := []) (b := 1) (ev_X7_refuse (m := m) (k := 4) (by first | assumption | omega | exact ⟨by omega, by omega⟩ | (constructor <;> omega))) rfl dX5_readOne_50 cv_5_57 rfl rfl ob_1 rfl (by decide) (Nat.le_of_ble_eq_true rfl) (fun r_50 m_50 hr_50 ho_50 => ?_)
        refine go_ret (v := r_50) rfl dX5_readOne_53 (okZ (by first | exact Or.inl rfl | exact Or.inr rfl | assumption | omega)) ?_
        rw [hr_50.2, show oneF B 2 i o = (4, i, o, []) by unfold oneF; rw [if_neg (by omega), if_pos (by omega)]]
        exact Or.inr ⟨by omega, (show (4 : Int) ≠ 0 by decide), hsq.ref⟩
      · refine go_iload_n dX5_readOne_42 rfl ?_
        refine go_bipush dX5_readOne_43 (by decide) ?_
        refine go_icmp_le (tgt := 54) dX5_readOne_45 (by decide) ⟨by omega, by omega⟩ ⟨by omega, by omega⟩ (fun h_45 => ?_) (fun h_45 => ?_)
        · refine go_aload_n dX5_readOne_54 rfl ?_
          refine go_dup_r dX5_readOne_55 ?_
          refine go_getf_i (ki := 0) dX5_readOne_56 fl_5_9 ob_76 rfl rfl (fun hf_56 => ?_)
          rw [show (m 76 0 : Int) = o from h0] at hf_56 ⊢
          refine go_iconst dX5_readOne_59 ?_
          refine go_iadd dX5_readOne_60 ?_
          refine go_putf_i (ki := 0) dX5_readOne_61 fw_5_9 ob_76 rfl rfl ⟨by omega, by omega⟩ ?_
          have sq1 := hsq.one (x := o + 1)
          refine go_iload dX5_readOne_64 rfl ?_
          by_cases hk_66_0 : (B 4 i) = 40
          · refine go_lswitch (off := 82) (tgt := 148) dX5_readOne_66 ⟨by omega, by omega⟩ (by decide) (by rw [hk_66_0] <;> rfl) (by decide) ?_
            refine go_aload_n dX5_readOne_148 rfl ?_
            refine go_aload_n dX5_readOne_149 rfl ?_
            refine go_aload_n dX5_readOne_150 rfl ?_
            refine go_iload_n dX5_readOne_151 rfl ?_
            refine go_callV_z (as := [vr 1, vr 8, vi k]) (S := []) (b := 76) (ev_X5_brk2 (m := (wr m 76 0 (o + 1))) (k := k) (B := B) (i := i) (o := (o + 1)) (l := l) sq1 (by first | assumption | omega | exact ⟨by omega, by omega⟩ | (constructor <;> omega)) (by first | assumption | omega | exact ⟨by omega, by omega⟩ | (constructor <;> omega)) (by omega) (by omega) (by first | assumption | omega | exact ⟨by omega, by omega⟩ | (constructor <;> omega)) (by first | assumption | omega | exact ⟨by omega, by omega⟩ | (constructor <;> omega))) rfl dX5_readOne_152 cv_5_78 rfl rfl ob_76 rfl (by decide) (Nat.le_of_ble_eq_true rfl) (fun r_152 m_152 hr_152 ho_152 => ?_)
            refine go_ret (v := r_152) rfl dX5_readOne_155 (okZ (by first | exact Or.inl rfl | exact Or.inr rfl | assumption | omega)) ?_
            rw [show oneF B 2 i o = brkF (B 4) (seqF (B 4) 213 (seqF (B 4) 214 (oneF B 1))) i (o + 1) by unfold oneF; rw [if_neg (by omega), if_neg (by omega), if_neg (by omega), if_pos (by omega)]]
            exact hr_152
          · skip
            by_cases hk_66_1 : (B 4 i) = 215
            · refine go_lswitch (off := 74) (tgt := 140) dX5_readOne_66 ⟨by omega, by omega⟩ (by decide) (by rw [hk_66_1] <;> rfl) (by decide) ?_
              refine go_aload_n dX5_readOne_140 rfl ?_
              refine go_aload_n dX5_readOne_141 rfl ?_
              refine go_aload_n dX5_readOne_142 rfl ?_
              refine go_iload_n dX5_readOne_143 rfl ?_
              refine go_callV_z (as := [vr 1, vr 8, vi k]) (S := []) (b := 76) (ev_X5_not2 (m := (wr m 76 0 (o + 1))) (k := k) (B := B) (i := i) (o := (o + 1)) (l := l) sq1 (by first | assumption | omega | exact ⟨by omega, by omega⟩ | (constructor <;> omega)) (by first | assumption | omega | exact ⟨by omega, by omega⟩ | (constructor <;> omega)) (by omega) (by omega) (by first | assumption | omega | exact ⟨by omega, by omega⟩ | (constructor <;> omega)) (by first | assumption | omega | exact ⟨by omega, by omega⟩ | (constructor <;> omega))) rfl dX5_readOne_144 cv_5_75 rfl rfl ob_76 rfl (by decide) (Nat.le_of_ble_eq_true rfl) (fun r_144 m_144 hr_144 ho_144 => ?_)
              refine go_ret (v := r_144) rfl dX5_readOne_147 (okZ (by first | exact Or.inl rfl | exact Or.inr rfl | assumption | omega)) ?_
              rw [show oneF B 2 i o = notF (oneF B 1) i (o + 1) by unfold oneF; rw [if_neg (by omega), if_neg (by omega), if_pos (by omega)]]
              exact hr_144
            · skip
              by_cases hk_66_2 : (B 4 i) = 219
              · refine go_lswitch (off := 90) (tgt := 156) dX5_readOne_66 ⟨by omega, by omega⟩ (by decide) (by rw [hk_66_2] <;> rfl) (by decide) ?_
                refine go_aload_n dX5_readOne_156 rfl ?_
                refine go_aload_n dX5_readOne_157 rfl ?_
                refine go_aload_n dX5_readOne_158 rfl ?_
                refine go_iload dX5_readOne_159 rfl ?_
                refine go_callV_z (as := [vr 1, vr 8, vi (B 4 i)]) (S := []) (b := 76) (ev_X5_readNamed (m := (wr m 76 0 (o + 1))) (k := (B 4 i)) (B := B) (i := i) (o := (o + 1)) (l := l) sq1 (by first | assumption | omega | exact ⟨by omega, by omega⟩ | (constructor <;> omega)) (by first | assumption | omega | exact ⟨by omega, by omega⟩ | (constructor <;> omega)) (by omega) (by omega) (by first | assumption | omega | exact ⟨by omega, by omega⟩ | (constructor <;> omega)) (by first | assumption | omega | exact ⟨by omega, by omega⟩ | (constructor <;> omega))) rfl dX5_readOne_161 cv_5_81 rfl rfl ob_76 rfl (by decide) (Nat.le_of_ble_eq_true rfl) (fun r_161 m_161 hr_161 ho_161 => ?_)
                refine go_ret (v := r_161) rfl dX5_readOne_164 (okZ (by first | exact Or.inl rfl | exact Or.inr rfl | assumption | omega)) ?_
                rw [show oneF B 2 i o = namF B i (o + 1) by unfold oneF; rw [if_neg (by omega), if_neg (by omega), if_neg (by omega), if_neg (by omega), if_pos (by omega)]]
                exact hr_161
              · skip
                by_cases hk_66_3 : (B 4 i) = 220
                · refine go_lswitch (off := 90) (tgt := 156) dX5_readOne_66 ⟨by omega, by omega⟩ (by decide) (by rw [hk_66_3] <;> rfl) (by decide) ?_
                  refine go_aload_n dX5_readOne_156 rfl ?_
                  refine go_aload_n dX5_readOne_157 rfl ?_
                  refine go_aload_n dX5_readOne_158 rfl ?_
                  refine go_iload dX5_readOne_159 rfl ?_
                  refine go_callV_z (as := [vr 1, vr 8, vi (B 4 i)]) (S := []) (b := 76) (ev_X5_readNamed (m := (wr m 76 0 (o + 1))) (k := (B 4 i)) (B := B) (i := i) (o := (o + 1)) (l := l) sq1 (by first | assumption | omega | exact ⟨by omega, by omega⟩ | (constructor <;> omega)) (by first | assumption | omega | exact ⟨by omega, by omega⟩ | (constructor <;> omega)) (by omega) (by omega) (by first | assumption | omega | exact ⟨by omega, by omega⟩ | (constructor <;> omega)) (by first | assumption | omega | exact ⟨by omega, by omega⟩ | (constructor <;> omega))) rfl dX5_readOne_161 cv_5_81 rfl rfl ob_76 rfl (by decide) (Nat.le_of_ble_eq_true rfl) (fun r_161 m_161 hr_161 ho_161 => ?_)
                  refine go_ret (v := r_161) rfl dX5_readOne_164 (okZ (by first | exact Or.inl rfl | exact Or.inr rfl | assumption | omega)) ?_
                  rw [show oneF B 2 i o = namF B i (o + 1) by unfold oneF; rw [if_neg (by omega), if_neg (by omega), if_neg (by omega), if_neg (by omega), if_pos (by omega)]]
                  exact hr_161
                · skip
                  by_cases hk_66_4 : (B 4 i) = 221
                  · refine go_lswitch (off := 99) (tgt := 165) dX5_readOne_66 ⟨by omega, by omega⟩ (by decide) (by rw [hk_66_4] <;> rfl) (by decide) ?_
                    refine go_aload_n dX5_readOne_165 rfl ?_
                    refine go_aload_n dX5_readOne_166 rfl ?_
                    refine go_iload dX5_readOne_167 rfl ?_
                    refine go_callV_z (as := [vr 1, vi (B 4 i)]) (S := []) (b := 76) (ev_X5_readCompared (m := (wr m 76 0 (o + 1))) (k := (B 4 i)) (B := B) (i := i) (o := (o + 1)) (l := l) sq1 (by first | assumption | omega | exact ⟨by omega, by omega⟩ | (constructor <;> omega)) (by first | assumption | omega | exact ⟨by omega, by omega⟩ | (constructor <;> omega)) (by omega) (by omega) (by first | assumption | omega | exact ⟨by omega, by omega⟩ | (constructor <;> omega)) (by first | assumption | omega | exact ⟨by omega, by omega⟩ | (constructor <;> omega))) rfl dX5_readOne_169 cv_5_84 rfl rfl ob_76 rfl (by decide) (Nat.le_of_ble_eq_true rfl) (fun r_169 m_169 hr_169 ho_169 => ?_)
                    refine go_ret (v := r_169) rfl dX5_readOne_172 (okZ (by first | exact Or.inl rfl | exact Or.inr rfl | assumption | omega)) ?_
                    rw [show oneF B 2 i o = cmpF B i (o + 1) by unfold oneF; rw [if_neg (by omega), if_neg (by omega), if_neg (by omega), if_neg (by omega), if_neg (by omega), if_pos (by omega)]]
                    exact hr_169
                  · skip
                    by_cases hk_66_5 : (B 4 i) = 222
                    · refine go_lswitch (off := 99) (tgt := 165) dX5_readOne_66 ⟨by omega, by omega⟩ (by decide) (by rw [hk_66_5] <;> rfl) (by decide) ?_
                      refine go_aload_n dX5_readOne_165 rfl ?_
                      refine go_aload_n dX5_readOne_166 rfl ?_
                      refine go_iload dX5_readOne_167 rfl ?_
                      refine go_callV_z (as := [vr 1, vi (B 4 i)]) (S := []) (b := 76) (ev_X5_readCompared (m := (wr m 76 0 (o + 1))) (k := (B 4 i)) (B := B) (i := i) (o := (o + 1)) (l := l) sq1 (by first | assumption | omega | exact ⟨by omega, by omega⟩ | (constructor <;> omega)) (by first | assumption | omega | exact ⟨by omega, by omega⟩ | (constructor <;> omega)) (by omega) (by omega) (by first | assumption | omega | exact ⟨by omega, by omega⟩ | (constructor <;> omega)) (by first | assumption | omega | exact ⟨by omega, by omega⟩ | (constructor <;> omega))) rfl dX5_readOne_169 cv_5_84 rfl rfl ob_76 rfl (by decide) (Nat.le_of_ble_eq_true rfl) (fun r_169 m_169 hr_169 ho_169 => ?_)
                      refine go_ret (v := r_169) rfl dX5_readOne_172 (okZ (by first | exact Or.inl rfl | exact Or.inr rfl | assumption | omega)) ?_
                      rw [show oneF B 2 i o = cmpF B i (o + 1) by unfold oneF; rw [if_neg (by omega), if_neg (by omega), if_neg (by omega), if_neg (by omega), if_neg (by omega), if_pos (by omega)]]
                      exact hr_169
                    · skip
                      by_cases hk_66_6 : (B 4 i) = 223
                      · refine go_lswitch (off := 99) (tgt := 165) dX5_readOne_66 ⟨by omega, by omega⟩ (by decide) (by rw [hk_66_6] <;> rfl) (by decide) ?_
                        refine go_aload_n dX5_readOne_165 rfl ?_
                        refine go_aload_n dX5_readOne_166 rfl ?_
                        refine go_iload dX5_readOne_167 rfl ?_
                        refine go_callV_z (as := [vr 1, vi (B 4 i)]) (S := []) (b := 76) (ev_X5_readCompared (m := (wr m 76 0 (o + 1))) (k := (B 4 i)) (B := B) (i := i) (o := (o + 1)) (l := l) sq1 (by first | assumption | omega | exact ⟨by omega, by omega⟩ | (constructor <;> omega)) (by first | assumption | omega | exact ⟨by omega, by omega⟩ | (constructor <;> omega)) (by omega) (by omega) (by first | assumption | omega | exact ⟨by omega, by omega⟩ | (constructor <;> omega)) (by first | assumption | omega | exact ⟨by omega, by omega⟩ | (constructor <;> omega))) rfl dX5_readOne_169 cv_5_84 rfl rfl ob_76 rfl (by decide) (Nat.le_of_ble_eq_true rfl) (fun r_169 m_169 hr_169 ho_169 => ?_)
                        refine go_ret (v := r_169) rfl dX5_readOne_172 (okZ (by first | exact Or.inl rfl | exact Or.inr rfl | assumption | omega)) ?_
                        rw [show oneF B 2 i o = cmpF B i (o + 1) by unfold oneF; rw [if_neg (by omega), if_neg (by omega), if_neg (by omega), if_neg (by omega), if_neg (by omega), if_pos (by omega)]]
                        exact hr_169
                      · skip
                        by_cases hk_66_7 : (B 4 i) = 224
                        · refine go_lswitch (off := 99) (tgt := 165) dX5_readOne_66 ⟨by omega, by omega⟩ (by decide) (by rw [hk_66_7] <;> rfl) (by decide) ?_
                          refine go_aload_n dX5_readOne_165 rfl ?_
                          refine go_aload_n dX5_readOne_166 rfl ?_
                          refine go_iload dX5_readOne_167 rfl ?_
                          refine go_callV_z (as := [vr 1, vi (B 4 i)]) (S := []) (b := 76) (ev_X5_readCompared (m := (wr m 76 0 (o + 1))) (k := (B 4 i)) (B := B) (i := i) (o := (o + 1)) (l := l) sq1 (by first | assumption | omega | exact ⟨by omega, by omega⟩ | (constructor <;> omega)) (by first | assumption | omega | exact ⟨by omega, by omega⟩ | (constructor <;> omega)) (by omega) (by omega) (by first | assumption | omega | exact ⟨by omega, by omega⟩ | (constructor <;> omega)) (by first | assumption | omega | exact ⟨by omega, by omega⟩ | (constructor <;> omega))) rfl dX5_readOne_169 cv_5_84 rfl rfl ob_76 rfl (by decide) (Nat.le_of_ble_eq_true rfl) (fun r_169 m_169 hr_169 ho_169 => ?_)
                          refine go_ret (v := r_169) rfl dX5_readOne_172 (okZ (by first | exact Or.inl rfl | exact Or.inr rfl | assumption | omega)) ?_
                          rw [show oneF B 2 i o = cmpF B i (o + 1) by unfold oneF; rw [if_neg (by omega), if_neg (by omega), if_neg (by omega), if_neg (by omega), if_neg (by omega), if_pos (by omega)]]
                          exact hr_169
                        · skip
                          refine go_lswitch (off := 107) (tgt := 173) dX5_readOne_66 ⟨by omega, by omega⟩ (by decide) (by simp [Op.lookupswitch.offset, hk_66_0, show ¬ (40 : Int) = (B 4 i) from fun z => hk_66_0 z.symm, hk_66_1, show ¬ (215 : Int) = (B 4 i) from fun z => hk_66_1 z.symm, hk_66_2, show ¬ (219 : Int) = (B 4 i) from fun z => hk_66_2 z.symm, hk_66_3, show ¬ (220 : Int) = (B 4 i) from fun z => hk_66_3 z.symm, hk_66_4, show ¬ (221 : Int) = (B 4 i) from fun z => hk_66_4 z.symm, hk_66_5, show ¬ (222 : Int) = (B 4 i) from fun z => hk_66_5 z.symm, hk_66_6, show ¬ (223 : Int) = (B 4 i) from fun z => hk_66_6 z.symm, hk_66_7, show ¬ (224 : Int) = (B 4 i) from fun z => hk_66_7 z.symm]) (by decide) ?_
                          refine go_aload_n dX5_readOne_173 rfl ?_
                          refine go_iload dX5_readOne_174 rfl ?_
                          refine go_iconst dX5_readOne_176 ?_
                          refine go_iconst dX5_readOne_177 ?_
                          refine go_callV_v (as := [vi (B 4 i), vi 0, vi 0]) (S := []) (b := 76) (ev_X5_add (m := (wr m 76 0 (o + 1))) (k := (B 4 i)) (g := 0) (v := 0) (by first | assumption | omega | exact ⟨by omega, by omega⟩ | (constructor <;> omega)) (by first | assumption | omega | exact ⟨by omega, by omega⟩ | (constructor <;> omega)) (by first | assumption | omega | exact ⟨by omega, by omega⟩ | (constructor <;> omega)) (by rw [sq1.2.2.2.1]; omega)) rfl dX5_readOne_178 cv_5_64 rfl rfl ob_76 rfl (by decide) (Nat.le_of_ble_eq_true rfl) (fun m_178 hr_178 => ?_)
                          have sq3 := sq1.add (k := B 4 i) (g := 0) (v := 0)
                          subst hr_178
                          refine go_aload_n dX5_readOne_181 rfl ?_
                          refine go_callV_v (as := []) (S := []) (b := 1) (ev_X7_next (m := (addM (wr m 76 0 (o + 1)) (B 4 i) 0 0))  (by rw [sq3.1.1, sq3.1.2.1]; have h := hk.lt sq3.2.1.2 (by omega); have h2 := sq3.2.1; omega)) rfl dX5_readOne_182 cv_5_47 rfl rfl ob_1 rfl (by decide) (Nat.le_of_ble_eq_true rfl) (fun m_182 hr_182 => ?_)
                          have sq4 := sq3.nx hk (by omega)
                          subst hr_182
                          refine go_iconst dX5_readOne_185 ?_
                          refine go_ret (v := 1) rfl dX5_readOne_186 (okZ (by first | exact Or.inl rfl | exact Or.inr rfl | assumption | omega)) ?_
                          rw [show oneF B 2 i o = (0, i + 1, o + 1, [(B 4 i, 0, 0)]) by unfold oneF; rw [if_neg (by omega), if_neg (by omega), if_neg (by omega), if_neg (by omega), if_neg (by omega), if_neg (by omega)]]
                          exact Or.inl ⟨rfl, rfl, sq4⟩
        · exfalso; omega
    · refine go_aload_n dX5_readOne_27 rfl ?_
      refine go_iconst dX5_readOne_28 ?_
      refine go_callV_z (as := [vi 1]) (S := []) (b := 1) (ev_X7_refuse (m := m) (k := 1) (by first | assumption | omega | exact ⟨by omega, by omega⟩ | (constructor <;> omega))) rfl dX5_readOne_29 cv_5_57 rfl rfl ob_1 rfl (by decide) (Nat.le_of_ble_eq_true rfl) (fun r_29 m_29 hr_29 ho_29 => ?_)
      refine go_ret (v := r_29) rfl dX5_readOne_32 (okZ (by first | exact Or.inl rfl | exact Or.inr rfl | assumption | omega)) ?_
      rw [hr_29.2, show oneF B 2 i o = (1, i, o, []) by unfold oneF; rw [if_pos (by omega)]]
      exact Or.inr ⟨by omega, (show (1 : Int) ≠ 0 by decide), hsq.ref⟩
set_option maxRecDepth 4000 in
theorem ev_X5_all2 {m : Mem} {B : Mem} {i : Int} {o : Int} {l : List Cd} {k : Int} (hsq : SQ B m i o l) (hk : TkS B) (hdb : DnOk B 8) (ho : 0 ≤ o ∧ o ≤ 20) (hl : (l.length : Int) ≤ 2 * o) (hd : k = 7) : Ev 0 21 mX5_readAll [vr 76, vr 1, vr 8, vi k] m (fun r m' => QP B r m' l (seqF (B 4) 214 (oneF B 2) i o)) := by
  refine Ev.of (L := [vr 76, vr 1, vr 8, vi k, un]) (by decide +kernel) rfl (Nat.le_of_ble_eq_true rfl) rfl (fun t ht => by cases ht; first | exact Or.inl rfl | exact Or.inr (Or.inl rfl) | exact Or.inr (Or.inr rfl)) (fun hcan => ?_)
  have hi := hsq.2.1
  have hkb := hk.1
  have h0 := hsq.2.2.1
  have h1 := hsq.2.2.2.1
  have e12 := hsq.1.1
  have e11 := hsq.1.2.1
  have hPB : PB (oneF B 2) := (oneF_b B 2)
  refine go_aload_n dX5_readAll_0 rfl ?_
  refine go_aload_n dX5_readAll_1 rfl ?_
  refine go_aload_n dX5_readAll_2 rfl ?_
  refine go_iload_n dX5_readAll_3 rfl ?_
  refine go_callV_z (as := [vr 1, vr 8, vi k]) (S := []) (b := 76) (ev_X5_one2 (m := m) (k := k) (B := B) (i := i) (o := o) (l := l) hsq (by first | assumption | omega | exact ⟨by omega, by omega⟩ | (constructor <;> omega)) (by first | assumption | omega | exact ⟨by omega, by omega⟩ | (constructor <;> omega)) (by first | assumption | omega | exact ⟨by omega, by omega⟩ | (constructor <;> omega)) (by first | assumption | omega | exact ⟨by omega, by omega⟩ | (constructor <;> omega)) (by first | assumption | omega | exact ⟨by omega, by omega⟩ | (constructor <;> omega))) rfl dX5_readAll_4 cv_5_68 rfl rfl ob_76 rfl (by decide) (Nat.le_of_ble_eq_true rfl) (fun r_4 m_4 hr_4 ho_4 => ?_)
  refine go_if_ne (tgt := 12) dX5_readAll_7 (by decide) ⟨by omega, by omega⟩ (fun h_7 => ?_) (fun h_7 => ?_)
  · obtain ⟨-, x1, x2⟩ := hr_4.resolve_right (fun h => h_7 h.1)
    have hR1 := hPB i o (by omega) (by omega) x1
    refine go_iconst dX5_readAll_12 ?_
    refine go_istore (L' := [vr 76, vr 1, vr 8, vi k, vi 0]) dX5_readAll_13 (by decide) rfl rfl ?_
    have lp_15 : ∀ (n_15 : Nat) (m1 : Mem) (j : Int) (a : Rs) (f : Nat), (a.1 = 0) → (SQ B m1 a.2.1 a.2.2.1 (l ++ a.2.2.2)) → (seqL (B 4) 214 (oneF B 2) f a = seqL (B 4) 214 (oneF B 2) 21 ((oneF B 2) i o)) → (0 ≤ j ∧ j + (f : Int) = 21) → ((o + 1 + j ≤ a.2.2.1 ∧ a.2.2.1 ≤ 20) ∧ (a.2.2.2.length : Int) + 1 ≤ 2 * (a.2.2.1 - o)) → f < n_15 → Go 0 21 mX5_readAll (fun r m' => QP B r m' l (seqF (B 4) 214 (oneF B 2) i o)) 15 [vr 76, vr 1, vr 8, vi k, vi j] [] m1 := by
      intro n_15
      induction n_15 with
      | zero => intro m1 j a f ha0 hs1 hsl hj hab hmu; exact absurd hmu (Nat.not_lt_zero _)
      | succ n_15 ih_15 =>
        intro m1 j a f ha0 hs1 hsl hj hab hmu
        obtain ⟨hab1, hab2⟩ := hab
        have hsu : seqL (B 4) 214 (oneF B 2) f a = if B 4 a.2.1 = 214 then (if ((oneF B 2) (a.2.1 + 1) a.2.2.1).1 ≠ 0 then ((oneF B 2) (a.2.1 + 1) a.2.2.1) else seqL (B 4) 214 (oneF B 2) (f - 1) (0, ((oneF B 2) (a.2.1 + 1) a.2.2.1).2.1, ((oneF B 2) (a.2.1 + 1) a.2.2.1).2.2.1, a.2.2.2 ++ ((oneF B 2) (a.2.1 + 1) a.2.2.1).2.2.2 ++ [(214, 0, 0)])) else a := by
          obtain ⟨g, rfl⟩ : ∃ g, f = g + 1 := ⟨f - 1, by omega⟩
          rfl
        refine go_iload dX5_readAll_15 rfl ?_
        refine go_bipush dX5_readAll_17 (by decide) ?_
        refine go_icmp_ge (tgt := 63) dX5_readAll_19 (by decide) ⟨by omega, by omega⟩ ⟨by omega, by omega⟩ (fun h_19 => ?_) (fun h_19 => ?_)
        · exfalso; omega
        · refine go_aload_n dX5_readAll_22 rfl ?_
          refine go_getf_i (ki := 2) dX5_readAll_23 fl_5_54 ob_1 rfl rfl (fun hf_23 => ?_)
          rw [show (m1 1 2 : Int) = (B 4 a.2.1) from hs1.kd] at hf_23 ⊢
          refine go_sipush dX5_readAll_26 (by decide) ?_
          refine go_icmp_ne (tgt := 63) dX5_readAll_29 (by decide) hf_23 ⟨by omega, by omega⟩ (fun h_29 => ?_) (fun h_29 => ?_)
          · refine go_iconst dX5_readAll_63 ?_
            refine go_ret (v := 1) rfl dX5_readAll_64 (okZ (by first | exact Or.inl rfl | exact Or.inr rfl | assumption | omega)) ?_
            rw [seqF_e (B 4) 214, if_neg (fun z => z x1), ← hsl, hsu, if_neg (by omega)]
            exact Or.inl ⟨rfl, ha0, hs1⟩
          · refine go_aload_n dX5_readAll_32 rfl ?_
            refine go_callV_v (as := []) (S := []) (b := 1) (ev_X7_next (m := m1)  (by rw [hs1.1.1, hs1.1.2.1]; have h := hs1.2.1; have := hk.lt h.2 (by omega); omega)) rfl dX5_readAll_33 cv_5_47 rfl rfl ob_1 rfl (by decide) (Nat.le_of_ble_eq_true rfl) (fun m_33 hr_33 => ?_)
            have sq1 := hs1.nx hk (by omega)
            subst hr_33
            refine go_aload_n dX5_readAll_36 rfl ?_
            refine go_aload_n dX5_readAll_37 rfl ?_
            refine go_aload_n dX5_readAll_38 rfl ?_
            refine go_iload_n dX5_readAll_39 rfl ?_
            refine go_callV_z (as := [vr 1, vr 8, vi k]) (S := []) (b := 76) (ev_X5_one2 (m := (nxt m1)) (k := k) (B := B) (i := (a.2.1 + 1)) (o := a.2.2.1) (l := (l ++ a.2.2.2)) sq1 (by first | assumption | omega | exact ⟨by omega, by omega⟩ | (constructor <;> omega)) (by first | assumption | omega | exact ⟨by omega, by omega⟩ | (constructor <;> omega)) (by omega) (by simp only [List.length_append]; omega) (by first | assumption | omega | exact ⟨by omega, by omega⟩ | (constructor <;> omega))) rfl dX5_readAll_40 cv_5_68 rfl rfl ob_76 rfl (by decide) (Nat.le_of_ble_eq_true rfl) (fun r_40 m_40 hr_40 ho_40 => ?_)
            refine go_if_ne (tgt := 48) dX5_readAll_43 (by decide) ⟨by omega, by omega⟩ (fun h_43 => ?_) (fun h_43 => ?_)
            · obtain ⟨-, x1, x2⟩ := hr_40.resolve_right (fun h => h_43 h.1)
              have hR2 := hPB (a.2.1 + 1) a.2.2.1 (by omega) (by omega) x1
              refine go_aload_n dX5_readAll_48 rfl ?_
              refine go_sipush dX5_readAll_49 (by decide) ?_
              refine go_iconst dX5_readAll_52 ?_
              refine go_iconst dX5_readAll_53 ?_
              refine go_callV_v (as := [vi 214, vi 0, vi 0]) (S := []) (b := 76) (ev_X5_add (m := m_40) (k := 214) (g := 0) (v := 0) (by first | assumption | omega | exact ⟨by omega, by omega⟩ | (constructor <;> omega)) (by first | assumption | omega | exact ⟨by omega, by omega⟩ | (constructor <;> omega)) (by first | assumption | omega | exact ⟨by omega, by omega⟩ | (constructor <;> omega)) (by rw [x2.2.2.2.1]; simp only [List.length_append]; omega)) rfl dX5_readAll_54 cv_5_64 rfl rfl ob_76 rfl (by decide) (Nat.le_of_ble_eq_true rfl) (fun m_54 hr_54 => ?_)
              have sq3 := x2.add (k := 214) (g := 0) (v := 0)
              subst hr_54
              refine go_iinc (L' := [vr 76, vr 1, vr 8, vi k, vi (j + 1)]) dX5_readAll_57 rfl (by decide) rfl rfl ?_
              refine go_goto (tgt := 15) dX5_readAll_60 (by decide) ?_
              exact ih_15 (addM m_40 214 0 0) (j + 1) (0, ((oneF B 2) (a.2.1 + 1) a.2.2.1).2.1, ((oneF B 2) (a.2.1 + 1) a.2.2.1).2.2.1, a.2.2.2 ++ ((oneF B 2) (a.2.1 + 1) a.2.2.1).2.2.2 ++ [(214, 0, 0)]) (f - 1) rfl (by show SQ B _ _ _ (l ++ (a.2.2.2 ++ _ ++ _)); rw [← List.append_assoc, ← List.append_assoc]; exact sq3) (by rw [← hsl, hsu, if_pos (by omega), if_neg (fun z => z x1)]) (by first | assumption | omega | rfl) (by
                    refine ⟨⟨?_, ?_⟩, ?_⟩
                    · show o + 1 + (j + 1) ≤ ((oneF B 2) (a.2.1 + 1) a.2.2.1).2.2.1; omega
                    · show ((oneF B 2) (a.2.1 + 1) a.2.2.1).2.2.1 ≤ 20; omega
                    · show ((a.2.2.2 ++ ((oneF B 2) (a.2.1 + 1) a.2.2.1).2.2.2 ++ [(214, 0, 0)] : List Cd).length : Int) + 1 ≤ 2 * (((oneF B 2) (a.2.1 + 1) a.2.2.1).2.2.1 - o)
                      simp only [List.length_append, List.length_singleton]
                      omega) (by omega)
            · refine go_iconst dX5_readAll_46 ?_
              refine go_ret (v := 0) rfl dX5_readAll_47 (okZ (by first | exact Or.inl rfl | exact Or.inr rfl | assumption | omega)) ?_
              obtain ⟨-, y1, y2⟩ := hr_40.resolve_left (fun h => by have := h.1; omega)
              rw [seqF_e (B 4) 214, if_neg (fun z => z x1), ← hsl, hsu, if_pos (by omega), if_pos y1]
              exact Or.inr ⟨rfl, y1, y2⟩
    exact lp_15 _ m_4 0 ((oneF B 2) i o) 21 x1 x2 rfl (by first | assumption | omega | rfl) ⟨by omega, hR1.2.2⟩ (Nat.lt_succ_self _)
  · refine go_iconst dX5_readAll_10 ?_
    refine go_ret (v := 0) rfl dX5_readAll_11 (okZ (by first | exact Or.inl rfl | exact Or.inr rfl | assumption | omega)) ?_
    obtain ⟨-, x1, x2⟩ := hr_4.resolve_left (fun h => by have := h.1; omega)
    rw [seqF_e (B 4) 214, if_pos x1]
    exact Or.inr ⟨rfl, x1, x2⟩
set_option maxRecDepth 4000 in
theorem ev_X5_con2 {m : Mem} {B : Mem} {i : Int} {o : Int} {l : List Cd} {k : Int} (hsq : SQ B m i o l) (hk : TkS B) (hdb : DnOk B 8) (ho : 0 ≤ o ∧ o ≤ 20) (hl : (l.length : Int) ≤ 2 * o) (hd : k = 7) : Ev 0 22 mX5_readCond [vr 76, vr 1, vr 8, vi k] m (fun r m' => QP B r m' l (seqF (B 4) 213 (seqF (B 4) 214 (oneF B 2)) i o)) := by
  refine Ev.of (L := [vr 76, vr 1, vr 8, vi k, un]) (by decide +kernel) rfl (Nat.le_of_ble_eq_true rfl) rfl (fun t ht => by cases ht; first | exact Or.inl rfl | exact Or.inr (Or.inl rfl) | exact Or.inr (Or.inr rfl)) (fun hcan => ?_)
  have hi := hsq.2.1
  have hkb := hk.1
  have h0 := hsq.2.2.1
  have h1 := hsq.2.2.2.1
  have e12 := hsq.1.1
  have e11 := hsq.1.2.1
  have hPB : PB (seqF (B 4) 214 (oneF B 2)) := (seqF_b (oneF_b B 2))
  refine go_aload_n dX5_readCond_0 rfl ?_
  refine go_aload_n dX5_readCond_1 rfl ?_
  refine go_aload_n dX5_readCond_2 rfl ?_
  refine go_iload_n dX5_readCond_3 rfl ?_
  refine go_callV_z (as := [vr 1, vr 8, vi k]) (S := []) (b := 76) (ev_X5_all2 (m := m) (k := k) (B := B) (i := i) (o := o) (l := l) hsq (by first | assumption | omega | exact ⟨by omega, by omega⟩ | (constructor <;> omega)) (by first | assumption | omega | exact ⟨by omega, by omega⟩ | (constructor <;> omega)) (by first | assumption | omega | exact ⟨by omega, by omega⟩ | (constructor <;> omega)) (by first | assumption | omega | exact ⟨by omega, by omega⟩ | (constructor <;> omega)) (by first | assumption | omega | exact ⟨by omega, by omega⟩ | (constructor <;> omega))) rfl dX5_readCond_4 cv_5_61 rfl rfl ob_76 rfl (by decide) (Nat.le_of_ble_eq_true rfl) (fun r_4 m_4 hr_4 ho_4 => ?_)
  refine go_if_ne (tgt := 12) dX5_readCond_7 (by decide) ⟨by omega, by omega⟩ (fun h_7 => ?_) (fun h_7 => ?_)
  · obtain ⟨-, x1, x2⟩ := hr_4.resolve_right (fun h => h_7 h.1)
    have hR1 := hPB i o (by omega) (by omega) x1
    refine go_iconst dX5_readCond_12 ?_
    refine go_istore (L' := [vr 76, vr 1, vr 8, vi k, vi 0]) dX5_readCond_13 (by decide) rfl rfl ?_
    have lp_15 : ∀ (n_15 : Nat) (m1 : Mem) (j : Int) (a : Rs) (f : Nat), (a.1 = 0) → (SQ B m1 a.2.1 a.2.2.1 (l ++ a.2.2.2)) → (seqL (B 4) 213 (seqF (B 4) 214 (oneF B 2)) f a = seqL (B 4) 213 (seqF (B 4) 214 (oneF B 2)) 21 ((seqF (B 4) 214 (oneF B 2)) i o)) → (0 ≤ j ∧ j + (f : Int) = 21) → ((o + 1 + j ≤ a.2.2.1 ∧ a.2.2.1 ≤ 20) ∧ (a.2.2.2.length : Int) + 1 ≤ 2 * (a.2.2.1 - o)) → f < n_15 → Go 0 22 mX5_readCond (fun r m' => QP B r m' l (seqF (B 4) 213 (seqF (B 4) 214 (oneF B 2)) i o)) 15 [vr 76, vr 1, vr 8, vi k, vi j] [] m1 := by
      intro n_15
      induction n_15 with
      | zero => intro m1 j a f ha0 hs1 hsl hj hab hmu; exact absurd hmu (Nat.not_lt_zero _)
      | succ n_15 ih_15 =>
        intro m1 j a f ha0 hs1 hsl hj hab hmu
        obtain ⟨hab1, hab2⟩ := hab
        have hsu : seqL (B 4) 213 (seqF (B 4) 214 (oneF B 2)) f a = if B 4 a.2.1 = 213 then (if ((seqF (B 4) 214 (oneF B 2)) (a.2.1 + 1) a.2.2.1).1 ≠ 0 then ((seqF (B 4) 214 (oneF B 2)) (a.2.1 + 1) a.2.2.1) else seqL (B 4) 213 (seqF (B 4) 214 (oneF B 2)) (f - 1) (0, ((seqF (B 4) 214 (oneF B 2)) (a.2.1 + 1) a.2.2.1).2.1, ((seqF (B 4) 214 (oneF B 2)) (a.2.1 + 1) a.2.2.1).2.2.1, a.2.2.2 ++ ((seqF (B 4) 214 (oneF B 2)) (a.2.1 + 1) a.2.2.1).2.2.2 ++ [(213, 0, 0)])) else a := by
          obtain ⟨g, rfl⟩ : ∃ g, f = g + 1 := ⟨f - 1, by omega⟩
          rfl
        refine go_iload dX5_readCond_15 rfl ?_
        refine go_bipush dX5_readCond_17 (by decide) ?_
        refine go_icmp_ge (tgt := 63) dX5_readCond_19 (by decide) ⟨by omega, by omega⟩ ⟨by omega, by omega⟩ (fun h_19 => ?_) (fun h_19 => ?_)
        · exfalso; omega
        · refine go_aload_n dX5_readCond_22 rfl ?_
          refine go_getf_i (ki := 2) dX5_readCond_23 fl_5_54 ob_1 rfl rfl (fun hf_23 => ?_)
          rw [show (m1 1 2 : Int) = (B 4 a.2.1) from hs1.kd] at hf_23 ⊢
          refine go_sipush dX5_readCond_26 (by decide) ?_
          refine go_icmp_ne (tgt := 63) dX5_readCond_29 (by decide) hf_23 ⟨by omega, by omega⟩ (fun h_29 => ?_) (fun h_29 => ?_)
          · refine go_iconst dX5_readCond_63 ?_
            refine go_ret (v := 1) rfl dX5_readCond_64 (okZ (by first | exact Or.inl rfl | exact Or.inr rfl | assumption | omega)) ?_
            rw [seqF_e (B 4) 213, if_neg (fun z => z x1), ← hsl, hsu, if_neg (by omega)]
            exact Or.inl ⟨rfl, ha0, hs1⟩
          · refine go_aload_n dX5_readCond_32 rfl ?_
            refine go_callV_v (as := []) (S := []) (b := 1) (ev_X7_next (m := m1)  (by rw [hs1.1.1, hs1.1.2.1]; have h := hs1.2.1; have := hk.lt h.2 (by omega); omega)) rfl dX5_readCond_33 cv_5_47 rfl rfl ob_1 rfl (by decide) (Nat.le_of_ble_eq_true rfl) (fun m_33 hr_33 => ?_)
            have sq1 := hs1.nx hk (by omega)
            subst hr_33
            refine go_aload_n dX5_readCond_36 rfl ?_
            refine go_aload_n dX5_readCond_37 rfl ?_
            refine go_aload_n dX5_readCond_38 rfl ?_
            refine go_iload_n dX5_readCond_39 rfl ?_
            refine go_callV_z (as := [vr 1, vr 8, vi k]) (S := []) (b := 76) (ev_X5_all2 (m := (nxt m1)) (k := k) (B := B) (i := (a.2.1 + 1)) (o := a.2.2.1) (l := (l ++ a.2.2.2)) sq1 (by first | assumption | omega | exact ⟨by omega, by omega⟩ | (constructor <;> omega)) (by first | assumption | omega | exact ⟨by omega, by omega⟩ | (constructor <;> omega)) (by omega) (by simp only [List.length_append]; omega) (by first | assumption | omega | exact ⟨by omega, by omega⟩ | (constructor <;> omega))) rfl dX5_readCond_40 cv_5_61 rfl rfl ob_76 rfl (by decide) (Nat.le_of_ble_eq_true rfl) (fun r_40 m_40 hr_40 ho_40 => ?_)
            refine go_if_ne (tgt := 48) dX5_readCond_43 (by decide) ⟨by omega, by omega⟩ (fun h_43 => ?_) (fun h_43 => ?_)
            · obtain ⟨-, x1, x2⟩ := hr_40.resolve_right (fun h => h_43 h.1)
              have hR2 := hPB (a.2.1 + 1) a.2.2.1 (by omega) (by omega) x1
              refine go_aload_n dX5_readCond_48 rfl ?_
              refine go_sipush dX5_readCond_49 (by decide) ?_
              refine go_iconst dX5_readCond_52 ?_
              refine go_iconst dX5_readCond_53 ?_
              refine go_callV_v (as := [vi 213, vi 0, vi 0]) (S := []) (b := 76) (ev_X5_add (m := m_40) (k := 213) (g := 0) (v := 0) (by first | assumption | omega | exact ⟨by omega, by omega⟩ | (constructor <;> omega)) (by first | assumption | omega | exact ⟨by omega, by omega⟩ | (constructor <;> omega)) (by first | assumption | omega | exact ⟨by omega, by omega⟩ | (constructor <;> omega)) (by rw [x2.2.2.2.1]; simp only [List.length_append]; omega)) rfl dX5_readCond_54 cv_5_64 rfl rfl ob_76 rfl (by decide) (Nat.le_of_ble_eq_true rfl) (fun m_54 hr_54 => ?_)
              have sq3 := x2.add (k := 213) (g := 0) (v := 0)
              subst hr_54
              refine go_iinc (L' := [vr 76, vr 1, vr 8, vi k, vi (j + 1)]) dX5_readCond_57 rfl (by decide) rfl rfl ?_
              refine go_goto (tgt := 15) dX5_readCond_60 (by decide) ?_
              exact ih_15 (addM m_40 213 0 0) (j + 1) (0, ((seqF (B 4) 214 (oneF B 2)) (a.2.1 + 1) a.2.2.1).2.1, ((seqF (B 4) 214 (oneF B 2)) (a.2.1 + 1) a.2.2.1).2.2.1, a.2.2.2 ++ ((seqF (B 4) 214 (oneF B 2)) (a.2.1 + 1) a.2.2.1).2.2.2 ++ [(213, 0, 0)]) (f - 1) rfl (by show SQ B _ _ _ (l ++ (a.2.2.2 ++ _ ++ _)); rw [← List.append_assoc, ← List.append_assoc]; exact sq3) (by rw [← hsl, hsu, if_pos (by omega), if_neg (fun z => z x1)]) (by first | assumption | omega | rfl) (by
                    refine ⟨⟨?_, ?_⟩, ?_⟩
                    · show o + 1 + (j + 1) ≤ ((seqF (B 4) 214 (oneF B 2)) (a.2.1 + 1) a.2.2.1).2.2.1; omega
                    · show ((seqF (B 4) 214 (oneF B 2)) (a.2.1 + 1) a.2.2.1).2.2.1 ≤ 20; omega
                    · show ((a.2.2.2 ++ ((seqF (B 4) 214 (oneF B 2)) (a.2.1 + 1) a.2.2.1).2.2.2 ++ [(213, 0, 0)] : List Cd).length : Int) + 1 ≤ 2 * (((seqF (B 4) 214 (oneF B 2)) (a.2.1 + 1) a.2.2.1).2.2.1 - o)
                      simp only [List.length_append, List.length_singleton]
                      omega) (by omega)
            · refine go_iconst dX5_readCond_46 ?_
              refine go_ret (v := 0) rfl dX5_readCond_47 (okZ (by first | exact Or.inl rfl | exact Or.inr rfl | assumption | omega)) ?_
              obtain ⟨-, y1, y2⟩ := hr_40.resolve_left (fun h => by have := h.1; omega)
              rw [seqF_e (B 4) 213, if_neg (fun z => z x1), ← hsl, hsu, if_pos (by omega), if_pos y1]
              exact Or.inr ⟨rfl, y1, y2⟩
    exact lp_15 _ m_4 0 ((seqF (B 4) 214 (oneF B 2)) i o) 21 x1 x2 rfl (by first | assumption | omega | rfl) ⟨by omega, hR1.2.2⟩ (Nat.lt_succ_self _)
  · refine go_iconst dX5_readCond_10 ?_
    refine go_ret (v := 0) rfl dX5_readCond_11 (okZ (by first | exact Or.inl rfl | exact Or.inr rfl | assumption | omega)) ?_
    obtain ⟨-, x1, x2⟩ := hr_4.resolve_left (fun h => by have := h.1; omega)
    rw [seqF_e (B 4) 213, if_pos x1]
    exact Or.inr ⟨rfl, x1, x2⟩
set_option maxRecDepth 4000 in
theorem ev_X5_not3 {m : Mem} {B : Mem} {i : Int} {o : Int} {l : List Cd} {k : Int} (hsq : SQ B m i o l) (hk : TkS B) (hdb : DnOk B 8) (ho : 1 ≤ o ∧ o ≤ 20) (hl : (l.length : Int) + 2 ≤ 2 * o) (hd : k = 6) (hki : B 4 i = 215) : Ev 0 24 mX5_readNot [vr 76, vr 1, vr 8, vi k] m (fun r m' => QP B r m' l (notF (oneF B 2) i o)) := by
  refine Ev.of (L := [vr 76, vr 1, vr 8, vi k]) (by decide +kernel) rfl (Nat.le_of_ble_eq_true rfl) rfl (fun t ht => by cases ht; first | exact Or.inl rfl | exact Or.inr (Or.inl rfl) | exact Or.inr (Or.inr rfl)) (fun hcan => ?_)
  have hi := hsq.2.1
  have hkb := hk.1
  have h0 := hsq.2.2.1
  have h1 := hsq.2.2.2.1
  have e12 := hsq.1.1
  have e11 := hsq.1.2.1
  have hR : RB o ((oneF B 2) (i + 1) o) := oneF_b B 2 (i + 1) o (by omega) (by omega)
  refine go_aload_n dX5_readNot_0 rfl ?_
  refine go_callV_v (as := []) (S := []) (b := 1) (ev_X7_next (m := m)  (by rw [hsq.1.1, hsq.1.2.1]; have h := hk.lt hsq.2.1.2 (by omega); have h2 := hsq.2.1; omega)) rfl dX5_readNot_1 cv_5_47 rfl rfl ob_1 rfl (by decide) (Nat.le_of_ble_eq_true rfl) (fun m_1 hr_1 => ?_)
  have sq1 := hsq.nx hk (by omega)
  subst hr_1
  refine go_aload_n dX5_readNot_4 rfl ?_
  refine go_aload_n dX5_readNot_5 rfl ?_
  refine go_aload_n dX5_readNot_6 rfl ?_
  refine go_iload_n dX5_readNot_7 rfl ?_
  refine go_iconst dX5_readNot_8 ?_
  refine go_iadd dX5_readNot_9 ?_
  refine go_callV_z (as := [vr 1, vr 8, vi (k + 1)]) (S := []) (b := 76) (ev_X5_one2 (m := (nxt m)) (k := (k + 1)) (B := B) (i := (i + 1)) (o := o) (l := l) sq1 (by first | assumption | omega | exact ⟨by omega, by omega⟩ | (constructor <;> omega)) (by first | assumption | omega | exact ⟨by omega, by omega⟩ | (constructor <;> omega)) (by first | assumption | omega | exact ⟨by omega, by omega⟩ | (constructor <;> omega)) (by omega) (by first | assumption | omega | exact ⟨by omega, by omega⟩ | (constructor <;> omega))) rfl dX5_readNot_10 cv_5_68 rfl rfl ob_76 rfl (by decide) (Nat.le_of_ble_eq_true rfl) (fun r_10 m_10 hr_10 ho_10 => ?_)
  refine go_if_ne (tgt := 18) dX5_readNot_13 (by decide) ⟨by omega, by omega⟩ (fun h_13 => ?_) (fun h_13 => ?_)
  · obtain ⟨-, x1, x2⟩ := hr_10.resolve_right (fun h => h_13 h.1)
    refine go_aload_n dX5_readNot_18 rfl ?_
    refine go_sipush dX5_readNot_19 (by decide) ?_
    refine go_iconst dX5_readNot_22 ?_
    refine go_iconst dX5_readNot_23 ?_
    refine go_callV_v (as := [vi 215, vi 0, vi 0]) (S := []) (b := 76) (ev_X5_add (m := m_10) (k := 215) (g := 0) (v := 0) (by first | assumption | omega | exact ⟨by omega, by omega⟩ | (constructor <;> omega)) (by first | assumption | omega | exact ⟨by omega, by omega⟩ | (constructor <;> omega)) (by first | assumption | omega | exact ⟨by omega, by omega⟩ | (constructor <;> omega)) (by rw [x2.2.2.2.1]; simp only [List.length_append]; have h := hR x1; omega)) rfl dX5_readNot_24 cv_5_64 rfl rfl ob_76 rfl (by decide) (Nat.le_of_ble_eq_true rfl) (fun m_24 hr_24 => ?_)
    have sq3 := x2.add (k := 215) (g := 0) (v := 0)
    subst hr_24
    refine go_iconst dX5_readNot_27 ?_
    refine go_ret (v := 1) rfl dX5_readNot_28 (okZ (by first | exact Or.inl rfl | exact Or.inr rfl | assumption | omega)) ?_
    rw [List.append_assoc] at sq3
    exact Or.inl ⟨rfl, x1, sq3⟩
  · refine go_iconst dX5_readNot_16 ?_
    refine go_ret (v := 0) rfl dX5_readNot_17 (okZ (by first | exact Or.inl rfl | exact Or.inr rfl | assumption | omega)) ?_
    obtain ⟨-, x1, x2⟩ := hr_10.resolve_left (fun h => by have := h.1; omega)
    exact Or.inr ⟨rfl, x1, x2⟩
set_option maxRecDepth 4000 in
theorem ev_X5_brk3 {m : Mem} {B : Mem} {i : Int} {o : Int} {l : List Cd} {k : Int} (hsq : SQ B m i o l) (hk : TkS B) (hdb : DnOk B 8) (ho : 1 ≤ o ∧ o ≤ 20) (hl : (l.length : Int) + 2 ≤ 2 * o) (hd : k = 6) (hki : B 4 i = 40) : Ev 0 24 mX5_readBracket [vr 76, vr 1, vr 8, vi k] m (fun r m' => QP B r m' l (brkF (B 4) (seqF (B 4) 213 (seqF (B 4) 214 (oneF B 2))) i o)) := by
  refine Ev.of (L := [vr 76, vr 1, vr 8, vi k]) (by decide +kernel) rfl (Nat.le_of_ble_eq_true rfl) rfl (fun t ht => by cases ht; first | exact Or.inl rfl | exact Or.inr (Or.inl rfl) | exact Or.inr (Or.inr rfl)) (fun hcan => ?_)
  have hi := hsq.2.1
  have hkb := hk.1
  have h0 := hsq.2.2.1
  have h1 := hsq.2.2.2.1
  have e12 := hsq.1.1
  have e11 := hsq.1.2.1
  refine go_aload_n dX5_readBracket_0 rfl ?_
  refine go_callV_v (as := []) (S := []) (b := 1) (ev_X7_next (m := m)  (by rw [hsq.1.1, hsq.1.2.1]; have h := hk.lt hsq.2.1.2 (by omega); have h2 := hsq.2.1; omega)) rfl dX5_readBracket_1 cv_5_47 rfl rfl ob_1 rfl (by decide) (Nat.le_of_ble_eq_true rfl) (fun m_1 hr_1 => ?_)
  have sq1 := hsq.nx hk (by omega)
  subst hr_1
  refine go_aload_n dX5_readBracket_4 rfl ?_
  refine go_aload_n dX5_readBracket_5 rfl ?_
  refine go_aload_n dX5_readBracket_6 rfl ?_
  refine go_iload_n dX5_readBracket_7 rfl ?_
  refine go_iconst dX5_readBracket_8 ?_
  refine go_iadd dX5_readBracket_9 ?_
  refine go_callV_z (as := [vr 1, vr 8, vi (k + 1)]) (S := []) (b := 76) (ev_X5_con2 (m := (nxt m)) (k := (k + 1)) (B := B) (i := (i + 1)) (o := o) (l := l) sq1 (by first | assumption | omega | exact ⟨by omega, by omega⟩ | (constructor <;> omega)) (by first | assumption | omega | exact ⟨by omega, by omega⟩ | (constructor <;> omega)) (by first | assumption | omega | exact ⟨by omega, by omega⟩ | (constructor <;> omega)) (by omega) (by first | assumption | omega | exact ⟨by omega, by omega⟩ | (constructor <;> omega))) rfl dX5_readBracket_10 cv_5_50 rfl rfl ob_76 rfl (by decide) (Nat.le_of_ble_eq_true rfl) (fun r_10 m_10 hr_10 ho_10 => ?_)
  obtain ⟨R, hRe⟩ : ∃ z, z = seqF (B 4) 213 (seqF (B 4) 214 (oneF B 2)) (i + 1) o := ⟨_, rfl⟩
  rw [← hRe] at hr_10
  refine go_if_ne (tgt := 18) dX5_readBracket_13 (by decide) ⟨by omega, by omega⟩ (fun h_13 => ?_) (fun h_13 => ?_)
  · obtain ⟨-, x1, x2⟩ := hr_10.resolve_right (fun h => h_13 h.1)
    refine go_aload_n dX5_readBracket_18 rfl ?_
    refine go_getf_i (ki := 2) dX5_readBracket_19 fl_5_54 ob_1 rfl rfl (fun hf_19 => ?_)
    rw [show (m_10 1 2 : Int) = (B 4 R.2.1) from x2.kd] at hf_19 ⊢
    refine go_bipush dX5_readBracket_22 (by decide) ?_
    refine go_icmp_eq (tgt := 33) dX5_readBracket_24 (by decide) ⟨by omega, by omega⟩ ⟨by omega, by omega⟩ (fun h_24 => ?_) (fun h_24 => ?_)
    · refine go_aload_n dX5_readBracket_33 rfl ?_
      refine go_callV_v (as := []) (S := []) (b := 1) (ev_X7_next (m := m_10)  (by rw [x2.1.1, x2.1.2.1]; have h := x2.2.1; have := hk.lt h.2 (by omega); omega)) rfl dX5_readBracket_34 cv_5_47 rfl rfl ob_1 rfl (by decide) (Nat.le_of_ble_eq_true rfl) (fun m_34 hr_34 => ?_)
      have sq3 := x2.nx hk (by omega)
      subst hr_34
      refine go_iconst dX5_readBracket_37 ?_
      refine go_ret (v := 1) rfl dX5_readBracket_38 (okZ (by first | exact Or.inl rfl | exact Or.inr rfl | assumption | omega)) ?_
      unfold brkF
      rw [← hRe, if_neg (fun z => z x1), if_pos (by omega)]
      exact Or.inl ⟨rfl, rfl, sq3⟩
    · refine go_aload_n dX5_readBracket_27 rfl ?_
      refine go_iconst dX5_readBracket_28 ?_
      refine go_callV_z (as := [vi 1]) (S := []) (b := 1) (ev_X7_refuse (m := m_10) (k := 1) (by first | assumption | omega | exact ⟨by omega, by omega⟩ | (constructor <;> omega))) rfl dX5_readBracket_29 cv_5_57 rfl rfl ob_1 rfl (by decide) (Nat.le_of_ble_eq_true rfl) (fun r_29 m_29 hr_29 ho_29 => ?_)
      refine go_ret (v := r_29) rfl dX5_readBracket_32 (okZ (by first | exact Or.inl rfl | exact Or.inr rfl | assumption | omega)) ?_
      unfold brkF
      rw [← hRe, if_neg (fun z => z x1), if_neg (by omega), hr_29.2]
      exact Or.inr ⟨by omega, (show (1 : Int) ≠ 0 by decide), x2.ref⟩
  · refine go_iconst dX5_readBracket_16 ?_
    refine go_ret (v := 0) rfl dX5_readBracket_17 (okZ (by first | exact Or.inl rfl | exact Or.inr rfl | assumption | omega)) ?_
    obtain ⟨-, x1, x2⟩ := hr_10.resolve_left (fun h => by have := h.1; omega)
    unfold brkF
    rw [← hRe, if_pos x1]
    exact Or.inr ⟨rfl, x1, x2⟩
set_option maxRecDepth 4000 in
theorem ev_X5_one3 {m : Mem} {B : Mem} {i : Int} {o : Int} {l : List Cd} {k : Int} (hsq : SQ B m i o l) (hk : TkS B) (hdb : DnOk B 8) (ho : 0 ≤ o ∧ o ≤ 20) (hl : (l.length : Int) ≤ 2 * o) (hd : k = 6) : Ev 0 25 mX5_readOne [vr 76, vr 1, vr 8, vi k] m (fun r m' => QP B r m' l (oneF B 3 i o)) := by
  refine Ev.of (L := [vr 76, vr 1, vr 8, vi k, un]) (by decide +kernel) rfl (Nat.le_of_ble_eq_true rfl) rfl (fun t ht => by cases ht; first | exact Or.inl rfl | exact Or.inr (Or.inl rfl) | exact Or.inr (Or.inr rfl)) (fun hcan => ?_)
  have hi := hsq.2.1
  have hkb := hk.1
  have h0 := hsq.2.2.1
  have h1 := hsq.2.2.2.1
  have e12 := hsq.1.1
  have e11 := hsq.1.2.1
  refine go_aload_n dX5_readOne_0 rfl ?_
  refine go_getf_i (ki := 2) dX5_readOne_1 fl_5_54 ob_1 rfl rfl (fun hf_1 => ?_)
  rw [show (m 1 2 : Int) = (B 4 i) from hsq.kd] at hf_1 ⊢
  refine go_istore (L' := [vr 76, vr 1, vr 8, vi k, vi (B 4 i)]) dX5_readOne_4 (by decide) rfl rfl ?_
  refine go_iload dX5_readOne_6 rfl ?_
  refine go_bipush dX5_readOne_8 (by decide) ?_
  refine go_icmp_eq (tgt := 33) dX5_readOne_10 (by decide) ⟨by omega, by omega⟩ ⟨by omega, by omega⟩ (fun h_10 => ?_) (fun h_10 => ?_)
  · refine go_aload_n dX5_readOne_33 rfl ?_
    refine go_getf_i (ki := 0) dX5_readOne_34 fl_5_9 ob_76 rfl rfl (fun hf_34 => ?_)
    rw [show (m 76 0 : Int) = o from h0] at hf_34 ⊢
    refine go_bipush dX5_readOne_37 (by decide) ?_
    refine go_icmp_ge (tgt := 48) dX5_readOne_39 (by decide) ⟨by omega, by omega⟩ ⟨by omega, by omega⟩ (fun h_39 => ?_) (fun h_39 => ?_)
    · refine go_aload_n dX5_readOne_48 rfl ?_
      refine go_iconst dX5_readOne_49 ?_
      refine go_callV_z (as := [vi 4]) (S := []) (b := 1) (ev_X7_refuse (m := m) (k := 4) (by first | assumption | omega | exact ⟨by omega, by omega⟩ | (constructor <;> omega))) rfl dX5_readOne_50 cv_5_57 rfl rfl ob_1 rfl (by decide) (Nat.le_of_ble_eq_true rfl) (fun r_50 m_50 hr_50 ho_50 => ?_)
      refine go_ret (v := r_50) rfl dX5_readOne_53 (okZ (by first | exact Or.inl rfl | exact Or.inr rfl | assumption | omega)) ?_
      rw [hr_50.2, show oneF B 3 i o = (4, i, o, []) by unfold oneF; rw [if_neg (by omega), if_pos (by omega)]]
      exact Or.inr ⟨by omega, (show (4 : Int) ≠ 0 by decide), hsq.ref⟩
    · refine go_iload_n dX5_readOne_42 rfl ?_
      refine go_bipush dX5_readOne_43 (by decide) ?_
      refine go_icmp_le (tgt := 54) dX5_readOne_45 (by decide) ⟨by omega, by omega⟩ ⟨by omega, by omega⟩ (fun h_45 => ?_) (fun h_45 => ?_)
      · refine go_aload_n dX5_readOne_54 rfl ?_
        refine go_dup_r dX5_readOne_55 ?_
        refine go_getf_i (ki := 0) dX5_readOne_56 fl_5_9 ob_76 rfl rfl (fun hf_56 => ?_)
        rw [show (m 76 0 : Int) = o from h0] at hf_56 ⊢
        refine go_iconst dX5_readOne_59 ?_
        refine go_iadd dX5_readOne_60 ?_
        refine go_putf_i (ki := 0) dX5_readOne_61 fw_5_9 ob_76 rfl rfl ⟨by omega, by omega⟩ ?_
        have sq1 := hsq.one (x := o + 1)
        refine go_iload dX5_readOne_64 rfl ?_
        by_cases hk_66_0 : (B 4 i) = 40
        · refine go_lswitch (off := 82) (tgt := 148) dX5_readOne_66 ⟨by omega, by omega⟩ (by decide) (by rw [hk_66_0] <;> rfl) (by decide) ?_
          refine go_aload_n dX5_readOne_148 rfl ?_
          refine go_aload_n dX5_readOne_149 rfl ?_
          refine go_aload_n dX5_readOne_150 rfl ?_
          refine go_iload_n dX5_readOne_151 rfl ?_
          refine go_callV_z (as := [vr 1, vr 8, vi k]) (S := []) (b := 76) (ev_X5_brk3 (m := (wr m 76 0 (o + 1))) (k := k) (B := B) (i := i) (o := (o + 1)) (l := l) sq1 (by first | assumption | omega | exact ⟨by omega, by omega⟩ | (constructor <;> omega)) (by first | assumption | omega | exact ⟨by omega, by omega⟩ | (constructor <;> omega)) (by omega) (by omega) (by first | assumption | omega | exact ⟨by omega, by omega⟩ | (constructor <;> omega)) (by first | assumption | omega | exact ⟨by omega, by omega⟩ | (constructor <;> omega))) rfl dX5_readOne_152 cv_5_78 rfl rfl ob_76 rfl (by decide) (Nat.le_of_ble_eq_true rfl) (fun r_152 m_152 hr_152 ho_152 => ?_)
          refine go_ret (v := r_152) rfl dX5_readOne_155 (okZ (by first | exact Or.inl rfl | exact Or.inr rfl | assumption | omega)) ?_
          rw [show oneF B 3 i o = brkF (B 4) (seqF (B 4) 213 (seqF (B 4) 214 (oneF B 2))) i (o + 1) by unfold oneF; rw [if_neg (by omega), if_neg (by omega), if_neg (by omega), if_pos (by omega)]]
          exact hr_152
        · skip
          by_cases hk_66_1 : (B 4 i) = 215
          · refine go_lswitch (off := 74) (tgt := 140) dX5_readOne_66 ⟨by omega, by omega⟩ (by decide) (by rw [hk_66_1] <;> rfl) (by decide) ?_
            refine go_aload_n dX5_readOne_140 rfl ?_
            refine go_aload_n dX5_readOne_141 rfl ?_
            refine go_aload_n dX5_readOne_142 rfl ?_
            refine go_iload_n dX5_readOne_143 rfl ?_
            refine go_callV_z (as := [vr 1, vr 8, vi k]) (S := []) (b := 76) (ev_X5_not3 (m := (wr m 76 0 (o + 1))) (k := k) (B := B) (i := i) (o := (o + 1)) (l := l) sq1 (by first | assumption | omega | exact ⟨by omega, by omega⟩ | (constructor <;> omega)) (by first | assumption | omega | exact ⟨by omega, by omega⟩ | (constructor <;> omega)) (by omega) (by omega) (by first | assumption | omega | exact ⟨by omega, by omega⟩ | (constructor <;> omega)) (by first | assumption | omega | exact ⟨by omega, by omega⟩ | (constructor <;> omega))) rfl dX5_readOne_144 cv_5_75 rfl rfl ob_76 rfl (by decide) (Nat.le_of_ble_eq_true rfl) (fun r_144 m_144 hr_144 ho_144 => ?_)
            refine go_ret (v := r_144) rfl dX5_readOne_147 (okZ (by first | exact Or.inl rfl | exact Or.inr rfl | assumption | omega)) ?_
            rw [show oneF B 3 i o = notF (oneF B 2) i (o + 1) by unfold oneF; rw [if_neg (by omega), if_neg (by omega), if_pos (by omega)]]
            exact hr_144
          · skip
            by_cases hk_66_2 : (B 4 i) = 219
            · refine go_lswitch (off := 90) (tgt := 156) dX5_readOne_66 ⟨by omega, by omega⟩ (by decide) (by rw [hk_66_2] <;> rfl) (by decide) ?_
              refine go_aload_n dX5_readOne_156 rfl ?_
              refine go_aload_n dX5_readOne_157 rfl ?_
              refine go_aload_n dX5_readOne_158 rfl ?_
              refine go_iload dX5_readOne_159 rfl ?_
              refine go_callV_z (as := [vr 1, vr 8, vi (B 4 i)]) (S := []) (b := 76) (ev_X5_readNamed (m := (wr m 76 0 (o + 1))) (k := (B 4 i)) (B := B) (i := i) (o := (o + 1)) (l := l) sq1 (by first | assumption | omega | exact ⟨by omega, by omega⟩ | (constructor <;> omega)) (by first | assumption | omega | exact ⟨by omega, by omega⟩ | (constructor <;> omega)) (by omega) (by omega) (by first | assumption | omega | exact ⟨by omega, by omega⟩ | (constructor <;> omega)) (by first | assumption | omega | exact ⟨by omega, by omega⟩ | (constructor <;> omega))) rfl dX5_readOne_161 cv_5_81 rfl rfl ob_76 rfl (by decide) (Nat.le_of_ble_eq_true rfl) (fun r_161 m_161 hr_161 ho_161 => ?_)
              refine go_ret (v := r_161) rfl dX5_readOne_164 (okZ (by first | exact Or.inl rfl | exact Or.inr rfl | assumption | omega)) ?_
              rw [show oneF B 3 i o = namF B i (o + 1) by unfold oneF; rw [if_neg (by omega), if_neg (by omega), if_neg (by omega), if_neg (by omega), if_pos (by omega)]]
              exact hr_161
            · skip
              by_cases hk_66_3 : (B 4 i) = 220
              · refine go_lswitch (off := 90) (tgt := 156) dX5_readOne_66 ⟨by omega, by omega⟩ (by decide) (by rw [hk_66_3] <;> rfl) (by decide) ?_
                refine go_aload_n dX5_readOne_156 rfl ?_
                refine go_aload_n dX5_readOne_157 rfl ?_
                refine go_aload_n dX5_readOne_158 rfl ?_
                refine go_iload dX5_readOne_159 rfl ?_
                refine go_callV_z (as := [vr 1, vr 8, vi (B 4 i)]) (S := []) (b := 76) (ev_X5_readNamed (m := (wr m 76 0 (o + 1))) (k := (B 4 i)) (B := B) (i := i) (o := (o + 1)) (l := l) sq1 (by first | assumption | omega | exact ⟨by omega, by omega⟩ | (constructor <;> omega)) (by first | assumption | omega | exact ⟨by omega, by omega⟩ | (constructor <;> omega)) (by omega) (by omega) (by first | assumption | omega | exact ⟨by omega, by omega⟩ | (constructor <;> omega)) (by first | assumption | omega | exact ⟨by omega, by omega⟩ | (constructor <;> omega))) rfl dX5_readOne_161 cv_5_81 rfl rfl ob_76 rfl (by decide) (Nat.le_of_ble_eq_true rfl) (fun r_161 m_161 hr_161 ho_161 => ?_)
                refine go_ret (v := r_161) rfl dX5_readOne_164 (okZ (by first | exact Or.inl rfl | exact Or.inr rfl | assumption | omega)) ?_
                rw [show oneF B 3 i o = namF B i (o + 1) by unfold oneF; rw [if_neg (by omega), if_neg (by omega), if_neg (by omega), if_neg (by omega), if_pos (by omega)]]
                exact hr_161
              · skip
                by_cases hk_66_4 : (B 4 i) = 221
                · refine go_lswitch (off := 99) (tgt := 165) dX5_readOne_66 ⟨by omega, by omega⟩ (by decide) (by rw [hk_66_4] <;> rfl) (by decide) ?_
                  refine go_aload_n dX5_readOne_165 rfl ?_
                  refine go_aload_n dX5_readOne_166 rfl ?_
                  refine go_iload dX5_readOne_167 rfl ?_
                  refine go_callV_z (as := [vr 1, vi (B 4 i)]) (S := []) (b := 76) (ev_X5_readCompared (m := (wr m 76 0 (o + 1))) (k := (B 4 i)) (B := B) (i := i) (o := (o + 1)) (l := l) sq1 (by first | assumption | omega | exact ⟨by omega, by omega⟩ | (constructor <;> omega)) (by first | assumption | omega | exact ⟨by omega, by omega⟩ | (constructor <;> omega)) (by omega) (by omega) (by first | assumption | omega | exact ⟨by omega, by omega⟩ | (constructor <;> omega)) (by first | assumption | omega | exact ⟨by omega, by omega⟩ | (constructor <;> omega))) rfl dX5_readOne_169 cv_5_84 rfl rfl ob_76 rfl (by decide) (Nat.le_of_ble_eq_true rfl) (fun r_169 m_169 hr_169 ho_169 => ?_)
                  refine go_ret (v := r_169) rfl dX5_readOne_172 (okZ (by first | exact Or.inl rfl | exact Or.inr rfl | assumption | omega)) ?_
                  rw [show oneF B 3 i o = cmpF B i (o + 1) by unfold oneF; rw [if_neg (by omega), if_neg (by omega), if_neg (by omega), if_neg (by omega), if_neg (by omega), if_pos (by omega)]]
                  exact hr_169
                · skip
                  by_cases hk_66_5 : (B 4 i) = 222
                  · refine go_lswitch (off := 99) (tgt := 165) dX5_readOne_66 ⟨by omega, by omega⟩ (by decide) (by rw [hk_66_5] <;> rfl) (by decide) ?_
                    refine go_aload_n dX5_readOne_165 rfl ?_
                    refine go_aload_n dX5_readOne_166 rfl ?_
                    refine go_iload dX5_readOne_167 rfl ?_
                    refine go_callV_z (as := [vr 1, vi (B 4 i)]) (S := []) (b := 76) (ev_X5_readCompared (m := (wr m 76 0 (o + 1))) (k := (B 4 i)) (B := B) (i := i) (o := (o + 1)) (l := l) sq1 (by first | assumption | omega | exact ⟨by omega, by omega⟩ | (constructor <;> omega)) (by first | assumption | omega | exact ⟨by omega, by omega⟩ | (constructor <;> omega)) (by omega) (by omega) (by first | assumption | omega | exact ⟨by omega, by omega⟩ | (constructor <;> omega)) (by first | assumption | omega | exact ⟨by omega, by omega⟩ | (constructor <;> omega))) rfl dX5_readOne_169 cv_5_84 rfl rfl ob_76 rfl (by decide) (Nat.le_of_ble_eq_true rfl) (fun r_169 m_169 hr_169 ho_169 => ?_)
                    refine go_ret (v := r_169) rfl dX5_readOne_172 (okZ (by first | exact Or.inl rfl | exact Or.inr rfl | assumption | omega)) ?_
                    rw [show oneF B 3 i o = cmpF B i (o + 1) by unfold oneF; rw [if_neg (by omega), if_neg (by omega), if_neg (by omega), if_neg (by omega), if_neg (by omega), if_pos (by omega)]]
                    exact hr_169
                  · skip
                    by_cases hk_66_6 : (B 4 i) = 223
                    · refine go_lswitch (off := 99) (tgt := 165) dX5_readOne_66 ⟨by omega, by omega⟩ (by decide) (by rw [hk_66_6] <;> rfl) (by decide) ?_
                      refine go_aload_n dX5_readOne_165 rfl ?_
                      refine go_aload_n dX5_readOne_166 rfl ?_
                      refine go_iload dX5_readOne_167 rfl ?_
                      refine go_callV_z (as := [vr 1, vi (B 4 i)]) (S := []) (b := 76) (ev_X5_readCompared (m := (wr m 76 0 (o + 1))) (k := (B 4 i)) (B := B) (i := i) (o := (o + 1)) (l := l) sq1 (by first | assumption | omega | exact ⟨by omega, by omega⟩ | (constructor <;> omega)) (by first | assumption | omega | exact ⟨by omega, by omega⟩ | (constructor <;> omega)) (by omega) (by omega) (by first | assumption | omega | exact ⟨by omega, by omega⟩ | (constructor <;> omega)) (by first | assumption | omega | exact ⟨by omega, by omega⟩ | (constructor <;> omega))) rfl dX5_readOne_169 cv_5_84 rfl rfl ob_76 rfl (by decide) (Nat.le_of_ble_eq_true rfl) (fun r_169 m_169 hr_169 ho_169 => ?_)
                      refine go_ret (v := r_169) rfl dX5_readOne_172 (okZ (by first | exact Or.inl rfl | exact Or.inr rfl | assumption | omega)) ?_
                      rw [show oneF B 3 i o = cmpF B i (o + 1) by unfold oneF; rw [if_neg (by omega), if_neg (by omega), if_neg (by omega), if_neg (by omega), if_neg (by omega), if_pos (by omega)]]
                      exact hr_169
                    · skip
                      by_cases hk_66_7 : (B 4 i) = 224
                      · refine go_lswitch (off := 99) (tgt := 165) dX5_readOne_66 ⟨by omega, by omega⟩ (by decide) (by rw [hk_66_7] <;> rfl) (by decide) ?_
                        refine go_aload_n dX5_readOne_165 rfl ?_
                        refine go_aload_n dX5_readOne_166 rfl ?_
                        refine go_iload dX5_readOne_167 rfl ?_
                        refine go_callV_z (as := [vr 1, vi (B 4 i)]) (S := []) (b := 76) (ev_X5_readCompared (m := (wr m 76 0 (o + 1))) (k := (B 4 i)) (B := B) (i := i) (o := (o + 1)) (l := l) sq1 (by first | assumption | omega | exact ⟨by omega, by omega⟩ | (constructor <;> omega)) (by first | assumption | omega | exact ⟨by omega, by omega⟩ | (constructor <;> omega)) (by omega) (by omega) (by first | assumption | omega | exact ⟨by omega, by omega⟩ | (constructor <;> omega)) (by first | assumption | omega | exact ⟨by omega, by omega⟩ | (constructor <;> omega))) rfl dX5_readOne_169 cv_5_84 rfl rfl ob_76 rfl (by decide) (Nat.le_of_ble_eq_true rfl) (fun r_169 m_169 hr_169 ho_169 => ?_)
                        refine go_ret (v := r_169) rfl dX5_readOne_172 (okZ (by first | exact Or.inl rfl | exact Or.inr rfl | assumption | omega)) ?_
                        rw [show oneF B 3 i o = cmpF B i (o + 1) by unfold oneF; rw [if_neg (by omega), if_neg (by omega), if_neg (by omega), if_neg (by omega), if_neg (by omega), if_pos (by omega)]]
                        exact hr_169
                      · skip
                        refine go_lswitch (off := 107) (tgt := 173) dX5_readOne_66 ⟨by omega, by omega⟩ (by decide) (by simp [Op.lookupswitch.offset, hk_66_0, show ¬ (40 : Int) = (B 4 i) from fun z => hk_66_0 z.symm, hk_66_1, show ¬ (215 : Int) = (B 4 i) from fun z => hk_66_1 z.symm, hk_66_2, show ¬ (219 : Int) = (B 4 i) from fun z => hk_66_2 z.symm, hk_66_3, show ¬ (220 : Int) = (B 4 i) from fun z => hk_66_3 z.symm, hk_66_4, show ¬ (221 : Int) = (B 4 i) from fun z => hk_66_4 z.symm, hk_66_5, show ¬ (222 : Int) = (B 4 i) from fun z => hk_66_5 z.symm, hk_66_6, show ¬ (223 : Int) = (B 4 i) from fun z => hk_66_6 z.symm, hk_66_7, show ¬ (224 : Int) = (B 4 i) from fun z => hk_66_7 z.symm]) (by decide) ?_
                        refine go_aload_n dX5_readOne_173 rfl ?_
                        refine go_iload dX5_readOne_174 rfl ?_
                        refine go_iconst dX5_readOne_176 ?_
                        refine go_iconst dX5_readOne_177 ?_
                        refine go_callV_v (as := [vi (B 4 i), vi 0, vi 0]) (S := []) (b := 76) (ev_X5_add (m := (wr m 76 0 (o + 1))) (k := (B 4 i)) (g := 0) (v := 0) (by first | assumption | omega | exact ⟨by omega, by omega⟩ | (constructor <;> omega)) (by first | assumption | omega | exact ⟨by omega, by omega⟩ | (constructor <;> omega)) (by first | assumption | omega | exact ⟨by omega, by omega⟩ | (constructor <;> omega)) (by rw [sq1.2.2.2.1]; omega)) rfl dX5_readOne_178 cv_5_64 rfl rfl ob_76 rfl (by decide) (Nat.le_of_ble_eq_true rfl) (fun m_178 hr_178 => ?_)
                        have sq3 := sq1.add (k := B 4 i) (g := 0) (v := 0)
                        subst hr_178
                        refine go_aload_n dX5_readOne_181 rfl ?_
                        refine go_callV_v (as := []) (S := []) (b := 1) (ev_X7_next (m := (addM (wr m 76 0 (o + 1)) (B 4 i) 0 0))  (by rw [sq3.1.1, sq3.1.2.1]; have h := hk.lt sq3.2.1.2 (by omega); have h2 := sq3.2.1; omega)) rfl dX5_readOne_182 cv_5_47 rfl rfl ob_1 rfl (by decide) (Nat.le_of_ble_eq_true rfl) (fun m_182 hr_182 => ?_)
                        have sq4 := sq3.nx hk (by omega)
                        subst hr_182
                        refine go_iconst dX5_readOne_185 ?_
                        refine go_ret (v := 1) rfl dX5_readOne_186 (okZ (by first | exact Or.inl rfl | exact Or.inr rfl | assumption | omega)) ?_
                        rw [show oneF B 3 i o = (0, i + 1, o + 1, [(B 4 i, 0, 0)]) by unfold oneF; rw [if_neg (by omega), if_neg (by omega), if_neg (by omega), if_neg (by omega), if_neg (by omega), if_neg (by omega)]]
                        exact Or.inl ⟨rfl, rfl, sq4⟩
      · exfalso; omega
  · refine go_iload dX5_readOne_13 rfl ?_
    refine go_sipush dX5_readOne_15 (by decide) ?_
    refine go_sipush dX5_readOne_18 (by decide) ?_
    refine go_callSp_z (as := [vi (B 4 i), vi 215, vi 224]) (S := []) (ev_X11_isIn (m := m) (n := (B 4 i)) (lo := 215) (hi := 224) (by first | assumption | omega | exact ⟨by omega, by omega⟩ | (constructor <;> omega)) (by first | assumption | omega | exact ⟨by omega, by omega⟩ | (constructor <;> omega)) (by first | assumption | omega | exact ⟨by omega, by omega⟩ | (constructor <;> omega))) rfl dX5_readOne_21 cs_5_71 rfl rfl (by decide) (Nat.le_of_ble_eq_true rfl) (fun r_21 hr_21 ho_21 => ?_)
    refine go_if_ne (tgt := 33) dX5_readOne_24 (by decide) ⟨by omega, by omega⟩ (fun h_24 => ?_) (fun h_24 => ?_)
    · refine go_aload_n dX5_readOne_33 rfl ?_
      refine go_getf_i (ki := 0) dX5_readOne_34 fl_5_9 ob_76 rfl rfl (fun hf_34 => ?_)
      rw [show (m 76 0 : Int) = o from h0] at hf_34 ⊢
      refine go_bipush dX5_readOne_37 (by decide) ?_
      refine go_icmp_ge (tgt := 48) dX5_readOne_39 (by decide) ⟨by omega, by omega⟩ ⟨by omega, by omega⟩ (fun h_39 => ?_) (fun h_39 => ?_)
      · refine go_aload_n dX5_readOne_48 rfl ?_
        refine go_iconst dX5_readOne_49 ?_
        refine go_callV_z (as := [vi 4]) (S := []) (b := 1) (ev_X7_refuse (m := m) (k := 4) (by first | assumption | omega | exact ⟨by omega, by omega⟩ | (constructor <;> omega))) rfl dX5_readOne_50 cv_5_57 rfl rfl ob_1 rfl (by decide) (Nat.le_of_ble_eq_true rfl) (fun r_50 m_50 hr_50 ho_50 => ?_)
        refine go_ret (v := r_50) rfl dX5_readOne_53 (okZ (by first | exact Or.inl rfl | exact Or.inr rfl | assumption | omega)) ?_
        rw [hr_50.2, show oneF B 3 i o = (4, i, o, []) by unfold oneF; rw [if_neg (by omega), if_pos (by omega)]]
        exact Or.inr ⟨by omega, (show (4 : Int) ≠ 0 by decide), hsq.ref⟩
      · refine go_iload_n dX5_readOne_42 rfl ?_
        refine go_bipush dX5_readOne_43 (by decide) ?_
        refine go_icmp_le (tgt := 54) dX5_readOne_45 (by decide) ⟨by omega, by omega⟩ ⟨by omega, by omega⟩ (fun h_45 => ?_) (fun h_45 => ?_)
        · refine go_aload_n dX5_readOne_54 rfl ?_
          refine go_dup_r dX5_readOne_55 ?_
          refine go_getf_i (ki := 0) dX5_readOne_56 fl_5_9 ob_76 rfl rfl (fun hf_56 => ?_)
          rw [show (m 76 0 : Int) = o from h0] at hf_56 ⊢
          refine go_iconst dX5_readOne_59 ?_
          refine go_iadd dX5_readOne_60 ?_
          refine go_putf_i (ki := 0) dX5_readOne_61 fw_5_9 ob_76 rfl rfl ⟨by omega, by omega⟩ ?_
          have sq1 := hsq.one (x := o + 1)
          refine go_iload dX5_readOne_64 rfl ?_
          by_cases hk_66_0 : (B 4 i) = 40
          · refine go_lswitch (off := 82) (tgt := 148) dX5_readOne_66 ⟨by omega, by omega⟩ (by decide) (by rw [hk_66_0] <;> rfl) (by decide) ?_
            refine go_aload_n dX5_readOne_148 rfl ?_
            refine go_aload_n dX5_readOne_149 rfl ?_
            refine go_aload_n dX5_readOne_150 rfl ?_
            refine go_iload_n dX5_readOne_151 rfl ?_
            refine go_callV_z (as := [vr 1, vr 8, vi k]) (S := []) (b := 76) (ev_X5_brk3 (m := (wr m 76 0 (o + 1))) (k := k) (B := B) (i := i) (o := (o + 1)) (l := l) sq1 (by first | assumption | omega | exact ⟨by omega, by omega⟩ | (constructor <;> omega)) (by first | assumption | omega | exact ⟨by omega, by omega⟩ | (constructor <;> omega)) (by omega) (by omega) (by first | assumption | omega | exact ⟨by omega, by omega⟩ | (constructor <;> omega)) (by first | assumption | omega | exact ⟨by omega, by omega⟩ | (constructor <;> omega))) rfl dX5_readOne_152 cv_5_78 rfl rfl ob_76 rfl (by decide) (Nat.le_of_ble_eq_true rfl) (fun r_152 m_152 hr_152 ho_152 => ?_)
            refine go_ret (v := r_152) rfl dX5_readOne_155 (okZ (by first | exact Or.inl rfl | exact Or.inr rfl | assumption | omega)) ?_
            rw [show oneF B 3 i o = brkF (B 4) (seqF (B 4) 213 (seqF (B 4) 214 (oneF B 2))) i (o + 1) by unfold oneF; rw [if_neg (by omega), if_neg (by omega), if_neg (by omega), if_pos (by omega)]]
            exact hr_152
          · skip
            by_cases hk_66_1 : (B 4 i) = 215
            · refine go_lswitch (off := 74) (tgt := 140) dX5_readOne_66 ⟨by omega, by omega⟩ (by decide) (by rw [hk_66_1] <;> rfl) (by decide) ?_
              refine go_aload_n dX5_readOne_140 rfl ?_
              refine go_aload_n dX5_readOne_141 rfl ?_
              refine go_aload_n dX5_readOne_142 rfl ?_
              refine go_iload_n dX5_readOne_143 rfl ?_
              refine go_callV_z (as := [vr 1, vr 8, vi k]) (S := []) (b := 76) (ev_X5_not3 (m := (wr m 76 0 (o + 1))) (k := k) (B := B) (i := i) (o := (o + 1)) (l := l) sq1 (by first | assumption | omega | exact ⟨by omega, by omega⟩ | (constructor <;> omega)) (by first | assumption | omega | exact ⟨by omega, by omega⟩ | (constructor <;> omega)) (by omega) (by omega) (by first | assumption | omega | exact ⟨by omega, by omega⟩ | (constructor <;> omega)) (by first | assumption | omega | exact ⟨by omega, by omega⟩ | (constructor <;> omega))) rfl dX5_readOne_144 cv_5_75 rfl rfl ob_76 rfl (by decide) (Nat.le_of_ble_eq_true rfl) (fun r_144 m_144 hr_144 ho_144 => ?_)
              refine go_ret (v := r_144) rfl dX5_readOne_147 (okZ (by first | exact Or.inl rfl | exact Or.inr rfl | assumption | omega)) ?_
              rw [show oneF B 3 i o = notF (oneF B 2) i (o + 1) by unfold oneF; rw [if_neg (by omega), if_neg (by omega), if_pos (by omega)]]
              exact hr_144
            · skip
              by_cases hk_66_2 : (B 4 i) = 219
              · refine go_lswitch (off := 90) (tgt := 156) dX5_readOne_66 ⟨by omega, by omega⟩ (by decide) (by rw [hk_66_2] <;> rfl) (by decide) ?_
                refine go_aload_n dX5_readOne_156 rfl ?_
                refine go_aload_n dX5_readOne_157 rfl ?_
                refine go_aload_n dX5_readOne_158 rfl ?_
                refine go_iload dX5_readOne_159 rfl ?_
                refine go_callV_z (as := [vr 1, vr 8, vi (B 4 i)]) (S := []) (b := 76) (ev_X5_readNamed (m := (wr m 76 0 (o + 1))) (k := (B 4 i)) (B := B) (i := i) (o := (o + 1)) (l := l) sq1 (by first | assumption | omega | exact ⟨by omega, by omega⟩ | (constructor <;> omega)) (by first | assumption | omega | exact ⟨by omega, by omega⟩ | (constructor <;> omega)) (by omega) (by omega) (by first | assumption | omega | exact ⟨by omega, by omega⟩ | (constructor <;> omega)) (by first | assumption | omega | exact ⟨by omega, by omega⟩ | (constructor <;> omega))) rfl dX5_readOne_161 cv_5_81 rfl rfl ob_76 rfl (by decide) (Nat.le_of_ble_eq_true rfl) (fun r_161 m_161 hr_161 ho_161 => ?_)
                refine go_ret (v := r_161) rfl dX5_readOne_164 (okZ (by first | exact Or.inl rfl | exact Or.inr rfl | assumption | omega)) ?_
                rw [show oneF B 3 i o = namF B i (o + 1) by unfold oneF; rw [if_neg (by omega), if_neg (by omega), if_neg (by omega), if_neg (by omega), if_pos (by omega)]]
                exact hr_161
              · skip
                by_cases hk_66_3 : (B 4 i) = 220
                · refine go_lswitch (off := 90) (tgt := 156) dX5_readOne_66 ⟨by omega, by omega⟩ (by decide) (by rw [hk_66_3] <;> rfl) (by decide) ?_
                  refine go_aload_n dX5_readOne_156 rfl ?_
                  refine go_aload_n dX5_readOne_157 rfl ?_
                  refine go_aload_n dX5_readOne_158 rfl ?_
                  refine go_iload dX5_readOne_159 rfl ?_
                  refine go_callV_z (as := [vr 1, vr 8, vi (B 4 i)]) (S := []) (b := 76) (ev_X5_readNamed (m := (wr m 76 0 (o + 1))) (k := (B 4 i)) (B := B) (i := i) (o := (o + 1)) (l := l) sq1 (by first | assumption | omega | exact ⟨by omega, by omega⟩ | (constructor <;> omega)) (by first | assumption | omega | exact ⟨by omega, by omega⟩ | (constructor <;> omega)) (by omega) (by omega) (by first | assumption | omega | exact ⟨by omega, by omega⟩ | (constructor <;> omega)) (by first | assumption | omega | exact ⟨by omega, by omega⟩ | (constructor <;> omega))) rfl dX5_readOne_161 cv_5_81 rfl rfl ob_76 rfl (by decide) (Nat.le_of_ble_eq_true rfl) (fun r_161 m_161 hr_161 ho_161 => ?_)
                  refine go_ret (v := r_161) rfl dX5_readOne_164 (okZ (by first | exact Or.inl rfl | exact Or.inr rfl | assumption | omega)) ?_
                  rw [show oneF B 3 i o = namF B i (o + 1) by unfold oneF; rw [if_neg (by omega), if_neg (by omega), if_neg (by omega), if_neg (by omega), if_pos (by omega)]]
                  exact hr_161
                · skip
                  by_cases hk_66_4 : (B 4 i) = 221
                  · refine go_lswitch (off := 99) (tgt := 165) dX5_readOne_66 ⟨by omega, by omega⟩ (by decide) (by rw [hk_66_4] <;> rfl) (by decide) ?_
                    refine go_aload_n dX5_readOne_165 rfl ?_
                    refine go_aload_n dX5_readOne_166 rfl ?_
                    refine go_iload dX5_readOne_167 rfl ?_
                    refine go_callV_z (as := [vr 1, vi (B 4 i)]) (S := []) (b := 76) (ev_X5_readCompared (m := (wr m 76 0 (o + 1))) (k := (B 4 i)) (B := B) (i := i) (o := (o + 1)) (l := l) sq1 (by first | assumption | omega | exact ⟨by omega, by omega⟩ | (constructor <;> omega)) (by first | assumption | omega | exact ⟨by omega, by omega⟩ | (constructor <;> omega)) (by omega) (by omega) (by first | assumption | omega | exact ⟨by omega, by omega⟩ | (constructor <;> omega)) (by first | assumption | omega | exact ⟨by omega, by omega⟩ | (constructor <;> omega))) rfl dX5_readOne_169 cv_5_84 rfl rfl ob_76 rfl (by decide) (Nat.le_of_ble_eq_true rfl) (fun r_169 m_169 hr_169 ho_169 => ?_)
                    refine go_ret (v := r_169) rfl dX5_readOne_172 (okZ (by first | exact Or.inl rfl | exact Or.inr rfl | assumption | omega)) ?_
                    rw [show oneF B 3 i o = cmpF B i (o + 1) by unfold oneF; rw [if_neg (by omega), if_neg (by omega), if_neg (by omega), if_neg (by omega), if_neg (by omega), if_pos (by omega)]]
                    exact hr_169
                  · skip
                    by_cases hk_66_5 : (B 4 i) = 222
                    · refine go_lswitch (off := 99) (tgt := 165) dX5_readOne_66 ⟨by omega, by omega⟩ (by decide) (by rw [hk_66_5] <;> rfl) (by decide) ?_
                      refine go_aload_n dX5_readOne_165 rfl ?_
                      refine go_aload_n dX5_readOne_166 rfl ?_
                      refine go_iload dX5_readOne_167 rfl ?_
                      refine go_callV_z (as := [vr 1, vi (B 4 i)]) (S := []) (b := 76) (ev_X5_readCompared (m := (wr m 76 0 (o + 1))) (k := (B 4 i)) (B := B) (i := i) (o := (o + 1)) (l := l) sq1 (by first | assumption | omega | exact ⟨by omega, by omega⟩ | (constructor <;> omega)) (by first | assumption | omega | exact ⟨by omega, by omega⟩ | (constructor <;> omega)) (by omega) (by omega) (by first | assumption | omega | exact ⟨by omega, by omega⟩ | (constructor <;> omega)) (by first | assumption | omega | exact ⟨by omega, by omega⟩ | (constructor <;> omega))) rfl dX5_readOne_169 cv_5_84 rfl rfl ob_76 rfl (by decide) (Nat.le_of_ble_eq_true rfl) (fun r_169 m_169 hr_169 ho_169 => ?_)
                      refine go_ret (v := r_169) rfl dX5_readOne_172 (okZ (by first | exact Or.inl rfl | exact Or.inr rfl | assumption | omega)) ?_
                      rw [show oneF B 3 i o = cmpF B i (o + 1) by unfold oneF; rw [if_neg (by omega), if_neg (by omega), if_neg (by omega), if_neg (by omega), if_neg (by omega), if_pos (by omega)]]
                      exact hr_169
                    · skip
                      by_cases hk_66_6 : (B 4 i) = 223
                      · refine go_lswitch (off := 99) (tgt := 165) dX5_readOne_66 ⟨by omega, by omega⟩ (by decide) (by rw [hk_66_6] <;> rfl) (by decide) ?_
                        refine go_aload_n dX5_readOne_165 rfl ?_
                        refine go_aload_n dX5_readOne_166 rfl ?_
                        refine go_iload dX5_readOne_167 rfl ?_
                        refine go_callV_z (as := [vr 1, vi (B 4 i)]) (S := []) (b := 76) (ev_X5_readCompared (m := (wr m 76 0 (o + 1))) (k := (B 4 i)) (B := B) (i := i) (o := (o + 1)) (l := l) sq1 (by first | assumption | omega | exact ⟨by omega, by omega⟩ | (constructor <;> omega)) (by first | assumption | omega | exact ⟨by omega, by omega⟩ | (constructor <;> omega)) (by omega) (by omega) (by first | assumption | omega | exact ⟨by omega, by omega⟩ | (constructor <;> omega)) (by first | assumption | omega | exact ⟨by omega, by omega⟩ | (constructor <;> omega))) rfl dX5_readOne_169 cv_5_84 rfl rfl ob_76 rfl (by decide) (Nat.le_of_ble_eq_true rfl) (fun r_169 m_169 hr_169 ho_169 => ?_)
                        refine go_ret (v := r_169) rfl dX5_readOne_172 (okZ (by first | exact Or.inl rfl | exact Or.inr rfl | assumption | omega)) ?_
                        rw [show oneF B 3 i o = cmpF B i (o + 1) by unfold oneF; rw [if_neg (by omega), if_neg (by omega), if_neg (by omega), if_neg (by omega), if_neg (by omega), if_pos (by omega)]]
                        exact hr_169
                      · skip
                        by_cases hk_66_7 : (B 4 i) = 224
                        · refine go_lswitch (off := 99) (tgt := 165) dX5_readOne_66 ⟨by omega, by omega⟩ (by decide) (by rw [hk_66_7] <;> rfl) (by decide) ?_
                          refine go_aload_n dX5_readOne_165 rfl ?_
                          refine go_aload_n dX5_readOne_166 rfl ?_
                          refine go_iload dX5_readOne_167 rfl ?_
                          refine go_callV_z (as := [vr 1, vi (B 4 i)]) (S := []) (b := 76) (ev_X5_readCompared (m := (wr m 76 0 (o + 1))) (k := (B 4 i)) (B := B) (i := i) (o := (o + 1)) (l := l) sq1 (by first | assumption | omega | exact ⟨by omega, by omega⟩ | (constructor <;> omega)) (by first | assumption | omega | exact ⟨by omega, by omega⟩ | (constructor <;> omega)) (by omega) (by omega) (by first | assumption | omega | exact ⟨by omega, by omega⟩ | (constructor <;> omega)) (by first | assumption | omega | exact ⟨by omega, by omega⟩ | (constructor <;> omega))) rfl dX5_readOne_169 cv_5_84 rfl rfl ob_76 rfl (by decide) (Nat.le_of_ble_eq_true rfl) (fun r_169 m_169 hr_169 ho_169 => ?_)
                          refine go_ret (v := r_169) rfl dX5_readOne_172 (okZ (by first | exact Or.inl rfl | exact Or.inr rfl | assumption | omega)) ?_
                          rw [show oneF B 3 i o = cmpF B i (o + 1) by unfold oneF; rw [if_neg (by omega), if_neg (by omega), if_neg (by omega), if_neg (by omega), if_neg (by omega), if_pos (by omega)]]
                          exact hr_169
                        · skip
                          refine go_lswitch (off := 107) (tgt := 173) dX5_readOne_66 ⟨by omega, by omega⟩ (by decide) (by simp [Op.lookupswitch.offset, hk_66_0, show ¬ (40 : Int) = (B 4 i) from fun z => hk_66_0 z.symm, hk_66_1, show ¬ (215 : Int) = (B 4 i) from fun z => hk_66_1 z.symm, hk_66_2, show ¬ (219 : Int) = (B 4 i) from fun z => hk_66_2 z.symm, hk_66_3, show ¬ (220 : Int) = (B 4 i) from fun z => hk_66_3 z.symm, hk_66_4, show ¬ (221 : Int) = (B 4 i) from fun z => hk_66_4 z.symm, hk_66_5, show ¬ (222 : Int) = (B 4 i) from fun z => hk_66_5 z.symm, hk_66_6, show ¬ (223 : Int) = (B 4 i) from fun z => hk_66_6 z.symm, hk_66_7, show ¬ (224 : Int) = (B 4 i) from fun z => hk_66_7 z.symm]) (by decide) ?_
                          refine go_aload_n dX5_readOne_173 rfl ?_
                          refine go_iload dX5_readOne_174 rfl ?_
                          refine go_iconst dX5_readOne_176 ?_
                          refine go_iconst dX5_readOne_177 ?_
                          refine go_callV_v (as := [vi (B 4 i), vi 0, vi 0]) (S := []) (b := 76) (ev_X5_add (m := (wr m 76 0 (o + 1))) (k := (B 4 i)) (g := 0) (v := 0) (by first | assumption | omega | exact ⟨by omega, by omega⟩ | (constructor <;> omega)) (by first | assumption | omega | exact ⟨by omega, by omega⟩ | (constructor <;> omega)) (by first | assumption | omega | exact ⟨by omega, by omega⟩ | (constructor <;> omega)) (by rw [sq1.2.2.2.1]; omega)) rfl dX5_readOne_178 cv_5_64 rfl rfl ob_76 rfl (by decide) (Nat.le_of_ble_eq_true rfl) (fun m_178 hr_178 => ?_)
                          have sq3 := sq1.add (k := B 4 i) (g := 0) (v := 0)
                          subst hr_178
                          refine go_aload_n dX5_readOne_181 rfl ?_
                          refine go_callV_v (as := []) (S := []) (b := 1) (ev_X7_next (m := (addM (wr m 76 0 (o + 1)) (B 4 i) 0 0))  (by rw [sq3.1.1, sq3.1.2.1]; have h := hk.lt sq3.2.1.2 (by omega); have h2 := sq3.2.1; omega)) rfl dX5_readOne_182 cv_5_47 rfl rfl ob_1 rfl (by decide) (Nat.le_of_ble_eq_true rfl) (fun m_182 hr_182 => ?_)
                          have sq4 := sq3.nx hk (by omega)
                          subst hr_182
                          refine go_iconst dX5_readOne_185 ?_
                          refine go_ret (v := 1) rfl dX5_readOne_186 (okZ (by first | exact Or.inl rfl | exact Or.inr rfl | assumption | omega)) ?_
                          rw [show oneF B 3 i o = (0, i + 1, o + 1, [(B 4 i, 0, 0)]) by unfold oneF; rw [if_neg (by omega), if_neg (by omega), if_neg (by omega), if_neg (by omega), if_neg (by omega), if_neg (by omega)]]
                          exact Or.inl ⟨rfl, rfl, sq4⟩
        · exfalso; omega
    · refine go_aload_n dX5_readOne_27 rfl ?_
      refine go_iconst dX5_readOne_28 ?_
      refine go_callV_z (as := [vi 1]) (S := []) (b := 1) (ev_X7_refuse (m := m) (k := 1) (by first | assumption | omega | exact ⟨by omega, by omega⟩ | (constructor <;> omega))) rfl dX5_readOne_29 cv_5_57 rfl rfl ob_1 rfl (by decide) (Nat.le_of_ble_eq_true rfl) (fun r_29 m_29 hr_29 ho_29 => ?_)
      refine go_ret (v := r_29) rfl dX5_readOne_32 (okZ (by first | exact Or.inl rfl | exact Or.inr rfl | assumption | omega)) ?_
      rw [hr_29.2, show oneF B 3 i o = (1, i, o, []) by unfold oneF; rw [if_pos (by omega)]]
      exact Or.inr ⟨by omega, (show (1 : Int) ≠ 0 by decide), hsq.ref⟩
set_option maxRecDepth 4000 in
theorem ev_X5_all3 {m : Mem} {B : Mem} {i : Int} {o : Int} {l : List Cd} {k : Int} (hsq : SQ B m i o l) (hk : TkS B) (hdb : DnOk B 8) (ho : 0 ≤ o ∧ o ≤ 20) (hl : (l.length : Int) ≤ 2 * o) (hd : k = 6) : Ev 0 26 mX5_readAll [vr 76, vr 1, vr 8, vi k] m (fun r m' => QP B r m' l (seqF (B 4) 214 (oneF B 3) i o)) := by
  refine Ev.of (L := [vr 76, vr 1, vr 8, vi k, un]) (by decide +kernel) rfl (Nat.le_of_ble_eq_true rfl) rfl (fun t ht => by cases ht; first | exact Or.inl rfl | exact Or.inr (Or.inl rfl) | exact Or.inr (Or.inr rfl)) (fun hcan => ?_)
  have hi := hsq.2.1
  have hkb := hk.1
  have h0 := hsq.2.2.1
  have h1 := hsq.2.2.2.1
  have e12 := hsq.1.1
  have e11 := hsq.1.2.1
  have hPB : PB (oneF B 3) := (oneF_b B 3)
  refine go_aload_n dX5_readAll_0 rfl ?_
  refine go_aload_n dX5_readAll_1 rfl ?_
  refine go_aload_n dX5_readAll_2 rfl ?_
  refine go_iload_n dX5_readAll_3 rfl ?_
  refine go_callV_z (as := [vr 1, vr 8, vi k]) (S := []) (b := 76) (ev_X5_one3 (m := m) (k := k) (B := B) (i := i) (o := o) (l := l) hsq (by first | assumption | omega | exact ⟨by omega, by omega⟩ | (constructor <;> omega)) (by first | assumption | omega | exact ⟨by omega, by omega⟩ | (constructor <;> omega)) (by first | assumption | omega | exact ⟨by omega, by omega⟩ | (constructor <;> omega)) (by first | assumption | omega | exact ⟨by omega, by omega⟩ | (constructor <;> omega)) (by first | assumption | omega | exact ⟨by omega, by omega⟩ | (constructor <;> omega))) rfl dX5_readAll_4 cv_5_68 rfl rfl ob_76 rfl (by decide) (Nat.le_of_ble_eq_true rfl) (fun r_4 m_4 hr_4 ho_4 => ?_)
  refine go_if_ne (tgt := 12) dX5_readAll_7 (by decide) ⟨by omega, by omega⟩ (fun h_7 => ?_) (fun h_7 => ?_)
  · obtain ⟨-, x1, x2⟩ := hr_4.resolve_right (fun h => h_7 h.1)
    have hR1 := hPB i o (by omega) (by omega) x1
    refine go_iconst dX5_readAll_12 ?_
    refine go_istore (L' := [vr 76, vr 1, vr 8, vi k, vi 0]) dX5_readAll_13 (by decide) rfl rfl ?_
    have lp_15 : ∀ (n_15 : Nat) (m1 : Mem) (j : Int) (a : Rs) (f : Nat), (a.1 = 0) → (SQ B m1 a.2.1 a.2.2.1 (l ++ a.2.2.2)) → (seqL (B 4) 214 (oneF B 3) f a = seqL (B 4) 214 (oneF B 3) 21 ((oneF B 3) i o)) → (0 ≤ j ∧ j + (f : Int) = 21) → ((o + 1 + j ≤ a.2.2.1 ∧ a.2.2.1 ≤ 20) ∧ (a.2.2.2.length : Int) + 1 ≤ 2 * (a.2.2.1 - o)) → f < n_15 → Go 0 26 mX5_readAll (fun r m' => QP B r m' l (seqF (B 4) 214 (oneF B 3) i o)) 15 [vr 76, vr 1, vr 8, vi k, vi j] [] m1 := by
      intro n_15
      induction n_15 with
      | zero => intro m1 j a f ha0 hs1 hsl hj hab hmu; exact absurd hmu (Nat.not_lt_zero _)
      | succ n_15 ih_15 =>
        intro m1 j a f ha0 hs1 hsl hj hab hmu
        obtain ⟨hab1, hab2⟩ := hab
        have hsu : seqL (B 4) 214 (oneF B 3) f a = if B 4 a.2.1 = 214 then (if ((oneF B 3) (a.2.1 + 1) a.2.2.1).1 ≠ 0 then ((oneF B 3) (a.2.1 + 1) a.2.2.1) else seqL (B 4) 214 (oneF B 3) (f - 1) (0, ((oneF B 3) (a.2.1 + 1) a.2.2.1).2.1, ((oneF B 3) (a.2.1 + 1) a.2.2.1).2.2.1, a.2.2.2 ++ ((oneF B 3) (a.2.1 + 1) a.2.2.1).2.2.2 ++ [(214, 0, 0)])) else a := by
          obtain ⟨g, rfl⟩ : ∃ g, f = g + 1 := ⟨f - 1, by omega⟩
          rfl
        refine go_iload dX5_readAll_15 rfl ?_
        refine go_bipush dX5_readAll_17 (by decide) ?_
        refine go_icmp_ge (tgt := 63) dX5_readAll_19 (by decide) ⟨by omega, by omega⟩ ⟨by omega, by omega⟩ (fun h_19 => ?_) (fun h_19 => ?_)
        · exfalso; omega
        · refine go_aload_n dX5_readAll_22 rfl ?_
          refine go_getf_i (ki := 2) dX5_readAll_23 fl_5_54 ob_1 rfl rfl (fun hf_23 => ?_)
          rw [show (m1 1 2 : Int) = (B 4 a.2.1) from hs1.kd] at hf_23 ⊢
          refine go_sipush dX5_readAll_26 (by decide) ?_
          refine go_icmp_ne (tgt := 63) dX5_readAll_29 (by decide) hf_23 ⟨by omega, by omega⟩ (fun h_29 => ?_) (fun h_29 => ?_)
          · refine go_iconst dX5_readAll_63 ?_
            refine go_ret (v := 1) rfl dX5_readAll_64 (okZ (by first | exact Or.inl rfl | exact Or.inr rfl | assumption | omega)) ?_
            rw [seqF_e (B 4) 214, if_neg (fun z => z x1), ← hsl, hsu, if_neg (by omega)]
            exact Or.inl ⟨rfl, ha0, hs1⟩
          · refine go_aload_n dX5_readAll_32 rfl ?_
            refine go_callV_v (as := []) (S := []) (b := 1) (ev_X7_next (m := m1)  (by rw [hs1.1.1, hs1.1.2.1]; have h := hs1.2.1; have := hk.lt h.2 (by omega); omega)) rfl dX5_readAll_33 cv_5_47 rfl rfl ob_1 rfl (by decide) (Nat.le_of_ble_eq_true rfl) (fun m_33 hr_33 => ?_)
            have sq1 := hs1.nx hk (by omega)
            subst hr_33
            refine go_aload_n dX5_readAll_36 rfl ?_
            refine go_aload_n dX5_readAll_37 rfl ?_
            refine go_aload_n dX5_readAll_38 rfl ?_
            refine go_iload_n dX5_readAll_39 rfl ?_
            refine go_callV_z (as := [vr 1, vr 8, vi k]) (S := []) (b := 76) (ev_X5_one3 (m := (nxt m1)) (k := k) (B := B) (i := (a.2.1 + 1)) (o := a.2.2.1) (l := (l ++ a.2.2.2)) sq1 (by first | assumption | omega | exact ⟨by omega, by omega⟩ | (constructor <;> omega)) (by first | assumption | omega | exact ⟨by omega, by omega⟩ | (constructor <;> omega)) (by omega) (by simp only [List.length_append]; omega) (by first | assumption | omega | exact ⟨by omega, by omega⟩ | (constructor <;> omega))) rfl dX5_readAll_40 cv_5_68 rfl rfl ob_76 rfl (by decide) (Nat.le_of_ble_eq_true rfl) (fun r_40 m_40 hr_40 ho_40 => ?_)
            refine go_if_ne (tgt := 48) dX5_readAll_43 (by decide) ⟨by omega, by omega⟩ (fun h_43 => ?_) (fun h_43 => ?_)
            · obtain ⟨-, x1, x2⟩ := hr_40.resolve_right (fun h => h_43 h.1)
              have hR2 := hPB (a.2.1 + 1) a.2.2.1 (by omega) (by omega) x1
              refine go_aload_n dX5_readAll_48 rfl ?_
              refine go_sipush dX5_readAll_49 (by decide) ?_
              refine go_iconst dX5_readAll_52 ?_
              refine go_iconst dX5_readAll_53 ?_
              refine go_callV_v (as := [vi 214, vi 0, vi 0]) (S := []) (b := 76) (ev_X5_add (m := m_40) (k := 214) (g := 0) (v := 0) (by first | assumption | omega | exact ⟨by omega, by omega⟩ | (constructor <;> omega)) (by first | assumption | omega | exact ⟨by omega, by omega⟩ | (constructor <;> omega)) (by first | assumption | omega | exact ⟨by omega, by omega⟩ | (constructor <;> omega)) (by rw [x2.2.2.2.1]; simp only [List.length_append]; omega)) rfl dX5_readAll_54 cv_5_64 rfl rfl ob_76 rfl (by decide) (Nat.le_of_ble_eq_true rfl) (fun m_54 hr_54 => ?_)
              have sq3 := x2.add (k := 214) (g := 0) (v := 0)
              subst hr_54
              refine go_iinc (L' := [vr 76, vr 1, vr 8, vi k, vi (j + 1)]) dX5_readAll_57 rfl (by decide) rfl rfl ?_
              refine go_goto (tgt := 15) dX5_readAll_60 (by decide) ?_
              exact ih_15 (addM m_40 214 0 0) (j + 1) (0, ((oneF B 3) (a.2.1 + 1) a.2.2.1).2.1, ((oneF B 3) (a.2.1 + 1) a.2.2.1).2.2.1, a.2.2.2 ++ ((oneF B 3) (a.2.1 + 1) a.2.2.1).2.2.2 ++ [(214, 0, 0)]) (f - 1) rfl (by show SQ B _ _ _ (l ++ (a.2.2.2 ++ _ ++ _)); rw [← List.append_assoc, ← List.append_assoc]; exact sq3) (by rw [← hsl, hsu, if_pos (by omega), if_neg (fun z => z x1)]) (by first | assumption | omega | rfl) (by
                    refine ⟨⟨?_, ?_⟩, ?_⟩
                    · show o + 1 + (j + 1) ≤ ((oneF B 3) (a.2.1 + 1) a.2.2.1).2.2.1; omega
                    · show ((oneF B 3) (a.2.1 + 1) a.2.2.1).2.2.1 ≤ 20; omega
                    · show ((a.2.2.2 ++ ((oneF B 3) (a.2.1 + 1) a.2.2.1).2.2.2 ++ [(214, 0, 0)] : List Cd).length : Int) + 1 ≤ 2 * (((oneF B 3) (a.2.1 + 1) a.2.2.1).2.2.1 - o)
                      simp only [List.length_append, List.length_singleton]
                      omega) (by omega)
            · refine go_iconst dX5_readAll_46 ?_
              refine go_ret (v := 0) rfl dX5_readAll_47 (okZ (by first | exact Or.inl rfl | exact Or.inr rfl | assumption | omega)) ?_
              obtain ⟨-, y1, y2⟩ := hr_40.resolve_left (fun h => by have := h.1; omega)
              rw [seqF_e (B 4) 214, if_neg (fun z => z x1), ← hsl, hsu, if_pos (by omega), if_pos y1]
              exact Or.inr ⟨rfl, y1, y2⟩
    exact lp_15 _ m_4 0 ((oneF B 3) i o) 21 x1 x2 rfl (by first | assumption | omega | rfl) ⟨by omega, hR1.2.2⟩ (Nat.lt_succ_self _)
  · refine go_iconst dX5_readAll_10 ?_
    refine go_ret (v := 0) rfl dX5_readAll_11 (okZ (by first | exact Or.inl rfl | exact Or.inr rfl | assumption | omega)) ?_
    obtain ⟨-, x1, x2⟩ := hr_4.resolve_left (fun h => by have := h.1; omega)
    rw [seqF_e (B 4) 214, if_pos x1]
    exact Or.inr ⟨rfl, x1, x2⟩
set_option maxRecDepth 4000 in
theorem ev_X5_con3 {m : Mem} {B : Mem} {i : Int} {o : Int} {l : List Cd} {k : Int} (hsq : SQ B m i o l) (hk : TkS B) (hdb : DnOk B 8) (ho : 0 ≤ o ∧ o ≤ 20) (hl : (l.length : Int) ≤ 2 * o) (hd : k = 6) : Ev 0 27 mX5_readCond [vr 76, vr 1, vr 8, vi k] m (fun r m' => QP B r m' l (seqF (B 4) 213 (seqF (B 4) 214 (oneF B 3)) i o)) := by
  refine Ev.of (L := [vr 76, vr 1, vr 8, vi k, un]) (by decide +kernel) rfl (Nat.le_of_ble_eq_true rfl) rfl (fun t ht => by cases ht; first | exact Or.inl rfl | exact Or.inr (Or.inl rfl) | exact Or.inr (Or.inr rfl)) (fun hcan => ?_)
  have hi := hsq.2.1
  have hkb := hk.1
  have h0 := hsq.2.2.1
  have h1 := hsq.2.2.2.1
  have e12 := hsq.1.1
  have e11 := hsq.1.2.1
  have hPB : PB (seqF (B 4) 214 (oneF B 3)) := (seqF_b (oneF_b B 3))
  refine go_aload_n dX5_readCond_0 rfl ?_
  refine go_aload_n dX5_readCond_1 rfl ?_
  refine go_aload_n dX5_readCond_2 rfl ?_
  refine go_iload_n dX5_readCond_3 rfl ?_
  refine go_callV_z (as := [vr 1, vr 8, vi k]) (S := []) (b := 76) (ev_X5_all3 (m := m) (k := k) (B := B) (i := i) (o := o) (l := l) hsq (by first | assumption | omega | exact ⟨by omega, by omega⟩ | (constructor <;> omega)) (by first | assumption | omega | exact ⟨by omega, by omega⟩ | (constructor <;> omega)) (by first | assumption | omega | exact ⟨by omega, by omega⟩ | (constructor <;> omega)) (by first | assumption | omega | exact ⟨by omega, by omega⟩ | (constructor <;> omega)) (by first | assumption | omega | exact ⟨by omega, by omega⟩ | (constructor <;> omega))) rfl dX5_readCond_4 cv_5_61 rfl rfl ob_76 rfl (by decide) (Nat.le_of_ble_eq_true rfl) (fun r_4 m_4 hr_4 ho_4 => ?_)
  refine go_if_ne (tgt := 12) dX5_readCond_7 (by decide) ⟨by omega, by omega⟩ (fun h_7 => ?_) (fun h_7 => ?_)
  · obtain ⟨-, x1, x2⟩ := hr_4.resolve_right (fun h => h_7 h.1)
    have hR1 := hPB i o (by omega) (by omega) x1
    refine go_iconst dX5_readCond_12 ?_
    refine go_istore (L' := [vr 76, vr 1, vr 8, vi k, vi 0]) dX5_readCond_13 (by decide) rfl rfl ?_
    have lp_15 : ∀ (n_15 : Nat) (m1 : Mem) (j : Int) (a : Rs) (f : Nat), (a.1 = 0) → (SQ B m1 a.2.1 a.2.2.1 (l ++ a.2.2.2)) → (seqL (B 4) 213 (seqF (B 4) 214 (oneF B 3)) f a = seqL (B 4) 213 (seqF (B 4) 214 (oneF B 3)) 21 ((seqF (B 4) 214 (oneF B 3)) i o)) → (0 ≤ j ∧ j + (f : Int) = 21) → ((o + 1 + j ≤ a.2.2.1 ∧ a.2.2.1 ≤ 20) ∧ (a.2.2.2.length : Int) + 1 ≤ 2 * (a.2.2.1 - o)) → f < n_15 → Go 0 27 mX5_readCond (fun r m' => QP B r m' l (seqF (B 4) 213 (seqF (B 4) 214 (oneF B 3)) i o)) 15 [vr 76, vr 1, vr 8, vi k, vi j] [] m1 := by
      intro n_15
      induction n_15 with
      | zero => intro m1 j a f ha0 hs1 hsl hj hab hmu; exact absurd hmu (Nat.not_lt_zero _)
      | succ n_15 ih_15 =>
        intro m1 j a f ha0 hs1 hsl hj hab hmu
        obtain ⟨hab1, hab2⟩ := hab
        have hsu : seqL (B 4) 213 (seqF (B 4) 214 (oneF B 3)) f a = if B 4 a.2.1 = 213 then (if ((seqF (B 4) 214 (oneF B 3)) (a.2.1 + 1) a.2.2.1).1 ≠ 0 then ((seqF (B 4) 214 (oneF B 3)) (a.2.1 + 1) a.2.2.1) else seqL (B 4) 213 (seqF (B 4) 214 (oneF B 3)) (f - 1) (0, ((seqF (B 4) 214 (oneF B 3)) (a.2.1 + 1) a.2.2.1).2.1, ((seqF (B 4) 214 (oneF B 3)) (a.2.1 + 1) a.2.2.1).2.2.1, a.2.2.2 ++ ((seqF (B 4) 214 (oneF B 3)) (a.2.1 + 1) a.2.2.1).2.2.2 ++ [(213, 0, 0)])) else a := by
          obtain ⟨g, rfl⟩ : ∃ g, f = g + 1 := ⟨f - 1, by omega⟩
          rfl
        refine go_iload dX5_readCond_15 rfl ?_
        refine go_bipush dX5_readCond_17 (by decide) ?_
        refine go_icmp_ge (tgt := 63) dX5_readCond_19 (by decide) ⟨by omega, by omega⟩ ⟨by omega, by omega⟩ (fun h_19 => ?_) (fun h_19 => ?_)
        · exfalso; omega
        · refine go_aload_n dX5_readCond_22 rfl ?_
          refine go_getf_i (ki := 2) dX5_readCond_23 fl_5_54 ob_1 rfl rfl (fun hf_23 => ?_)
          rw [show (m1 1 2 : Int) = (B 4 a.2.1) from hs1.kd] at hf_23 ⊢
          refine go_sipush dX5_readCond_26 (by decide) ?_
          refine go_icmp_ne (tgt := 63) dX5_readCond_29 (by decide) hf_23 ⟨by omega, by omega⟩ (fun h_29 => ?_) (fun h_29 => ?_)
          · refine go_iconst dX5_readCond_63 ?_
            refine go_ret (v := 1) rfl dX5_readCond_64 (okZ (by first | exact Or.inl rfl | exact Or.inr rfl | assumption | omega)) ?_
            rw [seqF_e (B 4) 213, if_neg (fun z => z x1), ← hsl, hsu, if_neg (by omega)]
            exact Or.inl ⟨rfl, ha0, hs1⟩
          · refine go_aload_n dX5_readCond_32 rfl ?_
            refine go_callV_v (as := []) (S := []) (b := 1) (ev_X7_next (m := m1)  (by rw [hs1.1.1, hs1.1.2.1]; have h := hs1.2.1; have := hk.lt h.2 (by omega); omega)) rfl dX5_readCond_33 cv_5_47 rfl rfl ob_1 rfl (by decide) (Nat.le_of_ble_eq_true rfl) (fun m_33 hr_33 => ?_)
            have sq1 := hs1.nx hk (by omega)
            subst hr_33
            refine go_aload_n dX5_readCond_36 rfl ?_
            refine go_aload_n dX5_readCond_37 rfl ?_
            refine go_aload_n dX5_readCond_38 rfl ?_
            refine go_iload_n dX5_readCond_39 rfl ?_
            refine go_callV_z (as := [vr 1, vr 8, vi k]) (S := []) (b := 76) (ev_X5_all3 (m := (nxt m1)) (k := k) (B := B) (i := (a.2.1 + 1)) (o := a.2.2.1) (l := (l ++ a.2.2.2)) sq1 (by first | assumption | omega | exact ⟨by omega, by omega⟩ | (constructor <;> omega)) (by first | assumption | omega | exact ⟨by omega, by omega⟩ | (constructor <;> omega)) (by omega) (by simp only [List.length_append]; omega) (by first | assumption | omega | exact ⟨by omega, by omega⟩ | (constructor <;> omega))) rfl dX5_readCond_40 cv_5_61 rfl rfl ob_76 rfl (by decide) (Nat.le_of_ble_eq_true rfl) (fun r_40 m_40 hr_40 ho_40 => ?_)
            refine go_if_ne (tgt := 48) dX5_readCond_43 (by decide) ⟨by omega, by omega⟩ (fun h_43 => ?_) (fun h_43 => ?_)
            · obtain ⟨-, x1, x2⟩ := hr_40.resolve_right (fun h => h_43 h.1)
              have hR2 := hPB (a.2.1 + 1) a.2.2.1 (by omega) (by omega) x1
              refine go_aload_n dX5_readCond_48 rfl ?_
              refine go_sipush dX5_readCond_49 (by decide) ?_
              refine go_iconst dX5_readCond_52 ?_
              refine go_iconst dX5_readCond_53 ?_
              refine go_callV_v (as := [vi 213, vi 0, vi 0]) (S := []) (b := 76) (ev_X5_add (m := m_40) (k := 213) (g := 0) (v := 0) (by first | assumption | omega | exact ⟨by omega, by omega⟩ | (constructor <;> omega)) (by first | assumption | omega | exact ⟨by omega, by omega⟩ | (constructor <;> omega)) (by first | assumption | omega | exact ⟨by omega, by omega⟩ | (constructor <;> omega)) (by rw [x2.2.2.2.1]; simp only [List.length_append]; omega)) rfl dX5_readCond_54 cv_5_64 rfl rfl ob_76 rfl (by decide) (Nat.le_of_ble_eq_true rfl) (fun m_54 hr_54 => ?_)
              have sq3 := x2.add (k := 213) (g := 0) (v := 0)
              subst hr_54
              refine go_iinc (L' := [vr 76, vr 1, vr 8, vi k, vi (j + 1)]) dX5_readCond_57 rfl (by decide) rfl rfl ?_
              refine go_goto (tgt := 15) dX5_readCond_60 (by decide) ?_
              exact ih_15 (addM m_40 213 0 0) (j + 1) (0, ((seqF (B 4) 214 (oneF B 3)) (a.2.1 + 1) a.2.2.1).2.1, ((seqF (B 4) 214 (oneF B 3)) (a.2.1 + 1) a.2.2.1).2.2.1, a.2.2.2 ++ ((seqF (B 4) 214 (oneF B 3)) (a.2.1 + 1) a.2.2.1).2.2.2 ++ [(213, 0, 0)]) (f - 1) rfl (by show SQ B _ _ _ (l ++ (a.2.2.2 ++ _ ++ _)); rw [← List.append_assoc, ← List.append_assoc]; exact sq3) (by rw [← hsl, hsu, if_pos (by omega), if_neg (fun z => z x1)]) (by first | assumption | omega | rfl) (by
                    refine ⟨⟨?_, ?_⟩, ?_⟩
                    · show o + 1 + (j + 1) ≤ ((seqF (B 4) 214 (oneF B 3)) (a.2.1 + 1) a.2.2.1).2.2.1; omega
                    · show ((seqF (B 4) 214 (oneF B 3)) (a.2.1 + 1) a.2.2.1).2.2.1 ≤ 20; omega
                    · show ((a.2.2.2 ++ ((seqF (B 4) 214 (oneF B 3)) (a.2.1 + 1) a.2.2.1).2.2.2 ++ [(213, 0, 0)] : List Cd).length : Int) + 1 ≤ 2 * (((seqF (B 4) 214 (oneF B 3)) (a.2.1 + 1) a.2.2.1).2.2.1 - o)
                      simp only [List.length_append, List.length_singleton]
                      omega) (by omega)
            · refine go_iconst dX5_readCond_46 ?_
              refine go_ret (v := 0) rfl dX5_readCond_47 (okZ (by first | exact Or.inl rfl | exact Or.inr rfl | assumption | omega)) ?_
              obtain ⟨-, y1, y2⟩ := hr_40.resolve_left (fun h => by have := h.1; omega)
              rw [seqF_e (B 4) 213, if_neg (fun z => z x1), ← hsl, hsu, if_pos (by omega), if_pos y1]
              exact Or.inr ⟨rfl, y1, y2⟩
    exact lp_15 _ m_4 0 ((seqF (B 4) 214 (oneF B 3)) i o) 21 x1 x2 rfl (by first | assumption | omega | rfl) ⟨by omega, hR1.2.2⟩ (Nat.lt_succ_self _)
  · refine go_iconst dX5_readCond_10 ?_
    refine go_ret (v := 0) rfl dX5_readCond_11 (okZ (by first | exact Or.inl rfl | exact Or.inr rfl | assumption | omega)) ?_
    obtain ⟨-, x1, x2⟩ := hr_4.resolve_left (fun h => by have := h.1; omega)
    rw [seqF_e (B 4) 213, if_pos x1]
    exact Or.inr ⟨rfl, x1, x2⟩
set_option maxRecDepth 4000 in
theorem ev_X5_not4 {m : Mem} {B : Mem} {i : Int} {o : Int} {l : List Cd} {k : Int} (hsq : SQ B m i o l) (hk : TkS B) (hdb : DnOk B 8) (ho : 1 ≤ o ∧ o ≤ 20) (hl : (l.length : Int) + 2 ≤ 2 * o) (hd : k = 5) (hki : B 4 i = 215) : Ev 0 29 mX5_readNot [vr 76, vr 1, vr 8, vi k] m (fun r m' => QP B r m' l (notF (oneF B 3) i o)) := by
  refine Ev.of (L := [vr 76, vr 1, vr 8, vi k]) (by decide +kernel) rfl (Nat.le_of_ble_eq_true rfl) rfl (fun t ht => by cases ht; first | exact Or.inl rfl | exact Or.inr (Or.inl rfl) | exact Or.inr (Or.inr rfl)) (fun hcan => ?_)
  have hi := hsq.2.1
  have hkb := hk.1
  have h0 := hsq.2.2.1
  have h1 := hsq.2.2.2.1
  have e12 := hsq.1.1
  have e11 := hsq.1.2.1
  have hR : RB o ((oneF B 3) (i + 1) o) := oneF_b B 3 (i + 1) o (by omega) (by omega)
  refine go_aload_n dX5_readNot_0 rfl ?_
  refine go_callV_v (as := []) (S := []) (b := 1) (ev_X7_next (m := m)  (by rw [hsq.1.1, hsq.1.2.1]; have h := hk.lt hsq.2.1.2 (by omega); have h2 := hsq.2.1; omega)) rfl dX5_readNot_1 cv_5_47 rfl rfl ob_1 rfl (by decide) (Nat.le_of_ble_eq_true rfl) (fun m_1 hr_1 => ?_)
  have sq1 := hsq.nx hk (by omega)
  subst hr_1
  refine go_aload_n dX5_readNot_4 rfl ?_
  refine go_aload_n dX5_readNot_5 rfl ?_
  refine go_aload_n dX5_readNot_6 rfl ?_
  refine go_iload_n dX5_readNot_7 rfl ?_
  refine go_iconst dX5_readNot_8 ?_
  refine go_iadd dX5_readNot_9 ?_
  refine go_callV_z (as := [vr 1, vr 8, vi (k + 1)]) (S := []) (b := 76) (ev_X5_one3 (m := (nxt m)) (k := (k + 1)) (B := B) (i := (i + 1)) (o := o) (l := l) sq1 (by first | assumption | omega | exact ⟨by omega, by omega⟩ | (constructor <;> omega)) (by first | assumption | omega | exact ⟨by omega, by omega⟩ | (constructor <;> omega)) (by first | assumption | omega | exact ⟨by omega, by omega⟩ | (constructor <;> omega)) (by omega) (by first | assumption | omega | exact ⟨by omega, by omega⟩ | (constructor <;> omega))) rfl dX5_readNot_10 cv_5_68 rfl rfl ob_76 rfl (by decide) (Nat.le_of_ble_eq_true rfl) (fun r_10 m_10 hr_10 ho_10 => ?_)
  refine go_if_ne (tgt := 18) dX5_readNot_13 (by decide) ⟨by omega, by omega⟩ (fun h_13 => ?_) (fun h_13 => ?_)
  · obtain ⟨-, x1, x2⟩ := hr_10.resolve_right (fun h => h_13 h.1)
    refine go_aload_n dX5_readNot_18 rfl ?_
    refine go_sipush dX5_readNot_19 (by decide) ?_
    refine go_iconst dX5_readNot_22 ?_
    refine go_iconst dX5_readNot_23 ?_
    refine go_callV_v (as := [vi 215, vi 0, vi 0]) (S := []) (b := 76) (ev_X5_add (m := m_10) (k := 215) (g := 0) (v := 0) (by first | assumption | omega | exact ⟨by omega, by omega⟩ | (constructor <;> omega)) (by first | assumption | omega | exact ⟨by omega, by omega⟩ | (constructor <;> omega)) (by first | assumption | omega | exact ⟨by omega, by omega⟩ | (constructor <;> omega)) (by rw [x2.2.2.2.1]; simp only [List.length_append]; have h := hR x1; omega)) rfl dX5_readNot_24 cv_5_64 rfl rfl ob_76 rfl (by decide) (Nat.le_of_ble_eq_true rfl) (fun m_24 hr_24 => ?_)
    have sq3 := x2.add (k := 215) (g := 0) (v := 0)
    subst hr_24
    refine go_iconst dX5_readNot_27 ?_
    refine go_ret (v := 1) rfl dX5_readNot_28 (okZ (by first | exact Or.inl rfl | exact Or.inr rfl | assumption | omega)) ?_
    rw [List.append_assoc] at sq3
    exact Or.inl ⟨rfl, x1, sq3⟩
  · refine go_iconst dX5_readNot_16 ?_
    refine go_ret (v := 0) rfl dX5_readNot_17 (okZ (by first | exact Or.inl rfl | exact Or.inr rfl | assumption | omega)) ?_
    obtain ⟨-, x1, x2⟩ := hr_10.resolve_left (fun h => by have := h.1; omega)
    exact Or.inr ⟨rfl, x1, x2⟩
set_option maxRecDepth 4000 in
theorem ev_X5_brk4 {m : Mem} {B : Mem} {i : Int} {o : Int} {l : List Cd} {k : Int} (hsq : SQ B m i o l) (hk : TkS B) (hdb : DnOk B 8) (ho : 1 ≤ o ∧ o ≤ 20) (hl : (l.length : Int) + 2 ≤ 2 * o) (hd : k = 5) (hki : B 4 i = 40) : Ev 0 29 mX5_readBracket [vr 76, vr 1, vr 8, vi k] m (fun r m' => QP B r m' l (brkF (B 4) (seqF (B 4) 213 (seqF (B 4) 214 (oneF B 3))) i o)) := by
  refine Ev.of (L := [vr 76, vr 1, vr 8, vi k]) (by decide +kernel) rfl (Nat.le_of_ble_eq_true rfl) rfl (fun t ht => by cases ht; first | exact Or.inl rfl | exact Or.inr (Or.inl rfl) | exact Or.inr (Or.inr rfl)) (fun hcan => ?_)
  have hi := hsq.2.1
  have hkb := hk.1
  have h0 := hsq.2.2.1
  have h1 := hsq.2.2.2.1
  have e12 := hsq.1.1
  have e11 := hsq.1.2.1
  refine go_aload_n dX5_readBracket_0 rfl ?_
  refine go_callV_v (as := []) (S := []) (b := 1) (ev_X7_next (m := m)  (by rw [hsq.1.1, hsq.1.2.1]; have h := hk.lt hsq.2.1.2 (by omega); have h2 := hsq.2.1; omega)) rfl dX5_readBracket_1 cv_5_47 rfl rfl ob_1 rfl (by decide) (Nat.le_of_ble_eq_true rfl) (fun m_1 hr_1 => ?_)
  have sq1 := hsq.nx hk (by omega)
  subst hr_1
  refine go_aload_n dX5_readBracket_4 rfl ?_
  refine go_aload_n dX5_readBracket_5 rfl ?_
  refine go_aload_n dX5_readBracket_6 rfl ?_
  refine go_iload_n dX5_readBracket_7 rfl ?_
  refine go_iconst dX5_readBracket_8 ?_
  refine go_iadd dX5_readBracket_9 ?_
  refine go_callV_z (as := [vr 1, vr 8, vi (k + 1)]) (S := []) (b := 76) (ev_X5_con3 (m := (nxt m)) (k := (k + 1)) (B := B) (i := (i + 1)) (o := o) (l := l) sq1 (by first | assumption | omega | exact ⟨by omega, by omega⟩ | (constructor <;> omega)) (by first | assumption | omega | exact ⟨by omega, by omega⟩ | (constructor <;> omega)) (by first | assumption | omega | exact ⟨by omega, by omega⟩ | (constructor <;> omega)) (by omega) (by first | assumption | omega | exact ⟨by omega, by omega⟩ | (constructor <;> omega))) rfl dX5_readBracket_10 cv_5_50 rfl rfl ob_76 rfl (by decide) (Nat.le_of_ble_eq_true rfl) (fun r_10 m_10 hr_10 ho_10 => ?_)
  obtain ⟨R, hRe⟩ : ∃ z, z = seqF (B 4) 213 (seqF (B 4) 214 (oneF B 3)) (i + 1) o := ⟨_, rfl⟩
  rw [← hRe] at hr_10
  refine go_if_ne (tgt := 18) dX5_readBracket_13 (by decide) ⟨by omega, by omega⟩ (fun h_13 => ?_) (fun h_13 => ?_)
  · obtain ⟨-, x1, x2⟩ := hr_10.resolve_right (fun h => h_13 h.1)
    refine go_aload_n dX5_readBracket_18 rfl ?_
    refine go_getf_i (ki := 2) dX5_readBracket_19 fl_5_54 ob_1 rfl rfl (fun hf_19 => ?_)
    rw [show (m_10 1 2 : Int) = (B 4 R.2.1) from x2.kd] at hf_19 ⊢
    refine go_bipush dX5_readBracket_22 (by decide) ?_
    refine go_icmp_eq (tgt := 33) dX5_readBracket_24 (by decide) ⟨by omega, by omega⟩ ⟨by omega, by omega⟩ (fun h_24 => ?_) (fun h_24 => ?_)
    · refine go_aload_n dX5_readBracket_33 rfl ?_
      refine go_callV_v (as := []) (S := []) (b := 1) (ev_X7_next (m := m_10)  (by rw [x2.1.1, x2.1.2.1]; have h := x2.2.1; have := hk.lt h.2 (by omega); omega)) rfl dX5_readBracket_34 cv_5_47 rfl rfl ob_1 rfl (by decide) (Nat.le_of_ble_eq_true rfl) (fun m_34 hr_34 => ?_)
      have sq3 := x2.nx hk (by omega)
      subst hr_34
      refine go_iconst dX5_readBracket_37 ?_
      refine go_ret (v := 1) rfl dX5_readBracket_38 (okZ (by first | exact Or.inl rfl | exact Or.inr rfl | assumption | omega)) ?_
      unfold brkF
      rw [← hRe, if_neg (fun z => z x1), if_pos (by omega)]
      exact Or.inl ⟨rfl, rfl, sq3⟩
    · refine go_aload_n dX5_readBracket_27 rfl ?_
      refine go_iconst dX5_readBracket_28 ?_
      refine go_callV_z (as := [vi 1]) (S := []) (b := 1) (ev_X7_refuse (m := m_10) (k := 1) (by first | assumption | omega | exact ⟨by omega, by omega⟩ | (constructor <;> omega))) rfl dX5_readBracket_29 cv_5_57 rfl rfl ob_1 rfl (by decide) (Nat.le_of_ble_eq_true rfl) (fun r_29 m_29 hr_29 ho_29 => ?_)
      refine go_ret (v := r_29) rfl dX5_readBracket_32 (okZ (by first | exact Or.inl rfl | exact Or.inr rfl | assumption | omega)) ?_
      unfold brkF
      rw [← hRe, if_neg (fun z => z x1), if_neg (by omega), hr_29.2]
      exact Or.inr ⟨by omega, (show (1 : Int) ≠ 0 by decide), x2.ref⟩
  · refine go_iconst dX5_readBracket_16 ?_
    refine go_ret (v := 0) rfl dX5_readBracket_17 (okZ (by first | exact Or.inl rfl | exact Or.inr rfl | assumption | omega)) ?_
    obtain ⟨-, x1, x2⟩ := hr_10.resolve_left (fun h => by have := h.1; omega)
    unfold brkF
    rw [← hRe, if_pos x1]
    exact Or.inr ⟨rfl, x1, x2⟩
set_option maxRecDepth 4000 in
theorem ev_X5_one4 {m : Mem} {B : Mem} {i : Int} {o : Int} {l : List Cd} {k : Int} (hsq : SQ B m i o l) (hk : TkS B) (hdb : DnOk B 8) (ho : 0 ≤ o ∧ o ≤ 20) (hl : (l.length : Int) ≤ 2 * o) (hd : k = 5) : Ev 0 30 mX5_readOne [vr 76, vr 1, vr 8, vi k] m (fun r m' => QP B r m' l (oneF B 4 i o)) := by
  refine Ev.of (L := [vr 76, vr 1, vr 8, vi k, un]) (by decide +kernel) rfl (Nat.le_of_ble_eq_true rfl) rfl (fun t ht => by cases ht; first | exact Or.inl rfl | exact Or.inr (Or.inl rfl) | exact Or.inr (Or.inr rfl)) (fun hcan => ?_)
  have hi := hsq.2.1
  have hkb := hk.1
  have h0 := hsq.2.2.1
  have h1 := hsq.2.2.2.1
  have e12 := hsq.1.1
  have e11 := hsq.1.2.1
  refine go_aload_n dX5_readOne_0 rfl ?_
  refine go_getf_i (ki := 2) dX5_readOne_1 fl_5_54 ob_1 rfl rfl (fun hf_1 => ?_)
  rw [show (m 1 2 : Int) = (B 4 i) from hsq.kd] at hf_1 ⊢
  refine go_istore (L' := [vr 76, vr 1, vr 8, vi k, vi (B 4 i)]) dX5_readOne_4 (by decide) rfl rfl ?_
  refine go_iload dX5_readOne_6 rfl ?_
  refine go_bipush dX5_readOne_8 (by decide) ?_
  refine go_icmp_eq (tgt := 33) dX5_readOne_10 (by decide) ⟨by omega, by omega⟩ ⟨by omega, by omega⟩ (fun h_10 => ?_) (fun h_10 => ?_)
  · refine go_aload_n dX5_readOne_33 rfl ?_
    refine go_getf_i (ki := 0) dX5_readOne_34 fl_5_9 ob_76 rfl rfl (fun hf_34 => ?_)
    rw [show (m 76 0 : Int) = o from h0] at hf_34 ⊢
    refine go_bipush dX5_readOne_37 (by decide) ?_
    refine go_icmp_ge (tgt := 48) dX5_readOne_39 (by decide) ⟨by omega, by omega⟩ ⟨by omega, by omega⟩ (fun h_39 => ?_) (fun h_39 => ?_)
    · refine go_aload_n dX5_readOne_48 rfl ?_
      refine go_iconst dX5_readOne_49 ?_
      refine go_callV_z (as := [vi 4]) (S := []) (b := 1) (ev_X7_refuse (m := m) (k := 4) (by first | assumption | omega | exact ⟨by omega, by omega⟩ | (constructor <;> omega))) rfl dX5_readOne_50 cv_5_57 rfl rfl ob_1 rfl (by decide) (Nat.le_of_ble_eq_true rfl) (fun r_50 m_50 hr_50 ho_50 => ?_)
      refine go_ret (v := r_50) rfl dX5_readOne_53 (okZ (by first | exact Or.inl rfl | exact Or.inr rfl | assumption | omega)) ?_
      rw [hr_50.2, show oneF B 4 i o = (4, i, o, []) by unfold oneF; rw [if_neg (by omega), if_pos (by omega)]]
      exact Or.inr ⟨by omega, (show (4 : Int) ≠ 0 by decide), hsq.ref⟩
    · refine go_iload_n dX5_readOne_42 rfl ?_
      refine go_bipush dX5_readOne_43 (by decide) ?_
      refine go_icmp_le (tgt := 54) dX5_readOne_45 (by decide) ⟨by omega, by omega⟩ ⟨by omega, by omega⟩ (fun h_45 => ?_) (fun h_45 => ?_)
      · refine go_aload_n dX5_readOne_54 rfl ?_
        refine go_dup_r dX5_readOne_55 ?_
        refine go_getf_i (ki := 0) dX5_readOne_56 fl_5_9 ob_76 rfl rfl (fun hf_56 => ?_)
        rw [show (m 76 0 : Int) = o from h0] at hf_56 ⊢
        refine go_iconst dX5_readOne_59 ?_
        refine go_iadd dX5_readOne_60 ?_
        refine go_putf_i (ki := 0) dX5_readOne_61 fw_5_9 ob_76 rfl rfl ⟨by omega, by omega⟩ ?_
        have sq1 := hsq.one (x := o + 1)
        refine go_iload dX5_readOne_64 rfl ?_
        by_cases hk_66_0 : (B 4 i) = 40
        · refine go_lswitch (off := 82) (tgt := 148) dX5_readOne_66 ⟨by omega, by omega⟩ (by decide) (by rw [hk_66_0] <;> rfl) (by decide) ?_
          refine go_aload_n dX5_readOne_148 rfl ?_
          refine go_aload_n dX5_readOne_149 rfl ?_
          refine go_aload_n dX5_readOne_150 rfl ?_
          refine go_iload_n dX5_readOne_151 rfl ?_
          refine go_callV_z (as := [vr 1, vr 8, vi k]) (S := []) (b := 76) (ev_X5_brk4 (m := (wr m 76 0 (o + 1))) (k := k) (B := B) (i := i) (o := (o + 1)) (l := l) sq1 (by first | assumption | omega | exact ⟨by omega, by omega⟩ | (constructor <;> omega)) (by first | assumption | omega | exact ⟨by omega, by omega⟩ | (constructor <;> omega)) (by omega) (by omega) (by first | assumption | omega | exact ⟨by omega, by omega⟩ | (constructor <;> omega)) (by first | assumption | omega | exact ⟨by omega, by omega⟩ | (constructor <;> omega))) rfl dX5_readOne_152 cv_5_78 rfl rfl ob_76 rfl (by decide) (Nat.le_of_ble_eq_true rfl) (fun r_152 m_152 hr_152 ho_152 => ?_)
          refine go_ret (v := r_152) rfl dX5_readOne_155 (okZ (by first | exact Or.inl rfl | exact Or.inr rfl | assumption | omega)) ?_
          rw [show oneF B 4 i o = brkF (B 4) (seqF (B 4) 213 (seqF (B 4) 214 (oneF B 3))) i (o + 1) by unfold oneF; rw [if_neg (by omega), if_neg (by omega), if_neg (by omega), if_pos (by omega)]]
          exact hr_152
        · skip
          by_cases hk_66_1 : (B 4 i) = 215
          · refine go_lswitch (off := 74) (tgt := 140) dX5_readOne_66 ⟨by omega, by omega⟩ (by decide) (by rw [hk_66_1] <;> rfl) (by decide) ?_
            refine go_aload_n dX5_readOne_140 rfl ?_
            refine go_aload_n dX5_readOne_141 rfl ?_
            refine go_aload_n dX5_readOne_142 rfl ?_
            refine go_iload_n dX5_readOne_143 rfl ?_
            refine go_callV_z (as := [vr 1, vr 8, vi k]) (S := []) (b := 76) (ev_X5_not4 (m := (wr m 76 0 (o + 1))) (k := k) (B := B) (i := i) (o := (o + 1)) (l := l) sq1 (by first | assumption | omega | exact ⟨by omega, by omega⟩ | (constructor <;> omega)) (by first | assumption | omega | exact ⟨by omega, by omega⟩ | (constructor <;> omega)) (by omega) (by omega) (by first | assumption | omega | exact ⟨by omega, by omega⟩ | (constructor <;> omega)) (by first | assumption | omega | exact ⟨by omega, by omega⟩ | (constructor <;> omega))) rfl dX5_readOne_144 cv_5_75 rfl rfl ob_76 rfl (by decide) (Nat.le_of_ble_eq_true rfl) (fun r_144 m_144 hr_144 ho_144 => ?_)
            refine go_ret (v := r_144) rfl dX5_readOne_147 (okZ (by first | exact Or.inl rfl | exact Or.inr rfl | assumption | omega)) ?_
            rw [show oneF B 4 i o = notF (oneF B 3) i (o + 1) by unfold oneF; rw [if_neg (by omega), if_neg (by omega), if_pos (by omega)]]
            exact hr_144
          · skip
            by_cases hk_66_2 : (B 4 i) = 219
            · refine go_lswitch (off := 90) (tgt := 156) dX5_readOne_66 ⟨by omega, by omega⟩ (by decide) (by rw [hk_66_2] <;> rfl) (by decide) ?_
              refine go_aload_n dX5_readOne_156 rfl ?_
              refine go_aload_n dX5_readOne_157 rfl ?_
              refine go_aload_n dX5_readOne_158 rfl ?_
              refine go_iload dX5_readOne_159 rfl ?_
              refine go_callV_z (as := [vr 1, vr 8, vi (B 4 i)]) (S := []) (b := 76) (ev_X5_readNamed (m := (wr m 76 0 (o + 1))) (k := (B 4 i)) (B := B) (i := i) (o := (o + 1)) (l := l) sq1 (by first | assumption | omega | exact ⟨by omega, by omega⟩ | (constructor <;> omega)) (by first | assumption | omega | exact ⟨by omega, by omega⟩ | (constructor <;> omega)) (by omega) (by omega) (by first | assumption | omega | exact ⟨by omega, by omega⟩ | (constructor <;> omega)) (by first | assumption | omega | exact ⟨by omega, by omega⟩ | (constructor <;> omega))) rfl dX5_readOne_161 cv_5_81 rfl rfl ob_76 rfl (by decide) (Nat.le_of_ble_eq_true rfl) (fun r_161 m_161 hr_161 ho_161 => ?_)
              refine go_ret (v := r_161) rfl dX5_readOne_164 (okZ (by first | exact Or.inl rfl | exact Or.inr rfl | assumption | omega)) ?_
              rw [show oneF B 4 i o = namF B i (o + 1) by unfold oneF; rw [if_neg (by omega), if_neg (by omega), if_neg (by omega), if_neg (by omega), if_pos (by omega)]]
              exact hr_161
            · skip
              by_cases hk_66_3 : (B 4 i) = 220
              · refine go_lswitch (off := 90) (tgt := 156) dX5_readOne_66 ⟨by omega, by omega⟩ (by decide) (by rw [hk_66_3] <;> rfl) (by decide) ?_
                refine go_aload_n dX5_readOne_156 rfl ?_
                refine go_aload_n dX5_readOne_157 rfl ?_
                refine go_aload_n dX5_readOne_158 rfl ?_
                refine go_iload dX5_readOne_159 rfl ?_
                refine go_callV_z (as := [vr 1, vr 8, vi (B 4 i)]) (S := []) (b := 76) (ev_X5_readNamed (m := (wr m 76 0 (o + 1))) (k := (B 4 i)) (B := B) (i := i) (o := (o + 1)) (l := l) sq1 (by first | assumption | omega | exact ⟨by omega, by omega⟩ | (constructor <;> omega)) (by first | assumption | omega | exact ⟨by omega, by omega⟩ | (constructor <;> omega)) (by omega) (by omega) (by first | assumption | omega | exact ⟨by omega, by omega⟩ | (constructor <;> omega)) (by first | assumption | omega | exact ⟨by omega, by omega⟩ | (constructor <;> omega))) rfl dX5_readOne_161 cv_5_81 rfl rfl ob_76 rfl (by decide) (Nat.le_of_ble_eq_true rfl) (fun r_161 m_161 hr_161 ho_161 => ?_)
                refine go_ret (v := r_161) rfl dX5_readOne_164 (okZ (by first | exact Or.inl rfl | exact Or.inr rfl | assumption | omega)) ?_
                rw [show oneF B 4 i o = namF B i (o + 1) by unfold oneF; rw [if_neg (by omega), if_neg (by omega), if_neg (by omega), if_neg (by omega), if_pos (by omega)]]
                exact hr_161
              · skip
                by_cases hk_66_4 : (B 4 i) = 221
                · refine go_lswitch (off := 99) (tgt := 165) dX5_readOne_66 ⟨by omega, by omega⟩ (by decide) (by rw [hk_66_4] <;> rfl) (by decide) ?_
                  refine go_aload_n dX5_readOne_165 rfl ?_
                  refine go_aload_n dX5_readOne_166 rfl ?_
                  refine go_iload dX5_readOne_167 rfl ?_
                  refine go_callV_z (as := [vr 1, vi (B 4 i)]) (S := []) (b := 76) (ev_X5_readCompared (m := (wr m 76 0 (o + 1))) (k := (B 4 i)) (B := B) (i := i) (o := (o + 1)) (l := l) sq1 (by first | assumption | omega | exact ⟨by omega, by omega⟩ | (constructor <;> omega)) (by first | assumption | omega | exact ⟨by omega, by omega⟩ | (constructor <;> omega)) (by omega) (by omega) (by first | assumption | omega | exact ⟨by omega, by omega⟩ | (constructor <;> omega)) (by first | assumption | omega | exact ⟨by omega, by omega⟩ | (constructor <;> omega))) rfl dX5_readOne_169 cv_5_84 rfl rfl ob_76 rfl (by decide) (Nat.le_of_ble_eq_true rfl) (fun r_169 m_169 hr_169 ho_169 => ?_)
                  refine go_ret (v := r_169) rfl dX5_readOne_172 (okZ (by first | exact Or.inl rfl | exact Or.inr rfl | assumption | omega)) ?_
                  rw [show oneF B 4 i o = cmpF B i (o + 1) by unfold oneF; rw [if_neg (by omega), if_neg (by omega), if_neg (by omega), if_neg (by omega), if_neg (by omega), if_pos (by omega)]]
                  exact hr_169
                · skip
                  by_cases hk_66_5 : (B 4 i) = 222
                  · refine go_lswitch (off := 99) (tgt := 165) dX5_readOne_66 ⟨by omega, by omega⟩ (by decide) (by rw [hk_66_5] <;> rfl) (by decide) ?_
                    refine go_aload_n dX5_readOne_165 rfl ?_
                    refine go_aload_n dX5_readOne_166 rfl ?_
                    refine go_iload dX5_readOne_167 rfl ?_
                    refine go_callV_z (as := [vr 1, vi (B 4 i)]) (S := []) (b := 76) (ev_X5_readCompared (m := (wr m 76 0 (o + 1))) (k := (B 4 i)) (B := B) (i := i) (o := (o + 1)) (l := l) sq1 (by first | assumption | omega | exact ⟨by omega, by omega⟩ | (constructor <;> omega)) (by first | assumption | omega | exact ⟨by omega, by omega⟩ | (constructor <;> omega)) (by omega) (by omega) (by first | assumption | omega | exact ⟨by omega, by omega⟩ | (constructor <;> omega)) (by first | assumption | omega | exact ⟨by omega, by omega⟩ | (constructor <;> omega))) rfl dX5_readOne_169 cv_5_84 rfl rfl ob_76 rfl (by decide) (Nat.le_of_ble_eq_true rfl) (fun r_169 m_169 hr_169 ho_169 => ?_)
                    refine go_ret (v := r_169) rfl dX5_readOne_172 (okZ (by first | exact Or.inl rfl | exact Or.inr rfl | assumption | omega)) ?_
                    rw [show oneF B 4 i o = cmpF B i (o + 1) by unfold oneF; rw [if_neg (by omega), if_neg (by omega), if_neg (by omega), if_neg (by omega), if_neg (by omega), if_pos (by omega)]]
                    exact hr_169
                  · skip
                    by_cases hk_66_6 : (B 4 i) = 223
                    · refine go_lswitch (off := 99) (tgt := 165) dX5_readOne_66 ⟨by omega, by omega⟩ (by decide) (by rw [hk_66_6] <;> rfl) (by decide) ?_
                      refine go_aload_n dX5_readOne_165 rfl ?_
                      refine go_aload_n dX5_readOne_166 rfl ?_
                      refine go_iload dX5_readOne_167 rfl ?_
                      refine go_callV_z (as := [vr 1, vi (B 4 i)]) (S := []) (b := 76) (ev_X5_readCompared (m := (wr m 76 0 (o + 1))) (k := (B 4 i)) (B := B) (i := i) (o := (o + 1)) (l := l) sq1 (by first | assumption | omega | exact ⟨by omega, by omega⟩ | (constructor <;> omega)) (by first | assumption | omega | exact ⟨by omega, by omega⟩ | (constructor <;> omega)) (by omega) (by omega) (by first | assumption | omega | exact ⟨by omega, by omega⟩ | (constructor <;> omega)) (by first | assumption | omega | exact ⟨by omega, by omega⟩ | (constructor <;> omega))) rfl dX5_readOne_169 cv_5_84 rfl rfl ob_76 rfl (by decide) (Nat.le_of_ble_eq_true rfl) (fun r_169 m_169 hr_169 ho_169 => ?_)
                      refine go_ret (v := r_169) rfl dX5_readOne_172 (okZ (by first | exact Or.inl rfl | exact Or.inr rfl | assumption | omega)) ?_
                      rw [show oneF B 4 i o = cmpF B i (o + 1) by unfold oneF; rw [if_neg (by omega), if_neg (by omega), if_neg (by omega), if_neg (by omega), if_neg (by omega), if_pos (by omega)]]
                      exact hr_169
                    · skip
                      by_cases hk_66_7 : (B 4 i) = 224
                      · refine go_lswitch (off := 99) (tgt := 165) dX5_readOne_66 ⟨by omega, by omega⟩ (by decide) (by rw [hk_66_7] <;> rfl) (by decide) ?_
                        refine go_aload_n dX5_readOne_165 rfl ?_
                        refine go_aload_n dX5_readOne_166 rfl ?_
                        refine go_iload dX5_readOne_167 rfl ?_
                        refine go_callV_z (as := [vr 1, vi (B 4 i)]) (S := []) (b := 76) (ev_X5_readCompared (m := (wr m 76 0 (o + 1))) (k := (B 4 i)) (B := B) (i := i) (o := (o + 1)) (l := l) sq1 (by first | assumption | omega | exact ⟨by omega, by omega⟩ | (constructor <;> omega)) (by first | assumption | omega | exact ⟨by omega, by omega⟩ | (constructor <;> omega)) (by omega) (by omega) (by first | assumption | omega | exact ⟨by omega, by omega⟩ | (constructor <;> omega)) (by first | assumption | omega | exact ⟨by omega, by omega⟩ | (constructor <;> omega))) rfl dX5_readOne_169 cv_5_84 rfl rfl ob_76 rfl (by decide) (Nat.le_of_ble_eq_true rfl) (fun r_169 m_169 hr_169 ho_169 => ?_)
                        refine go_ret (v := r_169) rfl dX5_readOne_172 (okZ (by first | exact Or.inl rfl | exact Or.inr rfl | assumption | omega)) ?_
                        rw [show oneF B 4 i o = cmpF B i (o + 1) by unfold oneF; rw [if_neg (by omega), if_neg (by omega), if_neg (by omega), if_neg (by omega), if_neg (by omega), if_pos (by omega)]]
                        exact hr_169
                      · skip
                        refine go_lswitch (off := 107) (tgt := 173) dX5_readOne_66 ⟨by omega, by omega⟩ (by decide) (by simp [Op.lookupswitch.offset, hk_66_0, show ¬ (40 : Int) = (B 4 i) from fun z => hk_66_0 z.symm, hk_66_1, show ¬ (215 : Int) = (B 4 i) from fun z => hk_66_1 z.symm, hk_66_2, show ¬ (219 : Int) = (B 4 i) from fun z => hk_66_2 z.symm, hk_66_3, show ¬ (220 : Int) = (B 4 i) from fun z => hk_66_3 z.symm, hk_66_4, show ¬ (221 : Int) = (B 4 i) from fun z => hk_66_4 z.symm, hk_66_5, show ¬ (222 : Int) = (B 4 i) from fun z => hk_66_5 z.symm, hk_66_6, show ¬ (223 : Int) = (B 4 i) from fun z => hk_66_6 z.symm, hk_66_7, show ¬ (224 : Int) = (B 4 i) from fun z => hk_66_7 z.symm]) (by decide) ?_
                        refine go_aload_n dX5_readOne_173 rfl ?_
                        refine go_iload dX5_readOne_174 rfl ?_
                        refine go_iconst dX5_readOne_176 ?_
                        refine go_iconst dX5_readOne_177 ?_
                        refine go_callV_v (as := [vi (B 4 i), vi 0, vi 0]) (S := []) (b := 76) (ev_X5_add (m := (wr m 76 0 (o + 1))) (k := (B 4 i)) (g := 0) (v := 0) (by first | assumption | omega | exact ⟨by omega, by omega⟩ | (constructor <;> omega)) (by first | assumption | omega | exact ⟨by omega, by omega⟩ | (constructor <;> omega)) (by first | assumption | omega | exact ⟨by omega, by omega⟩ | (constructor <;> omega)) (by rw [sq1.2.2.2.1]; omega)) rfl dX5_readOne_178 cv_5_64 rfl rfl ob_76 rfl (by decide) (Nat.le_of_ble_eq_true rfl) (fun m_178 hr_178 => ?_)
                        have sq3 := sq1.add (k := B 4 i) (g := 0) (v := 0)
                        subst hr_178
                        refine go_aload_n dX5_readOne_181 rfl ?_
                        refine go_callV_v (as := []) (S := []) (b := 1) (ev_X7_next (m := (addM (wr m 76 0 (o + 1)) (B 4 i) 0 0))  (by rw [sq3.1.1, sq3.1.2.1]; have h := hk.lt sq3.2.1.2 (by omega); have h2 := sq3.2.1; omega)) rfl dX5_readOne_182 cv_5_47 rfl rfl ob_1 rfl (by decide) (Nat.le_of_ble_eq_true rfl) (fun m_182 hr_182 => ?_)
                        have sq4 := sq3.nx hk (by omega)
                        subst hr_182
                        refine go_iconst dX5_readOne_185 ?_
                        refine go_ret (v := 1) rfl dX5_readOne_186 (okZ (by first | exact Or.inl rfl | exact Or.inr rfl | assumption | omega)) ?_
                        rw [show oneF B 4 i o = (0, i + 1, o + 1, [(B 4 i, 0, 0)]) by unfold oneF; rw [if_neg (by omega), if_neg (by omega), if_neg (by omega), if_neg (by omega), if_neg (by omega), if_neg (by omega)]]
                        exact Or.inl ⟨rfl, rfl, sq4⟩
      · exfalso; omega
  · refine go_iload dX5_readOne_13 rfl ?_
    refine go_sipush dX5_readOne_15 (by decide) ?_
    refine go_sipush dX5_readOne_18 (by decide) ?_
    refine go_callSp_z (as := [vi (B 4 i), vi 215, vi 224]) (S := []) (ev_X11_isIn (m := m) (n := (B 4 i)) (lo := 215) (hi := 224) (by first | assumption | omega | exact ⟨by omega, by omega⟩ | (constructor <;> omega)) (by first | assumption | omega | exact ⟨by omega, by omega⟩ | (constructor <;> omega)) (by first | assumption | omega | exact ⟨by omega, by omega⟩ | (constructor <;> omega))) rfl dX5_readOne_21 cs_5_71 rfl rfl (by decide) (Nat.le_of_ble_eq_true rfl) (fun r_21 hr_21 ho_21 => ?_)
    refine go_if_ne (tgt := 33) dX5_readOne_24 (by decide) ⟨by omega, by omega⟩ (fun h_24 => ?_) (fun h_24 => ?_)
    · refine go_aload_n dX5_readOne_33 rfl ?_
      refine go_getf_i (ki := 0) dX5_readOne_34 fl_5_9 ob_76 rfl rfl (fun hf_34 => ?_)
      rw [show (m 76 0 : Int) = o from h0] at hf_34 ⊢
      refine go_bipush dX5_readOne_37 (by decide) ?_
      refine go_icmp_ge (tgt := 48) dX5_readOne_39 (by decide) ⟨by omega, by omega⟩ ⟨by omega, by omega⟩ (fun h_39 => ?_) (fun h_39 => ?_)
      · refine go_aload_n dX5_readOne_48 rfl ?_
        refine go_iconst dX5_readOne_49 ?_
        refine go_callV_z (as := [vi 4]) (S := []) (b := 1) (ev_X7_refuse (m := m) (k := 4) (by first | assumption | omega | exact ⟨by omega, by omega⟩ | (constructor <;> omega))) rfl dX5_readOne_50 cv_5_57 rfl rfl ob_1 rfl (by decide) (Nat.le_of_ble_eq_true rfl) (fun r_50 m_50 hr_50 ho_50 => ?_)
        refine go_ret (v := r_50) rfl dX5_readOne_53 (okZ (by first | exact Or.inl rfl | exact Or.inr rfl | assumption | omega)) ?_
        rw [hr_50.2, show oneF B 4 i o = (4, i, o, []) by unfold oneF; rw [if_neg (by omega), if_pos (by omega)]]
        exact Or.inr ⟨by omega, (show (4 : Int) ≠ 0 by decide), hsq.ref⟩
      · refine go_iload_n dX5_readOne_42 rfl ?_
        refine go_bipush dX5_readOne_43 (by decide) ?_
        refine go_icmp_le (tgt := 54) dX5_readOne_45 (by decide) ⟨by omega, by omega⟩ ⟨by omega, by omega⟩ (fun h_45 => ?_) (fun h_45 => ?_)
        · refine go_aload_n dX5_readOne_54 rfl ?_
          refine go_dup_r dX5_readOne_55 ?_
          refine go_getf_i (ki := 0) dX5_readOne_56 fl_5_9 ob_76 rfl rfl (fun hf_56 => ?_)
          rw [show (m 76 0 : Int) = o from h0] at hf_56 ⊢
          refine go_iconst dX5_readOne_59 ?_
          refine go_iadd dX5_readOne_60 ?_
          refine go_putf_i (ki := 0) dX5_readOne_61 fw_5_9 ob_76 rfl rfl ⟨by omega, by omega⟩ ?_
          have sq1 := hsq.one (x := o + 1)
          refine go_iload dX5_readOne_64 rfl ?_
          by_cases hk_66_0 : (B 4 i) = 40
          · refine go_lswitch (off := 82) (tgt := 148) dX5_readOne_66 ⟨by omega, by omega⟩ (by decide) (by rw [hk_66_0] <;> rfl) (by decide) ?_
            refine go_aload_n dX5_readOne_148 rfl ?_
            refine go_aload_n dX5_readOne_149 rfl ?_
            refine go_aload_n dX5_readOne_150 rfl ?_
            refine go_iload_n dX5_readOne_151 rfl ?_
            refine go_callV_z (as := [vr 1, vr 8, vi k]) (S := []) (b := 76) (ev_X5_brk4 (m := (wr m 76 0 (o + 1))) (k := k) (B := B) (i := i) (o := (o + 1)) (l := l) sq1 (by first | assumption | omega | exact ⟨by omega, by omega⟩ | (constructor <;> omega)) (by first | assumption | omega | exact ⟨by omega, by omega⟩ | (constructor <;> omega)) (by omega) (by omega) (by first | assumption | omega | exact ⟨by omega, by omega⟩ | (constructor <;> omega)) (by first | assumption | omega | exact ⟨by omega, by omega⟩ | (constructor <;> omega))) rfl dX5_readOne_152 cv_5_78 rfl rfl ob_76 rfl (by decide) (Nat.le_of_ble_eq_true rfl) (fun r_152 m_152 hr_152 ho_152 => ?_)
            refine go_ret (v := r_152) rfl dX5_readOne_155 (okZ (by first | exact Or.inl rfl | exact Or.inr rfl | assumption | omega)) ?_
            rw [show oneF B 4 i o = brkF (B 4) (seqF (B 4) 213 (seqF (B 4) 214 (oneF B 3))) i (o + 1) by unfold oneF; rw [if_neg (by omega), if_neg (by omega), if_neg (by omega), if_pos (by omega)]]
            exact hr_152
          · skip
            by_cases hk_66_1 : (B 4 i) = 215
            · refine go_lswitch (off := 74) (tgt := 140) dX5_readOne_66 ⟨by omega, by omega⟩ (by decide) (by rw [hk_66_1] <;> rfl) (by decide) ?_
              refine go_aload_n dX5_readOne_140 rfl ?_
              refine go_aload_n dX5_readOne_141 rfl ?_
              refine go_aload_n dX5_readOne_142 rfl ?_
              refine go_iload_n dX5_readOne_143 rfl ?_
              refine go_callV_z (as := [vr 1, vr 8, vi k]) (S := []) (b := 76) (ev_X5_not4 (m := (wr m 76 0 (o + 1))) (k := k) (B := B) (i := i) (o := (o + 1)) (l := l) sq1 (by first | assumption | omega | exact ⟨by omega, by omega⟩ | (constructor <;> omega)) (by first | assumption | omega | exact ⟨by omega, by omega⟩ | (constructor <;> omega)) (by omega) (by omega) (by first | assumption | omega | exact ⟨by omega, by omega⟩ | (constructor <;> omega)) (by first | assumption | omega | exact ⟨by omega, by omega⟩ | (constructor <;> omega))) rfl dX5_readOne_144 cv_5_75 rfl rfl ob_76 rfl (by decide) (Nat.le_of_ble_eq_true rfl) (fun r_144 m_144 hr_144 ho_144 => ?_)
              refine go_ret (v := r_144) rfl dX5_readOne_147 (okZ (by first | exact Or.inl rfl | exact Or.inr rfl | assumption | omega)) ?_
              rw [show oneF B 4 i o = notF (oneF B 3) i (o + 1) by unfold oneF; rw [if_neg (by omega), if_neg (by omega), if_pos (by omega)]]
              exact hr_144
            · skip
              by_cases hk_66_2 : (B 4 i) = 219
              · refine go_lswitch (off := 90) (tgt := 156) dX5_readOne_66 ⟨by omega, by omega⟩ (by decide) (by rw [hk_66_2] <;> rfl) (by decide) ?_
                refine go_aload_n dX5_readOne_156 rfl ?_
                refine go_aload_n dX5_readOne_157 rfl ?_
                refine go_aload_n dX5_readOne_158 rfl ?_
                refine go_iload dX5_readOne_159 rfl ?_
                refine go_callV_z (as := [vr 1, vr 8, vi (B 4 i)]) (S := []) (b := 76) (ev_X5_readNamed (m := (wr m 76 0 (o + 1))) (k := (B 4 i)) (B := B) (i := i) (o := (o + 1)) (l := l) sq1 (by first | assumption | omega | exact ⟨by omega, by omega⟩ | (constructor <;> omega)) (by first | assumption | omega | exact ⟨by omega, by omega⟩ | (constructor <;> omega)) (by omega) (by omega) (by first | assumption | omega | exact ⟨by omega, by omega⟩ | (constructor <;> omega)) (by first | assumption | omega | exact ⟨by omega, by omega⟩ | (constructor <;> omega))) rfl dX5_readOne_161 cv_5_81 rfl rfl ob_76 rfl (by decide) (Nat.le_of_ble_eq_true rfl) (fun r_161 m_161 hr_161 ho_161 => ?_)
                refine go_ret (v := r_161) rfl dX5_readOne_164 (okZ (by first | exact Or.inl rfl | exact Or.inr rfl | assumption | omega)) ?_
                rw [show oneF B 4 i o = namF B i (o + 1) by unfold oneF; rw [if_neg (by omega), if_neg (by omega), if_neg (by omega), if_neg (by omega), if_pos (by omega)]]
                exact hr_161
              · skip
                by_cases hk_66_3 : (B 4 i) = 220
                · refine go_lswitch (off := 90) (tgt := 156) dX5_readOne_66 ⟨by omega, by omega⟩ (by decide) (by rw [hk_66_3] <;> rfl) (by decide) ?_
                  refine go_aload_n dX5_readOne_156 rfl ?_
                  refine go_aload_n dX5_readOne_157 rfl ?_
                  refine go_aload_n dX5_readOne_158 rfl ?_
                  refine go_iload dX5_readOne_159 rfl ?_
                  refine go_callV_z (as := [vr 1, vr 8, vi (B 4 i)]) (S := []) (b := 76) (ev_X5_readNamed (m := (wr m 76 0 (o + 1))) (k := (B 4 i)) (B := B) (i := i) (o := (o + 1)) (l := l) sq1 (by first | assumption | omega | exact ⟨by omega, by omega⟩ | (constructor <;> omega)) (by first | assumption | omega | exact ⟨by omega, by omega⟩ | (constructor <;> omega)) (by omega) (by omega) (by first | assumption | omega | exact ⟨by omega, by omega⟩ | (constructor <;> omega)) (by first | assumption | omega | exact ⟨by omega, by omega⟩ | (constructor <;> omega))) rfl dX5_readOne_161 cv_5_81 rfl rfl ob_76 rfl (by decide) (Nat.le_of_ble_eq_true rfl) (fun r_161 m_161 hr_161 ho_161 => ?_)
                  refine go_ret (v := r_161) rfl dX5_readOne_164 (okZ (by first | exact Or.inl rfl | exact Or.inr rfl | assumption | omega)) ?_
                  rw [show oneF B 4 i o = namF B i (o + 1) by unfold oneF; rw [if_neg (by omega), if_neg (by omega), if_neg (by omega), if_neg (by omega), if_pos (by omega)]]
                  exact hr_161
                · skip
                  by_cases hk_66_4 : (B 4 i) = 221
                  · refine go_lswitch (off := 99) (tgt := 165) dX5_readOne_66 ⟨by omega, by omega⟩ (by decide) (by rw [hk_66_4] <;> rfl) (by decide) ?_
                    refine go_aload_n dX5_readOne_165 rfl ?_
                    refine go_aload_n dX5_readOne_166 rfl ?_
                    refine go_iload dX5_readOne_167 rfl ?_
                    refine go_callV_z (as := [vr 1, vi (B 4 i)]) (S := []) (b := 76) (ev_X5_readCompared (m := (wr m 76 0 (o + 1))) (k := (B 4 i)) (B := B) (i := i) (o := (o + 1)) (l := l) sq1 (by first | assumption | omega | exact ⟨by omega, by omega⟩ | (constructor <;> omega)) (by first | assumption | omega | exact ⟨by omega, by omega⟩ | (constructor <;> omega)) (by omega) (by omega) (by first | assumption | omega | exact ⟨by omega, by omega⟩ | (constructor <;> omega)) (by first | assumption | omega | exact ⟨by omega, by omega⟩ | (constructor <;> omega))) rfl dX5_readOne_169 cv_5_84 rfl rfl ob_76 rfl (by decide) (Nat.le_of_ble_eq_true rfl) (fun r_169 m_169 hr_169 ho_169 => ?_)
                    refine go_ret (v := r_169) rfl dX5_readOne_172 (okZ (by first | exact Or.inl rfl | exact Or.inr rfl | assumption | omega)) ?_
                    rw [show oneF B 4 i o = cmpF B i (o + 1) by unfold oneF; rw [if_neg (by omega), if_neg (by omega), if_neg (by omega), if_neg (by omega), if_neg (by omega), if_pos (by omega)]]
                    exact hr_169
                  · skip
                    by_cases hk_66_5 : (B 4 i) = 222
                    · refine go_lswitch (off := 99) (tgt := 165) dX5_readOne_66 ⟨by omega, by omega⟩ (by decide) (by rw [hk_66_5] <;> rfl) (by decide) ?_
                      refine go_aload_n dX5_readOne_165 rfl ?_
                      refine go_aload_n dX5_readOne_166 rfl ?_
                      refine go_iload dX5_readOne_167 rfl ?_
                      refine go_callV_z (as := [vr 1, vi (B 4 i)]) (S := []) (b := 76) (ev_X5_readCompared (m := (wr m 76 0 (o + 1))) (k := (B 4 i)) (B := B) (i := i) (o := (o + 1)) (l := l) sq1 (by first | assumption | omega | exact ⟨by omega, by omega⟩ | (constructor <;> omega)) (by first | assumption | omega | exact ⟨by omega, by omega⟩ | (constructor <;> omega)) (by omega) (by omega) (by first | assumption | omega | exact ⟨by omega, by omega⟩ | (constructor <;> omega)) (by first | assumption | omega | exact ⟨by omega, by omega⟩ | (constructor <;> omega))) rfl dX5_readOne_169 cv_5_84 rfl rfl ob_76 rfl (by decide) (Nat.le_of_ble_eq_true rfl) (fun r_169 m_169 hr_169 ho_169 => ?_)
                      refine go_ret (v := r_169) rfl dX5_readOne_172 (okZ (by first | exact Or.inl rfl | exact Or.inr rfl | assumption | omega)) ?_
                      rw [show oneF B 4 i o = cmpF B i (o + 1) by unfold oneF; rw [if_neg (by omega), if_neg (by omega), if_neg (by omega), if_neg (by omega), if_neg (by omega), if_pos (by omega)]]
                      exact hr_169
                    · skip
                      by_cases hk_66_6 : (B 4 i) = 223
                      · refine go_lswitch (off := 99) (tgt := 165) dX5_readOne_66 ⟨by omega, by omega⟩ (by decide) (by rw [hk_66_6] <;> rfl) (by decide) ?_
                        refine go_aload_n dX5_readOne_165 rfl ?_
                        refine go_aload_n dX5_readOne_166 rfl ?_
                        refine go_iload dX5_readOne_167 rfl ?_
                        refine go_callV_z (as := [vr 1, vi (B 4 i)]) (S := []) (b := 76) (ev_X5_readCompared (m := (wr m 76 0 (o + 1))) (k := (B 4 i)) (B := B) (i := i) (o := (o + 1)) (l := l) sq1 (by first | assumption | omega | exact ⟨by omega, by omega⟩ | (constructor <;> omega)) (by first | assumption | omega | exact ⟨by omega, by omega⟩ | (constructor <;> omega)) (by omega) (by omega) (by first | assumption | omega | exact ⟨by omega, by omega⟩ | (constructor <;> omega)) (by first | assumption | omega | exact ⟨by omega, by omega⟩ | (constructor <;> omega))) rfl dX5_readOne_169 cv_5_84 rfl rfl ob_76 rfl (by decide) (Nat.le_of_ble_eq_true rfl) (fun r_169 m_169 hr_169 ho_169 => ?_)
                        refine go_ret (v := r_169) rfl dX5_readOne_172 (okZ (by first | exact Or.inl rfl | exact Or.inr rfl | assumption | omega)) ?_
                        rw [show oneF B 4 i o = cmpF B i (o + 1) by unfold oneF; rw [if_neg (by omega), if_neg (by omega), if_neg (by omega), if_neg (by omega), if_neg (by omega), if_pos (by omega)]]
                        exact hr_169
                      · skip
                        by_cases hk_66_7 : (B 4 i) = 224
                        · refine go_lswitch (off := 99) (tgt := 165) dX5_readOne_66 ⟨by omega, by omega⟩ (by decide) (by rw [hk_66_7] <;> rfl) (by decide) ?_
                          refine go_aload_n dX5_readOne_165 rfl ?_
                          refine go_aload_n dX5_readOne_166 rfl ?_
                          refine go_iload dX5_readOne_167 rfl ?_
                          refine go_callV_z (as := [vr 1, vi (B 4 i)]) (S := []) (b := 76) (ev_X5_readCompared (m := (wr m 76 0 (o + 1))) (k := (B 4 i)) (B := B) (i := i) (o := (o + 1)) (l := l) sq1 (by first | assumption | omega | exact ⟨by omega, by omega⟩ | (constructor <;> omega)) (by first | assumption | omega | exact ⟨by omega, by omega⟩ | (constructor <;> omega)) (by omega) (by omega) (by first | assumption | omega | exact ⟨by omega, by omega⟩ | (constructor <;> omega)) (by first | assumption | omega | exact ⟨by omega, by omega⟩ | (constructor <;> omega))) rfl dX5_readOne_169 cv_5_84 rfl rfl ob_76 rfl (by decide) (Nat.le_of_ble_eq_true rfl) (fun r_169 m_169 hr_169 ho_169 => ?_)
                          refine go_ret (v := r_169) rfl dX5_readOne_172 (okZ (by first | exact Or.inl rfl | exact Or.inr rfl | assumption | omega)) ?_
                          rw [show oneF B 4 i o = cmpF B i (o + 1) by unfold oneF; rw [if_neg (by omega), if_neg (by omega), if_neg (by omega), if_neg (by omega), if_neg (by omega), if_pos (by omega)]]
                          exact hr_169
                        · skip
                          refine go_lswitch (off := 107) (tgt := 173) dX5_readOne_66 ⟨by omega, by omega⟩ (by decide) (by simp [Op.lookupswitch.offset, hk_66_0, show ¬ (40 : Int) = (B 4 i) from fun z => hk_66_0 z.symm, hk_66_1, show ¬ (215 : Int) = (B 4 i) from fun z => hk_66_1 z.symm, hk_66_2, show ¬ (219 : Int) = (B 4 i) from fun z => hk_66_2 z.symm, hk_66_3, show ¬ (220 : Int) = (B 4 i) from fun z => hk_66_3 z.symm, hk_66_4, show ¬ (221 : Int) = (B 4 i) from fun z => hk_66_4 z.symm, hk_66_5, show ¬ (222 : Int) = (B 4 i) from fun z => hk_66_5 z.symm, hk_66_6, show ¬ (223 : Int) = (B 4 i) from fun z => hk_66_6 z.symm, hk_66_7, show ¬ (224 : Int) = (B 4 i) from fun z => hk_66_7 z.symm]) (by decide) ?_
                          refine go_aload_n dX5_readOne_173 rfl ?_
                          refine go_iload dX5_readOne_174 rfl ?_
                          refine go_iconst dX5_readOne_176 ?_
                          refine go_iconst dX5_readOne_177 ?_
                          refine go_callV_v (as := [vi (B 4 i), vi 0, vi 0]) (S := []) (b := 76) (ev_X5_add (m := (wr m 76 0 (o + 1))) (k := (B 4 i)) (g := 0) (v := 0) (by first | assumption | omega | exact ⟨by omega, by omega⟩ | (constructor <;> omega)) (by first | assumption | omega | exact ⟨by omega, by omega⟩ | (constructor <;> omega)) (by first | assumption | omega | exact ⟨by omega, by omega⟩ | (constructor <;> omega)) (by rw [sq1.2.2.2.1]; omega)) rfl dX5_readOne_178 cv_5_64 rfl rfl ob_76 rfl (by decide) (Nat.le_of_ble_eq_true rfl) (fun m_178 hr_178 => ?_)
                          have sq3 := sq1.add (k := B 4 i) (g := 0) (v := 0)
                          subst hr_178
                          refine go_aload_n dX5_readOne_181 rfl ?_
                          refine go_callV_v (as := []) (S := []) (b := 1) (ev_X7_next (m := (addM (wr m 76 0 (o + 1)) (B 4 i) 0 0))  (by rw [sq3.1.1, sq3.1.2.1]; have h := hk.lt sq3.2.1.2 (by omega); have h2 := sq3.2.1; omega)) rfl dX5_readOne_182 cv_5_47 rfl rfl ob_1 rfl (by decide) (Nat.le_of_ble_eq_true rfl) (fun m_182 hr_182 => ?_)
                          have sq4 := sq3.nx hk (by omega)
                          subst hr_182
                          refine go_iconst dX5_readOne_185 ?_
                          refine go_ret (v := 1) rfl dX5_readOne_186 (okZ (by first | exact Or.inl rfl | exact Or.inr rfl | assumption | omega)) ?_
                          rw [show oneF B 4 i o = (0, i + 1, o + 1, [(B 4 i, 0, 0)]) by unfold oneF; rw [if_neg (by omega), if_neg (by omega), if_neg (by omega), if_neg (by omega), if_neg (by omega), if_neg (by omega)]]
                          exact Or.inl ⟨rfl, rfl, sq4⟩
        · exfalso; omega
    · refine go_aload_n dX5_readOne_27 rfl ?_
      refine go_iconst dX5_readOne_28 ?_
      refine go_callV_z (as := [vi 1]) (S := []) (b := 1) (ev_X7_refuse (m := m) (k := 1) (by first | assumption | omega | exact ⟨by omega, by omega⟩ | (constructor <;> omega))) rfl dX5_readOne_29 cv_5_57 rfl rfl ob_1 rfl (by decide) (Nat.le_of_ble_eq_true rfl) (fun r_29 m_29 hr_29 ho_29 => ?_)
      refine go_ret (v := r_29) rfl dX5_readOne_32 (okZ (by first | exact Or.inl rfl | exact Or.inr rfl | assumption | omega)) ?_
      rw [hr_29.2, show oneF B 4 i o = (1, i, o, []) by unfold oneF; rw [if_pos (by omega)]]
      exact Or.inr ⟨by omega, (show (1 : Int) ≠ 0 by decide), hsq.ref⟩
set_option maxRecDepth 4000 in
theorem ev_X5_all4 {m : Mem} {B : Mem} {i : Int} {o : Int} {l : List Cd} {k : Int} (hsq : SQ B m i o l) (hk : TkS B) (hdb : DnOk B 8) (ho : 0 ≤ o ∧ o ≤ 20) (hl : (l.length : Int) ≤ 2 * o) (hd : k = 5) : Ev 0 31 mX5_readAll [vr 76, vr 1, vr 8, vi k] m (fun r m' => QP B r m' l (seqF (B 4) 214 (oneF B 4) i o)) := by
  refine Ev.of (L := [vr 76, vr 1, vr 8, vi k, un]) (by decide +kernel) rfl (Nat.le_of_ble_eq_true rfl) rfl (fun t ht => by cases ht; first | exact Or.inl rfl | exact Or.inr (Or.inl rfl) | exact Or.inr (Or.inr rfl)) (fun hcan => ?_)
  have hi := hsq.2.1
  have hkb := hk.1
  have h0 := hsq.2.2.1
  have h1 := hsq.2.2.2.1
  have e12 := hsq.1.1
  have e11 := hsq.1.2.1
  have hPB : PB (oneF B 4) := (oneF_b B 4)
  refine go_aload_n dX5_readAll_0 rfl ?_
  refine go_aload_n dX5_readAll_1 rfl ?_
  refine go_aload_n dX5_readAll_2 rfl ?_
  refine go_iload_n dX5_readAll_3 rfl ?_
  refine go_callV_z (as := [vr 1, vr 8, vi k]) (S := []) (b := 76) (ev_X5_one4 (m := m) (k := k) (B := B) (i := i) (o := o) (l := l) hsq (by first | assumption | omega | exact ⟨by omega, by omega⟩ | (constructor <;> omega)) (by first | assumption | omega | exact ⟨by omega, by omega⟩ | (constructor <;> omega)) (by first | assumption | omega | exact ⟨by omega, by omega⟩ | (constructor <;> omega)) (by first | assumption | omega | exact ⟨by omega, by omega⟩ | (constructor <;> omega)) (by first | assumption | omega | exact ⟨by omega, by omega⟩ | (constructor <;> omega))) rfl dX5_readAll_4 cv_5_68 rfl rfl ob_76 rfl (by decide) (Nat.le_of_ble_eq_true rfl) (fun r_4 m_4 hr_4 ho_4 => ?_)
  refine go_if_ne (tgt := 12) dX5_readAll_7 (by decide) ⟨by omega, by omega⟩ (fun h_7 => ?_) (fun h_7 => ?_)
  · obtain ⟨-, x1, x2⟩ := hr_4.resolve_right (fun h => h_7 h.1)
    have hR1 := hPB i o (by omega) (by omega) x1
    refine go_iconst dX5_readAll_12 ?_
    refine go_istore (L' := [vr 76, vr 1, vr 8, vi k, vi 0]) dX5_readAll_13 (by decide) rfl rfl ?_
    have lp_15 : ∀ (n_15 : Nat) (m1 : Mem) (j : Int) (a : Rs) (f : Nat), (a.1 = 0) → (SQ B m1 a.2.1 a.2.2.1 (l ++ a.2.2.2)) → (seqL (B 4) 214 (oneF B 4) f a = seqL (B 4) 214 (oneF B 4) 21 ((oneF B 4) i o)) → (0 ≤ j ∧ j + (f : Int) = 21) → ((o + 1 + j ≤ a.2.2.1 ∧ a.2.2.1 ≤ 20) ∧ (a.2.2.2.length : Int) + 1 ≤ 2 * (a.2.2.1 - o)) → f < n_15 → Go 0 31 mX5_readAll (fun r m' => QP B r m' l (seqF (B 4) 214 (oneF B 4) i o)) 15 [vr 76, vr 1, vr 8, vi k, vi j] [] m1 := by
      intro n_15
      induction n_15 with
      | zero => intro m1 j a f ha0 hs1 hsl hj hab hmu; exact absurd hmu (Nat.not_lt_zero _)
      | succ n_15 ih_15 =>
        intro m1 j a f ha0 hs1 hsl hj hab hmu
        obtain ⟨hab1, hab2⟩ := hab
        have hsu : seqL (B 4) 214 (oneF B 4) f a = if B 4 a.2.1 = 214 then (if ((oneF B 4) (a.2.1 + 1) a.2.2.1).1 ≠ 0 then ((oneF B 4) (a.2.1 + 1) a.2.2.1) else seqL (B 4) 214 (oneF B 4) (f - 1) (0, ((oneF B 4) (a.2.1 + 1) a.2.2.1).2.1, ((oneF B 4) (a.2.1 + 1) a.2.2.1).2.2.1, a.2.2.2 ++ ((oneF B 4) (a.2.1 + 1) a.2.2.1).2.2.2 ++ [(214, 0, 0)])) else a := by
          obtain ⟨g, rfl⟩ : ∃ g, f = g + 1 := ⟨f - 1, by omega⟩
          rfl
        refine go_iload dX5_readAll_15 rfl ?_
        refine go_bipush dX5_readAll_17 (by decide) ?_
        refine go_icmp_ge (tgt := 63) dX5_readAll_19 (by decide) ⟨by omega, by omega⟩ ⟨by omega, by omega⟩ (fun h_19 => ?_) (fun h_19 => ?_)
        · exfalso; omega
        · refine go_aload_n dX5_readAll_22 rfl ?_
          refine go_getf_i (ki := 2) dX5_readAll_23 fl_5_54 ob_1 rfl rfl (fun hf_23 => ?_)
          rw [show (m1 1 2 : Int) = (B 4 a.2.1) from hs1.kd] at hf_23 ⊢
          refine go_sipush dX5_readAll_26 (by decide) ?_
          refine go_icmp_ne (tgt := 63) dX5_readAll_29 (by decide) hf_23 ⟨by omega, by omega⟩ (fun h_29 => ?_) (fun h_29 => ?_)
          · refine go_iconst dX5_readAll_63 ?_
            refine go_ret (v := 1) rfl dX5_readAll_64 (okZ (by first | exact Or.inl rfl | exact Or.inr rfl | assumption | omega)) ?_
            rw [seqF_e (B 4) 214, if_neg (fun z => z x1), ← hsl, hsu, if_neg (by omega)]
            exact Or.inl ⟨rfl, ha0, hs1⟩
          · refine go_aload_n dX5_readAll_32 rfl ?_
            refine go_callV_v (as := []) (S := []) (b := 1) (ev_X7_next (m := m1)  (by rw [hs1.1.1, hs1.1.2.1]; have h := hs1.2.1; have := hk.lt h.2 (by omega); omega)) rfl dX5_readAll_33 cv_5_47 rfl rfl ob_1 rfl (by decide) (Nat.le_of_ble_eq_true rfl) (fun m_33 hr_33 => ?_)
            have sq1 := hs1.nx hk (by omega)
            subst hr_33
            refine go_aload_n dX5_readAll_36 rfl ?_
            refine go_aload_n dX5_readAll_37 rfl ?_
            refine go_aload_n dX5_readAll_38 rfl ?_
            refine go_iload_n dX5_readAll_39 rfl ?_
            refine go_callV_z (as := [vr 1, vr 8, vi k]) (S := []) (b := 76) (ev_X5_one4 (m := (nxt m1)) (k := k) (B := B) (i := (a.2.1 + 1)) (o := a.2.2.1) (l := (l ++ a.2.2.2)) sq1 (by first | assumption | omega | exact ⟨by omega, by omega⟩ | (constructor <;> omega)) (by first | assumption | omega | exact ⟨by omega, by omega⟩ | (constructor <;> omega)) (by omega) (by simp only [List.length_append]; omega) (by first | assumption | omega | exact ⟨by omega, by omega⟩ | (constructor <;> omega))) rfl dX5_readAll_40 cv_5_68 rfl rfl ob_76 rfl (by decide) (Nat.le_of_ble_eq_true rfl) (fun r_40 m_40 hr_40 ho_40 => ?_)
            refine go_if_ne (tgt := 48) dX5_readAll_43 (by decide) ⟨by omega, by omega⟩ (fun h_43 => ?_) (fun h_43 => ?_)
            · obtain ⟨-, x1, x2⟩ := hr_40.resolve_right (fun h => h_43 h.1)
              have hR2 := hPB (a.2.1 + 1) a.2.2.1 (by omega) (by omega) x1
              refine go_aload_n dX5_readAll_48 rfl ?_
              refine go_sipush dX5_readAll_49 (by decide) ?_
              refine go_iconst dX5_readAll_52 ?_
              refine go_iconst dX5_readAll_53 ?_
              refine go_callV_v (as := [vi 214, vi 0, vi 0]) (S := []) (b := 76) (ev_X5_add (m := m_40) (k := 214) (g := 0) (v := 0) (by first | assumption | omega | exact ⟨by omega, by omega⟩ | (constructor <;> omega)) (by first | assumption | omega | exact ⟨by omega, by omega⟩ | (constructor <;> omega)) (by first | assumption | omega | exact ⟨by omega, by omega⟩ | (constructor <;> omega)) (by rw [x2.2.2.2.1]; simp only [List.length_append]; omega)) rfl dX5_readAll_54 cv_5_64 rfl rfl ob_76 rfl (by decide) (Nat.le_of_ble_eq_true rfl) (fun m_54 hr_54 => ?_)
              have sq3 := x2.add (k := 214) (g := 0) (v := 0)
              subst hr_54
              refine go_iinc (L' := [vr 76, vr 1, vr 8, vi k, vi (j + 1)]) dX5_readAll_57 rfl (by decide) rfl rfl ?_
              refine go_goto (tgt := 15) dX5_readAll_60 (by decide) ?_
              exact ih_15 (addM m_40 214 0 0) (j + 1) (0, ((oneF B 4) (a.2.1 + 1) a.2.2.1).2.1, ((oneF B 4) (a.2.1 + 1) a.2.2.1).2.2.1, a.2.2.2 ++ ((oneF B 4) (a.2.1 + 1) a.2.2.1).2.2.2 ++ [(214, 0, 0)]) (f - 1) rfl (by show SQ B _ _ _ (l ++ (a.2.2.2 ++ _ ++ _)); rw [← List.append_assoc, ← List.append_assoc]; exact sq3) (by rw [← hsl, hsu, if_pos (by omega), if_neg (fun z => z x1)]) (by first | assumption | omega | rfl) (by
                    refine ⟨⟨?_, ?_⟩, ?_⟩
                    · show o + 1 + (j + 1) ≤ ((oneF B 4) (a.2.1 + 1) a.2.2.1).2.2.1; omega
                    · show ((oneF B 4) (a.2.1 + 1) a.2.2.1).2.2.1 ≤ 20; omega
                    · show ((a.2.2.2 ++ ((oneF B 4) (a.2.1 + 1) a.2.2.1).2.2.2 ++ [(214, 0, 0)] : List Cd).length : Int) + 1 ≤ 2 * (((oneF B 4) (a.2.1 + 1) a.2.2.1).2.2.1 - o)
                      simp only [List.length_append, List.length_singleton]
                      omega) (by omega)
            · refine go_iconst dX5_readAll_46 ?_
              refine go_ret (v := 0) rfl dX5_readAll_47 (okZ (by first | exact Or.inl rfl | exact Or.inr rfl | assumption | omega)) ?_
              obtain ⟨-, y1, y2⟩ := hr_40.resolve_left (fun h => by have := h.1; omega)
              rw [seqF_e (B 4) 214, if_neg (fun z => z x1), ← hsl, hsu, if_pos (by omega), if_pos y1]
              exact Or.inr ⟨rfl, y1, y2⟩
    exact lp_15 _ m_4 0 ((oneF B 4) i o) 21 x1 x2 rfl (by first | assumption | omega | rfl) ⟨by omega, hR1.2.2⟩ (Nat.lt_succ_self _)
  · refine go_iconst dX5_readAll_10 ?_
    refine go_ret (v := 0) rfl dX5_readAll_11 (okZ (by first | exact Or.inl rfl | exact Or.inr rfl | assumption | omega)) ?_
    obtain ⟨-, x1, x2⟩ := hr_4.resolve_left (fun h => by have := h.1; omega)
    rw [seqF_e (B 4) 214, if_pos x1]
    exact Or.inr ⟨rfl, x1, x2⟩
set_option maxRecDepth 4000 in
theorem ev_X5_con4 {m : Mem} {B : Mem} {i : Int} {o : Int} {l : List Cd} {k : Int} (hsq : SQ B m i o l) (hk : TkS B) (hdb : DnOk B 8) (ho : 0 ≤ o ∧ o ≤ 20) (hl : (l.length : Int) ≤ 2 * o) (hd : k = 5) : Ev 0 32 mX5_readCond [vr 76, vr 1, vr 8, vi k] m (fun r m' => QP B r m' l (seqF (B 4) 213 (seqF (B 4) 214 (oneF B 4)) i o)) := by
  refine Ev.of (L := [vr 76, vr 1, vr 8, vi k, un]) (by decide +kernel) rfl (Nat.le_of_ble_eq_true rfl) rfl (fun t ht => by cases ht; first | exact Or.inl rfl | exact Or.inr (Or.inl rfl) | exact Or.inr (Or.inr rfl)) (fun hcan => ?_)
  have hi := hsq.2.1
  have hkb := hk.1
  have h0 := hsq.2.2.1
  have h1 := hsq.2.2.2.1
  have e12 := hsq.1.1
  have e11 := hsq.1.2.1
  have hPB : PB (seqF (B 4) 214 (oneF B 4)) := (seqF_b (oneF_b B 4))
  refine go_aload_n dX5_readCond_0 rfl ?_
  refine go_aload_n dX5_readCond_1 rfl ?_
  refine go_aload_n dX5_readCond_2 rfl ?_
  refine go_iload_n dX5_readCond_3 rfl ?_
  refine go_callV_z (as := [vr 1, vr 8, vi k]) (S := []) (b := 76) (ev_X5_all4 (m := m) (k := k) (B := B) (i := i) (o := o) (l := l) hsq (by first | assumption | omega | exact ⟨by omega, by omega⟩ | (constructor <;> omega)) (by first | assumption | omega | exact ⟨by omega, by omega⟩ | (constructor <;> omega)) (by first | assumption | omega | exact ⟨by omega, by omega⟩ | (constructor <;> omega)) (by first | assumption | omega | exact ⟨by omega, by omega⟩ | (constructor <;> omega)) (by first | assumption | omega | exact ⟨by omega, by omega⟩ | (constructor <;> omega))) rfl dX5_readCond_4 cv_5_61 rfl rfl ob_76 rfl (by decide) (Nat.le_of_ble_eq_true rfl) (fun r_4 m_4 hr_4 ho_4 => ?_)
  refine go_if_ne (tgt := 12) dX5_readCond_7 (by decide) ⟨by omega, by omega⟩ (fun h_7 => ?_) (fun h_7 => ?_)
  · obtain ⟨-, x1, x2⟩ := hr_4.resolve_right (fun h => h_7 h.1)
    have hR1 := hPB i o (by omega) (by omega) x1
    refine go_iconst dX5_readCond_12 ?_
    refine go_istore (L' := [vr 76, vr 1, vr 8, vi k, vi 0]) dX5_readCond_13 (by decide) rfl rfl ?_
    have lp_15 : ∀ (n_15 : Nat) (m1 : Mem) (j : Int) (a : Rs) (f : Nat), (a.1 = 0) → (SQ B m1 a.2.1 a.2.2.1 (l ++ a.2.2.2)) → (seqL (B 4) 213 (seqF (B 4) 214 (oneF B 4)) f a = seqL (B 4) 213 (seqF (B 4) 214 (oneF B 4)) 21 ((seqF (B 4) 214 (oneF B 4)) i o)) → (0 ≤ j ∧ j + (f : Int) = 21) → ((o + 1 + j ≤ a.2.2.1 ∧ a.2.2.1 ≤ 20) ∧ (a.2.2.2.length : Int) + 1 ≤ 2 * (a.2.2.1 - o)) → f < n_15 → Go 0 32 mX5_readCond (fun r m' => QP B r m' l (seqF (B 4) 213 (seqF (B 4) 214 (oneF B 4)) i o)) 15 [vr 76, vr 1, vr 8, vi k, vi j] [] m1 := by
      intro n_15
      induction n_15 with
      | zero => intro m1 j a f ha0 hs1 hsl hj hab hmu; exact absurd hmu (Nat.not_lt_zero _)
      | succ n_15 ih_15 =>
        intro m1 j a f ha0 hs1 hsl hj hab hmu
        obtain ⟨hab1, hab2⟩ := hab
        have hsu : seqL (B 4) 213 (seqF (B 4) 214 (oneF B 4)) f a = if B 4 a.2.1 = 213 then (if ((seqF (B 4) 214 (oneF B 4)) (a.2.1 + 1) a.2.2.1).1 ≠ 0 then ((seqF (B 4) 214 (oneF B 4)) (a.2.1 + 1) a.2.2.1) else seqL (B 4) 213 (seqF (B 4) 214 (oneF B 4)) (f - 1) (0, ((seqF (B 4) 214 (oneF B 4)) (a.2.1 + 1) a.2.2.1).2.1, ((seqF (B 4) 214 (oneF B 4)) (a.2.1 + 1) a.2.2.1).2.2.1, a.2.2.2 ++ ((seqF (B 4) 214 (oneF B 4)) (a.2.1 + 1) a.2.2.1).2.2.2 ++ [(213, 0, 0)])) else a := by
          obtain ⟨g, rfl⟩ : ∃ g, f = g + 1 := ⟨f - 1, by omega⟩
          rfl
        refine go_iload dX5_readCond_15 rfl ?_
        refine go_bipush dX5_readCond_17 (by decide) ?_
        refine go_icmp_ge (tgt := 63) dX5_readCond_19 (by decide) ⟨by omega, by omega⟩ ⟨by omega, by omega⟩ (fun h_19 => ?_) (fun h_19 => ?_)
        · exfalso; omega
        · refine go_aload_n dX5_readCond_22 rfl ?_
          refine go_getf_i (ki := 2) dX5_readCond_23 fl_5_54 ob_1 rfl rfl (fun hf_23 => ?_)
          rw [show (m1 1 2 : Int) = (B 4 a.2.1) from hs1.kd] at hf_23 ⊢
          refine go_sipush dX5_readCond_26 (by decide) ?_
          refine go_icmp_ne (tgt := 63) dX5_readCond_29 (by decide) hf_23 ⟨by omega, by omega⟩ (fun h_29 => ?_) (fun h_29 => ?_)
          · refine go_iconst dX5_readCond_63 ?_
            refine go_ret (v := 1) rfl dX5_readCond_64 (okZ (by first | exact Or.inl rfl | exact Or.inr rfl | assumption | omega)) ?_
            rw [seqF_e (B 4) 213, if_neg (fun z => z x1), ← hsl, hsu, if_neg (by omega)]
            exact Or.inl ⟨rfl, ha0, hs1⟩
          · refine go_aload_n dX5_readCond_32 rfl ?_
            refine go_callV_v (as := []) (S := []) (b := 1) (ev_X7_next (m := m1)  (by rw [hs1.1.1, hs1.1.2.1]; have h := hs1.2.1; have := hk.lt h.2 (by omega); omega)) rfl dX5_readCond_33 cv_5_47 rfl rfl ob_1 rfl (by decide) (Nat.le_of_ble_eq_true rfl) (fun m_33 hr_33 => ?_)
            have sq1 := hs1.nx hk (by omega)
            subst hr_33
            refine go_aload_n dX5_readCond_36 rfl ?_
            refine go_aload_n dX5_readCond_37 rfl ?_
            refine go_aload_n dX5_readCond_38 rfl ?_
            refine go_iload_n dX5_readCond_39 rfl ?_
            refine go_callV_z (as := [vr 1, vr 8, vi k]) (S := []) (b := 76) (ev_X5_all4 (m := (nxt m1)) (k := k) (B := B) (i := (a.2.1 + 1)) (o := a.2.2.1) (l := (l ++ a.2.2.2)) sq1 (by first | assumption | omega | exact ⟨by omega, by omega⟩ | (constructor <;> omega)) (by first | assumption | omega | exact ⟨by omega, by omega⟩ | (constructor <;> omega)) (by omega) (by simp only [List.length_append]; omega) (by first | assumption | omega | exact ⟨by omega, by omega⟩ | (constructor <;> omega))) rfl dX5_readCond_40 cv_5_61 rfl rfl ob_76 rfl (by decide) (Nat.le_of_ble_eq_true rfl) (fun r_40 m_40 hr_40 ho_40 => ?_)
            refine go_if_ne (tgt := 48) dX5_readCond_43 (by decide) ⟨by omega, by omega⟩ (fun h_43 => ?_) (fun h_43 => ?_)
            · obtain ⟨-, x1, x2⟩ := hr_40.resolve_right (fun h => h_43 h.1)
              have hR2 := hPB (a.2.1 + 1) a.2.2.1 (by omega) (by omega) x1
              refine go_aload_n dX5_readCond_48 rfl ?_
              refine go_sipush dX5_readCond_49 (by decide) ?_
              refine go_iconst dX5_readCond_52 ?_
              refine go_iconst dX5_readCond_53 ?_
              refine go_callV_v (as := [vi 213, vi 0, vi 0]) (S := []) (b := 76) (ev_X5_add (m := m_40) (k := 213) (g := 0) (v := 0) (by first | assumption | omega | exact ⟨by omega, by omega⟩ | (constructor <;> omega)) (by first | assumption | omega | exact ⟨by omega, by omega⟩ | (constructor <;> omega)) (by first | assumption | omega | exact ⟨by omega, by omega⟩ | (constructor <;> omega)) (by rw [x2.2.2.2.1]; simp only [List.length_append]; omega)) rfl dX5_readCond_54 cv_5_64 rfl rfl ob_76 rfl (by decide) (Nat.le_of_ble_eq_true rfl) (fun m_54 hr_54 => ?_)
              have sq3 := x2.add (k := 213) (g := 0) (v := 0)
              subst hr_54
              refine go_iinc (L' := [vr 76, vr 1, vr 8, vi k, vi (j + 1)]) dX5_readCond_57 rfl (by decide) rfl rfl ?_
              refine go_goto (tgt := 15) dX5_readCond_60 (by decide) ?_
              exact ih_15 (addM m_40 213 0 0) (j + 1) (0, ((seqF (B 4) 214 (oneF B 4)) (a.2.1 + 1) a.2.2.1).2.1, ((seqF (B 4) 214 (oneF B 4)) (a.2.1 + 1) a.2.2.1).2.2.1, a.2.2.2 ++ ((seqF (B 4) 214 (oneF B 4)) (a.2.1 + 1) a.2.2.1).2.2.2 ++ [(213, 0, 0)]) (f - 1) rfl (by show SQ B _ _ _ (l ++ (a.2.2.2 ++ _ ++ _)); rw [← List.append_assoc, ← List.append_assoc]; exact sq3) (by rw [← hsl, hsu, if_pos (by omega), if_neg (fun z => z x1)]) (by first | assumption | omega | rfl) (by
                    refine ⟨⟨?_, ?_⟩, ?_⟩
                    · show o + 1 + (j + 1) ≤ ((seqF (B 4) 214 (oneF B 4)) (a.2.1 + 1) a.2.2.1).2.2.1; omega
                    · show ((seqF (B 4) 214 (oneF B 4)) (a.2.1 + 1) a.2.2.1).2.2.1 ≤ 20; omega
                    · show ((a.2.2.2 ++ ((seqF (B 4) 214 (oneF B 4)) (a.2.1 + 1) a.2.2.1).2.2.2 ++ [(213, 0, 0)] : List Cd).length : Int) + 1 ≤ 2 * (((seqF (B 4) 214 (oneF B 4)) (a.2.1 + 1) a.2.2.1).2.2.1 - o)
                      simp only [List.length_append, List.length_singleton]
                      omega) (by omega)
            · refine go_iconst dX5_readCond_46 ?_
              refine go_ret (v := 0) rfl dX5_readCond_47 (okZ (by first | exact Or.inl rfl | exact Or.inr rfl | assumption | omega)) ?_
              obtain ⟨-, y1, y2⟩ := hr_40.resolve_left (fun h => by have := h.1; omega)
              rw [seqF_e (B 4) 213, if_neg (fun z => z x1), ← hsl, hsu, if_pos (by omega), if_pos y1]
              exact Or.inr ⟨rfl, y1, y2⟩
    exact lp_15 _ m_4 0 ((seqF (B 4) 214 (oneF B 4)) i o) 21 x1 x2 rfl (by first | assumption | omega | rfl) ⟨by omega, hR1.2.2⟩ (Nat.lt_succ_self _)
  · refine go_iconst dX5_readCond_10 ?_
    refine go_ret (v := 0) rfl dX5_readCond_11 (okZ (by first | exact Or.inl rfl | exact Or.inr rfl | assumption | omega)) ?_
    obtain ⟨-, x1, x2⟩ := hr_4.resolve_left (fun h => by have := h.1; omega)
    rw [seqF_e (B 4) 213, if_pos x1]
    exact Or.inr ⟨rfl, x1, x2⟩
set_option maxRecDepth 4000 in
theorem ev_X5_not5 {m : Mem} {B : Mem} {i : Int} {o : Int} {l : List Cd} {k : Int} (hsq : SQ B m i o l) (hk : TkS B) (hdb : DnOk B 8) (ho : 1 ≤ o ∧ o ≤ 20) (hl : (l.length : Int) + 2 ≤ 2 * o) (hd : k = 4) (hki : B 4 i = 215) : Ev 0 34 mX5_readNot [vr 76, vr 1, vr 8, vi k] m (fun r m' => QP B r m' l (notF (oneF B 4) i o)) := by
  refine Ev.of (L := [vr 76, vr 1, vr 8, vi k]) (by decide +kernel) rfl (Nat.le_of_ble_eq_true rfl) rfl (fun t ht => by cases ht; first | exact Or.inl rfl | exact Or.inr (Or.inl rfl) | exact Or.inr (Or.inr rfl)) (fun hcan => ?_)
  have hi := hsq.2.1
  have hkb := hk.1
  have h0 := hsq.2.2.1
  have h1 := hsq.2.2.2.1
  have e12 := hsq.1.1
  have e11 := hsq.1.2.1
  have hR : RB o ((oneF B 4) (i + 1) o) := oneF_b B 4 (i + 1) o (by omega) (by omega)
  refine go_aload_n dX5_readNot_0 rfl ?_
  refine go_callV_v (as := []) (S := []) (b := 1) (ev_X7_next (m := m)  (by rw [hsq.1.1, hsq.1.2.1]; have h := hk.lt hsq.2.1.2 (by omega); have h2 := hsq.2.1; omega)) rfl dX5_readNot_1 cv_5_47 rfl rfl ob_1 rfl (by decide) (Nat.le_of_ble_eq_true rfl) (fun m_1 hr_1 => ?_)
  have sq1 := hsq.nx hk (by omega)
  subst hr_1
  refine go_aload_n dX5_readNot_4 rfl ?_
  refine go_aload_n dX5_readNot_5 rfl ?_
  refine go_aload_n dX5_readNot_6 rfl ?_
  refine go_iload_n dX5_readNot_7 rfl ?_
  refine go_iconst dX5_readNot_8 ?_
  refine go_iadd dX5_readNot_9 ?_
  refine go_callV_z (as := [vr 1, vr 8, vi (k + 1)]) (S := []) (b := 76) (ev_X5_one4 (m := (nxt m)) (k := (k + 1)) (B := B) (i := (i + 1)) (o := o) (l := l) sq1 (by first | assumption | omega | exact ⟨by omega, by omega⟩ | (constructor <;> omega)) (by first | assumption | omega | exact ⟨by omega, by omega⟩ | (constructor <;> omega)) (by first | assumption | omega | exact ⟨by omega, by omega⟩ | (constructor <;> omega)) (by omega) (by first | assumption | omega | exact ⟨by omega, by omega⟩ | (constructor <;> omega))) rfl dX5_readNot_10 cv_5_68 rfl rfl ob_76 rfl (by decide) (Nat.le_of_ble_eq_true rfl) (fun r_10 m_10 hr_10 ho_10 => ?_)
  refine go_if_ne (tgt := 18) dX5_readNot_13 (by decide) ⟨by omega, by omega⟩ (fun h_13 => ?_) (fun h_13 => ?_)
  · obtain ⟨-, x1, x2⟩ := hr_10.resolve_right (fun h => h_13 h.1)
    refine go_aload_n dX5_readNot_18 rfl ?_
    refine go_sipush dX5_readNot_19 (by decide) ?_
    refine go_iconst dX5_readNot_22 ?_
    refine go_iconst dX5_readNot_23 ?_
    refine go_callV_v (as := [vi 215, vi 0, vi 0]) (S := []) (b := 76) (ev_X5_add (m := m_10) (k := 215) (g := 0) (v := 0) (by first | assumption | omega | exact ⟨by omega, by omega⟩ | (constructor <;> omega)) (by first | assumption | omega | exact ⟨by omega, by omega⟩ | (constructor <;> omega)) (by first | assumption | omega | exact ⟨by omega, by omega⟩ | (constructor <;> omega)) (by rw [x2.2.2.2.1]; simp only [List.length_append]; have h := hR x1; omega)) rfl dX5_readNot_24 cv_5_64 rfl rfl ob_76 rfl (by decide) (Nat.le_of_ble_eq_true rfl) (fun m_24 hr_24 => ?_)
    have sq3 := x2.add (k := 215) (g := 0) (v := 0)
    subst hr_24
    refine go_iconst dX5_readNot_27 ?_
    refine go_ret (v := 1) rfl dX5_readNot_28 (okZ (by first | exact Or.inl rfl | exact Or.inr rfl | assumption | omega)) ?_
    rw [List.append_assoc] at sq3
    exact Or.inl ⟨rfl, x1, sq3⟩
  · refine go_iconst dX5_readNot_16 ?_
    refine go_ret (v := 0) rfl dX5_readNot_17 (okZ (by first | exact Or.inl rfl | exact Or.inr rfl | assumption | omega)) ?_
    obtain ⟨-, x1, x2⟩ := hr_10.resolve_left (fun h => by have := h.1; omega)
    exact Or.inr ⟨rfl, x1, x2⟩
set_option maxRecDepth 4000 in
theorem ev_X5_brk5 {m : Mem} {B : Mem} {i : Int} {o : Int} {l : List Cd} {k : Int} (hsq : SQ B m i o l) (hk : TkS B) (hdb : DnOk B 8) (ho : 1 ≤ o ∧ o ≤ 20) (hl : (l.length : Int) + 2 ≤ 2 * o) (hd : k = 4) (hki : B 4 i = 40) : Ev 0 34 mX5_readBracket [vr 76, vr 1, vr 8, vi k] m (fun r m' => QP B r m' l (brkF (B 4) (seqF (B 4) 213 (seqF (B 4) 214 (oneF B 4))) i o)) := by
  refine Ev.of (L := [vr 76, vr 1, vr 8, vi k]) (by decide +kernel) rfl (Nat.le_of_ble_eq_true rfl) rfl (fun t ht => by cases ht; first | exact Or.inl rfl | exact Or.inr (Or.inl rfl) | exact Or.inr (Or.inr rfl)) (fun hcan => ?_)
  have hi := hsq.2.1
  have hkb := hk.1
  have h0 := hsq.2.2.1
  have h1 := hsq.2.2.2.1
  have e12 := hsq.1.1
  have e11 := hsq.1.2.1
  refine go_aload_n dX5_readBracket_0 rfl ?_
  refine go_callV_v (as := []) (S := []) (b := 1) (ev_X7_next (m := m)  (by rw [hsq.1.1, hsq.1.2.1]; have h := hk.lt hsq.2.1.2 (by omega); have h2 := hsq.2.1; omega)) rfl dX5_readBracket_1 cv_5_47 rfl rfl ob_1 rfl (by decide) (Nat.le_of_ble_eq_true rfl) (fun m_1 hr_1 => ?_)
  have sq1 := hsq.nx hk (by omega)
  subst hr_1
  refine go_aload_n dX5_readBracket_4 rfl ?_
  refine go_aload_n dX5_readBracket_5 rfl ?_
  refine go_aload_n dX5_readBracket_6 rfl ?_
  refine go_iload_n dX5_readBracket_7 rfl ?_
  refine go_iconst dX5_readBracket_8 ?_
  refine go_iadd dX5_readBracket_9 ?_
  refine go_callV_z (as := [vr 1, vr 8, vi (k + 1)]) (S := []) (b := 76) (ev_X5_con4 (m := (nxt m)) (k := (k + 1)) (B := B) (i := (i + 1)) (o := o) (l := l) sq1 (by first | assumption | omega | exact ⟨by omega, by omega⟩ | (constructor <;> omega)) (by first | assumption | omega | exact ⟨by omega, by omega⟩ | (constructor <;> omega)) (by first | assumption | omega | exact ⟨by omega, by omega⟩ | (constructor <;> omega)) (by omega) (by first | assumption | omega | exact ⟨by omega, by omega⟩ | (constructor <;> omega))) rfl dX5_readBracket_10 cv_5_50 rfl rfl ob_76 rfl (by decide) (Nat.le_of_ble_eq_true rfl) (fun r_10 m_10 hr_10 ho_10 => ?_)
  obtain ⟨R, hRe⟩ : ∃ z, z = seqF (B 4) 213 (seqF (B 4) 214 (oneF B 4)) (i + 1) o := ⟨_, rfl⟩
  rw [← hRe] at hr_10
  refine go_if_ne (tgt := 18) dX5_readBracket_13 (by decide) ⟨by omega, by omega⟩ (fun h_13 => ?_) (fun h_13 => ?_)
  · obtain ⟨-, x1, x2⟩ := hr_10.resolve_right (fun h => h_13 h.1)
    refine go_aload_n dX5_readBracket_18 rfl ?_
    refine go_getf_i (ki := 2) dX5_readBracket_19 fl_5_54 ob_1 rfl rfl (fun hf_19 => ?_)
    rw [show (m_10 1 2 : Int) = (B 4 R.2.1) from x2.kd] at hf_19 ⊢
    refine go_bipush dX5_readBracket_22 (by decide) ?_
    refine go_icmp_eq (tgt := 33) dX5_readBracket_24 (by decide) ⟨by omega, by omega⟩ ⟨by omega, by omega⟩ (fun h_24 => ?_) (fun h_24 => ?_)
    · refine go_aload_n dX5_readBracket_33 rfl ?_
      refine go_callV_v (as := []) (S := []) (b := 1) (ev_X7_next (m := m_10)  (by rw [x2.1.1, x2.1.2.1]; have h := x2.2.1; have := hk.lt h.2 (by omega); omega)) rfl dX5_readBracket_34 cv_5_47 rfl rfl ob_1 rfl (by decide) (Nat.le_of_ble_eq_true rfl) (fun m_34 hr_34 => ?_)
      have sq3 := x2.nx hk (by omega)
      subst hr_34
      refine go_iconst dX5_readBracket_37 ?_
      refine go_ret (v := 1) rfl dX5_readBracket_38 (okZ (by first | exact Or.inl rfl | exact Or.inr rfl | assumption | omega)) ?_
      unfold brkF
      rw [← hRe, if_neg (fun z => z x1), if_pos (by omega)]
      exact Or.inl ⟨rfl, rfl, sq3⟩
    · refine go_aload_n dX5_readBracket_27 rfl ?_
      refine go_iconst dX5_readBracket_28 ?_
      refine go_callV_z (as := [vi 1]) (S := []) (b := 1) (ev_X7_refuse (m := m_10) (k := 1) (by first | assumption | omega | exact ⟨by omega, by omega⟩ | (constructor <;> omega))) rfl dX5_readBracket_29 cv_5_57 rfl rfl ob_1 rfl (by decide) (Nat.le_of_ble_eq_true rfl) (fun r_29 m_29 hr_29 ho_29 => ?_)
      refine go_ret (v := r_29) rfl dX5_readBracket_32 (okZ (by first | exact Or.inl rfl | exact Or.inr rfl | assumption | omega)) ?_
      unfold brkF
      rw [← hRe, if_neg (fun z => z x1), if_neg (by omega), hr_29.2]
      exact Or.inr ⟨by omega, (show (1 : Int) ≠ 0 by decide), x2.ref⟩
  · refine go_iconst dX5_readBracket_16 ?_
    refine go_ret (v := 0) rfl dX5_readBracket_17 (okZ (by first | exact Or.inl rfl | exact Or.inr rfl | assumption | omega)) ?_
    obtain ⟨-, x1, x2⟩ := hr_10.resolve_left (fun h => by have := h.1; omega)
    unfold brkF
    rw [← hRe, if_pos x1]
    exact Or.inr ⟨rfl, x1, x2⟩
set_option maxRecDepth 4000 in
theorem ev_X5_one5 {m : Mem} {B : Mem} {i : Int} {o : Int} {l : List Cd} {k : Int} (hsq : SQ B m i o l) (hk : TkS B) (hdb : DnOk B 8) (ho : 0 ≤ o ∧ o ≤ 20) (hl : (l.length : Int) ≤ 2 * o) (hd : k = 4) : Ev 0 35 mX5_readOne [vr 76, vr 1, vr 8, vi k] m (fun r m' => QP B r m' l (oneF B 5 i o)) := by
  refine Ev.of (L := [vr 76, vr 1, vr 8, vi k, un]) (by decide +kernel) rfl (Nat.le_of_ble_eq_true rfl) rfl (fun t ht => by cases ht; first | exact Or.inl rfl | exact Or.inr (Or.inl rfl) | exact Or.inr (Or.inr rfl)) (fun hcan => ?_)
  have hi := hsq.2.1
  have hkb := hk.1
  have h0 := hsq.2.2.1
  have h1 := hsq.2.2.2.1
  have e12 := hsq.1.1
  have e11 := hsq.1.2.1
  refine go_aload_n dX5_readOne_0 rfl ?_
  refine go_getf_i (ki := 2) dX5_readOne_1 fl_5_54 ob_1 rfl rfl (fun hf_1 => ?_)
  rw [show (m 1 2 : Int) = (B 4 i) from hsq.kd] at hf_1 ⊢
  refine go_istore (L' := [vr 76, vr 1, vr 8, vi k, vi (B 4 i)]) dX5_readOne_4 (by decide) rfl rfl ?_
  refine go_iload dX5_readOne_6 rfl ?_
  refine go_bipush dX5_readOne_8 (by decide) ?_
  refine go_icmp_eq (tgt := 33) dX5_readOne_10 (by decide) ⟨by omega, by omega⟩ ⟨by omega, by omega⟩ (fun h_10 => ?_) (fun h_10 => ?_)
  · refine go_aload_n dX5_readOne_33 rfl ?_
    refine go_getf_i (ki := 0) dX5_readOne_34 fl_5_9 ob_76 rfl rfl (fun hf_34 => ?_)
    rw [show (m 76 0 : Int) = o from h0] at hf_34 ⊢
    refine go_bipush dX5_readOne_37 (by decide) ?_
    refine go_icmp_ge (tgt := 48) dX5_readOne_39 (by decide) ⟨by omega, by omega⟩ ⟨by omega, by omega⟩ (fun h_39 => ?_) (fun h_39 => ?_)
    · refine go_aload_n dX5_readOne_48 rfl ?_
      refine go_iconst dX5_readOne_49 ?_
      refine go_callV_z (as := [vi 4]) (S := []) (b := 1) (ev_X7_refuse (m := m) (k := 4) (by first | assumption | omega | exact ⟨by omega, by omega⟩ | (constructor <;> omega))) rfl dX5_readOne_50 cv_5_57 rfl rfl ob_1 rfl (by decide) (Nat.le_of_ble_eq_true rfl) (fun r_50 m_50 hr_50 ho_50 => ?_)
      refine go_ret (v := r_50) rfl dX5_readOne_53 (okZ (by first | exact Or.inl rfl | exact Or.inr rfl | assumption | omega)) ?_
      rw [hr_50.2, show oneF B 5 i o = (4, i, o, []) by unfold oneF; rw [if_neg (by omega), if_pos (by omega)]]
      exact Or.inr ⟨by omega, (show (4 : Int) ≠ 0 by decide), hsq.ref⟩
    · refine go_iload_n dX5_readOne_42 rfl ?_
      refine go_bipush dX5_readOne_43 (by decide) ?_
      refine go_icmp_le (tgt := 54) dX5_readOne_45 (by decide) ⟨by omega, by omega⟩ ⟨by omega, by omega⟩ (fun h_45 => ?_) (fun h_45 => ?_)
      · refine go_aload_n dX5_readOne_54 rfl ?_
        refine go_dup_r dX5_readOne_55 ?_
        refine go_getf_i (ki := 0) dX5_readOne_56 fl_5_9 ob_76 rfl rfl (fun hf_56 => ?_)
        rw [show (m 76 0 : Int) = o from h0] at hf_56 ⊢
        refine go_iconst dX5_readOne_59 ?_
        refine go_iadd dX5_readOne_60 ?_
        refine go_putf_i (ki := 0) dX5_readOne_61 fw_5_9 ob_76 rfl rfl ⟨by omega, by omega⟩ ?_
        have sq1 := hsq.one (x := o + 1)
        refine go_iload dX5_readOne_64 rfl ?_
        by_cases hk_66_0 : (B 4 i) = 40
        · refine go_lswitch (off := 82) (tgt := 148) dX5_readOne_66 ⟨by omega, by omega⟩ (by decide) (by rw [hk_66_0] <;> rfl) (by decide) ?_
          refine go_aload_n dX5_readOne_148 rfl ?_
          refine go_aload_n dX5_readOne_149 rfl ?_
          refine go_aload_n dX5_readOne_150 rfl ?_
          refine go_iload_n dX5_readOne_151 rfl ?_
          refine go_callV_z (as := [vr 1, vr 8, vi k]) (S := []) (b := 76) (ev_X5_brk5 (m := (wr m 76 0 (o + 1))) (k := k) (B := B) (i := i) (o := (o + 1)) (l := l) sq1 (by first | assumption | omega | exact ⟨by omega, by omega⟩ | (constructor <;> omega)) (by first | assumption | omega | exact ⟨by omega, by omega⟩ | (constructor <;> omega)) (by omega) (by omega) (by first | assumption | omega | exact ⟨by omega, by omega⟩ | (constructor <;> omega)) (by first | assumption | omega | exact ⟨by omega, by omega⟩ | (constructor <;> omega))) rfl dX5_readOne_152 cv_5_78 rfl rfl ob_76 rfl (by decide) (Nat.le_of_ble_eq_true rfl) (fun r_152 m_152 hr_152 ho_152 => ?_)
          refine go_ret (v := r_152) rfl dX5_readOne_155 (okZ (by first | exact Or.inl rfl | exact Or.inr rfl | assumption | omega)) ?_
          rw [show oneF B 5 i o = brkF (B 4) (seqF (B 4) 213 (seqF (B 4) 214 (oneF B 4))) i (o + 1) by unfold oneF; rw [if_neg (by omega), if_neg (by omega), if_neg (by omega), if_pos (by omega)]]
          exact hr_152
        · skip
          by_cases hk_66_1 : (B 4 i) = 215
          · refine go_lswitch (off := 74) (tgt := 140) dX5_readOne_66 ⟨by omega, by omega⟩ (by decide) (by rw [hk_66_1] <;> rfl) (by decide) ?_
            refine go_aload_n dX5_readOne_140 rfl ?_
            refine go_aload_n dX5_readOne_141 rfl ?_
            refine go_aload_n dX5_readOne_142 rfl ?_
            refine go_iload_n dX5_readOne_143 rfl ?_
            refine go_callV_z (as := [vr 1, vr 8, vi k]) (S := []) (b := 76) (ev_X5_not5 (m := (wr m 76 0 (o + 1))) (k := k) (B := B) (i := i) (o := (o + 1)) (l := l) sq1 (by first | assumption | omega | exact ⟨by omega, by omega⟩ | (constructor <;> omega)) (by first | assumption | omega | exact ⟨by omega, by omega⟩ | (constructor <;> omega)) (by omega) (by omega) (by first | assumption | omega | exact ⟨by omega, by omega⟩ | (constructor <;> omega)) (by first | assumption | omega | exact ⟨by omega, by omega⟩ | (constructor <;> omega))) rfl dX5_readOne_144 cv_5_75 rfl rfl ob_76 rfl (by decide) (Nat.le_of_ble_eq_true rfl) (fun r_144 m_144 hr_144 ho_144 => ?_)
            refine go_ret (v := r_144) rfl dX5_readOne_147 (okZ (by first | exact Or.inl rfl | exact Or.inr rfl | assumption | omega)) ?_
            rw [show oneF B 5 i o = notF (oneF B 4) i (o + 1) by unfold oneF; rw [if_neg (by omega), if_neg (by omega), if_pos (by omega)]]
            exact hr_144
          · skip
            by_cases hk_66_2 : (B 4 i) = 219
            · refine go_lswitch (off := 90) (tgt := 156) dX5_readOne_66 ⟨by omega, by omega⟩ (by decide) (by rw [hk_66_2] <;> rfl) (by decide) ?_
              refine go_aload_n dX5_readOne_156 rfl ?_
              refine go_aload_n dX5_readOne_157 rfl ?_
              refine go_aload_n dX5_readOne_158 rfl ?_
              refine go_iload dX5_readOne_159 rfl ?_
              refine go_callV_z (as := [vr 1, vr 8, vi (B 4 i)]) (S := []) (b := 76) (ev_X5_readNamed (m := (wr m 76 0 (o + 1))) (k := (B 4 i)) (B := B) (i := i) (o := (o + 1)) (l := l) sq1 (by first | assumption | omega | exact ⟨by omega, by omega⟩ | (constructor <;> omega)) (by first | assumption | omega | exact ⟨by omega, by omega⟩ | (constructor <;> omega)) (by omega) (by omega) (by first | assumption | omega | exact ⟨by omega, by omega⟩ | (constructor <;> omega)) (by first | assumption | omega | exact ⟨by omega, by omega⟩ | (constructor <;> omega))) rfl dX5_readOne_161 cv_5_81 rfl rfl ob_76 rfl (by decide) (Nat.le_of_ble_eq_true rfl) (fun r_161 m_161 hr_161 ho_161 => ?_)
              refine go_ret (v := r_161) rfl dX5_readOne_164 (okZ (by first | exact Or.inl rfl | exact Or.inr rfl | assumption | omega)) ?_
              rw [show oneF B 5 i o = namF B i (o + 1) by unfold oneF; rw [if_neg (by omega), if_neg (by omega), if_neg (by omega), if_neg (by omega), if_pos (by omega)]]
              exact hr_161
            · skip
              by_cases hk_66_3 : (B 4 i) = 220
              · refine go_lswitch (off := 90) (tgt := 156) dX5_readOne_66 ⟨by omega, by omega⟩ (by decide) (by rw [hk_66_3] <;> rfl) (by decide) ?_
                refine go_aload_n dX5_readOne_156 rfl ?_
                refine go_aload_n dX5_readOne_157 rfl ?_
                refine go_aload_n dX5_readOne_158 rfl ?_
                refine go_iload dX5_readOne_159 rfl ?_
                refine go_callV_z (as := [vr 1, vr 8, vi (B 4 i)]) (S := []) (b := 76) (ev_X5_readNamed (m := (wr m 76 0 (o + 1))) (k := (B 4 i)) (B := B) (i := i) (o := (o + 1)) (l := l) sq1 (by first | assumption | omega | exact ⟨by omega, by omega⟩ | (constructor <;> omega)) (by first | assumption | omega | exact ⟨by omega, by omega⟩ | (constructor <;> omega)) (by omega) (by omega) (by first | assumption | omega | exact ⟨by omega, by omega⟩ | (constructor <;> omega)) (by first | assumption | omega | exact ⟨by omega, by omega⟩ | (constructor <;> omega))) rfl dX5_readOne_161 cv_5_81 rfl rfl ob_76 rfl (by decide) (Nat.le_of_ble_eq_true rfl) (fun r_161 m_161 hr_161 ho_161 => ?_)
                refine go_ret (v := r_161) rfl dX5_readOne_164 (okZ (by first | exact Or.inl rfl | exact Or.inr rfl | assumption | omega)) ?_
                rw [show oneF B 5 i o = namF B i (o + 1) by unfold oneF; rw [if_neg (by omega), if_neg (by omega), if_neg (by omega), if_neg (by omega), if_pos (by omega)]]
                exact hr_161
              · skip
                by_cases hk_66_4 : (B 4 i) = 221
                · refine go_lswitch (off := 99) (tgt := 165) dX5_readOne_66 ⟨by omega, by omega⟩ (by decide) (by rw [hk_66_4] <;> rfl) (by decide) ?_
                  refine go_aload_n dX5_readOne_165 rfl ?_
                  refine go_aload_n dX5_readOne_166 rfl ?_
                  refine go_iload dX5_readOne_167 rfl ?_
                  refine go_callV_z (as := [vr 1, vi (B 4 i)]) (S := []) (b := 76) (ev_X5_readCompared (m := (wr m 76 0 (o + 1))) (k := (B 4 i)) (B := B) (i := i) (o := (o + 1)) (l := l) sq1 (by first | assumption | omega | exact ⟨by omega, by omega⟩ | (constructor <;> omega)) (by first | assumption | omega | exact ⟨by omega, by omega⟩ | (constructor <;> omega)) (by omega) (by omega) (by first | assumption | omega | exact ⟨by omega, by omega⟩ | (constructor <;> omega)) (by first | assumption | omega | exact ⟨by omega, by omega⟩ | (constructor <;> omega))) rfl dX5_readOne_169 cv_5_84 rfl rfl ob_76 rfl (by decide) (Nat.le_of_ble_eq_true rfl) (fun r_169 m_169 hr_169 ho_169 => ?_)
                  refine go_ret (v := r_169) rfl dX5_readOne_172 (okZ (by first | exact Or.inl rfl | exact Or.inr rfl | assumption | omega)) ?_
                  rw [show oneF B 5 i o = cmpF B i (o + 1) by unfold oneF; rw [if_neg (by omega), if_neg (by omega), if_neg (by omega), if_neg (by omega), if_neg (by omega), if_pos (by omega)]]
                  exact hr_169
                · skip
                  by_cases hk_66_5 : (B 4 i) = 222
                  · refine go_lswitch (off := 99) (tgt := 165) dX5_readOne_66 ⟨by omega, by omega⟩ (by decide) (by rw [hk_66_5] <;> rfl) (by decide) ?_
                    refine go_aload_n dX5_readOne_165 rfl ?_
                    refine go_aload_n dX5_readOne_166 rfl ?_
                    refine go_iload dX5_readOne_167 rfl ?_
                    refine go_callV_z (as := [vr 1, vi (B 4 i)]) (S := []) (b := 76) (ev_X5_readCompared (m := (wr m 76 0 (o + 1))) (k := (B 4 i)) (B := B) (i := i) (o := (o + 1)) (l := l) sq1 (by first | assumption | omega | exact ⟨by omega, by omega⟩ | (constructor <;> omega)) (by first | assumption | omega | exact ⟨by omega, by omega⟩ | (constructor <;> omega)) (by omega) (by omega) (by first | assumption | omega | exact ⟨by omega, by omega⟩ | (constructor <;> omega)) (by first | assumption | omega | exact ⟨by omega, by omega⟩ | (constructor <;> omega))) rfl dX5_readOne_169 cv_5_84 rfl rfl ob_76 rfl (by decide) (Nat.le_of_ble_eq_true rfl) (fun r_169 m_169 hr_169 ho_169 => ?_)
                    refine go_ret (v := r_169) rfl dX5_readOne_172 (okZ (by first | exact Or.inl rfl | exact Or.inr rfl | assumption | omega)) ?_
                    rw [show oneF B 5 i o = cmpF B i (o + 1) by unfold oneF; rw [if_neg (by omega), if_neg (by omega), if_neg (by omega), if_neg (by omega), if_neg (by omega), if_pos (by omega)]]
                    exact hr_169
                  · skip
                    by_cases hk_66_6 : (B 4 i) = 223
                    · refine go_lswitch (off := 99) (tgt := 165) dX5_readOne_66 ⟨by omega, by omega⟩ (by decide) (by rw [hk_66_6] <;> rfl) (by decide) ?_
                      refine go_aload_n dX5_readOne_165 rfl ?_
                      refine go_aload_n dX5_readOne_166 rfl ?_
                      refine go_iload dX5_readOne_167 rfl ?_
                      refine go_callV_z (as := [vr 1, vi (B 4 i)]) (S := []) (b := 76) (ev_X5_readCompared (m := (wr m 76 0 (o + 1))) (k := (B 4 i)) (B := B) (i := i) (o := (o + 1)) (l := l) sq1 (by first | assumption | omega | exact ⟨by omega, by omega⟩ | (constructor <;> omega)) (by first | assumption | omega | exact ⟨by omega, by omega⟩ | (constructor <;> omega)) (by omega) (by omega) (by first | assumption | omega | exact ⟨by omega, by omega⟩ | (constructor <;> omega)) (by first | assumption | omega | exact ⟨by omega, by omega⟩ | (constructor <;> omega))) rfl dX5_readOne_169 cv_5_84 rfl rfl ob_76 rfl (by decide) (Nat.le_of_ble_eq_true rfl) (fun r_169 m_169 hr_169 ho_169 => ?_)
                      refine go_ret (v := r_169) rfl dX5_readOne_172 (okZ (by first | exact Or.inl rfl | exact Or.inr rfl | assumption | omega)) ?_
                      rw [show oneF B 5 i o = cmpF B i (o + 1) by unfold oneF; rw [if_neg (by omega), if_neg (by omega), if_neg (by omega), if_neg (by omega), if_neg (by omega), if_pos (by omega)]]
                      exact hr_169
                    · skip
                      by_cases hk_66_7 : (B 4 i) = 224
                      · refine go_lswitch (off := 99) (tgt := 165) dX5_readOne_66 ⟨by omega, by omega⟩ (by decide) (by rw [hk_66_7] <;> rfl) (by decide) ?_
                        refine go_aload_n dX5_readOne_165 rfl ?_
                        refine go_aload_n dX5_readOne_166 rfl ?_
                        refine go_iload dX5_readOne_167 rfl ?_
                        refine go_callV_z (as := [vr 1, vi (B 4 i)]) (S := []) (b := 76) (ev_X5_readCompared (m := (wr m 76 0 (o + 1))) (k := (B 4 i)) (B := B) (i := i) (o := (o + 1)) (l := l) sq1 (by first | assumption | omega | exact ⟨by omega, by omega⟩ | (constructor <;> omega)) (by first | assumption | omega | exact ⟨by omega, by omega⟩ | (constructor <;> omega)) (by omega) (by omega) (by first | assumption | omega | exact ⟨by omega, by omega⟩ | (constructor <;> omega)) (by first | assumption | omega | exact ⟨by omega, by omega⟩ | (constructor <;> omega))) rfl dX5_readOne_169 cv_5_84 rfl rfl ob_76 rfl (by decide) (Nat.le_of_ble_eq_true rfl) (fun r_169 m_169 hr_169 ho_169 => ?_)
                        refine go_ret (v := r_169) rfl dX5_readOne_172 (okZ (by first | exact Or.inl rfl | exact Or.inr rfl | assumption | omega)) ?_
                        rw [show oneF B 5 i o = cmpF B i (o + 1) by unfold oneF; rw [if_neg (by omega), if_neg (by omega), if_neg (by omega), if_neg (by omega), if_neg (by omega), if_pos (by omega)]]
                        exact hr_169
                      · skip
                        refine go_lswitch (off := 107) (tgt := 173) dX5_readOne_66 ⟨by omega, by omega⟩ (by decide) (by simp [Op.lookupswitch.offset, hk_66_0, show ¬ (40 : Int) = (B 4 i) from fun z => hk_66_0 z.symm, hk_66_1, show ¬ (215 : Int) = (B 4 i) from fun z => hk_66_1 z.symm, hk_66_2, show ¬ (219 : Int) = (B 4 i) from fun z => hk_66_2 z.symm, hk_66_3, show ¬ (220 : Int) = (B 4 i) from fun z => hk_66_3 z.symm, hk_66_4, show ¬ (221 : Int) = (B 4 i) from fun z => hk_66_4 z.symm, hk_66_5, show ¬ (222 : Int) = (B 4 i) from fun z => hk_66_5 z.symm, hk_66_6, show ¬ (223 : Int) = (B 4 i) from fun z => hk_66_6 z.symm, hk_66_7, show ¬ (224 : Int) = (B 4 i) from fun z => hk_66_7 z.symm]) (by decide) ?_
                        refine go_aload_n dX5_readOne_173 rfl ?_
                        refine go_iload dX5_readOne_174 rfl ?_
                        refine go_iconst dX5_readOne_176 ?_
                        refine go_iconst dX5_readOne_177 ?_
                        refine go_callV_v (as := [vi (B 4 i), vi 0, vi 0]) (S := []) (b := 76) (ev_X5_add (m := (wr m 76 0 (o + 1))) (k := (B 4 i)) (g := 0) (v := 0) (by first | assumption | omega | exact ⟨by omega, by omega⟩ | (constructor <;> omega)) (by first | assumption | omega | exact ⟨by omega, by omega⟩ | (constructor <;> omega)) (by first | assumption | omega | exact ⟨by omega, by omega⟩ | (constructor <;> omega)) (by rw [sq1.2.2.2.1]; omega)) rfl dX5_readOne_178 cv_5_64 rfl rfl ob_76 rfl (by decide) (Nat.le_of_ble_eq_true rfl) (fun m_178 hr_178 => ?_)
                        have sq3 := sq1.add (k := B 4 i) (g := 0) (v := 0)
                        subst hr_178
                        refine go_aload_n dX5_readOne_181 rfl ?_
                        refine go_callV_v (as := []) (S := []) (b := 1) (ev_X7_next (m := (addM (wr m 76 0 (o + 1)) (B 4 i) 0 0))  (by rw [sq3.1.1, sq3.1.2.1]; have h := hk.lt sq3.2.1.2 (by omega); have h2 := sq3.2.1; omega)) rfl dX5_readOne_182 cv_5_47 rfl rfl ob_1 rfl (by decide) (Nat.le_of_ble_eq_true rfl) (fun m_182 hr_182 => ?_)
                        have sq4 := sq3.nx hk (by omega)
                        subst hr_182
                        refine go_iconst dX5_readOne_185 ?_
                        refine go_ret (v := 1) rfl dX5_readOne_186 (okZ (by first | exact Or.inl rfl | exact Or.inr rfl | assumption | omega)) ?_
                        rw [show oneF B 5 i o = (0, i + 1, o + 1, [(B 4 i, 0, 0)]) by unfold oneF; rw [if_neg (by omega), if_neg (by omega), if_neg (by omega), if_neg (by omega), if_neg (by omega), if_neg (by omega)]]
                        exact Or.inl ⟨rfl, rfl, sq4⟩
      · exfalso; omega
  · refine go_iload dX5_readOne_13 rfl ?_
    refine go_sipush dX5_readOne_15 (by decide) ?_
    refine go_sipush dX5_readOne_18 (by decide) ?_
    refine go_callSp_z (as := [vi (B 4 i), vi 215, vi 224]) (S := []) (ev_X11_isIn (m := m) (n := (B 4 i)) (lo := 215) (hi := 224) (by first | assumption | omega | exact ⟨by omega, by omega⟩ | (constructor <;> omega)) (by first | assumption | omega | exact ⟨by omega, by omega⟩ | (constructor <;> omega)) (by first | assumption | omega | exact ⟨by omega, by omega⟩ | (constructor <;> omega))) rfl dX5_readOne_21 cs_5_71 rfl rfl (by decide) (Nat.le_of_ble_eq_true rfl) (fun r_21 hr_21 ho_21 => ?_)
    refine go_if_ne (tgt := 33) dX5_readOne_24 (by decide) ⟨by omega, by omega⟩ (fun h_24 => ?_) (fun h_24 => ?_)
    · refine go_aload_n dX5_readOne_33 rfl ?_
      refine go_getf_i (ki := 0) dX5_readOne_34 fl_5_9 ob_76 rfl rfl (fun hf_34 => ?_)
      rw [show (m 76 0 : Int) = o from h0] at hf_34 ⊢
      refine go_bipush dX5_readOne_37 (by decide) ?_
      refine go_icmp_ge (tgt := 48) dX5_readOne_39 (by decide) ⟨by omega, by omega⟩ ⟨by omega, by omega⟩ (fun h_39 => ?_) (fun h_39 => ?_)
      · refine go_aload_n dX5_readOne_48 rfl ?_
        refine go_iconst dX5_readOne_49 ?_
        refine go_callV_z (as := [vi 4]) (S := []) (b := 1) (ev_X7_refuse (m := m) (k := 4) (by first | assumption | omega | exact ⟨by omega, by omega⟩ | (constructor <;> omega))) rfl dX5_readOne_50 cv_5_57 rfl rfl ob_1 rfl (by decide) (Nat.le_of_ble_eq_true rfl) (fun r_50 m_50 hr_50 ho_50 => ?_)
        refine go_ret (v := r_50) rfl dX5_readOne_53 (okZ (by first | exact Or.inl rfl | exact Or.inr rfl | assumption | omega)) ?_
        rw [hr_50.2, show oneF B 5 i o = (4, i, o, []) by unfold oneF; rw [if_neg (by omega), if_pos (by omega)]]
        exact Or.inr ⟨by omega, (show (4 : Int) ≠ 0 by decide), hsq.ref⟩
      · refine go_iload_n dX5_readOne_42 rfl ?_
        refine go_bipush dX5_readOne_43 (by decide) ?_
        refine go_icmp_le (tgt := 54) dX5_readOne_45 (by decide) ⟨by omega, by omega⟩ ⟨by omega, by omega⟩ (fun h_45 => ?_) (fun h_45 => ?_)
        · refine go_aload_n dX5_readOne_54 rfl ?_
          refine go_dup_r dX5_readOne_55 ?_
          refine go_getf_i (ki := 0) dX5_readOne_56 fl_5_9 ob_76 rfl rfl (fun hf_56 => ?_)
          rw [show (m 76 0 : Int) = o from h0] at hf_56 ⊢
          refine go_iconst dX5_readOne_59 ?_
          refine go_iadd dX5_readOne_60 ?_
          refine go_putf_i (ki := 0) dX5_readOne_61 fw_5_9 ob_76 rfl rfl ⟨by omega, by omega⟩ ?_
          have sq1 := hsq.one (x := o + 1)
          refine go_iload dX5_readOne_64 rfl ?_
          by_cases hk_66_0 : (B 4 i) = 40
          · refine go_lswitch (off := 82) (tgt := 148) dX5_readOne_66 ⟨by omega, by omega⟩ (by decide) (by rw [hk_66_0] <;> rfl) (by decide) ?_
            refine go_aload_n dX5_readOne_148 rfl ?_
            refine go_aload_n dX5_readOne_149 rfl ?_
            refine go_aload_n dX5_readOne_150 rfl ?_
            refine go_iload_n dX5_readOne_151 rfl ?_
            refine go_callV_z (as := [vr 1, vr 8, vi k]) (S := []) (b := 76) (ev_X5_brk5 (m := (wr m 76 0 (o + 1))) (k := k) (B := B) (i := i) (o := (o + 1)) (l := l) sq1 (by first | assumption | omega | exact ⟨by omega, by omega⟩ | (constructor <;> omega)) (by first | assumption | omega | exact ⟨by omega, by omega⟩ | (constructor <;> omega)) (by omega) (by omega) (by first | assumption | omega | exact ⟨by omega, by omega⟩ | (constructor <;> omega)) (by first | assumption | omega | exact ⟨by omega, by omega⟩ | (constructor <;> omega))) rfl dX5_readOne_152 cv_5_78 rfl rfl ob_76 rfl (by decide) (Nat.le_of_ble_eq_true rfl) (fun r_152 m_152 hr_152 ho_152 => ?_)
            refine go_ret (v := r_152) rfl dX5_readOne_155 (okZ (by first | exact Or.inl rfl | exact Or.inr rfl | assumption | omega)) ?_
            rw [show oneF B 5 i o = brkF (B 4) (seqF (B 4) 213 (seqF (B 4) 214 (oneF B 4))) i (o + 1) by unfold oneF; rw [if_neg (by omega), if_neg (by omega), if_neg (by omega), if_pos (by omega)]]
            exact hr_152
          · skip
            by_cases hk_66_1 : (B 4 i) = 215
            · refine go_lswitch (off := 74) (tgt := 140) dX5_readOne_66 ⟨by omega, by omega⟩ (by decide) (by rw [hk_66_1] <;> rfl) (by decide) ?_
              refine go_aload_n dX5_readOne_140 rfl ?_
              refine go_aload_n dX5_readOne_141 rfl ?_
              refine go_aload_n dX5_readOne_142 rfl ?_
              refine go_iload_n dX5_readOne_143 rfl ?_
              refine go_callV_z (as := [vr 1, vr 8, vi k]) (S := []) (b := 76) (ev_X5_not5 (m := (wr m 76 0 (o + 1))) (k := k) (B := B) (i := i) (o := (o + 1)) (l := l) sq1 (by first | assumption | omega | exact ⟨by omega, by omega⟩ | (constructor <;> omega)) (by first | assumption | omega | exact ⟨by omega, by omega⟩ | (constructor <;> omega)) (by omega) (by omega) (by first | assumption | omega | exact ⟨by omega, by omega⟩ | (constructor <;> omega)) (by first | assumption | omega | exact ⟨by omega, by omega⟩ | (constructor <;> omega))) rfl dX5_readOne_144 cv_5_75 rfl rfl ob_76 rfl (by decide) (Nat.le_of_ble_eq_true rfl) (fun r_144 m_144 hr_144 ho_144 => ?_)
              refine go_ret (v := r_144) rfl dX5_readOne_147 (okZ (by first | exact Or.inl rfl | exact Or.inr rfl | assumption | omega)) ?_
              rw [show oneF B 5 i o = notF (oneF B 4) i (o + 1) by unfold oneF; rw [if_neg (by omega), if_neg (by omega), if_pos (by omega)]]
              exact hr_144
            · skip
              by_cases hk_66_2 : (B 4 i) = 219
              · refine go_lswitch (off := 90) (tgt := 156) dX5_readOne_66 ⟨by omega, by omega⟩ (by decide) (by rw [hk_66_2] <;> rfl) (by decide) ?_
                refine go_aload_n dX5_readOne_156 rfl ?_
                refine go_aload_n dX5_readOne_157 rfl ?_
                refine go_aload_n dX5_readOne_158 rfl ?_
                refine go_iload dX5_readOne_159 rfl ?_
                refine go_callV_z (as := [vr 1, vr 8, vi (B 4 i)]) (S := []) (b := 76) (ev_X5_readNamed (m := (wr m 76 0 (o + 1))) (k := (B 4 i)) (B := B) (i := i) (o := (o + 1)) (l := l) sq1 (by first | assumption | omega | exact ⟨by omega, by omega⟩ | (constructor <;> omega)) (by first | assumption | omega | exact ⟨by omega, by omega⟩ | (constructor <;> omega)) (by omega) (by omega) (by first | assumption | omega | exact ⟨by omega, by omega⟩ | (constructor <;> omega)) (by first | assumption | omega | exact ⟨by omega, by omega⟩ | (constructor <;> omega))) rfl dX5_readOne_161 cv_5_81 rfl rfl ob_76 rfl (by decide) (Nat.le_of_ble_eq_true rfl) (fun r_161 m_161 hr_161 ho_161 => ?_)
                refine go_ret (v := r_161) rfl dX5_readOne_164 (okZ (by first | exact Or.inl rfl | exact Or.inr rfl | assumption | omega)) ?_
                rw [show oneF B 5 i o = namF B i (o + 1) by unfold oneF; rw [if_neg (by omega), if_neg (by omega), if_neg (by omega), if_neg (by omega), if_pos (by omega)]]
                exact hr_161
              · skip
                by_cases hk_66_3 : (B 4 i) = 220
                · refine go_lswitch (off := 90) (tgt := 156) dX5_readOne_66 ⟨by omega, by omega⟩ (by decide) (by rw [hk_66_3] <;> rfl) (by decide) ?_
                  refine go_aload_n dX5_readOne_156 rfl ?_
                  refine go_aload_n dX5_readOne_157 rfl ?_
                  refine go_aload_n dX5_readOne_158 rfl ?_
                  refine go_iload dX5_readOne_159 rfl ?_
                  refine go_callV_z (as := [vr 1, vr 8, vi (B 4 i)]) (S := []) (b := 76) (ev_X5_readNamed (m := (wr m 76 0 (o + 1))) (k := (B 4 i)) (B := B) (i := i) (o := (o + 1)) (l := l) sq1 (by first | assumption | omega | exact ⟨by omega, by omega⟩ | (constructor <;> omega)) (by first | assumption | omega | exact ⟨by omega, by omega⟩ | (constructor <;> omega)) (by omega) (by omega) (by first | assumption | omega | exact ⟨by omega, by omega⟩ | (constructor <;> omega)) (by first | assumption | omega | exact ⟨by omega, by omega⟩ | (constructor <;> omega))) rfl dX5_readOne_161 cv_5_81 rfl rfl ob_76 rfl (by decide) (Nat.le_of_ble_eq_true rfl) (fun r_161 m_161 hr_161 ho_161 => ?_)
                  refine go_ret (v := r_161) rfl dX5_readOne_164 (okZ (by first | exact Or.inl rfl | exact Or.inr rfl | assumption | omega)) ?_
                  rw [show oneF B 5 i o = namF B i (o + 1) by unfold oneF; rw [if_neg (by omega), if_neg (by omega), if_neg (by omega), if_neg (by omega), if_pos (by omega)]]
                  exact hr_161
                · skip
                  by_cases hk_66_4 : (B 4 i) = 221
                  · refine go_lswitch (off := 99) (tgt := 165) dX5_readOne_66 ⟨by omega, by omega⟩ (by decide) (by rw [hk_66_4] <;> rfl) (by decide) ?_
                    refine go_aload_n dX5_readOne_165 rfl ?_
                    refine go_aload_n dX5_readOne_166 rfl ?_
                    refine go_iload dX5_readOne_167 rfl ?_
                    refine go_callV_z (as := [vr 1, vi (B 4 i)]) (S := []) (b := 76) (ev_X5_readCompared (m := (wr m 76 0 (o + 1))) (k := (B 4 i)) (B := B) (i := i) (o := (o + 1)) (l := l) sq1 (by first | assumption | omega | exact ⟨by omega, by omega⟩ | (constructor <;> omega)) (by first | assumption | omega | exact ⟨by omega, by omega⟩ | (constructor <;> omega)) (by omega) (by omega) (by first | assumption | omega | exact ⟨by omega, by omega⟩ | (constructor <;> omega)) (by first | assumption | omega | exact ⟨by omega, by omega⟩ | (constructor <;> omega))) rfl dX5_readOne_169 cv_5_84 rfl rfl ob_76 rfl (by decide) (Nat.le_of_ble_eq_true rfl) (fun r_169 m_169 hr_169 ho_169 => ?_)
                    refine go_ret (v := r_169) rfl dX5_readOne_172 (okZ (by first | exact Or.inl rfl | exact Or.inr rfl | assumption | omega)) ?_
                    rw [show oneF B 5 i o = cmpF B i (o + 1) by unfold oneF; rw [if_neg (by omega), if_neg (by omega), if_neg (by omega), if_neg (by omega), if_neg (by omega), if_pos (by omega)]]
                    exact hr_169
                  · skip
                    by_cases hk_66_5 : (B 4 i) = 222
                    · refine go_lswitch (off := 99) (tgt := 165) dX5_readOne_66 ⟨by omega, by omega⟩ (by decide) (by rw [hk_66_5] <;> rfl) (by decide) ?_
                      refine go_aload_n dX5_readOne_165 rfl ?_
                      refine go_aload_n dX5_readOne_166 rfl ?_
                      refine go_iload dX5_readOne_167 rfl ?_
                      refine go_callV_z (as := [vr 1, vi (B 4 i)]) (S := []) (b := 76) (ev_X5_readCompared (m := (wr m 76 0 (o + 1))) (k := (B 4 i)) (B := B) (i := i) (o := (o + 1)) (l := l) sq1 (by first | assumption | omega | exact ⟨by omega, by omega⟩ | (constructor <;> omega)) (by first | assumption | omega | exact ⟨by omega, by omega⟩ | (constructor <;> omega)) (by omega) (by omega) (by first | assumption | omega | exact ⟨by omega, by omega⟩ | (constructor <;> omega)) (by first | assumption | omega | exact ⟨by omega, by omega⟩ | (constructor <;> omega))) rfl dX5_readOne_169 cv_5_84 rfl rfl ob_76 rfl (by decide) (Nat.le_of_ble_eq_true rfl) (fun r_169 m_169 hr_169 ho_169 => ?_)
                      refine go_ret (v := r_169) rfl dX5_readOne_172 (okZ (by first | exact Or.inl rfl | exact Or.inr rfl | assumption | omega)) ?_
                      rw [show oneF B 5 i o = cmpF B i (o + 1) by unfold oneF; rw [if_neg (by omega), if_neg (by omega), if_neg (by omega), if_neg (by omega), if_neg (by omega), if_pos (by omega)]]
                      exact hr_169
                    · skip
                      by_cases hk_66_6 : (B 4 i) = 223
                      · refine go_lswitch (off := 99) (tgt := 165) dX5_readOne_66 ⟨by omega, by omega⟩ (by decide) (by rw [hk_66_6] <;> rfl) (by decide) ?_
                        refine go_aload_n dX5_readOne_165 rfl ?_
                        refine go_aload_n dX5_readOne_166 rfl ?_
                        refine go_iload dX5_readOne_167 rfl ?_
                        refine go_callV_z (as := [vr 1, vi (B 4 i)]) (S := []) (b := 76) (ev_X5_readCompared (m := (wr m 76 0 (o + 1))) (k := (B 4 i)) (B := B) (i := i) (o := (o + 1)) (l := l) sq1 (by first | assumption | omega | exact ⟨by omega, by omega⟩ | (constructor <;> omega)) (by first | assumption | omega | exact ⟨by omega, by omega⟩ | (constructor <;> omega)) (by omega) (by omega) (by first | assumption | omega | exact ⟨by omega, by omega⟩ | (constructor <;> omega)) (by first | assumption | omega | exact ⟨by omega, by omega⟩ | (constructor <;> omega))) rfl dX5_readOne_169 cv_5_84 rfl rfl ob_76 rfl (by decide) (Nat.le_of_ble_eq_true rfl) (fun r_169 m_169 hr_169 ho_169 => ?_)
                        refine go_ret (v := r_169) rfl dX5_readOne_172 (okZ (by first | exact Or.inl rfl | exact Or.inr rfl | assumption | omega)) ?_
                        rw [show oneF B 5 i o = cmpF B i (o + 1) by unfold oneF; rw [if_neg (by omega), if_neg (by omega), if_neg (by omega), if_neg (by omega), if_neg (by omega), if_pos (by omega)]]
                        exact hr_169
                      · skip
                        by_cases hk_66_7 : (B 4 i) = 224
                        · refine go_lswitch (off := 99) (tgt := 165) dX5_readOne_66 ⟨by omega, by omega⟩ (by decide) (by rw [hk_66_7] <;> rfl) (by decide) ?_
                          refine go_aload_n dX5_readOne_165 rfl ?_
                          refine go_aload_n dX5_readOne_166 rfl ?_
                          refine go_iload dX5_readOne_167 rfl ?_
                          refine go_callV_z (as := [vr 1, vi (B 4 i)]) (S := []) (b := 76) (ev_X5_readCompared (m := (wr m 76 0 (o + 1))) (k := (B 4 i)) (B := B) (i := i) (o := (o + 1)) (l := l) sq1 (by first | assumption | omega | exact ⟨by omega, by omega⟩ | (constructor <;> omega)) (by first | assumption | omega | exact ⟨by omega, by omega⟩ | (constructor <;> omega)) (by omega) (by omega) (by first | assumption | omega | exact ⟨by omega, by omega⟩ | (constructor <;> omega)) (by first | assumption | omega | exact ⟨by omega, by omega⟩ | (constructor <;> omega))) rfl dX5_readOne_169 cv_5_84 rfl rfl ob_76 rfl (by decide) (Nat.le_of_ble_eq_true rfl) (fun r_169 m_169 hr_169 ho_169 => ?_)
                          refine go_ret (v := r_169) rfl dX5_readOne_172 (okZ (by first | exact Or.inl rfl | exact Or.inr rfl | assumption | omega)) ?_
                          rw [show oneF B 5 i o = cmpF B i (o + 1) by unfold oneF; rw [if_neg (by omega), if_neg (by omega), if_neg (by omega), if_neg (by omega), if_neg (by omega), if_pos (by omega)]]
                          exact hr_169
                        · skip
                          refine go_lswitch (off := 107) (tgt := 173) dX5_readOne_66 ⟨by omega, by omega⟩ (by decide) (by simp [Op.lookupswitch.offset, hk_66_0, show ¬ (40 : Int) = (B 4 i) from fun z => hk_66_0 z.symm, hk_66_1, show ¬ (215 : Int) = (B 4 i) from fun z => hk_66_1 z.symm, hk_66_2, show ¬ (219 : Int) = (B 4 i) from fun z => hk_66_2 z.symm, hk_66_3, show ¬ (220 : Int) = (B 4 i) from fun z => hk_66_3 z.symm, hk_66_4, show ¬ (221 : Int) = (B 4 i) from fun z => hk_66_4 z.symm, hk_66_5, show ¬ (222 : Int) = (B 4 i) from fun z => hk_66_5 z.symm, hk_66_6, show ¬ (223 : Int) = (B 4 i) from fun z => hk_66_6 z.symm, hk_66_7, show ¬ (224 : Int) = (B 4 i) from fun z => hk_66_7 z.symm]) (by decide) ?_
                          refine go_aload_n dX5_readOne_173 rfl ?_
                          refine go_iload dX5_readOne_174 rfl ?_
                          refine go_iconst dX5_readOne_176 ?_
                          refine go_iconst dX5_readOne_177 ?_
                          refine go_callV_v (as := [vi (B 4 i), vi 0, vi 0]) (S := []) (b := 76) (ev_X5_add (m := (wr m 76 0 (o + 1))) (k := (B 4 i)) (g := 0) (v := 0) (by first | assumption | omega | exact ⟨by omega, by omega⟩ | (constructor <;> omega)) (by first | assumption | omega | exact ⟨by omega, by omega⟩ | (constructor <;> omega)) (by first | assumption | omega | exact ⟨by omega, by omega⟩ | (constructor <;> omega)) (by rw [sq1.2.2.2.1]; omega)) rfl dX5_readOne_178 cv_5_64 rfl rfl ob_76 rfl (by decide) (Nat.le_of_ble_eq_true rfl) (fun m_178 hr_178 => ?_)
                          have sq3 := sq1.add (k := B 4 i) (g := 0) (v := 0)
                          subst hr_178
                          refine go_aload_n dX5_readOne_181 rfl ?_
                          refine go_callV_v (as := []) (S := []) (b := 1) (ev_X7_next (m := (addM (wr m 76 0 (o + 1)) (B 4 i) 0 0))  (by rw [sq3.1.1, sq3.1.2.1]; have h := hk.lt sq3.2.1.2 (by omega); have h2 := sq3.2.1; omega)) rfl dX5_readOne_182 cv_5_47 rfl rfl ob_1 rfl (by decide) (Nat.le_of_ble_eq_true rfl) (fun m_182 hr_182 => ?_)
                          have sq4 := sq3.nx hk (by omega)
                          subst hr_182
                          refine go_iconst dX5_readOne_185 ?_
                          refine go_ret (v := 1) rfl dX5_readOne_186 (okZ (by first | exact Or.inl rfl | exact Or.inr rfl | assumption | omega)) ?_
                          rw [show oneF B 5 i o = (0, i + 1, o + 1, [(B 4 i, 0, 0)]) by unfold oneF; rw [if_neg (by omega), if_neg (by omega), if_neg (by omega), if_neg (by omega), if_neg (by omega), if_neg (by omega)]]
                          exact Or.inl ⟨rfl, rfl, sq4⟩
        · exfalso; omega
    · refine go_aload_n dX5_readOne_27 rfl ?_
      refine go_iconst dX5_readOne_28 ?_
      refine go_callV_z (as := [vi 1]) (S := []) (b := 1) (ev_X7_refuse (m := m) (k := 1) (by first | assumption | omega | exact ⟨by omega, by omega⟩ | (constructor <;> omega))) rfl dX5_readOne_29 cv_5_57 rfl rfl ob_1 rfl (by decide) (Nat.le_of_ble_eq_true rfl) (fun r_29 m_29 hr_29 ho_29 => ?_)
      refine go_ret (v := r_29) rfl dX5_readOne_32 (okZ (by first | exact Or.inl rfl | exact Or.inr rfl | assumption | omega)) ?_
      rw [hr_29.2, show oneF B 5 i o = (1, i, o, []) by unfold oneF; rw [if_pos (by omega)]]
      exact Or.inr ⟨by omega, (show (1 : Int) ≠ 0 by decide), hsq.ref⟩
set_option maxRecDepth 4000 in
theorem ev_X5_all5 {m : Mem} {B : Mem} {i : Int} {o : Int} {l : List Cd} {k : Int} (hsq : SQ B m i o l) (hk : TkS B) (hdb : DnOk B 8) (ho : 0 ≤ o ∧ o ≤ 20) (hl : (l.length : Int) ≤ 2 * o) (hd : k = 4) : Ev 0 36 mX5_readAll [vr 76, vr 1, vr 8, vi k] m (fun r m' => QP B r m' l (seqF (B 4) 214 (oneF B 5) i o)) := by
  refine Ev.of (L := [vr 76, vr 1, vr 8, vi k, un]) (by decide +kernel) rfl (Nat.le_of_ble_eq_true rfl) rfl (fun t ht => by cases ht; first | exact Or.inl rfl | exact Or.inr (Or.inl rfl) | exact Or.inr (Or.inr rfl)) (fun hcan => ?_)
  have hi := hsq.2.1
  have hkb := hk.1
  have h0 := hsq.2.2.1
  have h1 := hsq.2.2.2.1
  have e12 := hsq.1.1
  have e11 := hsq.1.2.1
  have hPB : PB (oneF B 5) := (oneF_b B 5)
  refine go_aload_n dX5_readAll_0 rfl ?_
  refine go_aload_n dX5_readAll_1 rfl ?_
  refine go_aload_n dX5_readAll_2 rfl ?_
  refine go_iload_n dX5_readAll_3 rfl ?_
  refine go_callV_z (as := [vr 1, vr 8, vi k]) (S := []) (b := 76) (ev_X5_one5 (m := m) (k := k) (B := B) (i := i) (o := o) (l := l) hsq (by first | assumption | omega | exact ⟨by omega, by omega⟩ | (constructor <;> omega)) (by first | assumption | omega | exact ⟨by omega, by omega⟩ | (constructor <;> omega)) (by first | assumption | omega | exact ⟨by omega, by omega⟩ | (constructor <;> omega)) (by first | assumption | omega | exact ⟨by omega, by omega⟩ | (constructor <;> omega)) (by first | assumption | omega | exact ⟨by omega, by omega⟩ | (constructor <;> omega))) rfl dX5_readAll_4 cv_5_68 rfl rfl ob_76 rfl (by decide) (Nat.le_of_ble_eq_true rfl) (fun r_4 m_4 hr_4 ho_4 => ?_)
  refine go_if_ne (tgt := 12) dX5_readAll_7 (by decide) ⟨by omega, by omega⟩ (fun h_7 => ?_) (fun h_7 => ?_)
  · obtain ⟨-, x1, x2⟩ := hr_4.resolve_right (fun h => h_7 h.1)
    have hR1 := hPB i o (by omega) (by omega) x1
    refine go_iconst dX5_readAll_12 ?_
    refine go_istore (L' := [vr 76, vr 1, vr 8, vi k, vi 0]) dX5_readAll_13 (by decide) rfl rfl ?_
    have lp_15 : ∀ (n_15 : Nat) (m1 : Mem) (j : Int) (a : Rs) (f : Nat), (a.1 = 0) → (SQ B m1 a.2.1 a.2.2.1 (l ++ a.2.2.2)) → (seqL (B 4) 214 (oneF B 5) f a = seqL (B 4) 214 (oneF B 5) 21 ((oneF B 5) i o)) → (0 ≤ j ∧ j + (f : Int) = 21) → ((o + 1 + j ≤ a.2.2.1 ∧ a.2.2.1 ≤ 20) ∧ (a.2.2.2.length : Int) + 1 ≤ 2 * (a.2.2.1 - o)) → f < n_15 → Go 0 36 mX5_readAll (fun r m' => QP B r m' l (seqF (B 4) 214 (oneF B 5) i o)) 15 [vr 76, vr 1, vr 8, vi k, vi j] [] m1 := by
      intro n_15
      induction n_15 with
      | zero => intro m1 j a f ha0 hs1 hsl hj hab hmu; exact absurd hmu (Nat.not_lt_zero _)
      | succ n_15 ih_15 =>
        intro m1 j a f ha0 hs1 hsl hj hab hmu
        obtain ⟨hab1, hab2⟩ := hab
        have hsu : seqL (B 4) 214 (oneF B 5) f a = if B 4 a.2.1 = 214 then (if ((oneF B 5) (a.2.1 + 1) a.2.2.1).1 ≠ 0 then ((oneF B 5) (a.2.1 + 1) a.2.2.1) else seqL (B 4) 214 (oneF B 5) (f - 1) (0, ((oneF B 5) (a.2.1 + 1) a.2.2.1).2.1, ((oneF B 5) (a.2.1 + 1) a.2.2.1).2.2.1, a.2.2.2 ++ ((oneF B 5) (a.2.1 + 1) a.2.2.1).2.2.2 ++ [(214, 0, 0)])) else a := by
          obtain ⟨g, rfl⟩ : ∃ g, f = g + 1 := ⟨f - 1, by omega⟩
          rfl
        refine go_iload dX5_readAll_15 rfl ?_
        refine go_bipush dX5_readAll_17 (by decide) ?_
        refine go_icmp_ge (tgt := 63) dX5_readAll_19 (by decide) ⟨by omega, by omega⟩ ⟨by omega, by omega⟩ (fun h_19 => ?_) (fun h_19 => ?_)
        · exfalso; omega
        · refine go_aload_n dX5_readAll_22 rfl ?_
          refine go_getf_i (ki := 2) dX5_readAll_23 fl_5_54 ob_1 rfl rfl (fun hf_23 => ?_)
          rw [show (m1 1 2 : Int) = (B 4 a.2.1) from hs1.kd] at hf_23 ⊢
          refine go_sipush dX5_readAll_26 (by decide) ?_
          refine go_icmp_ne (tgt := 63) dX5_readAll_29 (by decide) hf_23 ⟨by omega, by omega⟩ (fun h_29 => ?_) (fun h_29 => ?_)
          · refine go_iconst dX5_readAll_63 ?_
            refine go_ret (v := 1) rfl dX5_readAll_64 (okZ (by first | exact Or.inl rfl | exact Or.inr rfl | assumption | omega)) ?_
            rw [seqF_e (B 4) 214, if_neg (fun z => z x1), ← hsl, hsu, if_neg (by omega)]
            exact Or.inl ⟨rfl, ha0, hs1⟩
          · refine go_aload_n dX5_readAll_32 rfl ?_
            refine go_callV_v (as := []) (S := []) (b := 1) (ev_X7_next (m := m1)  (by rw [hs1.1.1, hs1.1.2.1]; have h := hs1.2.1; have := hk.lt h.2 (by omega); omega)) rfl dX5_readAll_33 cv_5_47 rfl rfl ob_1 rfl (by decide) (Nat.le_of_ble_eq_true rfl) (fun m_33 hr_33 => ?_)
            have sq1 := hs1.nx hk (by omega)
            subst hr_33
            refine go_aload_n dX5_readAll_36 rfl ?_
            refine go_aload_n dX5_readAll_37 rfl ?_
            refine go_aload_n dX5_readAll_38 rfl ?_
            refine go_iload_n dX5_readAll_39 rfl ?_
            refine go_callV_z (as := [vr 1, vr 8, vi k]) (S := []) (b := 76) (ev_X5_one5 (m := (nxt m1)) (k := k) (B := B) (i := (a.2.1 + 1)) (o := a.2.2.1) (l := (l ++ a.2.2.2)) sq1 (by first | assumption | omega | exact ⟨by omega, by omega⟩ | (constructor <;> omega)) (by first | assumption | omega | exact ⟨by omega, by omega⟩ | (constructor <;> omega)) (by omega) (by simp only [List.length_append]; omega) (by first | assumption | omega | exact ⟨by omega, by omega⟩ | (constructor <;> omega))) rfl dX5_readAll_40 cv_5_68 rfl rfl ob_76 rfl (by decide) (Nat.le_of_ble_eq_true rfl) (fun r_40 m_40 hr_40 ho_40 => ?_)
            refine go_if_ne (tgt := 48) dX5_readAll_43 (by decide) ⟨by omega, by omega⟩ (fun h_43 => ?_) (fun h_43 => ?_)
            · obtain ⟨-, x1, x2⟩ := hr_40.resolve_right (fun h => h_43 h.1)
              have hR2 := hPB (a.2.1 + 1) a.2.2.1 (by omega) (by omega) x1
              refine go_aload_n dX5_readAll_48 rfl ?_
              refine go_sipush dX5_readAll_49 (by decide) ?_
              refine go_iconst dX5_readAll_52 ?_
              refine go_iconst dX5_readAll_53 ?_
              refine go_callV_v (as := [vi 214, vi 0, vi 0]) (S := []) (b := 76) (ev_X5_add (m := m_40) (k := 214) (g := 0) (v := 0) (by first | assumption | omega | exact ⟨by omega, by omega⟩ | (constructor <;> omega)) (by first | assumption | omega | exact ⟨by omega, by omega⟩ | (constructor <;> omega)) (by first | assumption | omega | exact ⟨by omega, by omega⟩ | (constructor <;> omega)) (by rw [x2.2.2.2.1]; simp only [List.length_append]; omega)) rfl dX5_readAll_54 cv_5_64 rfl rfl ob_76 rfl (by decide) (Nat.le_of_ble_eq_true rfl) (fun m_54 hr_54 => ?_)
              have sq3 := x2.add (k := 214) (g := 0) (v := 0)
              subst hr_54
              refine go_iinc (L' := [vr 76, vr 1, vr 8, vi k, vi (j + 1)]) dX5_readAll_57 rfl (by decide) rfl rfl ?_
              refine go_goto (tgt := 15) dX5_readAll_60 (by decide) ?_
              exact ih_15 (addM m_40 214 0 0) (j + 1) (0, ((oneF B 5) (a.2.1 + 1) a.2.2.1).2.1, ((oneF B 5) (a.2.1 + 1) a.2.2.1).2.2.1, a.2.2.2 ++ ((oneF B 5) (a.2.1 + 1) a.2.2.1).2.2.2 ++ [(214, 0, 0)]) (f - 1) rfl (by show SQ B _ _ _ (l ++ (a.2.2.2 ++ _ ++ _)); rw [← List.append_assoc, ← List.append_assoc]; exact sq3) (by rw [← hsl, hsu, if_pos (by omega), if_neg (fun z => z x1)]) (by first | assumption | omega | rfl) (by
                    refine ⟨⟨?_, ?_⟩, ?_⟩
                    · show o + 1 + (j + 1) ≤ ((oneF B 5) (a.2.1 + 1) a.2.2.1).2.2.1; omega
                    · show ((oneF B 5) (a.2.1 + 1) a.2.2.1).2.2.1 ≤ 20; omega
                    · show ((a.2.2.2 ++ ((oneF B 5) (a.2.1 + 1) a.2.2.1).2.2.2 ++ [(214, 0, 0)] : List Cd).length : Int) + 1 ≤ 2 * (((oneF B 5) (a.2.1 + 1) a.2.2.1).2.2.1 - o)
                      simp only [List.length_append, List.length_singleton]
                      omega) (by omega)
            · refine go_iconst dX5_readAll_46 ?_
              refine go_ret (v := 0) rfl dX5_readAll_47 (okZ (by first | exact Or.inl rfl | exact Or.inr rfl | assumption | omega)) ?_
              obtain ⟨-, y1, y2⟩ := hr_40.resolve_left (fun h => by have := h.1; omega)
              rw [seqF_e (B 4) 214, if_neg (fun z => z x1), ← hsl, hsu, if_pos (by omega), if_pos y1]
              exact Or.inr ⟨rfl, y1, y2⟩
    exact lp_15 _ m_4 0 ((oneF B 5) i o) 21 x1 x2 rfl (by first | assumption | omega | rfl) ⟨by omega, hR1.2.2⟩ (Nat.lt_succ_self _)
  · refine go_iconst dX5_readAll_10 ?_
    refine go_ret (v := 0) rfl dX5_readAll_11 (okZ (by first | exact Or.inl rfl | exact Or.inr rfl | assumption | omega)) ?_
    obtain ⟨-, x1, x2⟩ := hr_4.resolve_left (fun h => by have := h.1; omega)
    rw [seqF_e (B 4) 214, if_pos x1]
    exact Or.inr ⟨rfl, x1, x2⟩
set_option maxRecDepth 4000 in
theorem ev_X5_con5 {m : Mem} {B : Mem} {i : Int} {o : Int} {l : List Cd} {k : Int} (hsq : SQ B m i o l) (hk : TkS B) (hdb : DnOk B 8) (ho : 0 ≤ o ∧ o ≤ 20) (hl : (l.length : Int) ≤ 2 * o) (hd : k = 4) : Ev 0 37 mX5_readCond [vr 76, vr 1, vr 8, vi k] m (fun r m' => QP B r m' l (seqF (B 4) 213 (seqF (B 4) 214 (oneF B 5)) i o)) := by
  refine Ev.of (L := [vr 76, vr 1, vr 8, vi k, un]) (by decide +kernel) rfl (Nat.le_of_ble_eq_true rfl) rfl (fun t ht => by cases ht; first | exact Or.inl rfl | exact Or.inr (Or.inl rfl) | exact Or.inr (Or.inr rfl)) (fun hcan => ?_)
  have hi := hsq.2.1
  have hkb := hk.1
  have h0 := hsq.2.2.1
  have h1 := hsq.2.2.2.1
  have e12 := hsq.1.1
  have e11 := hsq.1.2.1
  have hPB : PB (seqF (B 4) 214 (oneF B 5)) := (seqF_b (oneF_b B 5))
  refine go_aload_n dX5_readCond_0 rfl ?_
  refine go_aload_n dX5_readCond_1 rfl ?_
  refine go_aload_n dX5_readCond_2 rfl ?_
  refine go_iload_n dX5_readCond_3 rfl ?_
  refine go_callV_z (as := [vr 1, vr 8, vi k]) (S := []) (b := 76) (ev_X5_all5 (m := m) (k := k) (B := B) (i := i) (o := o) (l := l) hsq (by first | assumption | omega | exact ⟨by omega, by omega⟩ | (constructor <;> omega)) (by first | assumption | omega | exact ⟨by omega, by omega⟩ | (constructor <;> omega)) (by first | assumption | omega | exact ⟨by omega, by omega⟩ | (constructor <;> omega)) (by first | assumption | omega | exact ⟨by omega, by omega⟩ | (constructor <;> omega)) (by first | assumption | omega | exact ⟨by omega, by omega⟩ | (constructor <;> omega))) rfl dX5_readCond_4 cv_5_61 rfl rfl ob_76 rfl (by decide) (Nat.le_of_ble_eq_true rfl) (fun r_4 m_4 hr_4 ho_4 => ?_)
  refine go_if_ne (tgt := 12) dX5_readCond_7 (by decide) ⟨by omega, by omega⟩ (fun h_7 => ?_) (fun h_7 => ?_)
  · obtain ⟨-, x1, x2⟩ := hr_4.resolve_right (fun h => h_7 h.1)
    have hR1 := hPB i o (by omega) (by omega) x1
    refine go_iconst dX5_readCond_12 ?_
    refine go_istore (L' := [vr 76, vr 1, vr 8, vi k, vi 0]) dX5_readCond_13 (by decide) rfl rfl ?_
    have lp_15 : ∀ (n_15 : Nat) (m1 : Mem) (j : Int) (a : Rs) (f : Nat), (a.1 = 0) → (SQ B m1 a.2.1 a.2.2.1 (l ++ a.2.2.2)) → (seqL (B 4) 213 (seqF (B 4) 214 (oneF B 5)) f a = seqL (B 4) 213 (seqF (B 4) 214 (oneF B 5)) 21 ((seqF (B 4) 214 (oneF B 5)) i o)) → (0 ≤ j ∧ j + (f : Int) = 21) → ((o + 1 + j ≤ a.2.2.1 ∧ a.2.2.1 ≤ 20) ∧ (a.2.2.2.length : Int) + 1 ≤ 2 * (a.2.2.1 - o)) → f < n_15 → Go 0 37 mX5_readCond (fun r m' => QP B r m' l (seqF (B 4) 213 (seqF (B 4) 214 (oneF B 5)) i o)) 15 [vr 76, vr 1, vr 8, vi k, vi j] [] m1 := by
      intro n_15
      induction n_15 with
      | zero => intro m1 j a f ha0 hs1 hsl hj hab hmu; exact absurd hmu (Nat.not_lt_zero _)
      | succ n_15 ih_15 =>
        intro m1 j a f ha0 hs1 hsl hj hab hmu
        obtain ⟨hab1, hab2⟩ := hab
        have hsu : seqL (B 4) 213 (seqF (B 4) 214 (oneF B 5)) f a = if B 4 a.2.1 = 213 then (if ((seqF (B 4) 214 (oneF B 5)) (a.2.1 + 1) a.2.2.1).1 ≠ 0 then ((seqF (B 4) 214 (oneF B 5)) (a.2.1 + 1) a.2.2.1) else seqL (B 4) 213 (seqF (B 4) 214 (oneF B 5)) (f - 1) (0, ((seqF (B 4) 214 (oneF B 5)) (a.2.1 + 1) a.2.2.1).2.1, ((seqF (B 4) 214 (oneF B 5)) (a.2.1 + 1) a.2.2.1).2.2.1, a.2.2.2 ++ ((seqF (B 4) 214 (oneF B 5)) (a.2.1 + 1) a.2.2.1).2.2.2 ++ [(213, 0, 0)])) else a := by
          obtain ⟨g, rfl⟩ : ∃ g, f = g + 1 := ⟨f - 1, by omega⟩
          rfl
        refine go_iload dX5_readCond_15 rfl ?_
        refine go_bipush dX5_readCond_17 (by decide) ?_
        refine go_icmp_ge (tgt := 63) dX5_readCond_19 (by decide) ⟨by omega, by omega⟩ ⟨by omega, by omega⟩ (fun h_19 => ?_) (fun h_19 => ?_)
        · exfalso; omega
        · refine go_aload_n dX5_readCond_22 rfl ?_
          refine go_getf_i (ki := 2) dX5_readCond_23 fl_5_54 ob_1 rfl rfl (fun hf_23 => ?_)
          rw [show (m1 1 2 : Int) = (B 4 a.2.1) from hs1.kd] at hf_23 ⊢
          refine go_sipush dX5_readCond_26 (by decide) ?_
          refine go_icmp_ne (tgt := 63) dX5_readCond_29 (by decide) hf_23 ⟨by omega, by omega⟩ (fun h_29 => ?_) (fun h_29 => ?_)
          · refine go_iconst dX5_readCond_63 ?_
            refine go_ret (v := 1) rfl dX5_readCond_64 (okZ (by first | exact Or.inl rfl | exact Or.inr rfl | assumption | omega)) ?_
            rw [seqF_e (B 4) 213, if_neg (fun z => z x1), ← hsl, hsu, if_neg (by omega)]
            exact Or.inl ⟨rfl, ha0, hs1⟩
          · refine go_aload_n dX5_readCond_32 rfl ?_
            refine go_callV_v (as := []) (S := []) (b := 1) (ev_X7_next (m := m1)  (by rw [hs1.1.1, hs1.1.2.1]; have h := hs1.2.1; have := hk.lt h.2 (by omega); omega)) rfl dX5_readCond_33 cv_5_47 rfl rfl ob_1 rfl (by decide) (Nat.le_of_ble_eq_true rfl) (fun m_33 hr_33 => ?_)
            have sq1 := hs1.nx hk (by omega)
            subst hr_33
            refine go_aload_n dX5_readCond_36 rfl ?_
            refine go_aload_n dX5_readCond_37 rfl ?_
            refine go_aload_n dX5_readCond_38 rfl ?_
            refine go_iload_n dX5_readCond_39 rfl ?_
            refine go_callV_z (as := [vr 1, vr 8, vi k]) (S := []) (b := 76) (ev_X5_all5 (m := (nxt m1)) (k := k) (B := B) (i := (a.2.1 + 1)) (o := a.2.2.1) (l := (l ++ a.2.2.2)) sq1 (by first | assumption | omega | exact ⟨by omega, by omega⟩ | (constructor <;> omega)) (by first | assumption | omega | exact ⟨by omega, by omega⟩ | (constructor <;> omega)) (by omega) (by simp only [List.length_append]; omega) (by first | assumption | omega | exact ⟨by omega, by omega⟩ | (constructor <;> omega))) rfl dX5_readCond_40 cv_5_61 rfl rfl ob_76 rfl (by decide) (Nat.le_of_ble_eq_true rfl) (fun r_40 m_40 hr_40 ho_40 => ?_)
            refine go_if_ne (tgt := 48) dX5_readCond_43 (by decide) ⟨by omega, by omega⟩ (fun h_43 => ?_) (fun h_43 => ?_)
            · obtain ⟨-, x1, x2⟩ := hr_40.resolve_right (fun h => h_43 h.1)
              have hR2 := hPB (a.2.1 + 1) a.2.2.1 (by omega) (by omega) x1
              refine go_aload_n dX5_readCond_48 rfl ?_
              refine go_sipush dX5_readCond_49 (by decide) ?_
              refine go_iconst dX5_readCond_52 ?_
              refine go_iconst dX5_readCond_53 ?_
              refine go_callV_v (as := [vi 213, vi 0, vi 0]) (S := []) (b := 76) (ev_X5_add (m := m_40) (k := 213) (g := 0) (v := 0) (by first | assumption | omega | exact ⟨by omega, by omega⟩ | (constructor <;> omega)) (by first | assumption | omega | exact ⟨by omega, by omega⟩ | (constructor <;> omega)) (by first | assumption | omega | exact ⟨by omega, by omega⟩ | (constructor <;> omega)) (by rw [x2.2.2.2.1]; simp only [List.length_append]; omega)) rfl dX5_readCond_54 cv_5_64 rfl rfl ob_76 rfl (by decide) (Nat.le_of_ble_eq_true rfl) (fun m_54 hr_54 => ?_)
              have sq3 := x2.add (k := 213) (g := 0) (v := 0)
              subst hr_54
              refine go_iinc (L' := [vr 76, vr 1, vr 8, vi k, vi (j + 1)]) dX5_readCond_57 rfl (by decide) rfl rfl ?_
              refine go_goto (tgt := 15) dX5_readCond_60 (by decide) ?_
              exact ih_15 (addM m_40 213 0 0) (j + 1) (0, ((seqF (B 4) 214 (oneF B 5)) (a.2.1 + 1) a.2.2.1).2.1, ((seqF (B 4) 214 (oneF B 5)) (a.2.1 + 1) a.2.2.1).2.2.1, a.2.2.2 ++ ((seqF (B 4) 214 (oneF B 5)) (a.2.1 + 1) a.2.2.1).2.2.2 ++ [(213, 0, 0)]) (f - 1) rfl (by show SQ B _ _ _ (l ++ (a.2.2.2 ++ _ ++ _)); rw [← List.append_assoc, ← List.append_assoc]; exact sq3) (by rw [← hsl, hsu, if_pos (by omega), if_neg (fun z => z x1)]) (by first | assumption | omega | rfl) (by
                    refine ⟨⟨?_, ?_⟩, ?_⟩
                    · show o + 1 + (j + 1) ≤ ((seqF (B 4) 214 (oneF B 5)) (a.2.1 + 1) a.2.2.1).2.2.1; omega
                    · show ((seqF (B 4) 214 (oneF B 5)) (a.2.1 + 1) a.2.2.1).2.2.1 ≤ 20; omega
                    · show ((a.2.2.2 ++ ((seqF (B 4) 214 (oneF B 5)) (a.2.1 + 1) a.2.2.1).2.2.2 ++ [(213, 0, 0)] : List Cd).length : Int) + 1 ≤ 2 * (((seqF (B 4) 214 (oneF B 5)) (a.2.1 + 1) a.2.2.1).2.2.1 - o)
                      simp only [List.length_append, List.length_singleton]
                      omega) (by omega)
            · refine go_iconst dX5_readCond_46 ?_
              refine go_ret (v := 0) rfl dX5_readCond_47 (okZ (by first | exact Or.inl rfl | exact Or.inr rfl | assumption | omega)) ?_
              obtain ⟨-, y1, y2⟩ := hr_40.resolve_left (fun h => by have := h.1; omega)
              rw [seqF_e (B 4) 213, if_neg (fun z => z x1), ← hsl, hsu, if_pos (by omega), if_pos y1]
              exact Or.inr ⟨rfl, y1, y2⟩
    exact lp_15 _ m_4 0 ((seqF (B 4) 214 (oneF B 5)) i o) 21 x1 x2 rfl (by first | assumption | omega | rfl) ⟨by omega, hR1.2.2⟩ (Nat.lt_succ_self _)
  · refine go_iconst dX5_readCond_10 ?_
    refine go_ret (v := 0) rfl dX5_readCond_11 (okZ (by first | exact Or.inl rfl | exact Or.inr rfl | assumption | omega)) ?_
    obtain ⟨-, x1, x2⟩ := hr_4.resolve_left (fun h => by have := h.1; omega)
    rw [seqF_e (B 4) 213, if_pos x1]
    exact Or.inr ⟨rfl, x1, x2⟩
set_option maxRecDepth 4000 in
theorem ev_X5_not6 {m : Mem} {B : Mem} {i : Int} {o : Int} {l : List Cd} {k : Int} (hsq : SQ B m i o l) (hk : TkS B) (hdb : DnOk B 8) (ho : 1 ≤ o ∧ o ≤ 20) (hl : (l.length : Int) + 2 ≤ 2 * o) (hd : k = 3) (hki : B 4 i = 215) : Ev 0 39 mX5_readNot [vr 76, vr 1, vr 8, vi k] m (fun r m' => QP B r m' l (notF (oneF B 5) i o)) := by
  refine Ev.of (L := [vr 76, vr 1, vr 8, vi k]) (by decide +kernel) rfl (Nat.le_of_ble_eq_true rfl) rfl (fun t ht => by cases ht; first | exact Or.inl rfl | exact Or.inr (Or.inl rfl) | exact Or.inr (Or.inr rfl)) (fun hcan => ?_)
  have hi := hsq.2.1
  have hkb := hk.1
  have h0 := hsq.2.2.1
  have h1 := hsq.2.2.2.1
  have e12 := hsq.1.1
  have e11 := hsq.1.2.1
  have hR : RB o ((oneF B 5) (i + 1) o) := oneF_b B 5 (i + 1) o (by omega) (by omega)
  refine go_aload_n dX5_readNot_0 rfl ?_
  refine go_callV_v (as := []) (S := []) (b := 1) (ev_X7_next (m := m)  (by rw [hsq.1.1, hsq.1.2.1]; have h := hk.lt hsq.2.1.2 (by omega); have h2 := hsq.2.1; omega)) rfl dX5_readNot_1 cv_5_47 rfl rfl ob_1 rfl (by decide) (Nat.le_of_ble_eq_true rfl) (fun m_1 hr_1 => ?_)
  have sq1 := hsq.nx hk (by omega)
  subst hr_1
  refine go_aload_n dX5_readNot_4 rfl ?_
  refine go_aload_n dX5_readNot_5 rfl ?_
  refine go_aload_n dX5_readNot_6 rfl ?_
  refine go_iload_n dX5_readNot_7 rfl ?_
  refine go_iconst dX5_readNot_8 ?_
  refine go_iadd dX5_readNot_9 ?_
  refine go_callV_z (as := [vr 1, vr 8, vi (k + 1)]) (S := []) (b := 76) (ev_X5_one5 (m := (nxt m)) (k := (k + 1)) (B := B) (i := (i + 1)) (o := o) (l := l) sq1 (by first | assumption | omega | exact ⟨by omega, by omega⟩ | (constructor <;> omega)) (by first | assumption | omega | exact ⟨by omega, by omega⟩ | (constructor <;> omega)) (by first | assumption | omega | exact ⟨by omega, by omega⟩ | (constructor <;> omega)) (by omega) (by first | assumption | omega | exact ⟨by omega, by omega⟩ | (constructor <;> omega))) rfl dX5_readNot_10 cv_5_68 rfl rfl ob_76 rfl (by decide) (Nat.le_of_ble_eq_true rfl) (fun r_10 m_10 hr_10 ho_10 => ?_)
  refine go_if_ne (tgt := 18) dX5_readNot_13 (by decide) ⟨by omega, by omega⟩ (fun h_13 => ?_) (fun h_13 => ?_)
  · obtain ⟨-, x1, x2⟩ := hr_10.resolve_right (fun h => h_13 h.1)
    refine go_aload_n dX5_readNot_18 rfl ?_
    refine go_sipush dX5_readNot_19 (by decide) ?_
    refine go_iconst dX5_readNot_22 ?_
    refine go_iconst dX5_readNot_23 ?_
    refine go_callV_v (as := [vi 215, vi 0, vi 0]) (S := []) (b := 76) (ev_X5_add (m := m_10) (k := 215) (g := 0) (v := 0) (by first | assumption | omega | exact ⟨by omega, by omega⟩ | (constructor <;> omega)) (by first | assumption | omega | exact ⟨by omega, by omega⟩ | (constructor <;> omega)) (by first | assumption | omega | exact ⟨by omega, by omega⟩ | (constructor <;> omega)) (by rw [x2.2.2.2.1]; simp only [List.length_append]; have h := hR x1; omega)) rfl dX5_readNot_24 cv_5_64 rfl rfl ob_76 rfl (by decide) (Nat.le_of_ble_eq_true rfl) (fun m_24 hr_24 => ?_)
    have sq3 := x2.add (k := 215) (g := 0) (v := 0)
    subst hr_24
    refine go_iconst dX5_readNot_27 ?_
    refine go_ret (v := 1) rfl dX5_readNot_28 (okZ (by first | exact Or.inl rfl | exact Or.inr rfl | assumption | omega)) ?_
    rw [List.append_assoc] at sq3
    exact Or.inl ⟨rfl, x1, sq3⟩
  · refine go_iconst dX5_readNot_16 ?_
    refine go_ret (v := 0) rfl dX5_readNot_17 (okZ (by first | exact Or.inl rfl | exact Or.inr rfl | assumption | omega)) ?_
    obtain ⟨-, x1, x2⟩ := hr_10.resolve_left (fun h => by have := h.1; omega)
    exact Or.inr ⟨rfl, x1, x2⟩
set_option maxRecDepth 4000 in
theorem ev_X5_brk6 {m : Mem} {B : Mem} {i : Int} {o : Int} {l : List Cd} {k : Int} (hsq : SQ B m i o l) (hk : TkS B) (hdb : DnOk B 8) (ho : 1 ≤ o ∧ o ≤ 20) (hl : (l.length : Int) + 2 ≤ 2 * o) (hd : k = 3) (hki : B 4 i = 40) : Ev 0 39 mX5_readBracket [vr 76, vr 1, vr 8, vi k] m (fun r m' => QP B r m' l (brkF (B 4) (seqF (B 4) 213 (seqF (B 4) 214 (oneF B 5))) i o)) := by
  refine Ev.of (L := [vr 76, vr 1, vr 8, vi k]) (by decide +kernel) rfl (Nat.le_of_ble_eq_true rfl) rfl (fun t ht => by cases ht; first | exact Or.inl rfl | exact Or.inr (Or.inl rfl) | exact Or.inr (Or.inr rfl)) (fun hcan => ?_)
  have hi := hsq.2.1
  have hkb := hk.1
  have h0 := hsq.2.2.1
  have h1 := hsq.2.2.2.1
  have e12 := hsq.1.1
  have e11 := hsq.1.2.1
  refine go_aload_n dX5_readBracket_0 rfl ?_
  refine go_callV_v (as := []) (S := []) (b := 1) (ev_X7_next (m := m)  (by rw [hsq.1.1, hsq.1.2.1]; have h := hk.lt hsq.2.1.2 (by omega); have h2 := hsq.2.1; omega)) rfl dX5_readBracket_1 cv_5_47 rfl rfl ob_1 rfl (by decide) (Nat.le_of_ble_eq_true rfl) (fun m_1 hr_1 => ?_)
  have sq1 := hsq.nx hk (by omega)
  subst hr_1
  refine go_aload_n dX5_readBracket_4 rfl ?_
  refine go_aload_n dX5_readBracket_5 rfl ?_
  refine go_aload_n dX5_readBracket_6 rfl ?_
  refine go_iload_n dX5_readBracket_7 rfl ?_
  refine go_iconst dX5_readBracket_8 ?_
  refine go_iadd dX5_readBracket_9 ?_
  refine go_callV_z (as := [vr 1, vr 8, vi (k + 1)]) (S := []) (b := 76) (ev_X5_con5 (m := (nxt m)) (k := (k + 1)) (B := B) (i := (i + 1)) (o := o) (l := l) sq1 (by first | assumption | omega | exact ⟨by omega, by omega⟩ | (constructor <;> omega)) (by first | assumption | omega | exact ⟨by omega, by omega⟩ | (constructor <;> omega)) (by first | assumption | omega | exact ⟨by omega, by omega⟩ | (constructor <;> omega)) (by omega) (by first | assumption | omega | exact ⟨by omega, by omega⟩ | (constructor <;> omega))) rfl dX5_readBracket_10 cv_5_50 rfl rfl ob_76 rfl (by decide) (Nat.le_of_ble_eq_true rfl) (fun r_10 m_10 hr_10 ho_10 => ?_)
  obtain ⟨R, hRe⟩ : ∃ z, z = seqF (B 4) 213 (seqF (B 4) 214 (oneF B 5)) (i + 1) o := ⟨_, rfl⟩
  rw [← hRe] at hr_10
  refine go_if_ne (tgt := 18) dX5_readBracket_13 (by decide) ⟨by omega, by omega⟩ (fun h_13 => ?_) (fun h_13 => ?_)
  · obtain ⟨-, x1, x2⟩ := hr_10.resolve_right (fun h => h_13 h.1)
    refine go_aload_n dX5_readBracket_18 rfl ?_
    refine go_getf_i (ki := 2) dX5_readBracket_19 fl_5_54 ob_1 rfl rfl (fun hf_19 => ?_)
    rw [show (m_10 1 2 : Int) = (B 4 R.2.1) from x2.kd] at hf_19 ⊢
    refine go_bipush dX5_readBracket_22 (by decide) ?_
    refine go_icmp_eq (tgt := 33) dX5_readBracket_24 (by decide) ⟨by omega, by omega⟩ ⟨by omega, by omega⟩ (fun h_24 => ?_) (fun h_24 => ?_)
    · refine go_aload_n dX5_readBracket_33 rfl ?_
      refine go_callV_v (as := []) (S := []) (b := 1) (ev_X7_next (m := m_10)  (by rw [x2.1.1, x2.1.2.1]; have h := x2.2.1; have := hk.lt h.2 (by omega); omega)) rfl dX5_readBracket_34 cv_5_47 rfl rfl ob_1 rfl (by decide) (Nat.le_of_ble_eq_true rfl) (fun m_34 hr_34 => ?_)
      have sq3 := x2.nx hk (by omega)
      subst hr_34
      refine go_iconst dX5_readBracket_37 ?_
      refine go_ret (v := 1) rfl dX5_readBracket_38 (okZ (by first | exact Or.inl rfl | exact Or.inr rfl | assumption | omega)) ?_
      unfold brkF
      rw [← hRe, if_neg (fun z => z x1), if_pos (by omega)]
      exact Or.inl ⟨rfl, rfl, sq3⟩
    · refine go_aload_n dX5_readBracket_27 rfl ?_
      refine go_iconst dX5_readBracket_28 ?_
      refine go_callV_z (as := [vi 1]) (S := []) (b := 1) (ev_X7_refuse (m := m_10) (k := 1) (by first | assumption | omega | exact ⟨by omega, by omega⟩ | (constructor <;> omega))) rfl dX5_readBracket_29 cv_5_57 rfl rfl ob_1 rfl (by decide) (Nat.le_of_ble_eq_true rfl) (fun r_29 m_29 hr_29 ho_29 => ?_)
      refine go_ret (v := r_29) rfl dX5_readBracket_32 (okZ (by first | exact Or.inl rfl | exact Or.inr rfl | assumption | omega)) ?_
      unfold brkF
      rw [← hRe, if_neg (fun z => z x1), if_neg (by omega), hr_29.2]
      exact Or.inr ⟨by omega, (show (1 : Int) ≠ 0 by decide), x2.ref⟩
  · refine go_iconst dX5_readBracket_16 ?_
    refine go_ret (v := 0) rfl dX5_readBracket_17 (okZ (by first | exact Or.inl rfl | exact Or.inr rfl | assumption | omega)) ?_
    obtain ⟨-, x1, x2⟩ := hr_10.resolve_left (fun h => by have := h.1; omega)
    unfold brkF
    rw [← hRe, if_pos x1]
    exact Or.inr ⟨rfl, x1, x2⟩
set_option maxRecDepth 4000 in
theorem ev_X5_one6 {m : Mem} {B : Mem} {i : Int} {o : Int} {l : List Cd} {k : Int} (hsq : SQ B m i o l) (hk : TkS B) (hdb : DnOk B 8) (ho : 0 ≤ o ∧ o ≤ 20) (hl : (l.length : Int) ≤ 2 * o) (hd : k = 3) : Ev 0 40 mX5_readOne [vr 76, vr 1, vr 8, vi k] m (fun r m' => QP B r m' l (oneF B 6 i o)) := by
  refine Ev.of (L := [vr 76, vr 1, vr 8, vi k, un]) (by decide +kernel) rfl (Nat.le_of_ble_eq_true rfl) rfl (fun t ht => by cases ht; first | exact Or.inl rfl | exact Or.inr (Or.inl rfl) | exact Or.inr (Or.inr rfl)) (fun hcan => ?_)
  have hi := hsq.2.1
  have hkb := hk.1
  have h0 := hsq.2.2.1
  have h1 := hsq.2.2.2.1
  have e12 := hsq.1.1
  have e11 := hsq.1.2.1
  refine go_aload_n dX5_readOne_0 rfl ?_
  refine go_getf_i (ki := 2) dX5_readOne_1 fl_5_54 ob_1 rfl rfl (fun hf_1 => ?_)
  rw [show (m 1 2 : Int) = (B 4 i) from hsq.kd] at hf_1 ⊢
  refine go_istore (L' := [vr 76, vr 1, vr 8, vi k, vi (B 4 i)]) dX5_readOne_4 (by decide) rfl rfl ?_
  refine go_iload dX5_readOne_6 rfl ?_
  refine go_bipush dX5_readOne_8 (by decide) ?_
  refine go_icmp_eq (tgt := 33) dX5_readOne_10 (by decide) ⟨by omega, by omega⟩ ⟨by omega, by omega⟩ (fun h_10 => ?_) (fun h_10 => ?_)
  · refine go_aload_n dX5_readOne_33 rfl ?_
    refine go_getf_i (ki := 0) dX5_readOne_34 fl_5_9 ob_76 rfl rfl (fun hf_34 => ?_)
    rw [show (m 76 0 : Int) = o from h0] at hf_34 ⊢
    refine go_bipush dX5_readOne_37 (by decide) ?_
    refine go_icmp_ge (tgt := 48) dX5_readOne_39 (by decide) ⟨by omega, by omega⟩ ⟨by omega, by omega⟩ (fun h_39 => ?_) (fun h_39 => ?_)
    · refine go_aload_n dX5_readOne_48 rfl ?_
      refine go_iconst dX5_readOne_49 ?_
      refine go_callV_z (as := [vi 4]) (S := []) (b := 1) (ev_X7_refuse (m := m) (k := 4) (by first | assumption | omega | exact ⟨by omega, by omega⟩ | (constructor <;> omega))) rfl dX5_readOne_50 cv_5_57 rfl rfl ob_1 rfl (by decide) (Nat.le_of_ble_eq_true rfl) (fun r_50 m_50 hr_50 ho_50 => ?_)
      refine go_ret (v := r_50) rfl dX5_readOne_53 (okZ (by first | exact Or.inl rfl | exact Or.inr rfl | assumption | omega)) ?_
      rw [hr_50.2, show oneF B 6 i o = (4, i, o, []) by unfold oneF; rw [if_neg (by omega), if_pos (by omega)]]
      exact Or.inr ⟨by omega, (show (4 : Int) ≠ 0 by decide), hsq.ref⟩
    · refine go_iload_n dX5_readOne_42 rfl ?_
      refine go_bipush dX5_readOne_43 (by decide) ?_
      refine go_icmp_le (tgt := 54) dX5_readOne_45 (by decide) ⟨by omega, by omega⟩ ⟨by omega, by omega⟩ (fun h_45 => ?_) (fun h_45 => ?_)
      · refine go_aload_n dX5_readOne_54 rfl ?_
        refine go_dup_r dX5_readOne_55 ?_
        refine go_getf_i (ki := 0) dX5_readOne_56 fl_5_9 ob_76 rfl rfl (fun hf_56 => ?_)
        rw [show (m 76 0 : Int) = o from h0] at hf_56 ⊢
        refine go_iconst dX5_readOne_59 ?_
        refine go_iadd dX5_readOne_60 ?_
        refine go_putf_i (ki := 0) dX5_readOne_61 fw_5_9 ob_76 rfl rfl ⟨by omega, by omega⟩ ?_
        have sq1 := hsq.one (x := o + 1)
        refine go_iload dX5_readOne_64 rfl ?_
        by_cases hk_66_0 : (B 4 i) = 40
        · refine go_lswitch (off := 82) (tgt := 148) dX5_readOne_66 ⟨by omega, by omega⟩ (by decide) (by rw [hk_66_0] <;> rfl) (by decide) ?_
          refine go_aload_n dX5_readOne_148 rfl ?_
          refine go_aload_n dX5_readOne_149 rfl ?_
          refine go_aload_n dX5_readOne_150 rfl ?_
          refine go_iload_n dX5_readOne_151 rfl ?_
          refine go_callV_z (as := [vr 1, vr 8, vi k]) (S := []) (b := 76) (ev_X5_brk6 (m := (wr m 76 0 (o + 1))) (k := k) (B := B) (i := i) (o := (o + 1)) (l := l) sq1 (by first | assumption | omega | exact ⟨by omega, by omega⟩ | (constructor <;> omega)) (by first | assumption | omega | exact ⟨by omega, by omega⟩ | (constructor <;> omega)) (by omega) (by omega) (by first | assumption | omega | exact ⟨by omega, by omega⟩ | (constructor <;> omega)) (by first | assumption | omega | exact ⟨by omega, by omega⟩ | (constructor <;> omega))) rfl dX5_readOne_152 cv_5_78 rfl rfl ob_76 rfl (by decide) (Nat.le_of_ble_eq_true rfl) (fun r_152 m_152 hr_152 ho_152 => ?_)
          refine go_ret (v := r_152) rfl dX5_readOne_155 (okZ (by first | exact Or.inl rfl | exact Or.inr rfl | assumption | omega)) ?_
          rw [show oneF B 6 i o = brkF (B 4) (seqF (B 4) 213 (seqF (B 4) 214 (oneF B 5))) i (o + 1) by unfold oneF; rw [if_neg (by omega), if_neg (by omega), if_neg (by omega), if_pos (by omega)]]
          exact hr_152
        · skip
          by_cases hk_66_1 : (B 4 i) = 215
          · refine go_lswitch (off := 74) (tgt := 140) dX5_readOne_66 ⟨by omega, by omega⟩ (by decide) (by rw [hk_66_1] <;> rfl) (by decide) ?_
            refine go_aload_n dX5_readOne_140 rfl ?_
            refine go_aload_n dX5_readOne_141 rfl ?_
            refine go_aload_n dX5_readOne_142 rfl ?_
            refine go_iload_n dX5_readOne_143 rfl ?_
            refine go_callV_z (as := [vr 1, vr 8, vi k]) (S := []) (b := 76) (ev_X5_not6 (m := (wr m 76 0 (o + 1))) (k := k) (B := B) (i := i) (o := (o + 1)) (l := l) sq1 (by first | assumption | omega | exact ⟨by omega, by omega⟩ | (constructor <;> omega)) (by first | assumption | omega | exact ⟨by omega, by omega⟩ | (constructor <;> omega)) (by omega) (by omega) (by first | assumption | omega | exact ⟨by omega, by omega⟩ | (constructor <;> omega)) (by first | assumption | omega | exact ⟨by omega, by omega⟩ | (constructor <;> omega))) rfl dX5_readOne_144 cv_5_75 rfl rfl ob_76 rfl (by decide) (Nat.le_of_ble_eq_true rfl) (fun r_144 m_144 hr_144 ho_144 => ?_)
            refine go_ret (v := r_144) rfl dX5_readOne_147 (okZ (by first | exact Or.inl rfl | exact Or.inr rfl | assumption | omega)) ?_
            rw [show oneF B 6 i o = notF (oneF B 5) i (o + 1) by unfold oneF; rw [if_neg (by omega), if_neg (by omega), if_pos (by omega)]]
            exact hr_144
          · skip
            by_cases hk_66_2 : (B 4 i) = 219
            · refine go_lswitch (off := 90) (tgt := 156) dX5_readOne_66 ⟨by omega, by omega⟩ (by decide) (by rw [hk_66_2] <;> rfl) (by decide) ?_
              refine go_aload_n dX5_readOne_156 rfl ?_
              refine go_aload_n dX5_readOne_157 rfl ?_
              refine go_aload_n dX5_readOne_158 rfl ?_
              refine go_iload dX5_readOne_159 rfl ?_
              refine go_callV_z (as := [vr 1, vr 8, vi (B 4 i)]) (S := []) (b := 76) (ev_X5_readNamed (m := (wr m 76 0 (o + 1))) (k := (B 4 i)) (B := B) (i := i) (o := (o + 1)) (l := l) sq1 (by first | assumption | omega | exact ⟨by omega, by omega⟩ | (constructor <;> omega)) (by first | assumption | omega | exact ⟨by omega, by omega⟩ | (constructor <;> omega)) (by omega) (by omega) (by first | assumption | omega | exact ⟨by omega, by omega⟩ | (constructor <;> omega)) (by first | assumption | omega | exact ⟨by omega, by omega⟩ | (constructor <;> omega))) rfl dX5_readOne_161 cv_5_81 rfl rfl ob_76 rfl (by decide) (Nat.le_of_ble_eq_true rfl) (fun r_161 m_161 hr_161 ho_161 => ?_)
              refine go_ret (v := r_161) rfl dX5_readOne_164 (okZ (by first | exact Or.inl rfl | exact Or.inr rfl | assumption | omega)) ?_
              rw [show oneF B 6 i o = namF B i (o + 1) by unfold oneF; rw [if_neg (by omega), if_neg (by omega), if_neg (by omega), if_neg (by omega), if_pos (by omega)]]
              exact hr_161
            · skip
              by_cases hk_66_3 : (B 4 i) = 220
              · refine go_lswitch (off := 90) (tgt := 156) dX5_readOne_66 ⟨by omega, by omega⟩ (by decide) (by rw [hk_66_3] <;> rfl) (by decide) ?_
                refine go_aload_n dX5_readOne_156 rfl ?_
                refine go_aload_n dX5_readOne_157 rfl ?_
                refine go_aload_n dX5_readOne_158 rfl ?_
                refine go_iload dX5_readOne_159 rfl ?_
                refine go_callV_z (as := [vr 1, vr 8, vi (B 4 i)]) (S := []) (b := 76) (ev_X5_readNamed (m := (wr m 76 0 (o + 1))) (k := (B 4 i)) (B := B) (i := i) (o := (o + 1)) (l := l) sq1 (by first | assumption | omega | exact ⟨by omega, by omega⟩ | (constructor <;> omega)) (by first | assumption | omega | exact ⟨by omega, by omega⟩ | (constructor <;> omega)) (by omega) (by omega) (by first | assumption | omega | exact ⟨by omega, by omega⟩ | (constructor <;> omega)) (by first | assumption | omega | exact ⟨by omega, by omega⟩ | (constructor <;> omega))) rfl dX5_readOne_161 cv_5_81 rfl rfl ob_76 rfl (by decide) (Nat.le_of_ble_eq_true rfl) (fun r_161 m_161 hr_161 ho_161 => ?_)
                refine go_ret (v := r_161) rfl dX5_readOne_164 (okZ (by first | exact Or.inl rfl | exact Or.inr rfl | assumption | omega)) ?_
                rw [show oneF B 6 i o = namF B i (o + 1) by unfold oneF; rw [if_neg (by omega), if_neg (by omega), if_neg (by omega), if_neg (by omega), if_pos (by omega)]]
                exact hr_161
              · skip
                by_cases hk_66_4 : (B 4 i) = 221
                · refine go_lswitch (off := 99) (tgt := 165) dX5_readOne_66 ⟨by omega, by omega⟩ (by decide) (by rw [hk_66_4] <;> rfl) (by decide) ?_
                  refine go_aload_n dX5_readOne_165 rfl ?_
                  refine go_aload_n dX5_readOne_166 rfl ?_
                  refine go_iload dX5_readOne_167 rfl ?_
                  refine go_callV_z (as := [vr 1, vi (B 4 i)]) (S := []) (b := 76) (ev_X5_readCompared (m := (wr m 76 0 (o + 1))) (k := (B 4 i)) (B := B) (i := i) (o := (o + 1)) (l := l) sq1 (by first | assumption | omega | exact ⟨by omega, by omega⟩ | (constructor <;> omega)) (by first | assumption | omega | exact ⟨by omega, by omega⟩ | (constructor <;> omega)) (by omega) (by omega) (by first | assumption | omega | exact ⟨by omega, by omega⟩ | (constructor <;> omega)) (by first | assumption | omega | exact ⟨by omega, by omega⟩ | (constructor <;> omega))) rfl dX5_readOne_169 cv_5_84 rfl rfl ob_76 rfl (by decide) (Nat.le_of_ble_eq_true rfl) (fun r_169 m_169 hr_169 ho_169 => ?_)
                  refine go_ret (v := r_169) rfl dX5_readOne_172 (okZ (by first | exact Or.inl rfl | exact Or.inr rfl | assumption | omega)) ?_
                  rw [show oneF B 6 i o = cmpF B i (o + 1) by unfold oneF; rw [if_neg (by omega), if_neg (by omega), if_neg (by omega), if_neg (by omega), if_neg (by omega), if_pos (by omega)]]
                  exact hr_169
                · skip
                  by_cases hk_66_5 : (B 4 i) = 222
                  · refine go_lswitch (off := 99) (tgt := 165) dX5_readOne_66 ⟨by omega, by omega⟩ (by decide) (by rw [hk_66_5] <;> rfl) (by decide) ?_
                    refine go_aload_n dX5_readOne_165 rfl ?_
                    refine go_aload_n dX5_readOne_166 rfl ?_
                    refine go_iload dX5_readOne_167 rfl ?_
                    refine go_callV_z (as := [vr 1, vi (B 4 i)]) (S := []) (b := 76) (ev_X5_readCompared (m := (wr m 76 0 (o + 1))) (k := (B 4 i)) (B := B) (i := i) (o := (o + 1)) (l := l) sq1 (by first | assumption | omega | exact ⟨by omega, by omega⟩ | (constructor <;> omega)) (by first | assumption | omega | exact ⟨by omega, by omega⟩ | (constructor <;> omega)) (by omega) (by omega) (by first | assumption | omega | exact ⟨by omega, by omega⟩ | (constructor <;> omega)) (by first | assumption | omega | exact ⟨by omega, by omega⟩ | (constructor <;> omega))) rfl dX5_readOne_169 cv_5_84 rfl rfl ob_76 rfl (by decide) (Nat.le_of_ble_eq_true rfl) (fun r_169 m_169 hr_169 ho_169 => ?_)
                    refine go_ret (v := r_169) rfl dX5_readOne_172 (okZ (by first | exact Or.inl rfl | exact Or.inr rfl | assumption | omega)) ?_
                    rw [show oneF B 6 i o = cmpF B i (o + 1) by unfold oneF; rw [if_neg (by omega), if_neg (by omega), if_neg (by omega), if_neg (by omega), if_neg (by omega), if_pos (by omega)]]
                    exact hr_169
                  · skip
                    by_cases hk_66_6 : (B 4 i) = 223
                    · refine go_lswitch (off := 99) (tgt := 165) dX5_readOne_66 ⟨by omega, by omega⟩ (by decide) (by rw [hk_66_6] <;> rfl) (by decide) ?_
                      refine go_aload_n dX5_readOne_165 rfl ?_
                      refine go_aload_n dX5_readOne_166 rfl ?_
                      refine go_iload dX5_readOne_167 rfl ?_
                      refine go_callV_z (as := [vr 1, vi (B 4 i)]) (S := []) (b := 76) (ev_X5_readCompared (m := (wr m 76 0 (o + 1))) (k := (B 4 i)) (B := B) (i := i) (o := (o + 1)) (l := l) sq1 (by first | assumption | omega | exact ⟨by omega, by omega⟩ | (constructor <;> omega)) (by first | assumption | omega | exact ⟨by omega, by omega⟩ | (constructor <;> omega)) (by omega) (by omega) (by first | assumption | omega | exact ⟨by omega, by omega⟩ | (constructor <;> omega)) (by first | assumption | omega | exact ⟨by omega, by omega⟩ | (constructor <;> omega))) rfl dX5_readOne_169 cv_5_84 rfl rfl ob_76 rfl (by decide) (Nat.le_of_ble_eq_true rfl) (fun r_169 m_169 hr_169 ho_169 => ?_)
                      refine go_ret (v := r_169) rfl dX5_readOne_172 (okZ (by first | exact Or.inl rfl | exact Or.inr rfl | assumption | omega)) ?_
                      rw [show oneF B 6 i o = cmpF B i (o + 1) by unfold oneF; rw [if_neg (by omega), if_neg (by omega), if_neg (by omega), if_neg (by omega), if_neg (by omega), if_pos (by omega)]]
                      exact hr_169
                    · skip
                      by_cases hk_66_7 : (B 4 i) = 224
                      · refine go_lswitch (off := 99) (tgt := 165) dX5_readOne_66 ⟨by omega, by omega⟩ (by decide) (by rw [hk_66_7] <;> rfl) (by decide) ?_
                        refine go_aload_n dX5_readOne_165 rfl ?_
                        refine go_aload_n dX5_readOne_166 rfl ?_
                        refine go_iload dX5_readOne_167 rfl ?_
                        refine go_callV_z (as := [vr 1, vi (B 4 i)]) (S := []) (b := 76) (ev_X5_readCompared (m := (wr m 76 0 (o + 1))) (k := (B 4 i)) (B := B) (i := i) (o := (o + 1)) (l := l) sq1 (by first | assumption | omega | exact ⟨by omega, by omega⟩ | (constructor <;> omega)) (by first | assumption | omega | exact ⟨by omega, by omega⟩ | (constructor <;> omega)) (by omega) (by omega) (by first | assumption | omega | exact ⟨by omega, by omega⟩ | (constructor <;> omega)) (by first | assumption | omega | exact ⟨by omega, by omega⟩ | (constructor <;> omega))) rfl dX5_readOne_169 cv_5_84 rfl rfl ob_76 rfl (by decide) (Nat.le_of_ble_eq_true rfl) (fun r_169 m_169 hr_169 ho_169 => ?_)
                        refine go_ret (v := r_169) rfl dX5_readOne_172 (okZ (by first | exact Or.inl rfl | exact Or.inr rfl | assumption | omega)) ?_
                        rw [show oneF B 6 i o = cmpF B i (o + 1) by unfold oneF; rw [if_neg (by omega), if_neg (by omega), if_neg (by omega), if_neg (by omega), if_neg (by omega), if_pos (by omega)]]
                        exact hr_169
                      · skip
                        refine go_lswitch (off := 107) (tgt := 173) dX5_readOne_66 ⟨by omega, by omega⟩ (by decide) (by simp [Op.lookupswitch.offset, hk_66_0, show ¬ (40 : Int) = (B 4 i) from fun z => hk_66_0 z.symm, hk_66_1, show ¬ (215 : Int) = (B 4 i) from fun z => hk_66_1 z.symm, hk_66_2, show ¬ (219 : Int) = (B 4 i) from fun z => hk_66_2 z.symm, hk_66_3, show ¬ (220 : Int) = (B 4 i) from fun z => hk_66_3 z.symm, hk_66_4, show ¬ (221 : Int) = (B 4 i) from fun z => hk_66_4 z.symm, hk_66_5, show ¬ (222 : Int) = (B 4 i) from fun z => hk_66_5 z.symm, hk_66_6, show ¬ (223 : Int) = (B 4 i) from fun z => hk_66_6 z.symm, hk_66_7, show ¬ (224 : Int) = (B 4 i) from fun z => hk_66_7 z.symm]) (by decide) ?_
                        refine go_aload_n dX5_readOne_173 rfl ?_
                        refine go_iload dX5_readOne_174 rfl ?_
                        refine go_iconst dX5_readOne_176 ?_
                        refine go_iconst dX5_readOne_177 ?_
                        refine go_callV_v (as := [vi (B 4 i), vi 0, vi 0]) (S := []) (b := 76) (ev_X5_add (m := (wr m 76 0 (o + 1))) (k := (B 4 i)) (g := 0) (v := 0) (by first | assumption | omega | exact ⟨by omega, by omega⟩ | (constructor <;> omega)) (by first | assumption | omega | exact ⟨by omega, by omega⟩ | (constructor <;> omega)) (by first | assumption | omega | exact ⟨by omega, by omega⟩ | (constructor <;> omega)) (by rw [sq1.2.2.2.1]; omega)) rfl dX5_readOne_178 cv_5_64 rfl rfl ob_76 rfl (by decide) (Nat.le_of_ble_eq_true rfl) (fun m_178 hr_178 => ?_)
                        have sq3 := sq1.add (k := B 4 i) (g := 0) (v := 0)
                        subst hr_178
                        refine go_aload_n dX5_readOne_181 rfl ?_
                        refine go_callV_v (as := []) (S := []) (b := 1) (ev_X7_next (m := (addM (wr m 76 0 (o + 1)) (B 4 i) 0 0))  (by rw [sq3.1.1, sq3.1.2.1]; have h := hk.lt sq3.2.1.2 (by omega); have h2 := sq3.2.1; omega)) rfl dX5_readOne_182 cv_5_47 rfl rfl ob_1 rfl (by decide) (Nat.le_of_ble_eq_true rfl) (fun m_182 hr_182 => ?_)
                        have sq4 := sq3.nx hk (by omega)
                        subst hr_182
                        refine go_iconst dX5_readOne_185 ?_
                        refine go_ret (v := 1) rfl dX5_readOne_186 (okZ (by first | exact Or.inl rfl | exact Or.inr rfl | assumption | omega)) ?_
                        rw [show oneF B 6 i o = (0, i + 1, o + 1, [(B 4 i, 0, 0)]) by unfold oneF; rw [if_neg (by omega), if_neg (by omega), if_neg (by omega), if_neg (by omega), if_neg (by omega), if_neg (by omega)]]
                        exact Or.inl ⟨rfl, rfl, sq4⟩
      · exfalso; omega
  · refine go_iload dX5_readOne_13 rfl ?_
    refine go_sipush dX5_readOne_15 (by decide) ?_
    refine go_sipush dX5_readOne_18 (by decide) ?_
    refine go_callSp_z (as := [vi (B 4 i), vi 215, vi 224]) (S := []) (ev_X11_isIn (m := m) (n := (B 4 i)) (lo := 215) (hi := 224) (by first | assumption | omega | exact ⟨by omega, by omega⟩ | (constructor <;> omega)) (by first | assumption | omega | exact ⟨by omega, by omega⟩ | (constructor <;> omega)) (by first | assumption | omega | exact ⟨by omega, by omega⟩ | (constructor <;> omega))) rfl dX5_readOne_21 cs_5_71 rfl rfl (by decide) (Nat.le_of_ble_eq_true rfl) (fun r_21 hr_21 ho_21 => ?_)
    refine go_if_ne (tgt := 33) dX5_readOne_24 (by decide) ⟨by omega, by omega⟩ (fun h_24 => ?_) (fun h_24 => ?_)
    · refine go_aload_n dX5_readOne_33 rfl ?_
      refine go_getf_i (ki := 0) dX5_readOne_34 fl_5_9 ob_76 rfl rfl (fun hf_34 => ?_)
      rw [show (m 76 0 : Int) = o from h0] at hf_34 ⊢
      refine go_bipush dX5_readOne_37 (by decide) ?_
      refine go_icmp_ge (tgt := 48) dX5_readOne_39 (by decide) ⟨by omega, by omega⟩ ⟨by omega, by omega⟩ (fun h_39 => ?_) (fun h_39 => ?_)
      · refine go_aload_n dX5_readOne_48 rfl ?_
        refine go_iconst dX5_readOne_49 ?_
        refine go_callV_z (as := [vi 4]) (S := []) (b := 1) (ev_X7_refuse (m := m) (k := 4) (by first | assumption | omega | exact ⟨by omega, by omega⟩ | (constructor <;> omega))) rfl dX5_readOne_50 cv_5_57 rfl rfl ob_1 rfl (by decide) (Nat.le_of_ble_eq_true rfl) (fun r_50 m_50 hr_50 ho_50 => ?_)
        refine go_ret (v := r_50) rfl dX5_readOne_53 (okZ (by first | exact Or.inl rfl | exact Or.inr rfl | assumption | omega)) ?_
        rw [hr_50.2, show oneF B 6 i o = (4, i, o, []) by unfold oneF; rw [if_neg (by omega), if_pos (by omega)]]
        exact Or.inr ⟨by omega, (show (4 : Int) ≠ 0 by decide), hsq.ref⟩
      · refine go_iload_n dX5_readOne_42 rfl ?_
        refine go_bipush dX5_readOne_43 (by decide) ?_
        refine go_icmp_le (tgt := 54) dX5_readOne_45 (by decide) ⟨by omega, by omega⟩ ⟨by omega, by omega⟩ (fun h_45 => ?_) (fun h_45 => ?_)
        · refine go_aload_n dX5_readOne_54 rfl ?_
          refine go_dup_r dX5_readOne_55 ?_
          refine go_getf_i (ki := 0) dX5_readOne_56 fl_5_9 ob_76 rfl rfl (fun hf_56 => ?_)
          rw [show (m 76 0 : Int) = o from h0] at hf_56 ⊢
          refine go_iconst dX5_readOne_59 ?_
          refine go_iadd dX5_readOne_60 ?_
          refine go_putf_i (ki := 0) dX5_readOne_61 fw_5_9 ob_76 rfl rfl ⟨by omega, by omega⟩ ?_
          have sq1 := hsq.one (x := o + 1)
          refine go_iload dX5_readOne_64 rfl ?_
          by_cases hk_66_0 : (B 4 i) = 40
          · refine go_lswitch (off := 82) (tgt := 148) dX5_readOne_66 ⟨by omega, by omega⟩ (by decide) (by rw [hk_66_0] <;> rfl) (by decide) ?_
            refine go_aload_n dX5_readOne_148 rfl ?_
            refine go_aload_n dX5_readOne_149 rfl ?_
            refine go_aload_n dX5_readOne_150 rfl ?_
            refine go_iload_n dX5_readOne_151 rfl ?_
            refine go_callV_z (as := [vr 1, vr 8, vi k]) (S := []) (b := 76) (ev_X5_brk6 (m := (wr m 76 0 (o + 1))) (k := k) (B := B) (i := i) (o := (o + 1)) (l := l) sq1 (by first | assumption | omega | exact ⟨by omega, by omega⟩ | (constructor <;> omega)) (by first | assumption | omega | exact ⟨by omega, by omega⟩ | (constructor <;> omega)) (by omega) (by omega) (by first | assumption | omega | exact ⟨by omega, by omega⟩ | (constructor <;> omega)) (by first | assumption | omega | exact ⟨by omega, by omega⟩ | (constructor <;> omega))) rfl dX5_readOne_152 cv_5_78 rfl rfl ob_76 rfl (by decide) (Nat.le_of_ble_eq_true rfl) (fun r_152 m_152 hr_152 ho_152 => ?_)
            refine go_ret (v := r_152) rfl dX5_readOne_155 (okZ (by first | exact Or.inl rfl | exact Or.inr rfl | assumption | omega)) ?_
            rw [show oneF B 6 i o = brkF (B 4) (seqF (B 4) 213 (seqF (B 4) 214 (oneF B 5))) i (o + 1) by unfold oneF; rw [if_neg (by omega), if_neg (by omega), if_neg (by omega), if_pos (by omega)]]
            exact hr_152
          · skip
            by_cases hk_66_1 : (B 4 i) = 215
            · refine go_lswitch (off := 74) (tgt := 140) dX5_readOne_66 ⟨by omega, by omega⟩ (by decide) (by rw [hk_66_1] <;> rfl) (by decide) ?_
              refine go_aload_n dX5_readOne_140 rfl ?_
              refine go_aload_n dX5_readOne_141 rfl ?_
              refine go_aload_n dX5_readOne_142 rfl ?_
              refine go_iload_n dX5_readOne_143 rfl ?_
              refine go_callV_z (as := [vr 1, vr 8, vi k]) (S := []) (b := 76) (ev_X5_not6 (m := (wr m 76 0 (o + 1))) (k := k) (B := B) (i := i) (o := (o + 1)) (l := l) sq1 (by first | assumption | omega | exact ⟨by omega, by omega⟩ | (constructor <;> omega)) (by first | assumption | omega | exact ⟨by omega, by omega⟩ | (constructor <;> omega)) (by omega) (by omega) (by first | assumption | omega | exact ⟨by omega, by omega⟩ | (constructor <;> omega)) (by first | assumption | omega | exact ⟨by omega, by omega⟩ | (constructor <;> omega))) rfl dX5_readOne_144 cv_5_75 rfl rfl ob_76 rfl (by decide) (Nat.le_of_ble_eq_true rfl) (fun r_144 m_144 hr_144 ho_144 => ?_)
              refine go_ret (v := r_144) rfl dX5_readOne_147 (okZ (by first | exact Or.inl rfl | exact Or.inr rfl | assumption | omega)) ?_
              rw [show oneF B 6 i o = notF (oneF B 5) i (o + 1) by unfold oneF; rw [if_neg (by omega), if_neg (by omega), if_pos (by omega)]]
              exact hr_144
            · skip
              by_cases hk_66_2 : (B 4 i) = 219
              · refine go_lswitch (off := 90) (tgt := 156) dX5_readOne_66 ⟨by omega, by omega⟩ (by decide) (by rw [hk_66_2] <;> rfl) (by decide) ?_
                refine go_aload_n dX5_readOne_156 rfl ?_
                refine go_aload_n dX5_readOne_157 rfl ?_
                refine go_aload_n dX5_readOne_158 rfl ?_
                refine go_iload dX5_readOne_159 rfl ?_
                refine go_callV_z (as := [vr 1, vr 8, vi (B 4 i)]) (S := []) (b := 76) (ev_X5_readNamed (m := (wr m 76 0 (o + 1))) (k := (B 4 i)) (B := B) (i := i) (o := (o + 1)) (l := l) sq1 (by first | assumption | omega | exact ⟨by omega, by omega⟩ | (constructor <;> omega)) (by first | assumption | omega | exact ⟨by omega, by omega⟩ | (constructor <;> omega)) (by omega) (by omega) (by first | assumption | omega | exact ⟨by omega, by omega⟩ | (constructor <;> omega)) (by first | assumption | omega | exact ⟨by omega, by omega⟩ | (constructor <;> omega))) rfl dX5_readOne_161 cv_5_81 rfl rfl ob_76 rfl (by decide) (Nat.le_of_ble_eq_true rfl) (fun r_161 m_161 hr_161 ho_161 => ?_)
                refine go_ret (v := r_161) rfl dX5_readOne_164 (okZ (by first | exact Or.inl rfl | exact Or.inr rfl | assumption | omega)) ?_
                rw [show oneF B 6 i o = namF B i (o + 1) by unfold oneF; rw [if_neg (by omega), if_neg (by omega), if_neg (by omega), if_neg (by omega), if_pos (by omega)]]
                exact hr_161
              · skip
                by_cases hk_66_3 : (B 4 i) = 220
                · refine go_lswitch (off := 90) (tgt := 156) dX5_readOne_66 ⟨by omega, by omega⟩ (by decide) (by rw [hk_66_3] <;> rfl) (by decide) ?_
                  refine go_aload_n dX5_readOne_156 rfl ?_
                  refine go_aload_n dX5_readOne_157 rfl ?_
                  refine go_aload_n dX5_readOne_158 rfl ?_
                  refine go_iload dX5_readOne_159 rfl ?_
                  refine go_callV_z (as := [vr 1, vr 8, vi (B 4 i)]) (S := []) (b := 76) (ev_X5_readNamed (m := (wr m 76 0 (o + 1))) (k := (B 4 i)) (B := B) (i := i) (o := (o + 1)) (l := l) sq1 (by first | assumption | omega | exact ⟨by omega, by omega⟩ | (constructor <;> omega)) (by first | assumption | omega | exact ⟨by omega, by omega⟩ | (constructor <;> omega)) (by omega) (by omega) (by first | assumption | omega | exact ⟨by omega, by omega⟩ | (constructor <;> omega)) (by first | assumption | omega | exact ⟨by omega, by omega⟩ | (constructor <;> omega))) rfl dX5_readOne_161 cv_5_81 rfl rfl ob_76 rfl (by decide) (Nat.le_of_ble_eq_true rfl) (fun r_161 m_161 hr_161 ho_161 => ?_)
                  refine go_ret (v := r_161) rfl dX5_readOne_164 (okZ (by first | exact Or.inl rfl | exact Or.inr rfl | assumption | omega)) ?_
                  rw [show oneF B 6 i o = namF B i (o + 1) by unfold oneF; rw [if_neg (by omega), if_neg (by omega), if_neg (by omega), if_neg (by omega), if_pos (by omega)]]
                  exact hr_161
                · skip
                  by_cases hk_66_4 : (B 4 i) = 221
                  · refine go_lswitch (off := 99) (tgt := 165) dX5_readOne_66 ⟨by omega, by omega⟩ (by decide) (by rw [hk_66_4] <;> rfl) (by decide) ?_
                    refine go_aload_n dX5_readOne_165 rfl ?_
                    refine go_aload_n dX5_readOne_166 rfl ?_
                    refine go_iload dX5_readOne_167 rfl ?_
                    refine go_callV_z (as := [vr 1, vi (B 4 i)]) (S := []) (b := 76) (ev_X5_readCompared (m := (wr m 76 0 (o + 1))) (k := (B 4 i)) (B := B) (i := i) (o := (o + 1)) (l := l) sq1 (by first | assumption | omega | exact ⟨by omega, by omega⟩ | (constructor <;> omega)) (by first | assumption | omega | exact ⟨by omega, by omega⟩ | (constructor <;> omega)) (by omega) (by omega) (by first | assumption | omega | exact ⟨by omega, by omega⟩ | (constructor <;> omega)) (by first | assumption | omega | exact ⟨by omega, by omega⟩ | (constructor <;> omega))) rfl dX5_readOne_169 cv_5_84 rfl rfl ob_76 rfl (by decide) (Nat.le_of_ble_eq_true rfl) (fun r_169 m_169 hr_169 ho_169 => ?_)
                    refine go_ret (v := r_169) rfl dX5_readOne_172 (okZ (by first | exact Or.inl rfl | exact Or.inr rfl | assumption | omega)) ?_
                    rw [show oneF B 6 i o = cmpF B i (o + 1) by unfold oneF; rw [if_neg (by omega), if_neg (by omega), if_neg (by omega), if_neg (by omega), if_neg (by omega), if_pos (by omega)]]
                    exact hr_169
                  · skip
                    by_cases hk_66_5 : (B 4 i) = 222
                    · refine go_lswitch (off := 99) (tgt := 165) dX5_readOne_66 ⟨by omega, by omega⟩ (by decide) (by rw [hk_66_5] <;> rfl) (by decide) ?_
                      refine go_aload_n dX5_readOne_165 rfl ?_
                      refine go_aload_n dX5_readOne_166 rfl ?_
                      refine go_iload dX5_readOne_167 rfl ?_
                      refine go_callV_z (as := [vr 1, vi (B 4 i)]) (S := []) (b := 76) (ev_X5_readCompared (m := (wr m 76 0 (o + 1))) (k := (B 4 i)) (B := B) (i := i) (o := (o + 1)) (l := l) sq1 (by first | assumption | omega | exact ⟨by omega, by omega⟩ | (constructor <;> omega)) (by first | assumption | omega | exact ⟨by omega, by omega⟩ | (constructor <;> omega)) (by omega) (by omega) (by first | assumption | omega | exact ⟨by omega, by omega⟩ | (constructor <;> omega)) (by first | assumption | omega | exact ⟨by omega, by omega⟩ | (constructor <;> omega))) rfl dX5_readOne_169 cv_5_84 rfl rfl ob_76 rfl (by decide) (Nat.le_of_ble_eq_true rfl) (fun r_169 m_169 hr_169 ho_169 => ?_)
                      refine go_ret (v := r_169) rfl dX5_readOne_172 (okZ (by first | exact Or.inl rfl | exact Or.inr rfl | assumption | omega)) ?_
                      rw [show oneF B 6 i o = cmpF B i (o + 1) by unfold oneF; rw [if_neg (by omega), if_neg (by omega), if_neg (by omega), if_neg (by omega), if_neg (by omega), if_pos (by omega)]]
                      exact hr_169
                    · skip
                      by_cases hk_66_6 : (B 4 i) = 223
                      · refine go_lswitch (off := 99) (tgt := 165) dX5_readOne_66 ⟨by omega, by omega⟩ (by decide) (by rw [hk_66_6] <;> rfl) (by decide) ?_
                        refine go_aload_n dX5_readOne_165 rfl ?_
                        refine go_aload_n dX5_readOne_166 rfl ?_
                        refine go_iload dX5_readOne_167 rfl ?_
                        refine go_callV_z (as := [vr 1, vi (B 4 i)]) (S := []) (b := 76) (ev_X5_readCompared (m := (wr m 76 0 (o + 1))) (k := (B 4 i)) (B := B) (i := i) (o := (o + 1)) (l := l) sq1 (by first | assumption | omega | exact ⟨by omega, by omega⟩ | (constructor <;> omega)) (by first | assumption | omega | exact ⟨by omega, by omega⟩ | (constructor <;> omega)) (by omega) (by omega) (by first | assumption | omega | exact ⟨by omega, by omega⟩ | (constructor <;> omega)) (by first | assumption | omega | exact ⟨by omega, by omega⟩ | (constructor <;> omega))) rfl dX5_readOne_169 cv_5_84 rfl rfl ob_76 rfl (by decide) (Nat.le_of_ble_eq_true rfl) (fun r_169 m_169 hr_169 ho_169 => ?_)
                        refine go_ret (v := r_169) rfl dX5_readOne_172 (okZ (by first | exact Or.inl rfl | exact Or.inr rfl | assumption | omega)) ?_
                        rw [show oneF B 6 i o = cmpF B i (o + 1) by unfold oneF; rw [if_neg (by omega), if_neg (by omega), if_neg (by omega), if_neg (by omega), if_neg (by omega), if_pos (by omega)]]
                        exact hr_169
                      · skip
                        by_cases hk_66_7 : (B 4 i) = 224
                        · refine go_lswitch (off := 99) (tgt := 165) dX5_readOne_66 ⟨by omega, by omega⟩ (by decide) (by rw [hk_66_7] <;> rfl) (by decide) ?_
                          refine go_aload_n dX5_readOne_165 rfl ?_
                          refine go_aload_n dX5_readOne_166 rfl ?_
                          refine go_iload dX5_readOne_167 rfl ?_
                          refine go_callV_z (as := [vr 1, vi (B 4 i)]) (S := []) (b := 76) (ev_X5_readCompared (m := (wr m 76 0 (o + 1))) (k := (B 4 i)) (B := B) (i := i) (o := (o + 1)) (l := l) sq1 (by first | assumption | omega | exact ⟨by omega, by omega⟩ | (constructor <;> omega)) (by first | assumption | omega | exact ⟨by omega, by omega⟩ | (constructor <;> omega)) (by omega) (by omega) (by first | assumption | omega | exact ⟨by omega, by omega⟩ | (constructor <;> omega)) (by first | assumption | omega | exact ⟨by omega, by omega⟩ | (constructor <;> omega))) rfl dX5_readOne_169 cv_5_84 rfl rfl ob_76 rfl (by decide) (Nat.le_of_ble_eq_true rfl) (fun r_169 m_169 hr_169 ho_169 => ?_)
                          refine go_ret (v := r_169) rfl dX5_readOne_172 (okZ (by first | exact Or.inl rfl | exact Or.inr rfl | assumption | omega)) ?_
                          rw [show oneF B 6 i o = cmpF B i (o + 1) by unfold oneF; rw [if_neg (by omega), if_neg (by omega), if_neg (by omega), if_neg (by omega), if_neg (by omega), if_pos (by omega)]]
                          exact hr_169
                        · skip
                          refine go_lswitch (off := 107) (tgt := 173) dX5_readOne_66 ⟨by omega, by omega⟩ (by decide) (by simp [Op.lookupswitch.offset, hk_66_0, show ¬ (40 : Int) = (B 4 i) from fun z => hk_66_0 z.symm, hk_66_1, show ¬ (215 : Int) = (B 4 i) from fun z => hk_66_1 z.symm, hk_66_2, show ¬ (219 : Int) = (B 4 i) from fun z => hk_66_2 z.symm, hk_66_3, show ¬ (220 : Int) = (B 4 i) from fun z => hk_66_3 z.symm, hk_66_4, show ¬ (221 : Int) = (B 4 i) from fun z => hk_66_4 z.symm, hk_66_5, show ¬ (222 : Int) = (B 4 i) from fun z => hk_66_5 z.symm, hk_66_6, show ¬ (223 : Int) = (B 4 i) from fun z => hk_66_6 z.symm, hk_66_7, show ¬ (224 : Int) = (B 4 i) from fun z => hk_66_7 z.symm]) (by decide) ?_
                          refine go_aload_n dX5_readOne_173 rfl ?_
                          refine go_iload dX5_readOne_174 rfl ?_
                          refine go_iconst dX5_readOne_176 ?_
                          refine go_iconst dX5_readOne_177 ?_
                          refine go_callV_v (as := [vi (B 4 i), vi 0, vi 0]) (S := []) (b := 76) (ev_X5_add (m := (wr m 76 0 (o + 1))) (k := (B 4 i)) (g := 0) (v := 0) (by first | assumption | omega | exact ⟨by omega, by omega⟩ | (constructor <;> omega)) (by first | assumption | omega | exact ⟨by omega, by omega⟩ | (constructor <;> omega)) (by first | assumption | omega | exact ⟨by omega, by omega⟩ | (constructor <;> omega)) (by rw [sq1.2.2.2.1]; omega)) rfl dX5_readOne_178 cv_5_64 rfl rfl ob_76 rfl (by decide) (Nat.le_of_ble_eq_true rfl) (fun m_178 hr_178 => ?_)
                          have sq3 := sq1.add (k := B 4 i) (g := 0) (v := 0)
                          subst hr_178
                          refine go_aload_n dX5_readOne_181 rfl ?_
                          refine go_callV_v (as := []) (S := []) (b := 1) (ev_X7_next (m := (addM (wr m 76 0 (o + 1)) (B 4 i) 0 0))  (by rw [sq3.1.1, sq3.1.2.1]; have h := hk.lt sq3.2.1.2 (by omega); have h2 := sq3.2.1; omega)) rfl dX5_readOne_182 cv_5_47 rfl rfl ob_1 rfl (by decide) (Nat.le_of_ble_eq_true rfl) (fun m_182 hr_182 => ?_)
                          have sq4 := sq3.nx hk (by omega)
                          subst hr_182
                          refine go_iconst dX5_readOne_185 ?_
                          refine go_ret (v := 1) rfl dX5_readOne_186 (okZ (by first | exact Or.inl rfl | exact Or.inr rfl | assumption | omega)) ?_
                          rw [show oneF B 6 i o = (0, i + 1, o + 1, [(B 4 i, 0, 0)]) by unfold oneF; rw [if_neg (by omega), if_neg (by omega), if_neg (by omega), if_neg (by omega), if_neg (by omega), if_neg (by omega)]]
                          exact Or.inl ⟨rfl, rfl, sq4⟩
        · exfalso; omega
    · refine go_aload_n dX5_readOne_27 rfl ?_
      refine go_iconst dX5_readOne_28 ?_
      refine go_callV_z (as := [vi 1]) (S := []) (b := 1) (ev_X7_refuse (m := m) (k := 1) (by first | assumption | omega | exact ⟨by omega, by omega⟩ | (constructor <;> omega))) rfl dX5_readOne_29 cv_5_57 rfl rfl ob_1 rfl (by decide) (Nat.le_of_ble_eq_true rfl) (fun r_29 m_29 hr_29 ho_29 => ?_)
      refine go_ret (v := r_29) rfl dX5_readOne_32 (okZ (by first | exact Or.inl rfl | exact Or.inr rfl | assumption | omega)) ?_
      rw [hr_29.2, show oneF B 6 i o = (1, i, o, []) by unfold oneF; rw [if_pos (by omega)]]
      exact Or.inr ⟨by omega, (show (1 : Int) ≠ 0 by decide), hsq.ref⟩
set_option maxRecDepth 4000 in
theorem ev_X5_all6 {m : Mem} {B : Mem} {i : Int} {o : Int} {l : List Cd} {k : Int} (hsq : SQ B m i o l) (hk : TkS B) (hdb : DnOk B 8) (ho : 0 ≤ o ∧ o ≤ 20) (hl : (l.length : Int) ≤ 2 * o) (hd : k = 3) : Ev 0 41 mX5_readAll [vr 76, vr 1, vr 8, vi k] m (fun r m' => QP B r m' l (seqF (B 4) 214 (oneF B 6) i o)) := by
  refine Ev.of (L := [vr 76, vr 1, vr 8, vi k, un]) (by decide +kernel) rfl (Nat.le_of_ble_eq_true rfl) rfl (fun t ht => by cases ht; first | exact Or.inl rfl | exact Or.inr (Or.inl rfl) | exact Or.inr (Or.inr rfl)) (fun hcan => ?_)
  have hi := hsq.2.1
  have hkb := hk.1
  have h0 := hsq.2.2.1
  have h1 := hsq.2.2.2.1
  have e12 := hsq.1.1
  have e11 := hsq.1.2.1
  have hPB : PB (oneF B 6) := (oneF_b B 6)
  refine go_aload_n dX5_readAll_0 rfl ?_
  refine go_aload_n dX5_readAll_1 rfl ?_
  refine go_aload_n dX5_readAll_2 rfl ?_
  refine go_iload_n dX5_readAll_3 rfl ?_
  refine go_callV_z (as := [vr 1, vr 8, vi k]) (S := []) (b := 76) (ev_X5_one6 (m := m) (k := k) (B := B) (i := i) (o := o) (l := l) hsq (by first | assumption | omega | exact ⟨by omega, by omega⟩ | (constructor <;> omega)) (by first | assumption | omega | exact ⟨by omega, by omega⟩ | (constructor <;> omega)) (by first | assumption | omega | exact ⟨by omega, by omega⟩ | (constructor <;> omega)) (by first | assumption | omega | exact ⟨by omega, by omega⟩ | (constructor <;> omega)) (by first | assumption | omega | exact ⟨by omega, by omega⟩ | (constructor <;> omega))) rfl dX5_readAll_4 cv_5_68 rfl rfl ob_76 rfl (by decide) (Nat.le_of_ble_eq_true rfl) (fun r_4 m_4 hr_4 ho_4 => ?_)
  refine go_if_ne (tgt := 12) dX5_readAll_7 (by decide) ⟨by omega, by omega⟩ (fun h_7 => ?_) (fun h_7 => ?_)
  · obtain ⟨-, x1, x2⟩ := hr_4.resolve_right (fun h => h_7 h.1)
    have hR1 := hPB i o (by omega) (by omega) x1
    refine go_iconst dX5_readAll_12 ?_
    refine go_istore (L' := [vr 76, vr 1, vr 8, vi k, vi 0]) dX5_readAll_13 (by decide) rfl rfl ?_
    have lp_15 : ∀ (n_15 : Nat) (m1 : Mem) (j : Int) (a : Rs) (f : Nat), (a.1 = 0) → (SQ B m1 a.2.1 a.2.2.1 (l ++ a.2.2.2)) → (seqL (B 4) 214 (oneF B 6) f a = seqL (B 4) 214 (oneF B 6) 21 ((oneF B 6) i o)) → (0 ≤ j ∧ j + (f : Int) = 21) → ((o + 1 + j ≤ a.2.2.1 ∧ a.2.2.1 ≤ 20) ∧ (a.2.2.2.length : Int) + 1 ≤ 2 * (a.2.2.1 - o)) → f < n_15 → Go 0 41 mX5_readAll (fun r m' => QP B r m' l (seqF (B 4) 214 (oneF B 6) i o)) 15 [vr 76, vr 1, vr 8, vi k, vi j] [] m1 := by
      intro n_15
      induction n_15 with
      | zero => intro m1 j a f ha0 hs1 hsl hj hab hmu; exact absurd hmu (Nat.not_lt_zero _)
      | succ n_15 ih_15 =>
        intro m1 j a f ha0 hs1 hsl hj hab hmu
        obtain ⟨hab1, hab2⟩ := hab
        have hsu : seqL (B 4) 214 (oneF B 6) f a = if B 4 a.2.1 = 214 then (if ((oneF B 6) (a.2.1 + 1) a.2.2.1).1 ≠ 0 then ((oneF B 6) (a.2.1 + 1) a.2.2.1) else seqL (B 4) 214 (oneF B 6) (f - 1) (0, ((oneF B 6) (a.2.1 + 1) a.2.2.1).2.1, ((oneF B 6) (a.2.1 + 1) a.2.2.1).2.2.1, a.2.2.2 ++ ((oneF B 6) (a.2.1 + 1) a.2.2.1).2.2.2 ++ [(214, 0, 0)])) else a := by
          obtain ⟨g, rfl⟩ : ∃ g, f = g + 1 := ⟨f - 1, by omega⟩
          rfl
        refine go_iload dX5_readAll_15 rfl ?_
        refine go_bipush dX5_readAll_17 (by decide) ?_
        refine go_icmp_ge (tgt := 63) dX5_readAll_19 (by decide) ⟨by omega, by omega⟩ ⟨by omega, by omega⟩ (fun h_19 => ?_) (fun h_19 => ?_)
        · exfalso; omega
        · refine go_aload_n dX5_readAll_22 rfl ?_
          refine go_getf_i (ki := 2) dX5_readAll_23 fl_5_54 ob_1 rfl rfl (fun hf_23 => ?_)
          rw [show (m1 1 2 : Int) = (B 4 a.2.1) from hs1.kd] at hf_23 ⊢
          refine go_sipush dX5_readAll_26 (by decide) ?_
          refine go_icmp_ne (tgt := 63) dX5_readAll_29 (by decide) hf_23 ⟨by omega, by omega⟩ (fun h_29 => ?_) (fun h_29 => ?_)
          · refine go_iconst dX5_readAll_63 ?_
            refine go_ret (v := 1) rfl dX5_readAll_64 (okZ (by first | exact Or.inl rfl | exact Or.inr rfl | assumption | omega)) ?_
            rw [seqF_e (B 4) 214, if_neg (fun z => z x1), ← hsl, hsu, if_neg (by omega)]
            exact Or.inl ⟨rfl, ha0, hs1⟩
          · refine go_aload_n dX5_readAll_32 rfl ?_
            refine go_callV_v (as := []) (S := []) (b := 1) (ev_X7_next (m := m1)  (by rw [hs1.1.1, hs1.1.2.1]; have h := hs1.2.1; have := hk.lt h.2 (by omega); omega)) rfl dX5_readAll_33 cv_5_47 rfl rfl ob_1 rfl (by decide) (Nat.le_of_ble_eq_true rfl) (fun m_33 hr_33 => ?_)
            have sq1 := hs1.nx hk (by omega)
            subst hr_33
            refine go_aload_n dX5_readAll_36 rfl ?_
            refine go_aload_n dX5_readAll_37 rfl ?_
            refine go_aload_n dX5_readAll_38 rfl ?_
            refine go_iload_n dX5_readAll_39 rfl ?_
            refine go_callV_z (as := [vr 1, vr 8, vi k]) (S := []) (b := 76) (ev_X5_one6 (m := (nxt m1)) (k := k) (B := B) (i := (a.2.1 + 1)) (o := a.2.2.1) (l := (l ++ a.2.2.2)) sq1 (by first | assumption | omega | exact ⟨by omega, by omega⟩ | (constructor <;> omega)) (by first | assumption | omega | exact ⟨by omega, by omega⟩ | (constructor <;> omega)) (by omega) (by simp only [List.length_append]; omega) (by first | assumption | omega | exact ⟨by omega, by omega⟩ | (constructor <;> omega))) rfl dX5_readAll_40 cv_5_68 rfl rfl ob_76 rfl (by decide) (Nat.le_of_ble_eq_true rfl) (fun r_40 m_40 hr_40 ho_40 => ?_)
            refine go_if_ne (tgt := 48) dX5_readAll_43 (by decide) ⟨by omega, by omega⟩ (fun h_43 => ?_) (fun h_43 => ?_)
            · obtain ⟨-, x1, x2⟩ := hr_40.resolve_right (fun h => h_43 h.1)
              have hR2 := hPB (a.2.1 + 1) a.2.2.1 (by omega) (by omega) x1
              refine go_aload_n dX5_readAll_48 rfl ?_
              refine go_sipush dX5_readAll_49 (by decide) ?_
              refine go_iconst dX5_readAll_52 ?_
              refine go_iconst dX5_readAll_53 ?_
              refine go_callV_v (as := [vi 214, vi 0, vi 0]) (S := []) (b := 76) (ev_X5_add (m := m_40) (k := 214) (g := 0) (v := 0) (by first | assumption | omega | exact ⟨by omega, by omega⟩ | (constructor <;> omega)) (by first | assumption | omega | exact ⟨by omega, by omega⟩ | (constructor <;> omega)) (by first | assumption | omega | exact ⟨by omega, by omega⟩ | (constructor <;> omega)) (by rw [x2.2.2.2.1]; simp only [List.length_append]; omega)) rfl dX5_readAll_54 cv_5_64 rfl rfl ob_76 rfl (by decide) (Nat.le_of_ble_eq_true rfl) (fun m_54 hr_54 => ?_)
              have sq3 := x2.add (k := 214) (g := 0) (v := 0)
              subst hr_54
              refine go_iinc (L' := [vr 76, vr 1, vr 8, vi k, vi (j + 1)]) dX5_readAll_57 rfl (by decide) rfl rfl ?_
              refine go_goto (tgt := 15) dX5_readAll_60 (by decide) ?_
              exact ih_15 (addM m_40 214 0 0) (j + 1) (0, ((oneF B 6) (a.2.1 + 1) a.2.2.1).2.1, ((oneF B 6) (a.2.1 + 1) a.2.2.1).2.2.1, a.2.2.2 ++ ((oneF B 6) (a.2.1 + 1) a.2.2.1).2.2.2 ++ [(214, 0, 0)]) (f - 1) rfl (by show SQ B _ _ _ (l ++ (a.2.2.2 ++ _ ++ _)); rw [← List.append_assoc, ← List.append_assoc]; exact sq3) (by rw [← hsl, hsu, if_pos (by omega), if_neg (fun z => z x1)]) (by first | assumption | omega | rfl) (by
                    refine ⟨⟨?_, ?_⟩, ?_⟩
                    · show o + 1 + (j + 1) ≤ ((oneF B 6) (a.2.1 + 1) a.2.2.1).2.2.1; omega
                    · show ((oneF B 6) (a.2.1 + 1) a.2.2.1).2.2.1 ≤ 20; omega
                    · show ((a.2.2.2 ++ ((oneF B 6) (a.2.1 + 1) a.2.2.1).2.2.2 ++ [(214, 0, 0)] : List Cd).length : Int) + 1 ≤ 2 * (((oneF B 6) (a.2.1 + 1) a.2.2.1).2.2.1 - o)
                      simp only [List.length_append, List.length_singleton]
                      omega) (by omega)
            · refine go_iconst dX5_readAll_46 ?_
              refine go_ret (v := 0) rfl dX5_readAll_47 (okZ (by first | exact Or.inl rfl | exact Or.inr rfl | assumption | omega)) ?_
              obtain ⟨-, y1, y2⟩ := hr_40.resolve_left (fun h => by have := h.1; omega)
              rw [seqF_e (B 4) 214, if_neg (fun z => z x1), ← hsl, hsu, if_pos (by omega), if_pos y1]
              exact Or.inr ⟨rfl, y1, y2⟩
    exact lp_15 _ m_4 0 ((oneF B 6) i o) 21 x1 x2 rfl (by first | assumption | omega | rfl) ⟨by omega, hR1.2.2⟩ (Nat.lt_succ_self _)
  · refine go_iconst dX5_readAll_10 ?_
    refine go_ret (v := 0) rfl dX5_readAll_11 (okZ (by first | exact Or.inl rfl | exact Or.inr rfl | assumption | omega)) ?_
    obtain ⟨-, x1, x2⟩ := hr_4.resolve_left (fun h => by have := h.1; omega)
    rw [seqF_e (B 4) 214, if_pos x1]
    exact Or.inr ⟨rfl, x1, x2⟩
set_option maxRecDepth 4000 in
theorem ev_X5_con6 {m : Mem} {B : Mem} {i : Int} {o : Int} {l : List Cd} {k : Int} (hsq : SQ B m i o l) (hk : TkS B) (hdb : DnOk B 8) (ho : 0 ≤ o ∧ o ≤ 20) (hl : (l.length : Int) ≤ 2 * o) (hd : k = 3) : Ev 0 42 mX5_readCond [vr 76, vr 1, vr 8, vi k] m (fun r m' => QP B r m' l (seqF (B 4) 213 (seqF (B 4) 214 (oneF B 6)) i o)) := by
  refine Ev.of (L := [vr 76, vr 1, vr 8, vi k, un]) (by decide +kernel) rfl (Nat.le_of_ble_eq_true rfl) rfl (fun t ht => by cases ht; first | exact Or.inl rfl | exact Or.inr (Or.inl rfl) | exact Or.inr (Or.inr rfl)) (fun hcan => ?_)
  have hi := hsq.2.1
  have hkb := hk.1
  have h0 := hsq.2.2.1
  have h1 := hsq.2.2.2.1
  have e12 := hsq.1.1
  have e11 := hsq.1.2.1
  have hPB : PB (seqF (B 4) 214 (oneF B 6)) := (seqF_b (oneF_b B 6))
  refine go_aload_n dX5_readCond_0 rfl ?_
  refine go_aload_n dX5_readCond_1 rfl ?_
  refine go_aload_n dX5_readCond_2 rfl ?_
  refine go_iload_n dX5_readCond_3 rfl ?_
  refine go_callV_z (as := [vr 1, vr 8, vi k]) (S := []) (b := 76) (ev_X5_all6 (m := m) (k := k) (B := B) (i := i) (o := o) (l := l) hsq (by first | assumption | omega | exact ⟨by omega, by omega⟩ | (constructor <;> omega)) (by first | assumption | omega | exact ⟨by omega, by omega⟩ | (constructor <;> omega)) (by first | assumption | omega | exact ⟨by omega, by omega⟩ | (constructor <;> omega)) (by first | assumption | omega | exact ⟨by omega, by omega⟩ | (constructor <;> omega)) (by first | assumption | omega | exact ⟨by omega, by omega⟩ | (constructor <;> omega))) rfl dX5_readCond_4 cv_5_61 rfl rfl ob_76 rfl (by decide) (Nat.le_of_ble_eq_true rfl) (fun r_4 m_4 hr_4 ho_4 => ?_)
  refine go_if_ne (tgt := 12) dX5_readCond_7 (by decide) ⟨by omega, by omega⟩ (fun h_7 => ?_) (fun h_7 => ?_)
  · obtain ⟨-, x1, x2⟩ := hr_4.resolve_right (fun h => h_7 h.1)
    have hR1 := hPB i o (by omega) (by omega) x1
    refine go_iconst dX5_readCond_12 ?_
    refine go_istore (L' := [vr 76, vr 1, vr 8, vi k, vi 0]) dX5_readCond_13 (by decide) rfl rfl ?_
    have lp_15 : ∀ (n_15 : Nat) (m1 : Mem) (j : Int) (a : Rs) (f : Nat), (a.1 = 0) → (SQ B m1 a.2.1 a.2.2.1 (l ++ a.2.2.2)) → (seqL (B 4) 213 (seqF (B 4) 214 (oneF B 6)) f a = seqL (B 4) 213 (seqF (B 4) 214 (oneF B 6)) 21 ((seqF (B 4) 214 (oneF B 6)) i o)) → (0 ≤ j ∧ j + (f : Int) = 21) → ((o + 1 + j ≤ a.2.2.1 ∧ a.2.2.1 ≤ 20) ∧ (a.2.2.2.length : Int) + 1 ≤ 2 * (a.2.2.1 - o)) → f < n_15 → Go 0 42 mX5_readCond (fun r m' => QP B r m' l (seqF (B 4) 213 (seqF (B 4) 214 (oneF B 6)) i o)) 15 [vr 76, vr 1, vr 8, vi k, vi j] [] m1 := by
      intro n_15
      induction n_15 with
      | zero => intro m1 j a f ha0 hs1 hsl hj hab hmu; exact absurd hmu (Nat.not_lt_zero _)
      | succ n_15 ih_15 =>
        intro m1 j a f ha0 hs1 hsl hj hab hmu
        obtain ⟨hab1, hab2⟩ := hab
        have hsu : seqL (B 4) 213 (seqF (B 4) 214 (oneF B 6)) f a = if B 4 a.2.1 = 213 then (if ((seqF (B 4) 214 (oneF B 6)) (a.2.1 + 1) a.2.2.1).1 ≠ 0 then ((seqF (B 4) 214 (oneF B 6)) (a.2.1 + 1) a.2.2.1) else seqL (B 4) 213 (seqF (B 4) 214 (oneF B 6)) (f - 1) (0, ((seqF (B 4) 214 (oneF B 6)) (a.2.1 + 1) a.2.2.1).2.1, ((seqF (B 4) 214 (oneF B 6)) (a.2.1 + 1) a.2.2.1).2.2.1, a.2.2.2 ++ ((seqF (B 4) 214 (oneF B 6)) (a.2.1 + 1) a.2.2.1).2.2.2 ++ [(213, 0, 0)])) else a := by
          obtain ⟨g, rfl⟩ : ∃ g, f = g + 1 := ⟨f - 1, by omega⟩
          rfl
        refine go_iload dX5_readCond_15 rfl ?_
        refine go_bipush dX5_readCond_17 (by decide) ?_
        refine go_icmp_ge (tgt := 63) dX5_readCond_19 (by decide) ⟨by omega, by omega⟩ ⟨by omega, by omega⟩ (fun h_19 => ?_) (fun h_19 => ?_)
        · exfalso; omega
        · refine go_aload_n dX5_readCond_22 rfl ?_
          refine go_getf_i (ki := 2) dX5_readCond_23 fl_5_54 ob_1 rfl rfl (fun hf_23 => ?_)
          rw [show (m1 1 2 : Int) = (B 4 a.2.1) from hs1.kd] at hf_23 ⊢
          refine go_sipush dX5_readCond_26 (by decide) ?_
          refine go_icmp_ne (tgt := 63) dX5_readCond_29 (by decide) hf_23 ⟨by omega, by omega⟩ (fun h_29 => ?_) (fun h_29 => ?_)
          · refine go_iconst dX5_readCond_63 ?_
            refine go_ret (v := 1) rfl dX5_readCond_64 (okZ (by first | exact Or.inl rfl | exact Or.inr rfl | assumption | omega)) ?_
            rw [seqF_e (B 4) 213, if_neg (fun z => z x1), ← hsl, hsu, if_neg (by omega)]
            exact Or.inl ⟨rfl, ha0, hs1⟩
          · refine go_aload_n dX5_readCond_32 rfl ?_
            refine go_callV_v (as := []) (S := []) (b := 1) (ev_X7_next (m := m1)  (by rw [hs1.1.1, hs1.1.2.1]; have h := hs1.2.1; have := hk.lt h.2 (by omega); omega)) rfl dX5_readCond_33 cv_5_47 rfl rfl ob_1 rfl (by decide) (Nat.le_of_ble_eq_true rfl) (fun m_33 hr_33 => ?_)
            have sq1 := hs1.nx hk (by omega)
            subst hr_33
            refine go_aload_n dX5_readCond_36 rfl ?_
            refine go_aload_n dX5_readCond_37 rfl ?_
            refine go_aload_n dX5_readCond_38 rfl ?_
            refine go_iload_n dX5_readCond_39 rfl ?_
            refine go_callV_z (as := [vr 1, vr 8, vi k]) (S := []) (b := 76) (ev_X5_all6 (m := (nxt m1)) (k := k) (B := B) (i := (a.2.1 + 1)) (o := a.2.2.1) (l := (l ++ a.2.2.2)) sq1 (by first | assumption | omega | exact ⟨by omega, by omega⟩ | (constructor <;> omega)) (by first | assumption | omega | exact ⟨by omega, by omega⟩ | (constructor <;> omega)) (by omega) (by simp only [List.length_append]; omega) (by first | assumption | omega | exact ⟨by omega, by omega⟩ | (constructor <;> omega))) rfl dX5_readCond_40 cv_5_61 rfl rfl ob_76 rfl (by decide) (Nat.le_of_ble_eq_true rfl) (fun r_40 m_40 hr_40 ho_40 => ?_)
            refine go_if_ne (tgt := 48) dX5_readCond_43 (by decide) ⟨by omega, by omega⟩ (fun h_43 => ?_) (fun h_43 => ?_)
            · obtain ⟨-, x1, x2⟩ := hr_40.resolve_right (fun h => h_43 h.1)
              have hR2 := hPB (a.2.1 + 1) a.2.2.1 (by omega) (by omega) x1
              refine go_aload_n dX5_readCond_48 rfl ?_
              refine go_sipush dX5_readCond_49 (by decide) ?_
              refine go_iconst dX5_readCond_52 ?_
              refine go_iconst dX5_readCond_53 ?_
              refine go_callV_v (as := [vi 213, vi 0, vi 0]) (S := []) (b := 76) (ev_X5_add (m := m_40) (k := 213) (g := 0) (v := 0) (by first | assumption | omega | exact ⟨by omega, by omega⟩ | (constructor <;> omega)) (by first | assumption | omega | exact ⟨by omega, by omega⟩ | (constructor <;> omega)) (by first | assumption | omega | exact ⟨by omega, by omega⟩ | (constructor <;> omega)) (by rw [x2.2.2.2.1]; simp only [List.length_append]; omega)) rfl dX5_readCond_54 cv_5_64 rfl rfl ob_76 rfl (by decide) (Nat.le_of_ble_eq_true rfl) (fun m_54 hr_54 => ?_)
              have sq3 := x2.add (k := 213) (g := 0) (v := 0)
              subst hr_54
              refine go_iinc (L' := [vr 76, vr 1, vr 8, vi k, vi (j + 1)]) dX5_readCond_57 rfl (by decide) rfl rfl ?_
              refine go_goto (tgt := 15) dX5_readCond_60 (by decide) ?_
              exact ih_15 (addM m_40 213 0 0) (j + 1) (0, ((seqF (B 4) 214 (oneF B 6)) (a.2.1 + 1) a.2.2.1).2.1, ((seqF (B 4) 214 (oneF B 6)) (a.2.1 + 1) a.2.2.1).2.2.1, a.2.2.2 ++ ((seqF (B 4) 214 (oneF B 6)) (a.2.1 + 1) a.2.2.1).2.2.2 ++ [(213, 0, 0)]) (f - 1) rfl (by show SQ B _ _ _ (l ++ (a.2.2.2 ++ _ ++ _)); rw [← List.append_assoc, ← List.append_assoc]; exact sq3) (by rw [← hsl, hsu, if_pos (by omega), if_neg (fun z => z x1)]) (by first | assumption | omega | rfl) (by
                    refine ⟨⟨?_, ?_⟩, ?_⟩
                    · show o + 1 + (j + 1) ≤ ((seqF (B 4) 214 (oneF B 6)) (a.2.1 + 1) a.2.2.1).2.2.1; omega
                    · show ((seqF (B 4) 214 (oneF B 6)) (a.2.1 + 1) a.2.2.1).2.2.1 ≤ 20; omega
                    · show ((a.2.2.2 ++ ((seqF (B 4) 214 (oneF B 6)) (a.2.1 + 1) a.2.2.1).2.2.2 ++ [(213, 0, 0)] : List Cd).length : Int) + 1 ≤ 2 * (((seqF (B 4) 214 (oneF B 6)) (a.2.1 + 1) a.2.2.1).2.2.1 - o)
                      simp only [List.length_append, List.length_singleton]
                      omega) (by omega)
            · refine go_iconst dX5_readCond_46 ?_
              refine go_ret (v := 0) rfl dX5_readCond_47 (okZ (by first | exact Or.inl rfl | exact Or.inr rfl | assumption | omega)) ?_
              obtain ⟨-, y1, y2⟩ := hr_40.resolve_left (fun h => by have := h.1; omega)
              rw [seqF_e (B 4) 213, if_neg (fun z => z x1), ← hsl, hsu, if_pos (by omega), if_pos y1]
              exact Or.inr ⟨rfl, y1, y2⟩
    exact lp_15 _ m_4 0 ((seqF (B 4) 214 (oneF B 6)) i o) 21 x1 x2 rfl (by first | assumption | omega | rfl) ⟨by omega, hR1.2.2⟩ (Nat.lt_succ_self _)
  · refine go_iconst dX5_readCond_10 ?_
    refine go_ret (v := 0) rfl dX5_readCond_11 (okZ (by first | exact Or.inl rfl | exact Or.inr rfl | assumption | omega)) ?_
    obtain ⟨-, x1, x2⟩ := hr_4.resolve_left (fun h => by have := h.1; omega)
    rw [seqF_e (B 4) 213, if_pos x1]
    exact Or.inr ⟨rfl, x1, x2⟩
set_option maxRecDepth 4000 in
theorem ev_X5_not7 {m : Mem} {B : Mem} {i : Int} {o : Int} {l : List Cd} {k : Int} (hsq : SQ B m i o l) (hk : TkS B) (hdb : DnOk B 8) (ho : 1 ≤ o ∧ o ≤ 20) (hl : (l.length : Int) + 2 ≤ 2 * o) (hd : k = 2) (hki : B 4 i = 215) : Ev 0 44 mX5_readNot [vr 76, vr 1, vr 8, vi k] m (fun r m' => QP B r m' l (notF (oneF B 6) i o)) := by
  refine Ev.of (L := [vr 76, vr 1, vr 8, vi k]) (by decide +kernel) rfl (Nat.le_of_ble_eq_true rfl) rfl (fun t ht => by cases ht; first | exact Or.inl rfl | exact Or.inr (Or.inl rfl) | exact Or.inr (Or.inr rfl)) (fun hcan => ?_)
  have hi := hsq.2.1
  have hkb := hk.1
  have h0 := hsq.2.2.1
  have h1 := hsq.2.2.2.1
  have e12 := hsq.1.1
  have e11 := hsq.1.2.1
  have hR : RB o ((oneF B 6) (i + 1) o) := oneF_b B 6 (i + 1) o (by omega) (by omega)
  refine go_aload_n dX5_readNot_0 rfl ?_
  refine go_callV_v (as := []) (S := []) (b := 1) (ev_X7_next (m := m)  (by rw [hsq.1.1, hsq.1.2.1]; have h := hk.lt hsq.2.1.2 (by omega); have h2 := hsq.2.1; omega)) rfl dX5_readNot_1 cv_5_47 rfl rfl ob_1 rfl (by decide) (Nat.le_of_ble_eq_true rfl) (fun m_1 hr_1 => ?_)
  have sq1 := hsq.nx hk (by omega)
  subst hr_1
  refine go_aload_n dX5_readNot_4 rfl ?_
  refine go_aload_n dX5_readNot_5 rfl ?_
  refine go_aload_n dX5_readNot_6 rfl ?_
  refine go_iload_n dX5_readNot_7 rfl ?_
  refine go_iconst dX5_readNot_8 ?_
  refine go_iadd dX5_readNot_9 ?_
  refine go_callV_z (as := [vr 1, vr 8, vi (k + 1)]) (S := []) (b := 76) (ev_X5_one6 (m := (nxt m)) (k := (k + 1)) (B := B) (i := (i + 1)) (o := o) (l := l) sq1 (by first | assumption | omega | exact ⟨by omega, by omega⟩ | (constructor <;> omega)) (by first | assumption | omega | exact ⟨by omega, by omega⟩ | (constructor <;> omega)) (by first | assumption | omega | exact ⟨by omega, by omega⟩ | (constructor <;> omega)) (by omega) (by first | assumption | omega | exact ⟨by omega, by omega⟩ | (constructor <;> omega))) rfl dX5_readNot_10 cv_5_68 rfl rfl ob_76 rfl (by decide) (Nat.le_of_ble_eq_true rfl) (fun r_10 m_10 hr_10 ho_10 => ?_)
  refine go_if_ne (tgt := 18) dX5_readNot_13 (by decide) ⟨by omega, by omega⟩ (fun h_13 => ?_) (fun h_13 => ?_)
  · obtain ⟨-, x1, x2⟩ := hr_10.resolve_right (fun h => h_13 h.1)
    refine go_aload_n dX5_readNot_18 rfl ?_
    refine go_sipush dX5_readNot_19 (by decide) ?_
    refine go_iconst dX5_readNot_22 ?_
    refine go_iconst dX5_readNot_23 ?_
    refine go_callV_v (as := [vi 215, vi 0, vi 0]) (S := []) (b := 76) (ev_X5_add (m := m_10) (k := 215) (g := 0) (v := 0) (by first | assumption | omega | exact ⟨by omega, by omega⟩ | (constructor <;> omega)) (by first | assumption | omega | exact ⟨by omega, by omega⟩ | (constructor <;> omega)) (by first | assumption | omega | exact ⟨by omega, by omega⟩ | (constructor <;> omega)) (by rw [x2.2.2.2.1]; simp only [List.length_append]; have h := hR x1; omega)) rfl dX5_readNot_24 cv_5_64 rfl rfl ob_76 rfl (by decide) (Nat.le_of_ble_eq_true rfl) (fun m_24 hr_24 => ?_)
    have sq3 := x2.add (k := 215) (g := 0) (v := 0)
    subst hr_24
    refine go_iconst dX5_readNot_27 ?_
    refine go_ret (v := 1) rfl dX5_readNot_28 (okZ (by first | exact Or.inl rfl | exact Or.inr rfl | assumption | omega)) ?_
    rw [List.append_assoc] at sq3
    exact Or.inl ⟨rfl, x1, sq3⟩
  · refine go_iconst dX5_readNot_16 ?_
    refine go_ret (v := 0) rfl dX5_readNot_17 (okZ (by first | exact Or.inl rfl | exact Or.inr rfl | assumption | omega)) ?_
    obtain ⟨-, x1, x2⟩ := hr_10.resolve_left (fun h => by have := h.1; omega)
    exact Or.inr ⟨rfl, x1, x2⟩
set_option maxRecDepth 4000 in
theorem ev_X5_brk7 {m : Mem} {B : Mem} {i : Int} {o : Int} {l : List Cd} {k : Int} (hsq : SQ B m i o l) (hk : TkS B) (hdb : DnOk B 8) (ho : 1 ≤ o ∧ o ≤ 20) (hl : (l.length : Int) + 2 ≤ 2 * o) (hd : k = 2) (hki : B 4 i = 40) : Ev 0 44 mX5_readBracket [vr 76, vr 1, vr 8, vi k] m (fun r m' => QP B r m' l (brkF (B 4) (seqF (B 4) 213 (seqF (B 4) 214 (oneF B 6))) i o)) := by
  refine Ev.of (L := [vr 76, vr 1, vr 8, vi k]) (by decide +kernel) rfl (Nat.le_of_ble_eq_true rfl) rfl (fun t ht => by cases ht; first | exact Or.inl rfl | exact Or.inr (Or.inl rfl) | exact Or.inr (Or.inr rfl)) (fun hcan => ?_)
  have hi := hsq.2.1
  have hkb := hk.1
  have h0 := hsq.2.2.1
  have h1 := hsq.2.2.2.1
  have e12 := hsq.1.1
  have e11 := hsq.1.2.1
  refine go_aload_n dX5_readBracket_0 rfl ?_
  refine go_callV_v (as := []) (S := []) (b := 1) (ev_X7_next (m := m)  (by rw [hsq.1.1, hsq.1.2.1]; have h := hk.lt hsq.2.1.2 (by omega); have h2 := hsq.2.1; omega)) rfl dX5_readBracket_1 cv_5_47 rfl rfl ob_1 rfl (by decide) (Nat.le_of_ble_eq_true rfl) (fun m_1 hr_1 => ?_)
  have sq1 := hsq.nx hk (by omega)
  subst hr_1
  refine go_aload_n dX5_readBracket_4 rfl ?_
  refine go_aload_n dX5_readBracket_5 rfl ?_
  refine go_aload_n dX5_readBracket_6 rfl ?_
  refine go_iload_n dX5_readBracket_7 rfl ?_
  refine go_iconst dX5_readBracket_8 ?_
  refine go_iadd dX5_readBracket_9 ?_
  refine go_callV_z (as := [vr 1, vr 8, vi (k + 1)]) (S := []) (b := 76) (ev_X5_con6 (m := (nxt m)) (k := (k + 1)) (B := B) (i := (i + 1)) (o := o) (l := l) sq1 (by first | assumption | omega | exact ⟨by omega, by omega⟩ | (constructor <;> omega)) (by first | assumption | omega | exact ⟨by omega, by omega⟩ | (constructor <;> omega)) (by first | assumption | omega | exact ⟨by omega, by omega⟩ | (constructor <;> omega)) (by omega) (by first | assumption | omega | exact ⟨by omega, by omega⟩ | (constructor <;> omega))) rfl dX5_readBracket_10 cv_5_50 rfl rfl ob_76 rfl (by decide) (Nat.le_of_ble_eq_true rfl) (fun r_10 m_10 hr_10 ho_10 => ?_)
  obtain ⟨R, hRe⟩ : ∃ z, z = seqF (B 4) 213 (seqF (B 4) 214 (oneF B 6)) (i + 1) o := ⟨_, rfl⟩
  rw [← hRe] at hr_10
  refine go_if_ne (tgt := 18) dX5_readBracket_13 (by decide) ⟨by omega, by omega⟩ (fun h_13 => ?_) (fun h_13 => ?_)
  · obtain ⟨-, x1, x2⟩ := hr_10.resolve_right (fun h => h_13 h.1)
    refine go_aload_n dX5_readBracket_18 rfl ?_
    refine go_getf_i (ki := 2) dX5_readBracket_19 fl_5_54 ob_1 rfl rfl (fun hf_19 => ?_)
    rw [show (m_10 1 2 : Int) = (B 4 R.2.1) from x2.kd] at hf_19 ⊢
    refine go_bipush dX5_readBracket_22 (by decide) ?_
    refine go_icmp_eq (tgt := 33) dX5_readBracket_24 (by decide) ⟨by omega, by omega⟩ ⟨by omega, by omega⟩ (fun h_24 => ?_) (fun h_24 => ?_)
    · refine go_aload_n dX5_readBracket_33 rfl ?_
      refine go_callV_v (as := []) (S := []) (b := 1) (ev_X7_next (m := m_10)  (by rw [x2.1.1, x2.1.2.1]; have h := x2.2.1; have := hk.lt h.2 (by omega); omega)) rfl dX5_readBracket_34 cv_5_47 rfl rfl ob_1 rfl (by decide) (Nat.le_of_ble_eq_true rfl) (fun m_34 hr_34 => ?_)
      have sq3 := x2.nx hk (by omega)
      subst hr_34
      refine go_iconst dX5_readBracket_37 ?_
      refine go_ret (v := 1) rfl dX5_readBracket_38 (okZ (by first | exact Or.inl rfl | exact Or.inr rfl | assumption | omega)) ?_
      unfold brkF
      rw [← hRe, if_neg (fun z => z x1), if_pos (by omega)]
      exact Or.inl ⟨rfl, rfl, sq3⟩
    · refine go_aload_n dX5_readBracket_27 rfl ?_
      refine go_iconst dX5_readBracket_28 ?_
      refine go_callV_z (as := [vi 1]) (S := []) (b := 1) (ev_X7_refuse (m := m_10) (k := 1) (by first | assumption | omega | exact ⟨by omega, by omega⟩ | (constructor <;> omega))) rfl dX5_readBracket_29 cv_5_57 rfl rfl ob_1 rfl (by decide) (Nat.le_of_ble_eq_true rfl) (fun r_29 m_29 hr_29 ho_29 => ?_)
      refine go_ret (v := r_29) rfl dX5_readBracket_32 (okZ (by first | exact Or.inl rfl | exact Or.inr rfl | assumption | omega)) ?_
      unfold brkF
      rw [← hRe, if_neg (fun z => z x1), if_neg (by omega), hr_29.2]
      exact Or.inr ⟨by omega, (show (1 : Int) ≠ 0 by decide), x2.ref⟩
  · refine go_iconst dX5_readBracket_16 ?_
    refine go_ret (v := 0) rfl dX5_readBracket_17 (okZ (by first | exact Or.inl rfl | exact Or.inr rfl | assumption | omega)) ?_
    obtain ⟨-, x1, x2⟩ := hr_10.resolve_left (fun h => by have := h.1; omega)
    unfold brkF
    rw [← hRe, if_pos x1]
    exact Or.inr ⟨rfl, x1, x2⟩
set_option maxRecDepth 4000 in
theorem ev_X5_one7 {m : Mem} {B : Mem} {i : Int} {o : Int} {l : List Cd} {k : Int} (hsq : SQ B m i o l) (hk : TkS B) (hdb : DnOk B 8) (ho : 0 ≤ o ∧ o ≤ 20) (hl : (l.length : Int) ≤ 2 * o) (hd : k = 2) : Ev 0 45 mX5_readOne [vr 76, vr 1, vr 8, vi k] m (fun r m' => QP B r m' l (oneF B 7 i o)) := by
  refine Ev.of (L := [vr 76, vr 1, vr 8, vi k, un]) (by decide +kernel) rfl (Nat.le_of_ble_eq_true rfl) rfl (fun t ht => by cases ht; first | exact Or.inl rfl | exact Or.inr (Or.inl rfl) | exact Or.inr (Or.inr rfl)) (fun hcan => ?_)
  have hi := hsq.2.1
  have hkb := hk.1
  have h0 := hsq.2.2.1
  have h1 := hsq.2.2.2.1
  have e12 := hsq.1.1
  have e11 := hsq.1.2.1
  refine go_aload_n dX5_readOne_0 rfl ?_
  refine go_getf_i (ki := 2) dX5_readOne_1 fl_5_54 ob_1 rfl rfl (fun hf_1 => ?_)
  rw [show (m 1 2 : Int) = (B 4 i) from hsq.kd] at hf_1 ⊢
  refine go_istore (L' := [vr 76, vr 1, vr 8, vi k, vi (B 4 i)]) dX5_readOne_4 (by decide) rfl rfl ?_
  refine go_iload dX5_readOne_6 rfl ?_
  refine go_bipush dX5_readOne_8 (by decide) ?_
  refine go_icmp_eq (tgt := 33) dX5_readOne_10 (by decide) ⟨by omega, by omega⟩ ⟨by omega, by omega⟩ (fun h_10 => ?_) (fun h_10 => ?_)
  · refine go_aload_n dX5_readOne_33 rfl ?_
    refine go_getf_i (ki := 0) dX5_readOne_34 fl_5_9 ob_76 rfl rfl (fun hf_34 => ?_)
    rw [show (m 76 0 : Int) = o from h0] at hf_34 ⊢
    refine go_bipush dX5_readOne_37 (by decide) ?_
    refine go_icmp_ge (tgt := 48) dX5_readOne_39 (by decide) ⟨by omega, by omega⟩ ⟨by omega, by omega⟩ (fun h_39 => ?_) (fun h_39 => ?_)
    · refine go_aload_n dX5_readOne_48 rfl ?_
      refine go_iconst dX5_readOne_49 ?_
      refine go_callV_z (as := [vi 4]) (S := []) (b := 1) (ev_X7_refuse (m := m) (k := 4) (by first | assumption | omega | exact ⟨by omega, by omega⟩ | (constructor <;> omega))) rfl dX5_readOne_50 cv_5_57 rfl rfl ob_1 rfl (by decide) (Nat.le_of_ble_eq_true rfl) (fun r_50 m_50 hr_50 ho_50 => ?_)
      refine go_ret (v := r_50) rfl dX5_readOne_53 (okZ (by first | exact Or.inl rfl | exact Or.inr rfl | assumption | omega)) ?_
      rw [hr_50.2, show oneF B 7 i o = (4, i, o, []) by unfold oneF; rw [if_neg (by omega), if_pos (by omega)]]
      exact Or.inr ⟨by omega, (show (4 : Int) ≠ 0 by decide), hsq.ref⟩
    · refine go_iload_n dX5_readOne_42 rfl ?_
      refine go_bipush dX5_readOne_43 (by decide) ?_
      refine go_icmp_le (tgt := 54) dX5_readOne_45 (by decide) ⟨by omega, by omega⟩ ⟨by omega, by omega⟩ (fun h_45 => ?_) (fun h_45 => ?_)
      · refine go_aload_n dX5_readOne_54 rfl ?_
        refine go_dup_r dX5_readOne_55 ?_
        refine go_getf_i (ki := 0) dX5_readOne_56 fl_5_9 ob_76 rfl rfl (fun hf_56 => ?_)
        rw [show (m 76 0 : Int) = o from h0] at hf_56 ⊢
        refine go_iconst dX5_readOne_59 ?_
        refine go_iadd dX5_readOne_60 ?_
        refine go_putf_i (ki := 0) dX5_readOne_61 fw_5_9 ob_76 rfl rfl ⟨by omega, by omega⟩ ?_
        have sq1 := hsq.one (x := o + 1)
        refine go_iload dX5_readOne_64 rfl ?_
        by_cases hk_66_0 : (B 4 i) = 40
        · refine go_lswitch (off := 82) (tgt := 148) dX5_readOne_66 ⟨by omega, by omega⟩ (by decide) (by rw [hk_66_0] <;> rfl) (by decide) ?_
          refine go_aload_n dX5_readOne_148 rfl ?_
          refine go_aload_n dX5_readOne_149 rfl ?_
          refine go_aload_n dX5_readOne_150 rfl ?_
          refine go_iload_n dX5_readOne_151 rfl ?_
          refine go_callV_z (as := [vr 1, vr 8, vi k]) (S := []) (b := 76) (ev_X5_brk7 (m := (wr m 76 0 (o + 1))) (k := k) (B := B) (i := i) (o := (o + 1)) (l := l) sq1 (by first | assumption | omega | exact ⟨by omega, by omega⟩ | (constructor <;> omega)) (by first | assumption | omega | exact ⟨by omega, by omega⟩ | (constructor <;> omega)) (by omega) (by omega) (by first | assumption | omega | exact ⟨by omega, by omega⟩ | (constructor <;> omega)) (by first | assumption | omega | exact ⟨by omega, by omega⟩ | (constructor <;> omega))) rfl dX5_readOne_152 cv_5_78 rfl rfl ob_76 rfl (by decide) (Nat.le_of_ble_eq_true rfl) (fun r_152 m_152 hr_152 ho_152 => ?_)
          refine go_ret (v := r_152) rfl dX5_readOne_155 (okZ (by first | exact Or.inl rfl | exact Or.inr rfl | assumption | omega)) ?_
          rw [show oneF B 7 i o = brkF (B 4) (seqF (B 4) 213 (seqF (B 4) 214 (oneF B 6))) i (o + 1) by unfold oneF; rw [if_neg (by omega), if_neg (by omega), if_neg (by omega), if_pos (by omega)]]
          exact hr_152
        · skip
          by_cases hk_66_1 : (B 4 i) = 215
          · refine go_lswitch (off := 74) (tgt := 140) dX5_readOne_66 ⟨by omega, by omega⟩ (by decide) (by rw [hk_66_1] <;> rfl) (by decide) ?_
            refine go_aload_n dX5_readOne_140 rfl ?_
            refine go_aload_n dX5_readOne_141 rfl ?_
            refine go_aload_n dX5_readOne_142 rfl ?_
            refine go_iload_n dX5_readOne_143 rfl ?_
            refine go_callV_z (as := [vr 1, vr 8, vi k]) (S := []) (b := 76) (ev_X5_not7 (m := (wr m 76 0 (o + 1))) (k := k) (B := B) (i := i) (o := (o + 1)) (l := l) sq1 (by first | assumption | omega | exact ⟨by omega, by omega⟩ | (constructor <;> omega)) (by first | assumption | omega | exact ⟨by omega, by omega⟩ | (constructor <;> omega)) (by omega) (by omega) (by first | assumption | omega | exact ⟨by omega, by omega⟩ | (constructor <;> omega)) (by first | assumption | omega | exact ⟨by omega, by omega⟩ | (constructor <;> omega))) rfl dX5_readOne_144 cv_5_75 rfl rfl ob_76 rfl (by decide) (Nat.le_of_ble_eq_true rfl) (fun r_144 m_144 hr_144 ho_144 => ?_)
            refine go_ret (v := r_144) rfl dX5_readOne_147 (okZ (by first | exact Or.inl rfl | exact Or.inr rfl | assumption | omega)) ?_
            rw [show oneF B 7 i o = notF (oneF B 6) i (o + 1) by unfold oneF; rw [if_neg (by omega), if_neg (by omega), if_pos (by omega)]]
            exact hr_144
          · skip
            by_cases hk_66_2 : (B 4 i) = 219
            · refine go_lswitch (off := 90) (tgt := 156) dX5_readOne_66 ⟨by omega, by omega⟩ (by decide) (by rw [hk_66_2] <;> rfl) (by decide) ?_
              refine go_aload_n dX5_readOne_156 rfl ?_
              refine go_aload_n dX5_readOne_157 rfl ?_
              refine go_aload_n dX5_readOne_158 rfl ?_
              refine go_iload dX5_readOne_159 rfl ?_
              refine go_callV_z (as := [vr 1, vr 8, vi (B 4 i)]) (S := []) (b := 76) (ev_X5_readNamed (m := (wr m 76 0 (o + 1))) (k := (B 4 i)) (B := B) (i := i) (o := (o + 1)) (l := l) sq1 (by first | assumption | omega | exact ⟨by omega, by omega⟩ | (constructor <;> omega)) (by first | assumption | omega | exact ⟨by omega, by omega⟩ | (constructor <;> omega)) (by omega) (by omega) (by first | assumption | omega | exact ⟨by omega, by omega⟩ | (constructor <;> omega)) (by first | assumption | omega | exact ⟨by omega, by omega⟩ | (constructor <;> omega))) rfl dX5_readOne_161 cv_5_81 rfl rfl ob_76 rfl (by decide) (Nat.le_of_ble_eq_true rfl) (fun r_161 m_161 hr_161 ho_161 => ?_)
              refine go_ret (v := r_161) rfl dX5_readOne_164 (okZ (by first | exact Or.inl rfl | exact Or.inr rfl | assumption | omega)) ?_
              rw [show oneF B 7 i o = namF B i (o + 1) by unfold oneF; rw [if_neg (by omega), if_neg (by omega), if_neg (by omega), if_neg (by omega), if_pos (by omega)]]
              exact hr_161
            · skip
              by_cases hk_66_3 : (B 4 i) = 220
              · refine go_lswitch (off := 90) (tgt := 156) dX5_readOne_66 ⟨by omega, by omega⟩ (by decide) (by rw [hk_66_3] <;> rfl) (by decide) ?_
                refine go_aload_n dX5_readOne_156 rfl ?_
                refine go_aload_n dX5_readOne_157 rfl ?_
                refine go_aload_n dX5_readOne_158 rfl ?_
                refine go_iload dX5_readOne_159 rfl ?_
                refine go_callV_z (as := [vr 1, vr 8, vi (B 4 i)]) (S := []) (b := 76) (ev_X5_readNamed (m := (wr m 76 0 (o + 1))) (k := (B 4 i)) (B := B) (i := i) (o := (o + 1)) (l := l) sq1 (by first | assumption | omega | exact ⟨by omega, by omega⟩ | (constructor <;> omega)) (by first | assumption | omega | exact ⟨by omega, by omega⟩ | (constructor <;> omega)) (by omega) (by omega) (by first | assumption | omega | exact ⟨by omega, by omega⟩ | (constructor <;> omega)) (by first | assumption | omega | exact ⟨by omega, by omega⟩ | (constructor <;> omega))) rfl dX5_readOne_161 cv_5_81 rfl rfl ob_76 rfl (by decide) (Nat.le_of_ble_eq_true rfl) (fun r_161 m_161 hr_161 ho_161 => ?_)
                refine go_ret (v := r_161) rfl dX5_readOne_164 (okZ (by first | exact Or.inl rfl | exact Or.inr rfl | assumption | omega)) ?_
                rw [show oneF B 7 i o = namF B i (o + 1) by unfold oneF; rw [if_neg (by omega), if_neg (by omega), if_neg (by omega), if_neg (by omega), if_pos (by omega)]]
                exact hr_161
              · skip
                by_cases hk_66_4 : (B 4 i) = 221
                · refine go_lswitch (off := 99) (tgt := 165) dX5_readOne_66 ⟨by omega, by omega⟩ (by decide) (by rw [hk_66_4] <;> rfl) (by decide) ?_
                  refine go_aload_n dX5_readOne_165 rfl ?_
                  refine go_aload_n dX5_readOne_166 rfl ?_
                  refine go_iload dX5_readOne_167 rfl ?_
                  refine go_callV_z (as := [vr 1, vi (B 4 i)]) (S := []) (b := 76) (ev_X5_readCompared (m := (wr m 76 0 (o + 1))) (k := (B 4 i)) (B := B) (i := i) (o := (o + 1)) (l := l) sq1 (by first | assumption | omega | exact ⟨by omega, by omega⟩ | (constructor <;> omega)) (by first | assumption | omega | exact ⟨by omega, by omega⟩ | (constructor <;> omega)) (by omega) (by omega) (by first | assumption | omega | exact ⟨by omega, by omega⟩ | (constructor <;> omega)) (by first | assumption | omega | exact ⟨by omega, by omega⟩ | (constructor <;> omega))) rfl dX5_readOne_169 cv_5_84 rfl rfl ob_76 rfl (by decide) (Nat.le_of_ble_eq_true rfl) (fun r_169 m_169 hr_169 ho_169 => ?_)
                  refine go_ret (v := r_169) rfl dX5_readOne_172 (okZ (by first | exact Or.inl rfl | exact Or.inr rfl | assumption | omega)) ?_
                  rw [show oneF B 7 i o = cmpF B i (o + 1) by unfold oneF; rw [if_neg (by omega), if_neg (by omega), if_neg (by omega), if_neg (by omega), if_neg (by omega), if_pos (by omega)]]
                  exact hr_169
                · skip
                  by_cases hk_66_5 : (B 4 i) = 222
                  · refine go_lswitch (off := 99) (tgt := 165) dX5_readOne_66 ⟨by omega, by omega⟩ (by decide) (by rw [hk_66_5] <;> rfl) (by decide) ?_
                    refine go_aload_n dX5_readOne_165 rfl ?_
                    refine go_aload_n dX5_readOne_166 rfl ?_
                    refine go_iload dX5_readOne_167 rfl ?_
                    refine go_callV_z (as := [vr 1, vi (B 4 i)]) (S := []) (b := 76) (ev_X5_readCompared (m := (wr m 76 0 (o + 1))) (k := (B 4 i)) (B := B) (i := i) (o := (o + 1)) (l := l) sq1 (by first | assumption | omega | exact ⟨by omega, by omega⟩ | (constructor <;> omega)) (by first | assumption | omega | exact ⟨by omega, by omega⟩ | (constructor <;> omega)) (by omega) (by omega) (by first | assumption | omega | exact ⟨by omega, by omega⟩ | (constructor <;> omega)) (by first | assumption | omega | exact ⟨by omega, by omega⟩ | (constructor <;> omega))) rfl dX5_readOne_169 cv_5_84 rfl rfl ob_76 rfl (by decide) (Nat.le_of_ble_eq_true rfl) (fun r_169 m_169 hr_169 ho_169 => ?_)
                    refine go_ret (v := r_169) rfl dX5_readOne_172 (okZ (by first | exact Or.inl rfl | exact Or.inr rfl | assumption | omega)) ?_
                    rw [show oneF B 7 i o = cmpF B i (o + 1) by unfold oneF; rw [if_neg (by omega), if_neg (by omega), if_neg (by omega), if_neg (by omega), if_neg (by omega), if_pos (by omega)]]
                    exact hr_169
                  · skip
                    by_cases hk_66_6 : (B 4 i) = 223
                    · refine go_lswitch (off := 99) (tgt := 165) dX5_readOne_66 ⟨by omega, by omega⟩ (by decide) (by rw [hk_66_6] <;> rfl) (by decide) ?_
                      refine go_aload_n dX5_readOne_165 rfl ?_
                      refine go_aload_n dX5_readOne_166 rfl ?_
                      refine go_iload dX5_readOne_167 rfl ?_
                      refine go_callV_z (as := [vr 1, vi (B 4 i)]) (S := []) (b := 76) (ev_X5_readCompared (m := (wr m 76 0 (o + 1))) (k := (B 4 i)) (B := B) (i := i) (o := (o + 1)) (l := l) sq1 (by first | assumption | omega | exact ⟨by omega, by omega⟩ | (constructor <;> omega)) (by first | assumption | omega | exact ⟨by omega, by omega⟩ | (constructor <;> omega)) (by omega) (by omega) (by first | assumption | omega | exact ⟨by omega, by omega⟩ | (constructor <;> omega)) (by first | assumption | omega | exact ⟨by omega, by omega⟩ | (constructor <;> omega))) rfl dX5_readOne_169 cv_5_84 rfl rfl ob_76 rfl (by decide) (Nat.le_of_ble_eq_true rfl) (fun r_169 m_169 hr_169 ho_169 => ?_)
                      refine go_ret (v := r_169) rfl dX5_readOne_172 (okZ (by first | exact Or.inl rfl | exact Or.inr rfl | assumption | omega)) ?_
                      rw [show oneF B 7 i o = cmpF B i (o + 1) by unfold oneF; rw [if_neg (by omega), if_neg (by omega), if_neg (by omega), if_neg (by omega), if_neg (by omega), if_pos (by omega)]]
                      exact hr_169
                    · skip
                      by_cases hk_66_7 : (B 4 i) = 224
                      · refine go_lswitch (off := 99) (tgt := 165) dX5_readOne_66 ⟨by omega, by omega⟩ (by decide) (by rw [hk_66_7] <;> rfl) (by decide) ?_
                        refine go_aload_n dX5_readOne_165 rfl ?_
                        refine go_aload_n dX5_readOne_166 rfl ?_
                        refine go_iload dX5_readOne_167 rfl ?_
                        refine go_callV_z (as := [vr 1, vi (B 4 i)]) (S := []) (b := 76) (ev_X5_readCompared (m := (wr m 76 0 (o + 1))) (k := (B 4 i)) (B := B) (i := i) (o := (o + 1)) (l := l) sq1 (by first | assumption | omega | exact ⟨by omega, by omega⟩ | (constructor <;> omega)) (by first | assumption | omega | exact ⟨by omega, by omega⟩ | (constructor <;> omega)) (by omega) (by omega) (by first | assumption | omega | exact ⟨by omega, by omega⟩ | (constructor <;> omega)) (by first | assumption | omega | exact ⟨by omega, by omega⟩ | (constructor <;> omega))) rfl dX5_readOne_169 cv_5_84 rfl rfl ob_76 rfl (by decide) (Nat.le_of_ble_eq_true rfl) (fun r_169 m_169 hr_169 ho_169 => ?_)
                        refine go_ret (v := r_169) rfl dX5_readOne_172 (okZ (by first | exact Or.inl rfl | exact Or.inr rfl | assumption | omega)) ?_
                        rw [show oneF B 7 i o = cmpF B i (o + 1) by unfold oneF; rw [if_neg (by omega), if_neg (by omega), if_neg (by omega), if_neg (by omega), if_neg (by omega), if_pos (by omega)]]
                        exact hr_169
                      · skip
                        refine go_lswitch (off := 107) (tgt := 173) dX5_readOne_66 ⟨by omega, by omega⟩ (by decide) (by simp [Op.lookupswitch.offset, hk_66_0, show ¬ (40 : Int) = (B 4 i) from fun z => hk_66_0 z.symm, hk_66_1, show ¬ (215 : Int) = (B 4 i) from fun z => hk_66_1 z.symm, hk_66_2, show ¬ (219 : Int) = (B 4 i) from fun z => hk_66_2 z.symm, hk_66_3, show ¬ (220 : Int) = (B 4 i) from fun z => hk_66_3 z.symm, hk_66_4, show ¬ (221 : Int) = (B 4 i) from fun z => hk_66_4 z.symm, hk_66_5, show ¬ (222 : Int) = (B 4 i) from fun z => hk_66_5 z.symm, hk_66_6, show ¬ (223 : Int) = (B 4 i) from fun z => hk_66_6 z.symm, hk_66_7, show ¬ (224 : Int) = (B 4 i) from fun z => hk_66_7 z.symm]) (by decide) ?_
                        refine go_aload_n dX5_readOne_173 rfl ?_
                        refine go_iload dX5_readOne_174 rfl ?_
                        refine go_iconst dX5_readOne_176 ?_
                        refine go_iconst dX5_readOne_177 ?_
                        refine go_callV_v (as := [vi (B 4 i), vi 0, vi 0]) (S := []) (b := 76) (ev_X5_add (m := (wr m 76 0 (o + 1))) (k := (B 4 i)) (g := 0) (v := 0) (by first | assumption | omega | exact ⟨by omega, by omega⟩ | (constructor <;> omega)) (by first | assumption | omega | exact ⟨by omega, by omega⟩ | (constructor <;> omega)) (by first | assumption | omega | exact ⟨by omega, by omega⟩ | (constructor <;> omega)) (by rw [sq1.2.2.2.1]; omega)) rfl dX5_readOne_178 cv_5_64 rfl rfl ob_76 rfl (by decide) (Nat.le_of_ble_eq_true rfl) (fun m_178 hr_178 => ?_)
                        have sq3 := sq1.add (k := B 4 i) (g := 0) (v := 0)
                        subst hr_178
                        refine go_aload_n dX5_readOne_181 rfl ?_
                        refine go_callV_v (as := []) (S := []) (b := 1) (ev_X7_next (m := (addM (wr m 76 0 (o + 1)) (B 4 i) 0 0))  (by rw [sq3.1.1, sq3.1.2.1]; have h := hk.lt sq3.2.1.2 (by omega); have h2 := sq3.2.1; omega)) rfl dX5_readOne_182 cv_5_47 rfl rfl ob_1 rfl (by decide) (Nat.le_of_ble_eq_true rfl) (fun m_182 hr_182 => ?_)
                        have sq4 := sq3.nx hk (by omega)
                        subst hr_182
                        refine go_iconst dX5_readOne_185 ?_
                        refine go_ret (v := 1) rfl dX5_readOne_186 (okZ (by first | exact Or.inl rfl | exact Or.inr rfl | assumption | omega)) ?_
                        rw [show oneF B 7 i o = (0, i + 1, o + 1, [(B 4 i, 0, 0)]) by unfold oneF; rw [if_neg (by omega), if_neg (by omega), if_neg (by omega), if_neg (by omega), if_neg (by omega), if_neg (by omega)]]
                        exact Or.inl ⟨rfl, rfl, sq4⟩
      · exfalso; omega
  · refine go_iload dX5_readOne_13 rfl ?_
    refine go_sipush dX5_readOne_15 (by decide) ?_
    refine go_sipush dX5_readOne_18 (by decide) ?_
    refine go_callSp_z (as := [vi (B 4 i), vi 215, vi 224]) (S := []) (ev_X11_isIn (m := m) (n := (B 4 i)) (lo := 215) (hi := 224) (by first | assumption | omega | exact ⟨by omega, by omega⟩ | (constructor <;> omega)) (by first | assumption | omega | exact ⟨by omega, by omega⟩ | (constructor <;> omega)) (by first | assumption | omega | exact ⟨by omega, by omega⟩ | (constructor <;> omega))) rfl dX5_readOne_21 cs_5_71 rfl rfl (by decide) (Nat.le_of_ble_eq_true rfl) (fun r_21 hr_21 ho_21 => ?_)
    refine go_if_ne (tgt := 33) dX5_readOne_24 (by decide) ⟨by omega, by omega⟩ (fun h_24 => ?_) (fun h_24 => ?_)
    · refine go_aload_n dX5_readOne_33 rfl ?_
      refine go_getf_i (ki := 0) dX5_readOne_34 fl_5_9 ob_76 rfl rfl (fun hf_34 => ?_)
      rw [show (m 76 0 : Int) = o from h0] at hf_34 ⊢
      refine go_bipush dX5_readOne_37 (by decide) ?_
      refine go_icmp_ge (tgt := 48) dX5_readOne_39 (by decide) ⟨by omega, by omega⟩ ⟨by omega, by omega⟩ (fun h_39 => ?_) (fun h_39 => ?_)
      · refine go_aload_n dX5_readOne_48 rfl ?_
        refine go_iconst dX5_readOne_49 ?_
        refine go_callV_z (as := [vi 4]) (S := []) (b := 1) (ev_X7_refuse (m := m) (k := 4) (by first | assumption | omega | exact ⟨by omega, by omega⟩ | (constructor <;> omega))) rfl dX5_readOne_50 cv_5_57 rfl rfl ob_1 rfl (by decide) (Nat.le_of_ble_eq_true rfl) (fun r_50 m_50 hr_50 ho_50 => ?_)
        refine go_ret (v := r_50) rfl dX5_readOne_53 (okZ (by first | exact Or.inl rfl | exact Or.inr rfl | assumption | omega)) ?_
        rw [hr_50.2, show oneF B 7 i o = (4, i, o, []) by unfold oneF; rw [if_neg (by omega), if_pos (by omega)]]
        exact Or.inr ⟨by omega, (show (4 : Int) ≠ 0 by decide), hsq.ref⟩
      · refine go_iload_n dX5_readOne_42 rfl ?_
        refine go_bipush dX5_readOne_43 (by decide) ?_
        refine go_icmp_le (tgt := 54) dX5_readOne_45 (by decide) ⟨by omega, by omega⟩ ⟨by omega, by omega⟩ (fun h_45 => ?_) (fun h_45 => ?_)
        · refine go_aload_n dX5_readOne_54 rfl ?_
          refine go_dup_r dX5_readOne_55 ?_
          refine go_getf_i (ki := 0) dX5_readOne_56 fl_5_9 ob_76 rfl rfl (fun hf_56 => ?_)
          rw [show (m 76 0 : Int) = o from h0] at hf_56 ⊢
          refine go_iconst dX5_readOne_59 ?_
          refine go_iadd dX5_readOne_60 ?_
          refine go_putf_i (ki := 0) dX5_readOne_61 fw_5_9 ob_76 rfl rfl ⟨by omega, by omega⟩ ?_
          have sq1 := hsq.one (x := o + 1)
          refine go_iload dX5_readOne_64 rfl ?_
          by_cases hk_66_0 : (B 4 i) = 40
          · refine go_lswitch (off := 82) (tgt := 148) dX5_readOne_66 ⟨by omega, by omega⟩ (by decide) (by rw [hk_66_0] <;> rfl) (by decide) ?_
            refine go_aload_n dX5_readOne_148 rfl ?_
            refine go_aload_n dX5_readOne_149 rfl ?_
            refine go_aload_n dX5_readOne_150 rfl ?_
            refine go_iload_n dX5_readOne_151 rfl ?_
            refine go_callV_z (as := [vr 1, vr 8, vi k]) (S := []) (b := 76) (ev_X5_brk7 (m := (wr m 76 0 (o + 1))) (k := k) (B := B) (i := i) (o := (o + 1)) (l := l) sq1 (by first | assumption | omega | exact ⟨by omega, by omega⟩ | (constructor <;> omega)) (by first | assumption | omega | exact ⟨by omega, by omega⟩ | (constructor <;> omega)) (by omega) (by omega) (by first | assumption | omega | exact ⟨by omega, by omega⟩ | (constructor <;> omega)) (by first | assumption | omega | exact ⟨by omega, by omega⟩ | (constructor <;> omega))) rfl dX5_readOne_152 cv_5_78 rfl rfl ob_76 rfl (by decide) (Nat.le_of_ble_eq_true rfl) (fun r_152 m_152 hr_152 ho_152 => ?_)
            refine go_ret (v := r_152) rfl dX5_readOne_155 (okZ (by first | exact Or.inl rfl | exact Or.inr rfl | assumption | omega)) ?_
            rw [show oneF B 7 i o = brkF (B 4) (seqF (B 4) 213 (seqF (B 4) 214 (oneF B 6))) i (o + 1) by unfold oneF; rw [if_neg (by omega), if_neg (by omega), if_neg (by omega), if_pos (by omega)]]
            exact hr_152
          · skip
            by_cases hk_66_1 : (B 4 i) = 215
            · refine go_lswitch (off := 74) (tgt := 140) dX5_readOne_66 ⟨by omega, by omega⟩ (by decide) (by rw [hk_66_1] <;> rfl) (by decide) ?_
              refine go_aload_n dX5_readOne_140 rfl ?_
              refine go_aload_n dX5_readOne_141 rfl ?_
              refine go_aload_n dX5_readOne_142 rfl ?_
              refine go_iload_n dX5_readOne_143 rfl ?_
              refine go_callV_z (as := [vr 1, vr 8, vi k]) (S := []) (b := 76) (ev_X5_not7 (m := (wr m 76 0 (o + 1))) (k := k) (B := B) (i := i) (o := (o + 1)) (l := l) sq1 (by first | assumption | omega | exact ⟨by omega, by omega⟩ | (constructor <;> omega)) (by first | assumption | omega | exact ⟨by omega, by omega⟩ | (constructor <;> omega)) (by omega) (by omega) (by first | assumption | omega | exact ⟨by omega, by omega⟩ | (constructor <;> omega)) (by first | assumption | omega | exact ⟨by omega, by omega⟩ | (constructor <;> omega))) rfl dX5_readOne_144 cv_5_75 rfl rfl ob_76 rfl (by decide) (Nat.le_of_ble_eq_true rfl) (fun r_144 m_144 hr_144 ho_144 => ?_)
              refine go_ret (v := r_144) rfl dX5_readOne_147 (okZ (by first | exact Or.inl rfl | exact Or.inr rfl | assumption | omega)) ?_
              rw [show oneF B 7 i o = notF (oneF B 6) i (o + 1) by unfold oneF; rw [if_neg (by omega), if_neg (by omega), if_pos (by omega)]]
              exact hr_144
            · skip
              by_cases hk_66_2 : (B 4 i) = 219
              · refine go_lswitch (off := 90) (tgt := 156) dX5_readOne_66 ⟨by omega, by omega⟩ (by decide) (by rw [hk_66_2] <;> rfl) (by decide) ?_
                refine go_aload_n dX5_readOne_156 rfl ?_
                refine go_aload_n dX5_readOne_157 rfl ?_
                refine go_aload_n dX5_readOne_158 rfl ?_
                refine go_iload dX5_readOne_159 rfl ?_
                refine go_callV_z (as := [vr 1, vr 8, vi (B 4 i)]) (S := []) (b := 76) (ev_X5_readNamed (m := (wr m 76 0 (o + 1))) (k := (B 4 i)) (B := B) (i := i) (o := (o + 1)) (l := l) sq1 (by first | assumption | omega | exact ⟨by omega, by omega⟩ | (constructor <;> omega)) (by first | assumption | omega | exact ⟨by omega, by omega⟩ | (constructor <;> omega)) (by omega) (by omega) (by first | assumption | omega | exact ⟨by omega, by omega⟩ | (constructor <;> omega)) (by first | assumption | omega | exact ⟨by omega, by omega⟩ | (constructor <;> omega))) rfl dX5_readOne_161 cv_5_81 rfl rfl ob_76 rfl (by decide) (Nat.le_of_ble_eq_true rfl) (fun r_161 m_161 hr_161 ho_161 => ?_)
                refine go_ret (v := r_161) rfl dX5_readOne_164 (okZ (by first | exact Or.inl rfl | exact Or.inr rfl | assumption | omega)) ?_
                rw [show oneF B 7 i o = namF B i (o + 1) by unfold oneF; rw [if_neg (by omega), if_neg (by omega), if_neg (by omega), if_neg (by omega), if_pos (by omega)]]
                exact hr_161
              · skip
                by_cases hk_66_3 : (B 4 i) = 220
                · refine go_lswitch (off := 90) (tgt := 156) dX5_readOne_66 ⟨by omega, by omega⟩ (by decide) (by rw [hk_66_3] <;> rfl) (by decide) ?_
                  refine go_aload_n dX5_readOne_156 rfl ?_
                  refine go_aload_n dX5_readOne_157 rfl ?_
                  refine go_aload_n dX5_readOne_158 rfl ?_
                  refine go_iload dX5_readOne_159 rfl ?_
                  refine go_callV_z (as := [vr 1, vr 8, vi (B 4 i)]) (S := []) (b := 76) (ev_X5_readNamed (m := (wr m 76 0 (o + 1))) (k := (B 4 i)) (B := B) (i := i) (o := (o + 1)) (l := l) sq1 (by first | assumption | omega | exact ⟨by omega, by omega⟩ | (constructor <;> omega)) (by first | assumption | omega | exact ⟨by omega, by omega⟩ | (constructor <;> omega)) (by omega) (by omega) (by first | assumption | omega | exact ⟨by omega, by omega⟩ | (constructor <;> omega)) (by first | assumption | omega | exact ⟨by omega, by omega⟩ | (constructor <;> omega))) rfl dX5_readOne_161 cv_5_81 rfl rfl ob_76 rfl (by decide) (Nat.le_of_ble_eq_true rfl) (fun r_161 m_161 hr_161 ho_161 => ?_)
                  refine go_ret (v := r_161) rfl dX5_readOne_164 (okZ (by first | exact Or.inl rfl | exact Or.inr rfl | assumption | omega)) ?_
                  rw [show oneF B 7 i o = namF B i (o + 1) by unfold oneF; rw [if_neg (by omega), if_neg (by omega), if_neg (by omega), if_neg (by omega), if_pos (by omega)]]
                  exact hr_161
                · skip
                  by_cases hk_66_4 : (B 4 i) = 221
                  · refine go_lswitch (off := 99) (tgt := 165) dX5_readOne_66 ⟨by omega, by omega⟩ (by decide) (by rw [hk_66_4] <;> rfl) (by decide) ?_
                    refine go_aload_n dX5_readOne_165 rfl ?_
                    refine go_aload_n dX5_readOne_166 rfl ?_
                    refine go_iload dX5_readOne_167 rfl ?_
                    refine go_callV_z (as := [vr 1, vi (B 4 i)]) (S := []) (b := 76) (ev_X5_readCompared (m := (wr m 76 0 (o + 1))) (k := (B 4 i)) (B := B) (i := i) (o := (o + 1)) (l := l) sq1 (by first | assumption | omega | exact ⟨by omega, by omega⟩ | (constructor <;> omega)) (by first | assumption | omega | exact ⟨by omega, by omega⟩ | (constructor <;> omega)) (by omega) (by omega) (by first | assumption | omega | exact ⟨by omega, by omega⟩ | (constructor <;> omega)) (by first | assumption | omega | exact ⟨by omega, by omega⟩ | (constructor <;> omega))) rfl dX5_readOne_169 cv_5_84 rfl rfl ob_76 rfl (by decide) (Nat.le_of_ble_eq_true rfl) (fun r_169 m_169 hr_169 ho_169 => ?_)
                    refine go_ret (v := r_169) rfl dX5_readOne_172 (okZ (by first | exact Or.inl rfl | exact Or.inr rfl | assumption | omega)) ?_
                    rw [show oneF B 7 i o = cmpF B i (o + 1) by unfold oneF; rw [if_neg (by omega), if_neg (by omega), if_neg (by omega), if_neg (by omega), if_neg (by omega), if_pos (by omega)]]
                    exact hr_169
                  · skip
                    by_cases hk_66_5 : (B 4 i) = 222
                    · refine go_lswitch (off := 99) (tgt := 165) dX5_readOne_66 ⟨by omega, by omega⟩ (by decide) (by rw [hk_66_5] <;> rfl) (by decide) ?_
                      refine go_aload_n dX5_readOne_165 rfl ?_
                      refine go_aload_n dX5_readOne_166 rfl ?_
                      refine go_iload dX5_readOne_167 rfl ?_
                      refine go_callV_z (as := [vr 1, vi (B 4 i)]) (S := []) (b := 76) (ev_X5_readCompared (m := (wr m 76 0 (o + 1))) (k := (B 4 i)) (B := B) (i := i) (o := (o + 1)) (l := l) sq1 (by first | assumption | omega | exact ⟨by omega, by omega⟩ | (constructor <;> omega)) (by first | assumption | omega | exact ⟨by omega, by omega⟩ | (constructor <;> omega)) (by omega) (by omega) (by first | assumption | omega | exact ⟨by omega, by omega⟩ | (constructor <;> omega)) (by first | assumption | omega | exact ⟨by omega, by omega⟩ | (constructor <;> omega))) rfl dX5_readOne_169 cv_5_84 rfl rfl ob_76 rfl (by decide) (Nat.le_of_ble_eq_true rfl) (fun r_169 m_169 hr_169 ho_169 => ?_)
                      refine go_ret (v := r_169) rfl dX5_readOne_172 (okZ (by first | exact Or.inl rfl | exact Or.inr rfl | assumption | omega)) ?_
                      rw [show oneF B 7 i o = cmpF B i (o + 1) by unfold oneF; rw [if_neg (by omega), if_neg (by omega), if_neg (by omega), if_neg (by omega), if_neg (by omega), if_pos (by omega)]]
                      exact hr_169
                    · skip
                      by_cases hk_66_6 : (B 4 i) = 223
                      · refine go_lswitch (off := 99) (tgt := 165) dX5_readOne_66 ⟨by omega, by omega⟩ (by decide) (by rw [hk_66_6] <;> rfl) (by decide) ?_
                        refine go_aload_n dX5_readOne_165 rfl ?_
                        refine go_aload_n dX5_readOne_166 rfl ?_
                        refine go_iload dX5_readOne_167 rfl ?_
                        refine go_callV_z (as := [vr 1, vi (B 4 i)]) (S := []) (b := 76) (ev_X5_readCompared (m := (wr m 76 0 (o + 1))) (k := (B 4 i)) (B := B) (i := i) (o := (o + 1)) (l := l) sq1 (by first | assumption | omega | exact ⟨by omega, by omega⟩ | (constructor <;> omega)) (by first | assumption | omega | exact ⟨by omega, by omega⟩ | (constructor <;> omega)) (by omega) (by omega) (by first | assumption | omega | exact ⟨by omega, by omega⟩ | (constructor <;> omega)) (by first | assumption | omega | exact ⟨by omega, by omega⟩ | (constructor <;> omega))) rfl dX5_readOne_169 cv_5_84 rfl rfl ob_76 rfl (by decide) (Nat.le_of_ble_eq_true rfl) (fun r_169 m_169 hr_169 ho_169 => ?_)
                        refine go_ret (v := r_169) rfl dX5_readOne_172 (okZ (by first | exact Or.inl rfl | exact Or.inr rfl | assumption | omega)) ?_
                        rw [show oneF B 7 i o = cmpF B i (o + 1) by unfold oneF; rw [if_neg (by omega), if_neg (by omega), if_neg (by omega), if_neg (by omega), if_neg (by omega), if_pos (by omega)]]
                        exact hr_169
                      · skip
                        by_cases hk_66_7 : (B 4 i) = 224
                        · refine go_lswitch (off := 99) (tgt := 165) dX5_readOne_66 ⟨by omega, by omega⟩ (by decide) (by rw [hk_66_7] <;> rfl) (by decide) ?_
                          refine go_aload_n dX5_readOne_165 rfl ?_
                          refine go_aload_n dX5_readOne_166 rfl ?_
                          refine go_iload dX5_readOne_167 rfl ?_
                          refine go_callV_z (as := [vr 1, vi (B 4 i)]) (S := []) (b := 76) (ev_X5_readCompared (m := (wr m 76 0 (o + 1))) (k := (B 4 i)) (B := B) (i := i) (o := (o + 1)) (l := l) sq1 (by first | assumption | omega | exact ⟨by omega, by omega⟩ | (constructor <;> omega)) (by first | assumption | omega | exact ⟨by omega, by omega⟩ | (constructor <;> omega)) (by omega) (by omega) (by first | assumption | omega | exact ⟨by omega, by omega⟩ | (constructor <;> omega)) (by first | assumption | omega | exact ⟨by omega, by omega⟩ | (constructor <;> omega))) rfl dX5_readOne_169 cv_5_84 rfl rfl ob_76 rfl (by decide) (Nat.le_of_ble_eq_true rfl) (fun r_169 m_169 hr_169 ho_169 => ?_)
                          refine go_ret (v := r_169) rfl dX5_readOne_172 (okZ (by first | exact Or.inl rfl | exact Or.inr rfl | assumption | omega)) ?_
                          rw [show oneF B 7 i o = cmpF B i (o + 1) by unfold oneF; rw [if_neg (by omega), if_neg (by omega), if_neg (by omega), if_neg (by omega), if_neg (by omega), if_pos (by omega)]]
                          exact hr_169
                        · skip
                          refine go_lswitch (off := 107) (tgt := 173) dX5_readOne_66 ⟨by omega, by omega⟩ (by decide) (by simp [Op.lookupswitch.offset, hk_66_0, show ¬ (40 : Int) = (B 4 i) from fun z => hk_66_0 z.symm, hk_66_1, show ¬ (215 : Int) = (B 4 i) from fun z => hk_66_1 z.symm, hk_66_2, show ¬ (219 : Int) = (B 4 i) from fun z => hk_66_2 z.symm, hk_66_3, show ¬ (220 : Int) = (B 4 i) from fun z => hk_66_3 z.symm, hk_66_4, show ¬ (221 : Int) = (B 4 i) from fun z => hk_66_4 z.symm, hk_66_5, show ¬ (222 : Int) = (B 4 i) from fun z => hk_66_5 z.symm, hk_66_6, show ¬ (223 : Int) = (B 4 i) from fun z => hk_66_6 z.symm, hk_66_7, show ¬ (224 : Int) = (B 4 i) from fun z => hk_66_7 z.symm]) (by decide) ?_
                          refine go_aload_n dX5_readOne_173 rfl ?_
                          refine go_iload dX5_readOne_174 rfl ?_
                          refine go_iconst dX5_readOne_176 ?_
                          refine go_iconst dX5_readOne_177 ?_
                          refine go_callV_v (as := [vi (B 4 i), vi 0, vi 0]) (S := []) (b := 76) (ev_X5_add (m := (wr m 76 0 (o + 1))) (k := (B 4 i)) (g := 0) (v := 0) (by first | assumption | omega | exact ⟨by omega, by omega⟩ | (constructor <;> omega)) (by first | assumption | omega | exact ⟨by omega, by omega⟩ | (constructor <;> omega)) (by first | assumption | omega | exact ⟨by omega, by omega⟩ | (constructor <;> omega)) (by rw [sq1.2.2.2.1]; omega)) rfl dX5_readOne_178 cv_5_64 rfl rfl ob_76 rfl (by decide) (Nat.le_of_ble_eq_true rfl) (fun m_178 hr_178 => ?_)
                          have sq3 := sq1.add (k := B 4 i) (g := 0) (v := 0)
                          subst hr_178
                          refine go_aload_n dX5_readOne_181 rfl ?_
                          refine go_callV_v (as := []) (S := []) (b := 1) (ev_X7_next (m := (addM (wr m 76 0 (o + 1)) (B 4 i) 0 0))  (by rw [sq3.1.1, sq3.1.2.1]; have h := hk.lt sq3.2.1.2 (by omega); have h2 := sq3.2.1; omega)) rfl dX5_readOne_182 cv_5_47 rfl rfl ob_1 rfl (by decide) (Nat.le_of_ble_eq_true rfl) (fun m_182 hr_182 => ?_)
                          have sq4 := sq3.nx hk (by omega)
                          subst hr_182
                          refine go_iconst dX5_readOne_185 ?_
                          refine go_ret (v := 1) rfl dX5_readOne_186 (okZ (by first | exact Or.inl rfl | exact Or.inr rfl | assumption | omega)) ?_
                          rw [show oneF B 7 i o = (0, i + 1, o + 1, [(B 4 i, 0, 0)]) by unfold oneF; rw [if_neg (by omega), if_neg (by omega), if_neg (by omega), if_neg (by omega), if_neg (by omega), if_neg (by omega)]]
                          exact Or.inl ⟨rfl, rfl, sq4⟩
        · exfalso; omega
    · refine go_aload_n dX5_readOne_27 rfl ?_
      refine go_iconst dX5_readOne_28 ?_
      refine go_callV_z (as := [vi 1]) (S := []) (b := 1) (ev_X7_refuse (m := m) (k := 1) (by first | assumption | omega | exact ⟨by omega, by omega⟩ | (constructor <;> omega))) rfl dX5_readOne_29 cv_5_57 rfl rfl ob_1 rfl (by decide) (Nat.le_of_ble_eq_true rfl) (fun r_29 m_29 hr_29 ho_29 => ?_)
      refine go_ret (v := r_29) rfl dX5_readOne_32 (okZ (by first | exact Or.inl rfl | exact Or.inr rfl | assumption | omega)) ?_
      rw [hr_29.2, show oneF B 7 i o = (1, i, o, []) by unfold oneF; rw [if_pos (by omega)]]
      exact Or.inr ⟨by omega, (show (1 : Int) ≠ 0 by decide), hsq.ref⟩
set_option maxRecDepth 4000 in
theorem ev_X5_all7 {m : Mem} {B : Mem} {i : Int} {o : Int} {l : List Cd} {k : Int} (hsq : SQ B m i o l) (hk : TkS B) (hdb : DnOk B 8) (ho : 0 ≤ o ∧ o ≤ 20) (hl : (l.length : Int) ≤ 2 * o) (hd : k = 2) : Ev 0 46 mX5_readAll [vr 76, vr 1, vr 8, vi k] m (fun r m' => QP B r m' l (seqF (B 4) 214 (oneF B 7) i o)) := by
  refine Ev.of (L := [vr 76, vr 1, vr 8, vi k, un]) (by decide +kernel) rfl (Nat.le_of_ble_eq_true rfl) rfl (fun t ht => by cases ht; first | exact Or.inl rfl | exact Or.inr (Or.inl rfl) | exact Or.inr (Or.inr rfl)) (fun hcan => ?_)
  have hi := hsq.2.1
  have hkb := hk.1
  have h0 := hsq.2.2.1
  have h1 := hsq.2.2.2.1
  have e12 := hsq.1.1
  have e11 := hsq.1.2.1
  have hPB : PB (oneF B 7) := (oneF_b B 7)
  refine go_aload_n dX5_readAll_0 rfl ?_
  refine go_aload_n dX5_readAll_1 rfl ?_
  refine go_aload_n dX5_readAll_2 rfl ?_
  refine go_iload_n dX5_readAll_3 rfl ?_
  refine go_callV_z (as := [vr 1, vr 8, vi k]) (S := []) (b := 76) (ev_X5_one7 (m := m) (k := k) (B := B) (i := i) (o := o) (l := l) hsq (by first | assumption | omega | exact ⟨by omega, by omega⟩ | (constructor <;> omega)) (by first | assumption | omega | exact ⟨by omega, by omega⟩ | (constructor <;> omega)) (by first | assumption | omega | exact ⟨by omega, by omega⟩ | (constructor <;> omega)) (by first | assumption | omega | exact ⟨by omega, by omega⟩ | (constructor <;> omega)) (by first | assumption | omega | exact ⟨by omega, by omega⟩ | (constructor <;> omega))) rfl dX5_readAll_4 cv_5_68 rfl rfl ob_76 rfl (by decide) (Nat.le_of_ble_eq_true rfl) (fun r_4 m_4 hr_4 ho_4 => ?_)
  refine go_if_ne (tgt := 12) dX5_readAll_7 (by decide) ⟨by omega, by omega⟩ (fun h_7 => ?_) (fun h_7 => ?_)
  · obtain ⟨-, x1, x2⟩ := hr_4.resolve_right (fun h => h_7 h.1)
    have hR1 := hPB i o (by omega) (by omega) x1
    refine go_iconst dX5_readAll_12 ?_
    refine go_istore (L' := [vr 76, vr 1, vr 8, vi k, vi 0]) dX5_readAll_13 (by decide) rfl rfl ?_
    have lp_15 : ∀ (n_15 : Nat) (m1 : Mem) (j : Int) (a : Rs) (f : Nat), (a.1 = 0) → (SQ B m1 a.2.1 a.2.2.1 (l ++ a.2.2.2)) → (seqL (B 4) 214 (oneF B 7) f a = seqL (B 4) 214 (oneF B 7) 21 ((oneF B 7) i o)) → (0 ≤ j ∧ j + (f : Int) = 21) → ((o + 1 + j ≤ a.2.2.1 ∧ a.2.2.1 ≤ 20) ∧ (a.2.2.2.length : Int) + 1 ≤ 2 * (a.2.2.1 - o)) → f < n_15 → Go 0 46 mX5_readAll (fun r m' => QP B r m' l (seqF (B 4) 214 (oneF B 7) i o)) 15 [vr 76, vr 1, vr 8, vi k, vi j] [] m1 := by
      intro n_15
      induction n_15 with
      | zero => intro m1 j a f ha0 hs1 hsl hj hab hmu; exact absurd hmu (Nat.not_lt_zero _)
      | succ n_15 ih_15 =>
        intro m1 j a f ha0 hs1 hsl hj hab hmu
        obtain ⟨hab1, hab2⟩ := hab
        have hsu : seqL (B 4) 214 (oneF B 7) f a = if B 4 a.2.1 = 214 then (if ((oneF B 7) (a.2.1 + 1) a.2.2.1).1 ≠ 0 then ((oneF B 7) (a.2.1 + 1) a.2.2.1) else seqL (B 4) 214 (oneF B 7) (f - 1) (0, ((oneF B 7) (a.2.1 + 1) a.2.2.1).2.1, ((oneF B 7) (a.2.1 + 1) a.2.2.1).2.2.1, a.2.2.2 ++ ((oneF B 7) (a.2.1 + 1) a.2.2.1).2.2.2 ++ [(214, 0, 0)])) else a := by
          obtain ⟨g, rfl⟩ : ∃ g, f = g + 1 := ⟨f - 1, by omega⟩
          rfl
        refine go_iload dX5_readAll_15 rfl ?_
        refine go_bipush dX5_readAll_17 (by decide) ?_
        refine go_icmp_ge (tgt := 63) dX5_readAll_19 (by decide) ⟨by omega, by omega⟩ ⟨by omega, by omega⟩ (fun h_19 => ?_) (fun h_19 => ?_)
        · exfalso; omega
        · refine go_aload_n dX5_readAll_22 rfl ?_
          refine go_getf_i (ki := 2) dX5_readAll_23 fl_5_54 ob_1 rfl rfl (fun hf_23 => ?_)
          rw [show (m1 1 2 : Int) = (B 4 a.2.1) from hs1.kd] at hf_23 ⊢
          refine go_sipush dX5_readAll_26 (by decide) ?_
          refine go_icmp_ne (tgt := 63) dX5_readAll_29 (by decide) hf_23 ⟨by omega, by omega⟩ (fun h_29 => ?_) (fun h_29 => ?_)
          · refine go_iconst dX5_readAll_63 ?_
            refine go_ret (v := 1) rfl dX5_readAll_64 (okZ (by first | exact Or.inl rfl | exact Or.inr rfl | assumption | omega)) ?_
            rw [seqF_e (B 4) 214, if_neg (fun z => z x1), ← hsl, hsu, if_neg (by omega)]
            exact Or.inl ⟨rfl, ha0, hs1⟩
          · refine go_aload_n dX5_readAll_32 rfl ?_
            refine go_callV_v (as := []) (S := []) (b := 1) (ev_X7_next (m := m1)  (by rw [hs1.1.1, hs1.1.2.1]; have h := hs1.2.1; have := hk.lt h.2 (by omega); omega)) rfl dX5_readAll_33 cv_5_47 rfl rfl ob_1 rfl (by decide) (Nat.le_of_ble_eq_true rfl) (fun m_33 hr_33 => ?_)
            have sq1 := hs1.nx hk (by omega)
            subst hr_33
            refine go_aload_n dX5_readAll_36 rfl ?_
            refine go_aload_n dX5_readAll_37 rfl ?_
            refine go_aload_n dX5_readAll_38 rfl ?_
            refine go_iload_n dX5_readAll_39 rfl ?_
            refine go_callV_z (as := [vr 1, vr 8, vi k]) (S := []) (b := 76) (ev_X5_one7 (m := (nxt m1)) (k := k) (B := B) (i := (a.2.1 + 1)) (o := a.2.2.1) (l := (l ++ a.2.2.2)) sq1 (by first | assumption | omega | exact ⟨by omega, by omega⟩ | (constructor <;> omega)) (by first | assumption | omega | exact ⟨by omega, by omega⟩ | (constructor <;> omega)) (by omega) (by simp only [List.length_append]; omega) (by first | assumption | omega | exact ⟨by omega, by omega⟩ | (constructor <;> omega))) rfl dX5_readAll_40 cv_5_68 rfl rfl ob_76 rfl (by decide) (Nat.le_of_ble_eq_true rfl) (fun r_40 m_40 hr_40 ho_40 => ?_)
            refine go_if_ne (tgt := 48) dX5_readAll_43 (by decide) ⟨by omega, by omega⟩ (fun h_43 => ?_) (fun h_43 => ?_)
            · obtain ⟨-, x1, x2⟩ := hr_40.resolve_right (fun h => h_43 h.1)
              have hR2 := hPB (a.2.1 + 1) a.2.2.1 (by omega) (by omega) x1
              refine go_aload_n dX5_readAll_48 rfl ?_
              refine go_sipush dX5_readAll_49 (by decide) ?_
              refine go_iconst dX5_readAll_52 ?_
              refine go_iconst dX5_readAll_53 ?_
              refine go_callV_v (as := [vi 214, vi 0, vi 0]) (S := []) (b := 76) (ev_X5_add (m := m_40) (k := 214) (g := 0) (v := 0) (by first | assumption | omega | exact ⟨by omega, by omega⟩ | (constructor <;> omega)) (by first | assumption | omega | exact ⟨by omega, by omega⟩ | (constructor <;> omega)) (by first | assumption | omega | exact ⟨by omega, by omega⟩ | (constructor <;> omega)) (by rw [x2.2.2.2.1]; simp only [List.length_append]; omega)) rfl dX5_readAll_54 cv_5_64 rfl rfl ob_76 rfl (by decide) (Nat.le_of_ble_eq_true rfl) (fun m_54 hr_54 => ?_)
              have sq3 := x2.add (k := 214) (g := 0) (v := 0)
              subst hr_54
              refine go_iinc (L' := [vr 76, vr 1, vr 8, vi k, vi (j + 1)]) dX5_readAll_57 rfl (by decide) rfl rfl ?_
              refine go_goto (tgt := 15) dX5_readAll_60 (by decide) ?_
              exact ih_15 (addM m_40 214 0 0) (j + 1) (0, ((oneF B 7) (a.2.1 + 1) a.2.2.1).2.1, ((oneF B 7) (a.2.1 + 1) a.2.2.1).2.2.1, a.2.2.2 ++ ((oneF B 7) (a.2.1 + 1) a.2.2.1).2.2.2 ++ [(214, 0, 0)]) (f - 1) rfl (by show SQ B _ _ _ (l ++ (a.2.2.2 ++ _ ++ _)); rw [← List.append_assoc, ← List.append_assoc]; exact sq3) (by rw [← hsl, hsu, if_pos (by omega), if_neg (fun z => z x1)]) (by first | assumption | omega | rfl) (by
                    refine ⟨⟨?_, ?_⟩, ?_⟩
                    · show o + 1 + (j + 1) ≤ ((oneF B 7) (a.2.1 + 1) a.2.2.1).2.2.1; omega
                    · show ((oneF B 7) (a.2.1 + 1) a.2.2.1).2.2.1 ≤ 20; omega
                    · show ((a.2.2.2 ++ ((oneF B 7) (a.2.1 + 1) a.2.2.1).2.2.2 ++ [(214, 0, 0)] : List Cd).length : Int) + 1 ≤ 2 * (((oneF B 7) (a.2.1 + 1) a.2.2.1).2.2.1 - o)
                      simp only [List.length_append, List.length_singleton]
                      omega) (by omega)
            · refine go_iconst dX5_readAll_46 ?_
              refine go_ret (v := 0) rfl dX5_readAll_47 (okZ (by first | exact Or.inl rfl | exact Or.inr rfl | assumption | omega)) ?_
              obtain ⟨-, y1, y2⟩ := hr_40.resolve_left (fun h => by have := h.1; omega)
              rw [seqF_e (B 4) 214, if_neg (fun z => z x1), ← hsl, hsu, if_pos (by omega), if_pos y1]
              exact Or.inr ⟨rfl, y1, y2⟩
    exact lp_15 _ m_4 0 ((oneF B 7) i o) 21 x1 x2 rfl (by first | assumption | omega | rfl) ⟨by omega, hR1.2.2⟩ (Nat.lt_succ_self _)
  · refine go_iconst dX5_readAll_10 ?_
    refine go_ret (v := 0) rfl dX5_readAll_11 (okZ (by first | exact Or.inl rfl | exact Or.inr rfl | assumption | omega)) ?_
    obtain ⟨-, x1, x2⟩ := hr_4.resolve_left (fun h => by have := h.1; omega)
    rw [seqF_e (B 4) 214, if_pos x1]
    exact Or.inr ⟨rfl, x1, x2⟩
set_option maxRecDepth 4000 in
theorem ev_X5_con7 {m : Mem} {B : Mem} {i : Int} {o : Int} {l : List Cd} {k : Int} (hsq : SQ B m i o l) (hk : TkS B) (hdb : DnOk B 8) (ho : 0 ≤ o ∧ o ≤ 20) (hl : (l.length : Int) ≤ 2 * o) (hd : k = 2) : Ev 0 47 mX5_readCond [vr 76, vr 1, vr 8, vi k] m (fun r m' => QP B r m' l (seqF (B 4) 213 (seqF (B 4) 214 (oneF B 7)) i o)) := by
  refine Ev.of (L := [vr 76, vr 1, vr 8, vi k, un]) (by decide +kernel) rfl (Nat.le_of_ble_eq_true rfl) rfl (fun t ht => by cases ht; first | exact Or.inl rfl | exact Or.inr (Or.inl rfl) | exact Or.inr (Or.inr rfl)) (fun hcan => ?_)
  have hi := hsq.2.1
  have hkb := hk.1
  have h0 := hsq.2.2.1
  have h1 := hsq.2.2.2.1
  have e12 := hsq.1.1
  have e11 := hsq.1.2.1
  have hPB : PB (seqF (B 4) 214 (oneF B 7)) := (seqF_b (oneF_b B 7))
  refine go_aload_n dX5_readCond_0 rfl ?_
  refine go_aload_n dX5_readCond_1 rfl ?_
  refine go_aload_n dX5_readCond_2 rfl ?_
  refine go_iload_n dX5_readCond_3 rfl ?_
  refine go_callV_z (as := [vr 1, vr 8, vi k]) (S := []) (b := 76) (ev_X5_all7 (m := m) (k := k) (B := B) (i := i) (o := o) (l := l) hsq (by first | assumption | omega | exact ⟨by omega, by omega⟩ | (constructor <;> omega)) (by first | assumption | omega | exact ⟨by omega, by omega⟩ | (constructor <;> omega)) (by first | assumption | omega | exact ⟨by omega, by omega⟩ | (constructor <;> omega)) (by first | assumption | omega | exact ⟨by omega, by omega⟩ | (constructor <;> omega)) (by first | assumption | omega | exact ⟨by omega, by omega⟩ | (constructor <;> omega))) rfl dX5_readCond_4 cv_5_61 rfl rfl ob_76 rfl (by decide) (Nat.le_of_ble_eq_true rfl) (fun r_4 m_4 hr_4 ho_4 => ?_)
  refine go_if_ne (tgt := 12) dX5_readCond_7 (by decide) ⟨by omega, by omega⟩ (fun h_7 => ?_) (fun h_7 => ?_)
  · obtain ⟨-, x1, x2⟩ := hr_4.resolve_right (fun h => h_7 h.1)
    have hR1 := hPB i o (by omega) (by omega) x1
    refine go_iconst dX5_readCond_12 ?_
    refine go_istore (L' := [vr 76, vr 1, vr 8, vi k, vi 0]) dX5_readCond_13 (by decide) rfl rfl ?_
    have lp_15 : ∀ (n_15 : Nat) (m1 : Mem) (j : Int) (a : Rs) (f : Nat), (a.1 = 0) → (SQ B m1 a.2.1 a.2.2.1 (l ++ a.2.2.2)) → (seqL (B 4) 213 (seqF (B 4) 214 (oneF B 7)) f a = seqL (B 4) 213 (seqF (B 4) 214 (oneF B 7)) 21 ((seqF (B 4) 214 (oneF B 7)) i o)) → (0 ≤ j ∧ j + (f : Int) = 21) → ((o + 1 + j ≤ a.2.2.1 ∧ a.2.2.1 ≤ 20) ∧ (a.2.2.2.length : Int) + 1 ≤ 2 * (a.2.2.1 - o)) → f < n_15 → Go 0 47 mX5_readCond (fun r m' => QP B r m' l (seqF (B 4) 213 (seqF (B 4) 214 (oneF B 7)) i o)) 15 [vr 76, vr 1, vr 8, vi k, vi j] [] m1 := by
      intro n_15
      induction n_15 with
      | zero => intro m1 j a f ha0 hs1 hsl hj hab hmu; exact absurd hmu (Nat.not_lt_zero _)
      | succ n_15 ih_15 =>
        intro m1 j a f ha0 hs1 hsl hj hab hmu
        obtain ⟨hab1, hab2⟩ := hab
        have hsu : seqL (B 4) 213 (seqF (B 4) 214 (oneF B 7)) f a = if B 4 a.2.1 = 213 then (if ((seqF (B 4) 214 (oneF B 7)) (a.2.1 + 1) a.2.2.1).1 ≠ 0 then ((seqF (B 4) 214 (oneF B 7)) (a.2.1 + 1) a.2.2.1) else seqL (B 4) 213 (seqF (B 4) 214 (oneF B 7)) (f - 1) (0, ((seqF (B 4) 214 (oneF B 7)) (a.2.1 + 1) a.2.2.1).2.1, ((seqF (B 4) 214 (oneF B 7)) (a.2.1 + 1) a.2.2.1).2.2.1, a.2.2.2 ++ ((seqF (B 4) 214 (oneF B 7)) (a.2.1 + 1) a.2.2.1).2.2.2 ++ [(213, 0, 0)])) else a := by
          obtain ⟨g, rfl⟩ : ∃ g, f = g + 1 := ⟨f - 1, by omega⟩
          rfl
        refine go_iload dX5_readCond_15 rfl ?_
        refine go_bipush dX5_readCond_17 (by decide) ?_
        refine go_icmp_ge (tgt := 63) dX5_readCond_19 (by decide) ⟨by omega, by omega⟩ ⟨by omega, by omega⟩ (fun h_19 => ?_) (fun h_19 => ?_)
        · exfalso; omega
        · refine go_aload_n dX5_readCond_22 rfl ?_
          refine go_getf_i (ki := 2) dX5_readCond_23 fl_5_54 ob_1 rfl rfl (fun hf_23 => ?_)
          rw [show (m1 1 2 : Int) = (B 4 a.2.1) from hs1.kd] at hf_23 ⊢
          refine go_sipush dX5_readCond_26 (by decide) ?_
          refine go_icmp_ne (tgt := 63) dX5_readCond_29 (by decide) hf_23 ⟨by omega, by omega⟩ (fun h_29 => ?_) (fun h_29 => ?_)
          · refine go_iconst dX5_readCond_63 ?_
            refine go_ret (v := 1) rfl dX5_readCond_64 (okZ (by first | exact Or.inl rfl | exact Or.inr rfl | assumption | omega)) ?_
            rw [seqF_e (B 4) 213, if_neg (fun z => z x1), ← hsl, hsu, if_neg (by omega)]
            exact Or.inl ⟨rfl, ha0, hs1⟩
          · refine go_aload_n dX5_readCond_32 rfl ?_
            refine go_callV_v (as := []) (S := []) (b := 1) (ev_X7_next (m := m1)  (by rw [hs1.1.1, hs1.1.2.1]; have h := hs1.2.1; have := hk.lt h.2 (by omega); omega)) rfl dX5_readCond_33 cv_5_47 rfl rfl ob_1 rfl (by decide) (Nat.le_of_ble_eq_true rfl) (fun m_33 hr_33 => ?_)
            have sq1 := hs1.nx hk (by omega)
            subst hr_33
            refine go_aload_n dX5_readCond_36 rfl ?_
            refine go_aload_n dX5_readCond_37 rfl ?_
            refine go_aload_n dX5_readCond_38 rfl ?_
            refine go_iload_n dX5_readCond_39 rfl ?_
            refine go_callV_z (as := [vr 1, vr 8, vi k]) (S := []) (b := 76) (ev_X5_all7 (m := (nxt m1)) (k := k) (B := B) (i := (a.2.1 + 1)) (o := a.2.2.1) (l := (l ++ a.2.2.2)) sq1 (by first | assumption | omega | exact ⟨by omega, by omega⟩ | (constructor <;> omega)) (by first | assumption | omega | exact ⟨by omega, by omega⟩ | (constructor <;> omega)) (by omega) (by simp only [List.length_append]; omega) (by first | assumption | omega | exact ⟨by omega, by omega⟩ | (constructor <;> omega))) rfl dX5_readCond_40 cv_5_61 rfl rfl ob_76 rfl (by decide) (Nat.le_of_ble_eq_true rfl) (fun r_40 m_40 hr_40 ho_40 => ?_)
            refine go_if_ne (tgt := 48) dX5_readCond_43 (by decide) ⟨by omega, by omega⟩ (fun h_43 => ?_) (fun h_43 => ?_)
            · obtain ⟨-, x1, x2⟩ := hr_40.resolve_right (fun h => h_43 h.1)
              have hR2 := hPB (a.2.1 + 1) a.2.2.1 (by omega) (by omega) x1
              refine go_aload_n dX5_readCond_48 rfl ?_
              refine go_sipush dX5_readCond_49 (by decide) ?_
              refine go_iconst dX5_readCond_52 ?_
              refine go_iconst dX5_readCond_53 ?_
              refine go_callV_v (as := [vi 213, vi 0, vi 0]) (S := []) (b := 76) (ev_X5_add (m := m_40) (k := 213) (g := 0) (v := 0) (by first | assumption | omega | exact ⟨by omega, by omega⟩ | (constructor <;> omega)) (by first | assumption | omega | exact ⟨by omega, by omega⟩ | (constructor <;> omega)) (by first | assumption | omega | exact ⟨by omega, by omega⟩ | (constructor <;> omega)) (by rw [x2.2.2.2.1]; simp only [List.length_append]; omega)) rfl dX5_readCond_54 cv_5_64 rfl rfl ob_76 rfl (by decide) (Nat.le_of_ble_eq_true rfl) (fun m_54 hr_54 => ?_)
              have sq3 := x2.add (k := 213) (g := 0) (v := 0)
              subst hr_54
              refine go_iinc (L' := [vr 76, vr 1, vr 8, vi k, vi (j + 1)]) dX5_readCond_57 rfl (by decide) rfl rfl ?_
              refine go_goto (tgt := 15) dX5_readCond_60 (by decide) ?_
              exact ih_15 (addM m_40 213 0 0) (j + 1) (0, ((seqF (B 4) 214 (oneF B 7)) (a.2.1 + 1) a.2.2.1).2.1, ((seqF (B 4) 214 (oneF B 7)) (a.2.1 + 1) a.2.2.1).2.2.1, a.2.2.2 ++ ((seqF (B 4) 214 (oneF B 7)) (a.2.1 + 1) a.2.2.1).2.2.2 ++ [(213, 0, 0)]) (f - 1) rfl (by show SQ B _ _ _ (l ++ (a.2.2.2 ++ _ ++ _)); rw [← List.append_assoc, ← List.append_assoc]; exact sq3) (by rw [← hsl, hsu, if_pos (by omega), if_neg (fun z => z x1)]) (by first | assumption | omega | rfl) (by
                    refine ⟨⟨?_, ?_⟩, ?_⟩
                    · show o + 1 + (j + 1) ≤ ((seqF (B 4) 214 (oneF B 7)) (a.2.1 + 1) a.2.2.1).2.2.1; omega
                    · show ((seqF (B 4) 214 (oneF B 7)) (a.2.1 + 1) a.2.2.1).2.2.1 ≤ 20; omega
                    · show ((a.2.2.2 ++ ((seqF (B 4) 214 (oneF B 7)) (a.2.1 + 1) a.2.2.1).2.2.2 ++ [(213, 0, 0)] : List Cd).length : Int) + 1 ≤ 2 * (((seqF (B 4) 214 (oneF B 7)) (a.2.1 + 1) a.2.2.1).2.2.1 - o)
                      simp only [List.length_append, List.length_singleton]
                      omega) (by omega)
            · refine go_iconst dX5_readCond_46 ?_
              refine go_ret (v := 0) rfl dX5_readCond_47 (okZ (by first | exact Or.inl rfl | exact Or.inr rfl | assumption | omega)) ?_
              obtain ⟨-, y1, y2⟩ := hr_40.resolve_left (fun h => by have := h.1; omega)
              rw [seqF_e (B 4) 213, if_neg (fun z => z x1), ← hsl, hsu, if_pos (by omega), if_pos y1]
              exact Or.inr ⟨rfl, y1, y2⟩
    exact lp_15 _ m_4 0 ((seqF (B 4) 214 (oneF B 7)) i o) 21 x1 x2 rfl (by first | assumption | omega | rfl) ⟨by omega, hR1.2.2⟩ (Nat.lt_succ_self _)
  · refine go_iconst dX5_readCond_10 ?_
    refine go_ret (v := 0) rfl dX5_readCond_11 (okZ (by first | exact Or.inl rfl | exact Or.inr rfl | assumption | omega)) ?_
    obtain ⟨-, x1, x2⟩ := hr_4.resolve_left (fun h => by have := h.1; omega)
    rw [seqF_e (B 4) 213, if_pos x1]
    exact Or.inr ⟨rfl, x1, x2⟩
set_option maxRecDepth 4000 in
theorem ev_X5_not8 {m : Mem} {B : Mem} {i : Int} {o : Int} {l : List Cd} {k : Int} (hsq : SQ B m i o l) (hk : TkS B) (hdb : DnOk B 8) (ho : 1 ≤ o ∧ o ≤ 20) (hl : (l.length : Int) + 2 ≤ 2 * o) (hd : k = 1) (hki : B 4 i = 215) : Ev 0 49 mX5_readNot [vr 76, vr 1, vr 8, vi k] m (fun r m' => QP B r m' l (notF (oneF B 7) i o)) := by
  refine Ev.of (L := [vr 76, vr 1, vr 8, vi k]) (by decide +kernel) rfl (Nat.le_of_ble_eq_true rfl) rfl (fun t ht => by cases ht; first | exact Or.inl rfl | exact Or.inr (Or.inl rfl) | exact Or.inr (Or.inr rfl)) (fun hcan => ?_)
  have hi := hsq.2.1
  have hkb := hk.1
  have h0 := hsq.2.2.1
  have h1 := hsq.2.2.2.1
  have e12 := hsq.1.1
  have e11 := hsq.1.2.1
  have hR : RB o ((oneF B 7) (i + 1) o) := oneF_b B 7 (i + 1) o (by omega) (by omega)
  refine go_aload_n dX5_readNot_0 rfl ?_
  refine go_callV_v (as := []) (S := []) (b := 1) (ev_X7_next (m := m)  (by rw [hsq.1.1, hsq.1.2.1]; have h := hk.lt hsq.2.1.2 (by omega); have h2 := hsq.2.1; omega)) rfl dX5_readNot_1 cv_5_47 rfl rfl ob_1 rfl (by decide) (Nat.le_of_ble_eq_true rfl) (fun m_1 hr_1 => ?_)
  have sq1 := hsq.nx hk (by omega)
  subst hr_1
  refine go_aload_n dX5_readNot_4 rfl ?_
  refine go_aload_n dX5_readNot_5 rfl ?_
  refine go_aload_n dX5_readNot_6 rfl ?_
  refine go_iload_n dX5_readNot_7 rfl ?_
  refine go_iconst dX5_readNot_8 ?_
  refine go_iadd dX5_readNot_9 ?_
  refine go_callV_z (as := [vr 1, vr 8, vi (k + 1)]) (S := []) (b := 76) (ev_X5_one7 (m := (nxt m)) (k := (k + 1)) (B := B) (i := (i + 1)) (o := o) (l := l) sq1 (by first | assumption | omega | exact ⟨by omega, by omega⟩ | (constructor <;> omega)) (by first | assumption | omega | exact ⟨by omega, by omega⟩ | (constructor <;> omega)) (by first | assumption | omega | exact ⟨by omega, by omega⟩ | (constructor <;> omega)) (by omega) (by first | assumption | omega | exact ⟨by omega, by omega⟩ | (constructor <;> omega))) rfl dX5_readNot_10 cv_5_68 rfl rfl ob_76 rfl (by decide) (Nat.le_of_ble_eq_true rfl) (fun r_10 m_10 hr_10 ho_10 => ?_)
  refine go_if_ne (tgt := 18) dX5_readNot_13 (by decide) ⟨by omega, by omega⟩ (fun h_13 => ?_) (fun h_13 => ?_)
  · obtain ⟨-, x1, x2⟩ := hr_10.resolve_right (fun h => h_13 h.1)
    refine go_aload_n dX5_readNot_18 rfl ?_
    refine go_sipush dX5_readNot_19 (by decide) ?_
    refine go_iconst dX5_readNot_22 ?_
    refine go_iconst dX5_readNot_23 ?_
    refine go_callV_v (as := [vi 215, vi 0, vi 0]) (S := []) (b := 76) (ev_X5_add (m := m_10) (k := 215) (g := 0) (v := 0) (by first | assumption | omega | exact ⟨by omega, by omega⟩ | (constructor <;> omega)) (by first | assumption | omega | exact ⟨by omega, by omega⟩ | (constructor <;> omega)) (by first | assumption | omega | exact ⟨by omega, by omega⟩ | (constructor <;> omega)) (by rw [x2.2.2.2.1]; simp only [List.length_append]; have h := hR x1; omega)) rfl dX5_readNot_24 cv_5_64 rfl rfl ob_76 rfl (by decide) (Nat.le_of_ble_eq_true rfl) (fun m_24 hr_24 => ?_)
    have sq3 := x2.add (k := 215) (g := 0) (v := 0)
    subst hr_24
    refine go_iconst dX5_readNot_27 ?_
    refine go_ret (v := 1) rfl dX5_readNot_28 (okZ (by first | exact Or.inl rfl | exact Or.inr rfl | assumption | omega)) ?_
    rw [List.append_assoc] at sq3
    exact Or.inl ⟨rfl, x1, sq3⟩
  · refine go_iconst dX5_readNot_16 ?_
    refine go_ret (v := 0) rfl dX5_readNot_17 (okZ (by first | exact Or.inl rfl | exact Or.inr rfl | assumption | omega)) ?_
    obtain ⟨-, x1, x2⟩ := hr_10.resolve_left (fun h => by have := h.1; omega)
    exact Or.inr ⟨rfl, x1, x2⟩
set_option maxRecDepth 4000 in
theorem ev_X5_brk8 {m : Mem} {B : Mem} {i : Int} {o : Int} {l : List Cd} {k : Int} (hsq : SQ B m i o l) (hk : TkS B) (hdb : DnOk B 8) (ho : 1 ≤ o ∧ o ≤ 20) (hl : (l.length : Int) + 2 ≤ 2 * o) (hd : k = 1) (hki : B 4 i = 40) : Ev 0 49 mX5_readBracket [vr 76, vr 1, vr 8, vi k] m (fun r m' => QP B r m' l (brkF (B 4) (seqF (B 4) 213 (seqF (B 4) 214 (oneF B 7))) i o)) := by
  refine Ev.of (L := [vr 76, vr 1, vr 8, vi k]) (by decide +kernel) rfl (Nat.le_of_ble_eq_true rfl) rfl (fun t ht => by cases ht; first | exact Or.inl rfl | exact Or.inr (Or.inl rfl) | exact Or.inr (Or.inr rfl)) (fun hcan => ?_)
  have hi := hsq.2.1
  have hkb := hk.1
  have h0 := hsq.2.2.1
  have h1 := hsq.2.2.2.1
  have e12 := hsq.1.1
  have e11 := hsq.1.2.1
  refine go_aload_n dX5_readBracket_0 rfl ?_
  refine go_callV_v (as := []) (S := []) (b := 1) (ev_X7_next (m := m)  (by rw [hsq.1.1, hsq.1.2.1]; have h := hk.lt hsq.2.1.2 (by omega); have h2 := hsq.2.1; omega)) rfl dX5_readBracket_1 cv_5_47 rfl rfl ob_1 rfl (by decide) (Nat.le_of_ble_eq_true rfl) (fun m_1 hr_1 => ?_)
  have sq1 := hsq.nx hk (by omega)
  subst hr_1
  refine go_aload_n dX5_readBracket_4 rfl ?_
  refine go_aload_n dX5_readBracket_5 rfl ?_
  refine go_aload_n dX5_readBracket_6 rfl ?_
  refine go_iload_n dX5_readBracket_7 rfl ?_
  refine go_iconst dX5_readBracket_8 ?_
  refine go_iadd dX5_readBracket_9 ?_
  refine go_callV_z (as := [vr 1, vr 8, vi (k + 1)]) (S := []) (b := 76) (ev_X5_con7 (m := (nxt m)) (k := (k + 1)) (B := B) (i := (i + 1)) (o := o) (l := l) sq1 (by first | assumption | omega | exact ⟨by omega, by omega⟩ | (constructor <;> omega)) (by first | assumption | omega | exact ⟨by omega, by omega⟩ | (constructor <;> omega)) (by first | assumption | omega | exact ⟨by omega, by omega⟩ | (constructor <;> omega)) (by omega) (by first | assumption | omega | exact ⟨by omega, by omega⟩ | (constructor <;> omega))) rfl dX5_readBracket_10 cv_5_50 rfl rfl ob_76 rfl (by decide) (Nat.le_of_ble_eq_true rfl) (fun r_10 m_10 hr_10 ho_10 => ?_)
  obtain ⟨R, hRe⟩ : ∃ z, z = seqF (B 4) 213 (seqF (B 4) 214 (oneF B 7)) (i + 1) o := ⟨_, rfl⟩
  rw [← hRe] at hr_10
  refine go_if_ne (tgt := 18) dX5_readBracket_13 (by decide) ⟨by omega, by omega⟩ (fun h_13 => ?_) (fun h_13 => ?_)
  · obtain ⟨-, x1, x2⟩ := hr_10.resolve_right (fun h => h_13 h.1)
    refine go_aload_n dX5_readBracket_18 rfl ?_
    refine go_getf_i (ki := 2) dX5_readBracket_19 fl_5_54 ob_1 rfl rfl (fun hf_19 => ?_)
    rw [show (m_10 1 2 : Int) = (B 4 R.2.1) from x2.kd] at hf_19 ⊢
    refine go_bipush dX5_readBracket_22 (by decide) ?_
    refine go_icmp_eq (tgt := 33) dX5_readBracket_24 (by decide) ⟨by omega, by omega⟩ ⟨by omega, by omega⟩ (fun h_24 => ?_) (fun h_24 => ?_)
    · refine go_aload_n dX5_readBracket_33 rfl ?_
      refine go_callV_v (as := []) (S := []) (b := 1) (ev_X7_next (m := m_10)  (by rw [x2.1.1, x2.1.2.1]; have h := x2.2.1; have := hk.lt h.2 (by omega); omega)) rfl dX5_readBracket_34 cv_5_47 rfl rfl ob_1 rfl (by decide) (Nat.le_of_ble_eq_true rfl) (fun m_34 hr_34 => ?_)
      have sq3 := x2.nx hk (by omega)
      subst hr_34
      refine go_iconst dX5_readBracket_37 ?_
      refine go_ret (v := 1) rfl dX5_readBracket_38 (okZ (by first | exact Or.inl rfl | exact Or.inr rfl | assumption | omega)) ?_
      unfold brkF
      rw [← hRe, if_neg (fun z => z x1), if_pos (by omega)]
      exact Or.inl ⟨rfl, rfl, sq3⟩
    · refine go_aload_n dX5_readBracket_27 rfl ?_
      refine go_iconst dX5_readBracket_28 ?_
      refine go_callV_z (as := [vi 1]) (S := []) (b := 1) (ev_X7_refuse (m := m_10) (k := 1) (by first | assumption | omega | exact ⟨by omega, by omega⟩ | (constructor <;> omega))) rfl dX5_readBracket_29 cv_5_57 rfl rfl ob_1 rfl (by decide) (Nat.le_of_ble_eq_true rfl) (fun r_29 m_29 hr_29 ho_29 => ?_)
      refine go_ret (v := r_29) rfl dX5_readBracket_32 (okZ (by first | exact Or.inl rfl | exact Or.inr rfl | assumption | omega)) ?_
      unfold brkF
      rw [← hRe, if_neg (fun z => z x1), if_neg (by omega), hr_29.2]
      exact Or.inr ⟨by omega, (show (1 : Int) ≠ 0 by decide), x2.ref⟩
  · refine go_iconst dX5_readBracket_16 ?_
    refine go_ret (v := 0) rfl dX5_readBracket_17 (okZ (by first | exact Or.inl rfl | exact Or.inr rfl | assumption | omega)) ?_
    obtain ⟨-, x1, x2⟩ := hr_10.resolve_left (fun h => by have := h.1; omega)
    unfold brkF
    rw [← hRe, if_pos x1]
    exact Or.inr ⟨rfl, x1, x2⟩
set_option maxRecDepth 4000 in
theorem ev_X5_one8 {m : Mem} {B : Mem} {i : Int} {o : Int} {l : List Cd} {k : Int} (hsq : SQ B m i o l) (hk : TkS B) (hdb : DnOk B 8) (ho : 0 ≤ o ∧ o ≤ 20) (hl : (l.length : Int) ≤ 2 * o) (hd : k = 1) : Ev 0 50 mX5_readOne [vr 76, vr 1, vr 8, vi k] m (fun r m' => QP B r m' l (oneF B 8 i o)) := by
  refine Ev.of (L := [vr 76, vr 1, vr 8, vi k, un]) (by decide +kernel) rfl (Nat.le_of_ble_eq_true rfl) rfl (fun t ht => by cases ht; first | exact Or.inl rfl | exact Or.inr (Or.inl rfl) | exact Or.inr (Or.inr rfl)) (fun hcan => ?_)
  have hi := hsq.2.1
  have hkb := hk.1
  have h0 := hsq.2.2.1
  have h1 := hsq.2.2.2.1
  have e12 := hsq.1.1
  have e11 := hsq.1.2.1
  refine go_aload_n dX5_readOne_0 rfl ?_
  refine go_getf_i (ki := 2) dX5_readOne_1 fl_5_54 ob_1 rfl rfl (fun hf_1 => ?_)
  rw [show (m 1 2 : Int) = (B 4 i) from hsq.kd] at hf_1 ⊢
  refine go_istore (L' := [vr 76, vr 1, vr 8, vi k, vi (B 4 i)]) dX5_readOne_4 (by decide) rfl rfl ?_
  refine go_iload dX5_readOne_6 rfl ?_
  refine go_bipush dX5_readOne_8 (by decide) ?_
  refine go_icmp_eq (tgt := 33) dX5_readOne_10 (by decide) ⟨by omega, by omega⟩ ⟨by omega, by omega⟩ (fun h_10 => ?_) (fun h_10 => ?_)
  · refine go_aload_n dX5_readOne_33 rfl ?_
    refine go_getf_i (ki := 0) dX5_readOne_34 fl_5_9 ob_76 rfl rfl (fun hf_34 => ?_)
    rw [show (m 76 0 : Int) = o from h0] at hf_34 ⊢
    refine go_bipush dX5_readOne_37 (by decide) ?_
    refine go_icmp_ge (tgt := 48) dX5_readOne_39 (by decide) ⟨by omega, by omega⟩ ⟨by omega, by omega⟩ (fun h_39 => ?_) (fun h_39 => ?_)
    · refine go_aload_n dX5_readOne_48 rfl ?_
      refine go_iconst dX5_readOne_49 ?_
      refine go_callV_z (as := [vi 4]) (S := []) (b := 1) (ev_X7_refuse (m := m) (k := 4) (by first | assumption | omega | exact ⟨by omega, by omega⟩ | (constructor <;> omega))) rfl dX5_readOne_50 cv_5_57 rfl rfl ob_1 rfl (by decide) (Nat.le_of_ble_eq_true rfl) (fun r_50 m_50 hr_50 ho_50 => ?_)
      refine go_ret (v := r_50) rfl dX5_readOne_53 (okZ (by first | exact Or.inl rfl | exact Or.inr rfl | assumption | omega)) ?_
      rw [hr_50.2, show oneF B 8 i o = (4, i, o, []) by unfold oneF; rw [if_neg (by omega), if_pos (by omega)]]
      exact Or.inr ⟨by omega, (show (4 : Int) ≠ 0 by decide), hsq.ref⟩
    · refine go_iload_n dX5_readOne_42 rfl ?_
      refine go_bipush dX5_readOne_43 (by decide) ?_
      refine go_icmp_le (tgt := 54) dX5_readOne_45 (by decide) ⟨by omega, by omega⟩ ⟨by omega, by omega⟩ (fun h_45 => ?_) (fun h_45 => ?_)
      · refine go_aload_n dX5_readOne_54 rfl ?_
        refine go_dup_r dX5_readOne_55 ?_
        refine go_getf_i (ki := 0) dX5_readOne_56 fl_5_9 ob_76 rfl rfl (fun hf_56 => ?_)
        rw [show (m 76 0 : Int) = o from h0] at hf_56 ⊢
        refine go_iconst dX5_readOne_59 ?_
        refine go_iadd dX5_readOne_60 ?_
        refine go_putf_i (ki := 0) dX5_readOne_61 fw_5_9 ob_76 rfl rfl ⟨by omega, by omega⟩ ?_
        have sq1 := hsq.one (x := o + 1)
        refine go_iload dX5_readOne_64 rfl ?_
        by_cases hk_66_0 : (B 4 i) = 40
        · refine go_lswitch (off := 82) (tgt := 148) dX5_readOne_66 ⟨by omega, by omega⟩ (by decide) (by rw [hk_66_0] <;> rfl) (by decide) ?_
          refine go_aload_n dX5_readOne_148 rfl ?_
          refine go_aload_n dX5_readOne_149 rfl ?_
          refine go_aload_n dX5_readOne_150 rfl ?_
          refine go_iload_n dX5_readOne_151 rfl ?_
          refine go_callV_z (as := [vr 1, vr 8, vi k]) (S := []) (b := 76) (ev_X5_brk8 (m := (wr m 76 0 (o + 1))) (k := k) (B := B) (i := i) (o := (o + 1)) (l := l) sq1 (by first | assumption | omega | exact ⟨by omega, by omega⟩ | (constructor <;> omega)) (by first | assumption | omega | exact ⟨by omega, by omega⟩ | (constructor <;> omega)) (by omega) (by omega) (by first | assumption | omega | exact ⟨by omega, by omega⟩ | (constructor <;> omega)) (by first | assumption | omega | exact ⟨by omega, by omega⟩ | (constructor <;> omega))) rfl dX5_readOne_152 cv_5_78 rfl rfl ob_76 rfl (by decide) (Nat.le_of_ble_eq_true rfl) (fun r_152 m_152 hr_152 ho_152 => ?_)
          refine go_ret (v := r_152) rfl dX5_readOne_155 (okZ (by first | exact Or.inl rfl | exact Or.inr rfl | assumption | omega)) ?_
          rw [show oneF B 8 i o = brkF (B 4) (seqF (B 4) 213 (seqF (B 4) 214 (oneF B 7))) i (o + 1) by unfold oneF; rw [if_neg (by omega), if_neg (by omega), if_neg (by omega), if_pos (by omega)]]
          exact hr_152
        · skip
          by_cases hk_66_1 : (B 4 i) = 215
          · refine go_lswitch (off := 74) (tgt := 140) dX5_readOne_66 ⟨by omega, by omega⟩ (by decide) (by rw [hk_66_1] <;> rfl) (by decide) ?_
            refine go_aload_n dX5_readOne_140 rfl ?_
            refine go_aload_n dX5_readOne_141 rfl ?_
            refine go_aload_n dX5_readOne_142 rfl ?_
            refine go_iload_n dX5_readOne_143 rfl ?_
            refine go_callV_z (as := [vr 1, vr 8, vi k]) (S := []) (b := 76) (ev_X5_not8 (m := (wr m 76 0 (o + 1))) (k := k) (B := B) (i := i) (o := (o + 1)) (l := l) sq1 (by first | assumption | omega | exact ⟨by omega, by omega⟩ | (constructor <;> omega)) (by first | assumption | omega | exact ⟨by omega, by omega⟩ | (constructor <;> omega)) (by omega) (by omega) (by first | assumption | omega | exact ⟨by omega, by omega⟩ | (constructor <;> omega)) (by first | assumption | omega | exact ⟨by omega, by omega⟩ | (constructor <;> omega))) rfl dX5_readOne_144 cv_5_75 rfl rfl ob_76 rfl (by decide) (Nat.le_of_ble_eq_true rfl) (fun r_144 m_144 hr_144 ho_144 => ?_)
            refine go_ret (v := r_144) rfl dX5_readOne_147 (okZ (by first | exact Or.inl rfl | exact Or.inr rfl | assumption | omega)) ?_
            rw [show oneF B 8 i o = notF (oneF B 7) i (o + 1) by unfold oneF; rw [if_neg (by omega), if_neg (by omega), if_pos (by omega)]]
            exact hr_144
          · skip
            by_cases hk_66_2 : (B 4 i) = 219
            · refine go_lswitch (off := 90) (tgt := 156) dX5_readOne_66 ⟨by omega, by omega⟩ (by decide) (by rw [hk_66_2] <;> rfl) (by decide) ?_
              refine go_aload_n dX5_readOne_156 rfl ?_
              refine go_aload_n dX5_readOne_157 rfl ?_
              refine go_aload_n dX5_readOne_158 rfl ?_
              refine go_iload dX5_readOne_159 rfl ?_
              refine go_callV_z (as := [vr 1, vr 8, vi (B 4 i)]) (S := []) (b := 76) (ev_X5_readNamed (m := (wr m 76 0 (o + 1))) (k := (B 4 i)) (B := B) (i := i) (o := (o + 1)) (l := l) sq1 (by first | assumption | omega | exact ⟨by omega, by omega⟩ | (constructor <;> omega)) (by first | assumption | omega | exact ⟨by omega, by omega⟩ | (constructor <;> omega)) (by omega) (by omega) (by first | assumption | omega | exact ⟨by omega, by omega⟩ | (constructor <;> omega)) (by first | assumption | omega | exact ⟨by omega, by omega⟩ | (constructor <;> omega))) rfl dX5_readOne_161 cv_5_81 rfl rfl ob_76 rfl (by decide) (Nat.le_of_ble_eq_true rfl) (fun r_161 m_161 hr_161 ho_161 => ?_)
              refine go_ret (v := r_161) rfl dX5_readOne_164 (okZ (by first | exact Or.inl rfl | exact Or.inr rfl | assumption | omega)) ?_
              rw [show oneF B 8 i o = namF B i (o + 1) by unfold oneF; rw [if_neg (by omega), if_neg (by omega), if_neg (by omega), if_neg (by omega), if_pos (by omega)]]
              exact hr_161
            · skip
              by_cases hk_66_3 : (B 4 i) = 220
              · refine go_lswitch (off := 90) (tgt := 156) dX5_readOne_66 ⟨by omega, by omega⟩ (by decide) (by rw [hk_66_3] <;> rfl) (by decide) ?_
                refine go_aload_n dX5_readOne_156 rfl ?_
                refine go_aload_n dX5_readOne_157 rfl ?_
                refine go_aload_n dX5_readOne_158 rfl ?_
                refine go_iload dX5_readOne_159 rfl ?_
                refine go_callV_z (as := [vr 1, vr 8, vi (B 4 i)]) (S := []) (b := 76) (ev_X5_readNamed (m := (wr m 76 0 (o + 1))) (k := (B 4 i)) (B := B) (i := i) (o := (o + 1)) (l := l) sq1 (by first | assumption | omega | exact ⟨by omega, by omega⟩ | (constructor <;> omega)) (by first | assumption | omega | exact ⟨by omega, by omega⟩ | (constructor <;> omega)) (by omega) (by omega) (by first | assumption | omega | exact ⟨by omega, by omega⟩ | (constructor <;> omega)) (by first | assumption | omega | exact ⟨by omega, by omega⟩ | (constructor <;> omega))) rfl dX5_readOne_161 cv_5_81 rfl rfl ob_76 rfl (by decide) (Nat.le_of_ble_eq_true rfl) (fun r_161 m_161 hr_161 ho_161 => ?_)
                refine go_ret (v := r_161) rfl dX5_readOne_164 (okZ (by first | exact Or.inl rfl | exact Or.inr rfl | assumption | omega)) ?_
                rw [show oneF B 8 i o = namF B i (o + 1) by unfold oneF; rw [if_neg (by omega), if_neg (by omega), if_neg (by omega), if_neg (by omega), if_pos (by omega)]]
                exact hr_161
              · skip
                by_cases hk_66_4 : (B 4 i) = 221
                · refine go_lswitch (off := 99) (tgt := 165) dX5_readOne_66 ⟨by omega, by omega⟩ (by decide) (by rw [hk_66_4] <;> rfl) (by decide) ?_
                  refine go_aload_n dX5_readOne_165 rfl ?_
                  refine go_aload_n dX5_readOne_166 rfl ?_
                  refine go_iload dX5_readOne_167 rfl ?_
                  refine go_callV_z (as := [vr 1, vi (B 4 i)]) (S := []) (b := 76) (ev_X5_readCompared (m := (wr m 76 0 (o + 1))) (k := (B 4 i)) (B := B) (i := i) (o := (o + 1)) (l := l) sq1 (by first | assumption | omega | exact ⟨by omega, by omega⟩ | (constructor <;> omega)) (by first | assumption | omega | exact ⟨by omega, by omega⟩ | (constructor <;> omega)) (by omega) (by omega) (by first | assumption | omega | exact ⟨by omega, by omega⟩ | (constructor <;> omega)) (by first | assumption | omega | exact ⟨by omega, by omega⟩ | (constructor <;> omega))) rfl dX5_readOne_169 cv_5_84 rfl rfl ob_76 rfl (by decide) (Nat.le_of_ble_eq_true rfl) (fun r_169 m_169 hr_169 ho_169 => ?_)
                  refine go_ret (v := r_169) rfl dX5_readOne_172 (okZ (by first | exact Or.inl rfl | exact Or.inr rfl | assumption | omega)) ?_
                  rw [show oneF B 8 i o = cmpF B i (o + 1) by unfold oneF; rw [if_neg (by omega), if_neg (by omega), if_neg (by omega), if_neg (by omega), if_neg (by omega), if_pos (by omega)]]
                  exact hr_169
                · skip
                  by_cases hk_66_5 : (B 4 i) = 222
                  · refine go_lswitch (off := 99) (tgt := 165) dX5_readOne_66 ⟨by omega, by omega⟩ (by decide) (by rw [hk_66_5] <;> rfl) (by decide) ?_
                    refine go_aload_n dX5_readOne_165 rfl ?_
                    refine go_aload_n dX5_readOne_166 rfl ?_
                    refine go_iload dX5_readOne_167 rfl ?_
                    refine go_callV_z (as := [vr 1, vi (B 4 i)]) (S := []) (b := 76) (ev_X5_readCompared (m := (wr m 76 0 (o + 1))) (k := (B 4 i)) (B := B) (i := i) (o := (o + 1)) (l := l) sq1 (by first | assumption | omega | exact ⟨by omega, by omega⟩ | (constructor <;> omega)) (by first | assumption | omega | exact ⟨by omega, by omega⟩ | (constructor <;> omega)) (by omega) (by omega) (by first | assumption | omega | exact ⟨by omega, by omega⟩ | (constructor <;> omega)) (by first | assumption | omega | exact ⟨by omega, by omega⟩ | (constructor <;> omega))) rfl dX5_readOne_169 cv_5_84 rfl rfl ob_76 rfl (by decide) (Nat.le_of_ble_eq_true rfl) (fun r_169 m_169 hr_169 ho_169 => ?_)
                    refine go_ret (v := r_169) rfl dX5_readOne_172 (okZ (by first | exact Or.inl rfl | exact Or.inr rfl | assumption | omega)) ?_
                    rw [show oneF B 8 i o = cmpF B i (o + 1) by unfold oneF; rw [if_neg (by omega), if_neg (by omega), if_neg (by omega), if_neg (by omega), if_neg (by omega), if_pos (by omega)]]
                    exact hr_169
                  · skip
                    by_cases hk_66_6 : (B 4 i) = 223
                    · refine go_lswitch (off := 99) (tgt := 165) dX5_readOne_66 ⟨by omega, by omega⟩ (by decide) (by rw [hk_66_6] <;> rfl) (by decide) ?_
                      refine go_aload_n dX5_readOne_165 rfl ?_
                      refine go_aload_n dX5_readOne_166 rfl ?_
                      refine go_iload dX5_readOne_167 rfl ?_
                      refine go_callV_z (as := [vr 1, vi (B 4 i)]) (S := []) (b := 76) (ev_X5_readCompared (m := (wr m 76 0 (o + 1))) (k := (B 4 i)) (B := B) (i := i) (o := (o + 1)) (l := l) sq1 (by first | assumption | omega | exact ⟨by omega, by omega⟩ | (constructor <;> omega)) (by first | assumption | omega | exact ⟨by omega, by omega⟩ | (constructor <;> omega)) (by omega) (by omega) (by first | assumption | omega | exact ⟨by omega, by omega⟩ | (constructor <;> omega)) (by first | assumption | omega | exact ⟨by omega, by omega⟩ | (constructor <;> omega))) rfl dX5_readOne_169 cv_5_84 rfl rfl ob_76 rfl (by decide) (Nat.le_of_ble_eq_true rfl) (fun r_169 m_169 hr_169 ho_169 => ?_)
                      refine go_ret (v := r_169) rfl dX5_readOne_172 (okZ (by first | exact Or.inl rfl | exact Or.inr rfl | assumption | omega)) ?_
                      rw [show oneF B 8 i o = cmpF B i (o + 1) by unfold oneF; rw [if_neg (by omega), if_neg (by omega), if_neg (by omega), if_neg (by omega), if_neg (by omega), if_pos (by omega)]]
                      exact hr_169
                    · skip
                      by_cases hk_66_7 : (B 4 i) = 224
                      · refine go_lswitch (off := 99) (tgt := 165) dX5_readOne_66 ⟨by omega, by omega⟩ (by decide) (by rw [hk_66_7] <;> rfl) (by decide) ?_
                        refine go_aload_n dX5_readOne_165 rfl ?_
                        refine go_aload_n dX5_readOne_166 rfl ?_
                        refine go_iload dX5_readOne_167 rfl ?_
                        refine go_callV_z (as := [vr 1, vi (B 4 i)]) (S := []) (b := 76) (ev_X5_readCompared (m := (wr m 76 0 (o + 1))) (k := (B 4 i)) (B := B) (i := i) (o := (o + 1)) (l := l) sq1 (by first | assumption | omega | exact ⟨by omega, by omega⟩ | (constructor <;> omega)) (by first | assumption | omega | exact ⟨by omega, by omega⟩ | (constructor <;> omega)) (by omega) (by omega) (by first | assumption | omega | exact ⟨by omega, by omega⟩ | (constructor <;> omega)) (by first | assumption | omega | exact ⟨by omega, by omega⟩ | (constructor <;> omega))) rfl dX5_readOne_169 cv_5_84 rfl rfl ob_76 rfl (by decide) (Nat.le_of_ble_eq_true rfl) (fun r_169 m_169 hr_169 ho_169 => ?_)
                        refine go_ret (v := r_169) rfl dX5_readOne_172 (okZ (by first | exact Or.inl rfl | exact Or.inr rfl | assumption | omega)) ?_
                        rw [show oneF B 8 i o = cmpF B i (o + 1) by unfold oneF; rw [if_neg (by omega), if_neg (by omega), if_neg (by omega), if_neg (by omega), if_neg (by omega), if_pos (by omega)]]
                        exact hr_169
                      · skip
                        refine go_lswitch (off := 107) (tgt := 173) dX5_readOne_66 ⟨by omega, by omega⟩ (by decide) (by simp [Op.lookupswitch.offset, hk_66_0, show ¬ (40 : Int) = (B 4 i) from fun z => hk_66_0 z.symm, hk_66_1, show ¬ (215 : Int) = (B 4 i) from fun z => hk_66_1 z.symm, hk_66_2, show ¬ (219 : Int) = (B 4 i) from fun z => hk_66_2 z.symm, hk_66_3, show ¬ (220 : Int) = (B 4 i) from fun z => hk_66_3 z.symm, hk_66_4, show ¬ (221 : Int) = (B 4 i) from fun z => hk_66_4 z.symm, hk_66_5, show ¬ (222 : Int) = (B 4 i) from fun z => hk_66_5 z.symm, hk_66_6, show ¬ (223 : Int) = (B 4 i) from fun z => hk_66_6 z.symm, hk_66_7, show ¬ (224 : Int) = (B 4 i) from fun z => hk_66_7 z.symm]) (by decide) ?_
                        refine go_aload_n dX5_readOne_173 rfl ?_
                        refine go_iload dX5_readOne_174 rfl ?_
                        refine go_iconst dX5_readOne_176 ?_
                        refine go_iconst dX5_readOne_177 ?_
                        refine go_callV_v (as := [vi (B 4 i), vi 0, vi 0]) (S := []) (b := 76) (ev_X5_add (m := (wr m 76 0 (o + 1))) (k := (B 4 i)) (g := 0) (v := 0) (by first | assumption | omega | exact ⟨by omega, by omega⟩ | (constructor <;> omega)) (by first | assumption | omega | exact ⟨by omega, by omega⟩ | (constructor <;> omega)) (by first | assumption | omega | exact ⟨by omega, by omega⟩ | (constructor <;> omega)) (by rw [sq1.2.2.2.1]; omega)) rfl dX5_readOne_178 cv_5_64 rfl rfl ob_76 rfl (by decide) (Nat.le_of_ble_eq_true rfl) (fun m_178 hr_178 => ?_)
                        have sq3 := sq1.add (k := B 4 i) (g := 0) (v := 0)
                        subst hr_178
                        refine go_aload_n dX5_readOne_181 rfl ?_
                        refine go_callV_v (as := []) (S := []) (b := 1) (ev_X7_next (m := (addM (wr m 76 0 (o + 1)) (B 4 i) 0 0))  (by rw [sq3.1.1, sq3.1.2.1]; have h := hk.lt sq3.2.1.2 (by omega); have h2 := sq3.2.1; omega)) rfl dX5_readOne_182 cv_5_47 rfl rfl ob_1 rfl (by decide) (Nat.le_of_ble_eq_true rfl) (fun m_182 hr_182 => ?_)
                        have sq4 := sq3.nx hk (by omega)
                        subst hr_182
                        refine go_iconst dX5_readOne_185 ?_
                        refine go_ret (v := 1) rfl dX5_readOne_186 (okZ (by first | exact Or.inl rfl | exact Or.inr rfl | assumption | omega)) ?_
                        rw [show oneF B 8 i o = (0, i + 1, o + 1, [(B 4 i, 0, 0)]) by unfold oneF; rw [if_neg (by omega), if_neg (by omega), if_neg (by omega), if_neg (by omega), if_neg (by omega), if_neg (by omega)]]
                        exact Or.inl ⟨rfl, rfl, sq4⟩
      · exfalso; omega
  · refine go_iload dX5_readOne_13 rfl ?_
    refine go_sipush dX5_readOne_15 (by decide) ?_
    refine go_sipush dX5_readOne_18 (by decide) ?_
    refine go_callSp_z (as := [vi (B 4 i), vi 215, vi 224]) (S := []) (ev_X11_isIn (m := m) (n := (B 4 i)) (lo := 215) (hi := 224) (by first | assumption | omega | exact ⟨by omega, by omega⟩ | (constructor <;> omega)) (by first | assumption | omega | exact ⟨by omega, by omega⟩ | (constructor <;> omega)) (by first | assumption | omega | exact ⟨by omega, by omega⟩ | (constructor <;> omega))) rfl dX5_readOne_21 cs_5_71 rfl rfl (by decide) (Nat.le_of_ble_eq_true rfl) (fun r_21 hr_21 ho_21 => ?_)
    refine go_if_ne (tgt := 33) dX5_readOne_24 (by decide) ⟨by omega, by omega⟩ (fun h_24 => ?_) (fun h_24 => ?_)
    · refine go_aload_n dX5_readOne_33 rfl ?_
      refine go_getf_i (ki := 0) dX5_readOne_34 fl_5_9 ob_76 rfl rfl (fun hf_34 => ?_)
      rw [show (m 76 0 : Int) = o from h0] at hf_34 ⊢
      refine go_bipush dX5_readOne_37 (by decide) ?_
      refine go_icmp_ge (tgt := 48) dX5_readOne_39 (by decide) ⟨by omega, by omega⟩ ⟨by omega, by omega⟩ (fun h_39 => ?_) (fun h_39 => ?_)
      · refine go_aload_n dX5_readOne_48 rfl ?_
        refine go_iconst dX5_readOne_49 ?_
        refine go_callV_z (as := [vi 4]) (S := []) (b := 1) (ev_X7_refuse (m := m) (k := 4) (by first | assumption | omega | exact ⟨by omega, by omega⟩ | (constructor <;> omega))) rfl dX5_readOne_50 cv_5_57 rfl rfl ob_1 rfl (by decide) (Nat.le_of_ble_eq_true rfl) (fun r_50 m_50 hr_50 ho_50 => ?_)
        refine go_ret (v := r_50) rfl dX5_readOne_53 (okZ (by first | exact Or.inl rfl | exact Or.inr rfl | assumption | omega)) ?_
        rw [hr_50.2, show oneF B 8 i o = (4, i, o, []) by unfold oneF; rw [if_neg (by omega), if_pos (by omega)]]
        exact Or.inr ⟨by omega, (show (4 : Int) ≠ 0 by decide), hsq.ref⟩
      · refine go_iload_n dX5_readOne_42 rfl ?_
        refine go_bipush dX5_readOne_43 (by decide) ?_
        refine go_icmp_le (tgt := 54) dX5_readOne_45 (by decide) ⟨by omega, by omega⟩ ⟨by omega, by omega⟩ (fun h_45 => ?_) (fun h_45 => ?_)
        · refine go_aload_n dX5_readOne_54 rfl ?_
          refine go_dup_r dX5_readOne_55 ?_
          refine go_getf_i (ki := 0) dX5_readOne_56 fl_5_9 ob_76 rfl rfl (fun hf_56 => ?_)
          rw [show (m 76 0 : Int) = o from h0] at hf_56 ⊢
          refine go_iconst dX5_readOne_59 ?_
          refine go_iadd dX5_readOne_60 ?_
          refine go_putf_i (ki := 0) dX5_readOne_61 fw_5_9 ob_76 rfl rfl ⟨by omega, by omega⟩ ?_
          have sq1 := hsq.one (x := o + 1)
          refine go_iload dX5_readOne_64 rfl ?_
          by_cases hk_66_0 : (B 4 i) = 40
          · refine go_lswitch (off := 82) (tgt := 148) dX5_readOne_66 ⟨by omega, by omega⟩ (by decide) (by rw [hk_66_0] <;> rfl) (by decide) ?_
            refine go_aload_n dX5_readOne_148 rfl ?_
            refine go_aload_n dX5_readOne_149 rfl ?_
            refine go_aload_n dX5_readOne_150 rfl ?_
            refine go_iload_n dX5_readOne_151 rfl ?_
            refine go_callV_z (as := [vr 1, vr 8, vi k]) (S := []) (b := 76) (ev_X5_brk8 (m := (wr m 76 0 (o + 1))) (k := k) (B := B) (i := i) (o := (o + 1)) (l := l) sq1 (by first | assumption | omega | exact ⟨by omega, by omega⟩ | (constructor <;> omega)) (by first | assumption | omega | exact ⟨by omega, by omega⟩ | (constructor <;> omega)) (by omega) (by omega) (by first | assumption | omega | exact ⟨by omega, by omega⟩ | (constructor <;> omega)) (by first | assumption | omega | exact ⟨by omega, by omega⟩ | (constructor <;> omega))) rfl dX5_readOne_152 cv_5_78 rfl rfl ob_76 rfl (by decide) (Nat.le_of_ble_eq_true rfl) (fun r_152 m_152 hr_152 ho_152 => ?_)
            refine go_ret (v := r_152) rfl dX5_readOne_155 (okZ (by first | exact Or.inl rfl | exact Or.inr rfl | assumption | omega)) ?_
            rw [show oneF B 8 i o = brkF (B 4) (seqF (B 4) 213 (seqF (B 4) 214 (oneF B 7))) i (o + 1) by unfold oneF; rw [if_neg (by omega), if_neg (by omega), if_neg (by omega), if_pos (by omega)]]
            exact hr_152
          · skip
            by_cases hk_66_1 : (B 4 i) = 215
            · refine go_lswitch (off := 74) (tgt := 140) dX5_readOne_66 ⟨by omega, by omega⟩ (by decide) (by rw [hk_66_1] <;> rfl) (by decide) ?_
              refine go_aload_n dX5_readOne_140 rfl ?_
              refine go_aload_n dX5_readOne_141 rfl ?_
              refine go_aload_n dX5_readOne_142 rfl ?_
              refine go_iload_n dX5_readOne_143 rfl ?_
              refine go_callV_z (as := [vr 1, vr 8, vi k]) (S := []) (b := 76) (ev_X5_not8 (m := (wr m 76 0 (o + 1))) (k := k) (B := B) (i := i) (o := (o + 1)) (l := l) sq1 (by first | assumption | omega | exact ⟨by omega, by omega⟩ | (constructor <;> omega)) (by first | assumption | omega | exact ⟨by omega, by omega⟩ | (constructor <;> omega)) (by omega) (by omega) (by first | assumption | omega | exact ⟨by omega, by omega⟩ | (constructor <;> omega)) (by first | assumption | omega | exact ⟨by omega, by omega⟩ | (constructor <;> omega))) rfl dX5_readOne_144 cv_5_75 rfl rfl ob_76 rfl (by decide) (Nat.le_of_ble_eq_true rfl) (fun r_144 m_144 hr_144 ho_144 => ?_)
              refine go_ret (v := r_144) rfl dX5_readOne_147 (okZ (by first | exact Or.inl rfl | exact Or.inr rfl | assumption | omega)) ?_
              rw [show oneF B 8 i o = notF (oneF B 7) i (o + 1) by unfold oneF; rw [if_neg (by omega), if_neg (by omega), if_pos (by omega)]]
              exact hr_144
            · skip
              by_cases hk_66_2 : (B 4 i) = 219
              · refine go_lswitch (off := 90) (tgt := 156) dX5_readOne_66 ⟨by omega, by omega⟩ (by decide) (by rw [hk_66_2] <;> rfl) (by decide) ?_
                refine go_aload_n dX5_readOne_156 rfl ?_
                refine go_aload_n dX5_readOne_157 rfl ?_
                refine go_aload_n dX5_readOne_158 rfl ?_
                refine go_iload dX5_readOne_159 rfl ?_
                refine go_callV_z (as := [vr 1, vr 8, vi (B 4 i)]) (S := []) (b := 76) (ev_X5_readNamed (m := (wr m 76 0 (o + 1))) (k := (B 4 i)) (B := B) (i := i) (o := (o + 1)) (l := l) sq1 (by first | assumption | omega | exact ⟨by omega, by omega⟩ | (constructor <;> omega)) (by first | assumption | omega | exact ⟨by omega, by omega⟩ | (constructor <;> omega)) (by omega) (by omega) (by first | assumption | omega | exact ⟨by omega, by omega⟩ | (constructor <;> omega)) (by first | assumption | omega | exact ⟨by omega, by omega⟩ | (constructor <;> omega))) rfl dX5_readOne_161 cv_5_81 rfl rfl ob_76 rfl (by decide) (Nat.le_of_ble_eq_true rfl) (fun r_161 m_161 hr_161 ho_161 => ?_)
                refine go_ret (v := r_161) rfl dX5_readOne_164 (okZ (by first | exact Or.inl rfl | exact Or.inr rfl | assumption | omega)) ?_
                rw [show oneF B 8 i o = namF B i (o + 1) by unfold oneF; rw [if_neg (by omega), if_neg (by omega), if_neg (by omega), if_neg (by omega), if_pos (by omega)]]
                exact hr_161
              · skip
                by_cases hk_66_3 : (B 4 i) = 220
                · refine go_lswitch (off := 90) (tgt := 156) dX5_readOne_66 ⟨by omega, by omega⟩ (by decide) (by rw [hk_66_3] <;> rfl) (by decide) ?_
                  refine go_aload_n dX5_readOne_156 rfl ?_
                  refine go_aload_n dX5_readOne_157 rfl ?_
                  refine go_aload_n dX5_readOne_158 rfl ?_
                  refine go_iload dX5_readOne_159 rfl ?_
                  refine go_callV_z (as := [vr 1, vr 8, vi (B 4 i)]) (S := []) (b := 76) (ev_X5_readNamed (m := (wr m 76 0 (o + 1))) (k := (B 4 i)) (B := B) (i := i) (o := (o + 1)) (l := l) sq1 (by first | assumption | omega | exact ⟨by omega, by omega⟩ | (constructor <;> omega)) (by first | assumption | omega | exact ⟨by omega, by omega⟩ | (constructor <;> omega)) (by omega) (by omega) (by first | assumption | omega | exact ⟨by omega, by omega⟩ | (constructor <;> omega)) (by first | assumption | omega | exact ⟨by omega, by omega⟩ | (constructor <;> omega))) rfl dX5_readOne_161 cv_5_81 rfl rfl ob_76 rfl (by decide) (Nat.le_of_ble_eq_true rfl) (fun r_161 m_161 hr_161 ho_161 => ?_)
                  refine go_ret (v := r_161) rfl dX5_readOne_164 (okZ (by first | exact Or.inl rfl | exact Or.inr rfl | assumption | omega)) ?_
                  rw [show oneF B 8 i o = namF B i (o + 1) by unfold oneF; rw [if_neg (by omega), if_neg (by omega), if_neg (by omega), if_neg (by omega), if_pos (by omega)]]
                  exact hr_161
                · skip
                  by_cases hk_66_4 : (B 4 i) = 221
                  · refine go_lswitch (off := 99) (tgt := 165) dX5_readOne_66 ⟨by omega, by omega⟩ (by decide) (by rw [hk_66_4] <;> rfl) (by decide) ?_
                    refine go_aload_n dX5_readOne_165 rfl ?_
                    refine go_aload_n dX5_readOne_166 rfl ?_
                    refine go_iload dX5_readOne_167 rfl ?_
                    refine go_callV_z (as := [vr 1, vi (B 4 i)]) (S := []) (b := 76) (ev_X5_readCompared (m := (wr m 76 0 (o + 1))) (k := (B 4 i)) (B := B) (i := i) (o := (o + 1)) (l := l) sq1 (by first | assumption | omega | exact ⟨by omega, by omega⟩ | (constructor <;> omega)) (by first | assumption | omega | exact ⟨by omega, by omega⟩ | (constructor <;> omega)) (by omega) (by omega) (by first | assumption | omega | exact ⟨by omega, by omega⟩ | (constructor <;> omega)) (by first | assumption | omega | exact ⟨by omega, by omega⟩ | (constructor <;> omega))) rfl dX5_readOne_169 cv_5_84 rfl rfl ob_76 rfl (by decide) (Nat.le_of_ble_eq_true rfl) (fun r_169 m_169 hr_169 ho_169 => ?_)
                    refine go_ret (v := r_169) rfl dX5_readOne_172 (okZ (by first | exact Or.inl rfl | exact Or.inr rfl | assumption | omega)) ?_
                    rw [show oneF B 8 i o = cmpF B i (o + 1) by unfold oneF; rw [if_neg (by omega), if_neg (by omega), if_neg (by omega), if_neg (by omega), if_neg (by omega), if_pos (by omega)]]
                    exact hr_169
                  · skip
                    by_cases hk_66_5 : (B 4 i) = 222
                    · refine go_lswitch (off := 99) (tgt := 165) dX5_readOne_66 ⟨by omega, by omega⟩ (by decide) (by rw [hk_66_5] <;> rfl) (by decide) ?_
                      refine go_aload_n dX5_readOne_165 rfl ?_
                      refine go_aload_n dX5_readOne_166 rfl ?_
                      refine go_iload dX5_readOne_167 rfl ?_
                      refine go_callV_z (as := [vr 1, vi (B 4 i)]) (S := []) (b := 76) (ev_X5_readCompared (m := (wr m 76 0 (o + 1))) (k := (B 4 i)) (B := B) (i := i) (o := (o + 1)) (l := l) sq1 (by first | assumption | omega | exact ⟨by omega, by omega⟩ | (constructor <;> omega)) (by first | assumption | omega | exact ⟨by omega, by omega⟩ | (constructor <;> omega)) (by omega) (by omega) (by first | assumption | omega | exact ⟨by omega, by omega⟩ | (constructor <;> omega)) (by first | assumption | omega | exact ⟨by omega, by omega⟩ | (constructor <;> omega))) rfl dX5_readOne_169 cv_5_84 rfl rfl ob_76 rfl (by decide) (Nat.le_of_ble_eq_true rfl) (fun r_169 m_169 hr_169 ho_169 => ?_)
                      refine go_ret (v := r_169) rfl dX5_readOne_172 (okZ (by first | exact Or.inl rfl | exact Or.inr rfl | assumption | omega)) ?_
                      rw [show oneF B 8 i o = cmpF B i (o + 1) by unfold oneF; rw [if_neg (by omega), if_neg (by omega), if_neg (by omega), if_neg (by omega), if_neg (by omega), if_pos (by omega)]]
                      exact hr_169
                    · skip
                      by_cases hk_66_6 : (B 4 i) = 223
                      · refine go_lswitch (off := 99) (tgt := 165) dX5_readOne_66 ⟨by omega, by omega⟩ (by decide) (by rw [hk_66_6] <;> rfl) (by decide) ?_
                        refine go_aload_n dX5_readOne_165 rfl ?_
                        refine go_aload_n dX5_readOne_166 rfl ?_
                        refine go_iload dX5_readOne_167 rfl ?_
                        refine go_callV_z (as := [vr 1, vi (B 4 i)]) (S := []) (b := 76) (ev_X5_readCompared (m := (wr m 76 0 (o + 1))) (k := (B 4 i)) (B := B) (i := i) (o := (o + 1)) (l := l) sq1 (by first | assumption | omega | exact ⟨by omega, by omega⟩ | (constructor <;> omega)) (by first | assumption | omega | exact ⟨by omega, by omega⟩ | (constructor <;> omega)) (by omega) (by omega) (by first | assumption | omega | exact ⟨by omega, by omega⟩ | (constructor <;> omega)) (by first | assumption | omega | exact ⟨by omega, by omega⟩ | (constructor <;> omega))) rfl dX5_readOne_169 cv_5_84 rfl rfl ob_76 rfl (by decide) (Nat.le_of_ble_eq_true rfl) (fun r_169 m_169 hr_169 ho_169 => ?_)
                        refine go_ret (v := r_169) rfl dX5_readOne_172 (okZ (by first | exact Or.inl rfl | exact Or.inr rfl | assumption | omega)) ?_
                        rw [show oneF B 8 i o = cmpF B i (o + 1) by unfold oneF; rw [if_neg (by omega), if_neg (by omega), if_neg (by omega), if_neg (by omega), if_neg (by omega), if_pos (by omega)]]
                        exact hr_169
                      · skip
                        by_cases hk_66_7 : (B 4 i) = 224
                        · refine go_lswitch (off := 99) (tgt := 165) dX5_readOne_66 ⟨by omega, by omega⟩ (by decide) (by rw [hk_66_7] <;> rfl) (by decide) ?_
                          refine go_aload_n dX5_readOne_165 rfl ?_
                          refine go_aload_n dX5_readOne_166 rfl ?_
                          refine go_iload dX5_readOne_167 rfl ?_
                          refine go_callV_z (as := [vr 1, vi (B 4 i)]) (S := []) (b := 76) (ev_X5_readCompared (m := (wr m 76 0 (o + 1))) (k := (B 4 i)) (B := B) (i := i) (o := (o + 1)) (l := l) sq1 (by first | assumption | omega | exact ⟨by omega, by omega⟩ | (constructor <;> omega)) (by first | assumption | omega | exact ⟨by omega, by omega⟩ | (constructor <;> omega)) (by omega) (by omega) (by first | assumption | omega | exact ⟨by omega, by omega⟩ | (constructor <;> omega)) (by first | assumption | omega | exact ⟨by omega, by omega⟩ | (constructor <;> omega))) rfl dX5_readOne_169 cv_5_84 rfl rfl ob_76 rfl (by decide) (Nat.le_of_ble_eq_true rfl) (fun r_169 m_169 hr_169 ho_169 => ?_)
                          refine go_ret (v := r_169) rfl dX5_readOne_172 (okZ (by first | exact Or.inl rfl | exact Or.inr rfl | assumption | omega)) ?_
                          rw [show oneF B 8 i o = cmpF B i (o + 1) by unfold oneF; rw [if_neg (by omega), if_neg (by omega), if_neg (by omega), if_neg (by omega), if_neg (by omega), if_pos (by omega)]]
                          exact hr_169
                        · skip
                          refine go_lswitch (off := 107) (tgt := 173) dX5_readOne_66 ⟨by omega, by omega⟩ (by decide) (by simp [Op.lookupswitch.offset, hk_66_0, show ¬ (40 : Int) = (B 4 i) from fun z => hk_66_0 z.symm, hk_66_1, show ¬ (215 : Int) = (B 4 i) from fun z => hk_66_1 z.symm, hk_66_2, show ¬ (219 : Int) = (B 4 i) from fun z => hk_66_2 z.symm, hk_66_3, show ¬ (220 : Int) = (B 4 i) from fun z => hk_66_3 z.symm, hk_66_4, show ¬ (221 : Int) = (B 4 i) from fun z => hk_66_4 z.symm, hk_66_5, show ¬ (222 : Int) = (B 4 i) from fun z => hk_66_5 z.symm, hk_66_6, show ¬ (223 : Int) = (B 4 i) from fun z => hk_66_6 z.symm, hk_66_7, show ¬ (224 : Int) = (B 4 i) from fun z => hk_66_7 z.symm]) (by decide) ?_
                          refine go_aload_n dX5_readOne_173 rfl ?_
                          refine go_iload dX5_readOne_174 rfl ?_
                          refine go_iconst dX5_readOne_176 ?_
                          refine go_iconst dX5_readOne_177 ?_
                          refine go_callV_v (as := [vi (B 4 i), vi 0, vi 0]) (S := []) (b := 76) (ev_X5_add (m := (wr m 76 0 (o + 1))) (k := (B 4 i)) (g := 0) (v := 0) (by first | assumption | omega | exact ⟨by omega, by omega⟩ | (constructor <;> omega)) (by first | assumption | omega | exact ⟨by omega, by omega⟩ | (constructor <;> omega)) (by first | assumption | omega | exact ⟨by omega, by omega⟩ | (constructor <;> omega)) (by rw [sq1.2.2.2.1]; omega)) rfl dX5_readOne_178 cv_5_64 rfl rfl ob_76 rfl (by decide) (Nat.le_of_ble_eq_true rfl) (fun m_178 hr_178 => ?_)
                          have sq3 := sq1.add (k := B 4 i) (g := 0) (v := 0)
                          subst hr_178
                          refine go_aload_n dX5_readOne_181 rfl ?_
                          refine go_callV_v (as := []) (S := []) (b := 1) (ev_X7_next (m := (addM (wr m 76 0 (o + 1)) (B 4 i) 0 0))  (by rw [sq3.1.1, sq3.1.2.1]; have h := hk.lt sq3.2.1.2 (by omega); have h2 := sq3.2.1; omega)) rfl dX5_readOne_182 cv_5_47 rfl rfl ob_1 rfl (by decide) (Nat.le_of_ble_eq_true rfl) (fun m_182 hr_182 => ?_)
                          have sq4 := sq3.nx hk (by omega)
                          subst hr_182
                          refine go_iconst dX5_readOne_185 ?_
                          refine go_ret (v := 1) rfl dX5_readOne_186 (okZ (by first | exact Or.inl rfl | exact Or.inr rfl | assumption | omega)) ?_
                          rw [show oneF B 8 i o = (0, i + 1, o + 1, [(B 4 i, 0, 0)]) by unfold oneF; rw [if_neg (by omega), if_neg (by omega), if_neg (by omega), if_neg (by omega), if_neg (by omega), if_neg (by omega)]]
                          exact Or.inl ⟨rfl, rfl, sq4⟩
        · exfalso; omega
    · refine go_aload_n dX5_readOne_27 rfl ?_
      refine go_iconst dX5_readOne_28 ?_
      refine go_callV_z (as := [vi 1]) (S := []) (b := 1) (ev_X7_refuse (m := m) (k := 1) (by first | assumption | omega | exact ⟨by omega, by omega⟩ | (constructor <;> omega))) rfl dX5_readOne_29 cv_5_57 rfl rfl ob_1 rfl (by decide) (Nat.le_of_ble_eq_true rfl) (fun r_29 m_29 hr_29 ho_29 => ?_)
      refine go_ret (v := r_29) rfl dX5_readOne_32 (okZ (by first | exact Or.inl rfl | exact Or.inr rfl | assumption | omega)) ?_
      rw [hr_29.2, show oneF B 8 i o = (1, i, o, []) by unfold oneF; rw [if_pos (by omega)]]
      exact Or.inr ⟨by omega, (show (1 : Int) ≠ 0 by decide), hsq.ref⟩
set_option maxRecDepth 4000 in
theorem ev_X5_all8 {m : Mem} {B : Mem} {i : Int} {o : Int} {l : List Cd} {k : Int} (hsq : SQ B m i o l) (hk : TkS B) (hdb : DnOk B 8) (ho : 0 ≤ o ∧ o ≤ 20) (hl : (l.length : Int) ≤ 2 * o) (hd : k = 1) : Ev 0 51 mX5_readAll [vr 76, vr 1, vr 8, vi k] m (fun r m' => QP B r m' l (seqF (B 4) 214 (oneF B 8) i o)) := by
  refine Ev.of (L := [vr 76, vr 1, vr 8, vi k, un]) (by decide +kernel) rfl (Nat.le_of_ble_eq_true rfl) rfl (fun t ht => by cases ht; first | exact Or.inl rfl | exact Or.inr (Or.inl rfl) | exact Or.inr (Or.inr rfl)) (fun hcan => ?_)
  have hi := hsq.2.1
  have hkb := hk.1
  have h0 := hsq.2.2.1
  have h1 := hsq.2.2.2.1
  have e12 := hsq.1.1
  have e11 := hsq.1.2.1
  have hPB : PB (oneF B 8) := (oneF_b B 8)
  refine go_aload_n dX5_readAll_0 rfl ?_
  refine go_aload_n dX5_readAll_1 rfl ?_
  refine go_aload_n dX5_readAll_2 rfl ?_
  refine go_iload_n dX5_readAll_3 rfl ?_
  refine go_callV_z (as := [vr 1, vr 8, vi k]) (S := []) (b := 76) (ev_X5_one8 (m := m) (k := k) (B := B) (i := i) (o := o) (l := l) hsq (by first | assumption | omega | exact ⟨by omega, by omega⟩ | (constructor <;> omega)) (by first | assumption | omega | exact ⟨by omega, by omega⟩ | (constructor <;> omega)) (by first | assumption | omega | exact ⟨by omega, by omega⟩ | (constructor <;> omega)) (by first | assumption | omega | exact ⟨by omega, by omega⟩ | (constructor <;> omega)) (by first | assumption | omega | exact ⟨by omega, by omega⟩ | (constructor <;> omega))) rfl dX5_readAll_4 cv_5_68 rfl rfl ob_76 rfl (by decide) (Nat.le_of_ble_eq_true rfl) (fun r_4 m_4 hr_4 ho_4 => ?_)
  refine go_if_ne (tgt := 12) dX5_readAll_7 (by decide) ⟨by omega, by omega⟩ (fun h_7 => ?_) (fun h_7 => ?_)
  · obtain ⟨-, x1, x2⟩ := hr_4.resolve_right (fun h => h_7 h.1)
    have hR1 := hPB i o (by omega) (by omega) x1
    refine go_iconst dX5_readAll_12 ?_
    refine go_istore (L' := [vr 76, vr 1, vr 8, vi k, vi 0]) dX5_readAll_13 (by decide) rfl rfl ?_
    have lp_15 : ∀ (n_15 : Nat) (m1 : Mem) (j : Int) (a : Rs) (f : Nat), (a.1 = 0) → (SQ B m1 a.2.1 a.2.2.1 (l ++ a.2.2.2)) → (seqL (B 4) 214 (oneF B 8) f a = seqL (B 4) 214 (oneF B 8) 21 ((oneF B 8) i o)) → (0 ≤ j ∧ j + (f : Int) = 21) → ((o + 1 + j ≤ a.2.2.1 ∧ a.2.2.1 ≤ 20) ∧ (a.2.2.2.length : Int) + 1 ≤ 2 * (a.2.2.1 - o)) → f < n_15 → Go 0 51 mX5_readAll (fun r m' => QP B r m' l (seqF (B 4) 214 (oneF B 8) i o)) 15 [vr 76, vr 1, vr 8, vi k, vi j] [] m1 := by
      intro n_15
      induction n_15 with
      | zero => intro m1 j a f ha0 hs1 hsl hj hab hmu; exact absurd hmu (Nat.not_lt_zero _)
      | succ n_15 ih_15 =>
        intro m1 j a f ha0 hs1 hsl hj hab hmu
        obtain ⟨hab1, hab2⟩ := hab
        have hsu : seqL (B 4) 214 (oneF B 8) f a = if B 4 a.2.1 = 214 then (if ((oneF B 8) (a.2.1 + 1) a.2.2.1).1 ≠ 0 then ((oneF B 8) (a.2.1 + 1) a.2.2.1) else seqL (B 4) 214 (oneF B 8) (f - 1) (0, ((oneF B 8) (a.2.1 + 1) a.2.2.1).2.1, ((oneF B 8) (a.2.1 + 1) a.2.2.1).2.2.1, a.2.2.2 ++ ((oneF B 8) (a.2.1 + 1) a.2.2.1).2.2.2 ++ [(214, 0, 0)])) else a := by
          obtain ⟨g, rfl⟩ : ∃ g, f = g + 1 := ⟨f - 1, by omega⟩
          rfl
        refine go_iload dX5_readAll_15 rfl ?_
        refine go_bipush dX5_readAll_17 (by decide) ?_
        refine go_icmp_ge (tgt := 63) dX5_readAll_19 (by decide) ⟨by omega, by omega⟩ ⟨by omega, by omega⟩ (fun h_19 => ?_) (fun h_19 => ?_)
        · exfalso; omega
        · refine go_aload_n dX5_readAll_22 rfl ?_
          refine go_getf_i (ki := 2) dX5_readAll_23 fl_5_54 ob_1 rfl rfl (fun hf_23 => ?_)
          rw [show (m1 1 2 : Int) = (B 4 a.2.1) from hs1.kd] at hf_23 ⊢
          refine go_sipush dX5_readAll_26 (by decide) ?_
          refine go_icmp_ne (tgt := 63) dX5_readAll_29 (by decide) hf_23 ⟨by omega, by omega⟩ (fun h_29 => ?_) (fun h_29 => ?_)
          · refine go_iconst dX5_readAll_63 ?_
            refine go_ret (v := 1) rfl dX5_readAll_64 (okZ (by first | exact Or.inl rfl | exact Or.inr rfl | assumption | omega)) ?_
            rw [seqF_e (B 4) 214, if_neg (fun z => z x1), ← hsl, hsu, if_neg (by omega)]
            exact Or.inl ⟨rfl, ha0, hs1⟩
          · refine go_aload_n dX5_readAll_32 rfl ?_
            refine go_callV_v (as := []) (S := []) (b := 1) (ev_X7_next (m := m1)  (by rw [hs1.1.1, hs1.1.2.1]; have h := hs1.2.1; have := hk.lt h.2 (by omega); omega)) rfl dX5_readAll_33 cv_5_47 rfl rfl ob_1 rfl (by decide) (Nat.le_of_ble_eq_true rfl) (fun m_33 hr_33 => ?_)
            have sq1 := hs1.nx hk (by omega)
            subst hr_33
            refine go_aload_n dX5_readAll_36 rfl ?_
            refine go_aload_n dX5_readAll_37 rfl ?_
            refine go_aload_n dX5_readAll_38 rfl ?_
            refine go_iload_n dX5_readAll_39 rfl ?_
            refine go_callV_z (as := [vr 1, vr 8, vi k]) (S := []) (b := 76) (ev_X5_one8 (m := (nxt m1)) (k := k) (B := B) (i := (a.2.1 + 1)) (o := a.2.2.1) (l := (l ++ a.2.2.2)) sq1 (by first | assumption | omega | exact ⟨by omega, by omega⟩ | (constructor <;> omega)) (by first | assumption | omega | exact ⟨by omega, by omega⟩ | (constructor <;> omega)) (by omega) (by simp only [List.length_append]; omega) (by first | assumption | omega | exact ⟨by omega, by omega⟩ | (constructor <;> omega))) rfl dX5_readAll_40 cv_5_68 rfl rfl ob_76 rfl (by decide) (Nat.le_of_ble_eq_true rfl) (fun r_40 m_40 hr_40 ho_40 => ?_)
            refine go_if_ne (tgt := 48) dX5_readAll_43 (by decide) ⟨by omega, by omega⟩ (fun h_43 => ?_) (fun h_43 => ?_)
            · obtain ⟨-, x1, x2⟩ := hr_40.resolve_right (fun h => h_43 h.1)
              have hR2 := hPB (a.2.1 + 1) a.2.2.1 (by omega) (by omega) x1
              refine go_aload_n dX5_readAll_48 rfl ?_
              refine go_sipush dX5_readAll_49 (by decide) ?_
              refine go_iconst dX5_readAll_52 ?_
              refine go_iconst dX5_readAll_53 ?_
              refine go_callV_v (as := [vi 214, vi 0, vi 0]) (S := []) (b := 76) (ev_X5_add (m := m_40) (k := 214) (g := 0) (v := 0) (by first | assumption | omega | exact ⟨by omega, by omega⟩ | (constructor <;> omega)) (by first | assumption | omega | exact ⟨by omega, by omega⟩ | (constructor <;> omega)) (by first | assumption | omega | exact ⟨by omega, by omega⟩ | (constructor <;> omega)) (by rw [x2.2.2.2.1]; simp only [List.length_append]; omega)) rfl dX5_readAll_54 cv_5_64 rfl rfl ob_76 rfl (by decide) (Nat.le_of_ble_eq_true rfl) (fun m_54 hr_54 => ?_)
              have sq3 := x2.add (k := 214) (g := 0) (v := 0)
              subst hr_54
              refine go_iinc (L' := [vr 76, vr 1, vr 8, vi k, vi (j + 1)]) dX5_readAll_57 rfl (by decide) rfl rfl ?_
              refine go_goto (tgt := 15) dX5_readAll_60 (by decide) ?_
              exact ih_15 (addM m_40 214 0 0) (j + 1) (0, ((oneF B 8) (a.2.1 + 1) a.2.2.1).2.1, ((oneF B 8) (a.2.1 + 1) a.2.2.1).2.2.1, a.2.2.2 ++ ((oneF B 8) (a.2.1 + 1) a.2.2.1).2.2.2 ++ [(214, 0, 0)]) (f - 1) rfl (by show SQ B _ _ _ (l ++ (a.2.2.2 ++ _ ++ _)); rw [← List.append_assoc, ← List.append_assoc]; exact sq3) (by rw [← hsl, hsu, if_pos (by omega), if_neg (fun z => z x1)]) (by first | assumption | omega | rfl) (by
                    refine ⟨⟨?_, ?_⟩, ?_⟩
                    · show o + 1 + (j + 1) ≤ ((oneF B 8) (a.2.1 + 1) a.2.2.1).2.2.1; omega
                    · show ((oneF B 8) (a.2.1 + 1) a.2.2.1).2.2.1 ≤ 20; omega
                    · show ((a.2.2.2 ++ ((oneF B 8) (a.2.1 + 1) a.2.2.1).2.2.2 ++ [(214, 0, 0)] : List Cd).length : Int) + 1 ≤ 2 * (((oneF B 8) (a.2.1 + 1) a.2.2.1).2.2.1 - o)
                      simp only [List.length_append, List.length_singleton]
                      omega) (by omega)
            · refine go_iconst dX5_readAll_46 ?_
              refine go_ret (v := 0) rfl dX5_readAll_47 (okZ (by first | exact Or.inl rfl | exact Or.inr rfl | assumption | omega)) ?_
              obtain ⟨-, y1, y2⟩ := hr_40.resolve_left (fun h => by have := h.1; omega)
              rw [seqF_e (B 4) 214, if_neg (fun z => z x1), ← hsl, hsu, if_pos (by omega), if_pos y1]
              exact Or.inr ⟨rfl, y1, y2⟩
    exact lp_15 _ m_4 0 ((oneF B 8) i o) 21 x1 x2 rfl (by first | assumption | omega | rfl) ⟨by omega, hR1.2.2⟩ (Nat.lt_succ_self _)
  · refine go_iconst dX5_readAll_10 ?_
    refine go_ret (v := 0) rfl dX5_readAll_11 (okZ (by first | exact Or.inl rfl | exact Or.inr rfl | assumption | omega)) ?_
    obtain ⟨-, x1, x2⟩ := hr_4.resolve_left (fun h => by have := h.1; omega)
    rw [seqF_e (B 4) 214, if_pos x1]
    exact Or.inr ⟨rfl, x1, x2⟩
set_option maxRecDepth 4000 in
theorem ev_X5_con8 {m : Mem} {B : Mem} {i : Int} {o : Int} {l : List Cd} {k : Int} (hsq : SQ B m i o l) (hk : TkS B) (hdb : DnOk B 8) (ho : 0 ≤ o ∧ o ≤ 20) (hl : (l.length : Int) ≤ 2 * o) (hd : k = 1) : Ev 0 52 mX5_readCond [vr 76, vr 1, vr 8, vi k] m (fun r m' => QP B r m' l (seqF (B 4) 213 (seqF (B 4) 214 (oneF B 8)) i o)) := by
  refine Ev.of (L := [vr 76, vr 1, vr 8, vi k, un]) (by decide +kernel) rfl (Nat.le_of_ble_eq_true rfl) rfl (fun t ht => by cases ht; first | exact Or.inl rfl | exact Or.inr (Or.inl rfl) | exact Or.inr (Or.inr rfl)) (fun hcan => ?_)
  have hi := hsq.2.1
  have hkb := hk.1
  have h0 := hsq.2.2.1
  have h1 := hsq.2.2.2.1
  have e12 := hsq.1.1
  have e11 := hsq.1.2.1
  have hPB : PB (seqF (B 4) 214 (oneF B 8)) := (seqF_b (oneF_b B 8))
  refine go_aload_n dX5_readCond_0 rfl ?_
  refine go_aload_n dX5_readCond_1 rfl ?_
  refine go_aload_n dX5_readCond_2 rfl ?_
  refine go_iload_n dX5_readCond_3 rfl ?_
  refine go_callV_z (as := [vr 1, vr 8, vi k]) (S := []) (b := 76) (ev_X5_all8 (m := m) (k := k) (B := B) (i := i) (o := o) (l := l) hsq (by first | assumption | omega | exact ⟨by omega, by omega⟩ | (constructor <;> omega)) (by first | assumption | omega | exact ⟨by omega, by omega⟩ | (constructor <;> omega)) (by first | assumption | omega | exact ⟨by omega, by omega⟩ | (constructor <;> omega)) (by first | assumption | omega | exact ⟨by omega, by omega⟩ | (constructor <;> omega)) (by first | assumption | omega | exact ⟨by omega, by omega⟩ | (constructor <;> omega))) rfl dX5_readCond_4 cv_5_61 rfl rfl ob_76 rfl (by decide) (Nat.le_of_ble_eq_true rfl) (fun r_4 m_4 hr_4 ho_4 => ?_)
  refine go_if_ne (tgt := 12) dX5_readCond_7 (by decide) ⟨by omega, by omega⟩ (fun h_7 => ?_) (fun h_7 => ?_)
  · obtain ⟨-, x1, x2⟩ := hr_4.resolve_right (fun h => h_7 h.1)
    have hR1 := hPB i o (by omega) (by omega) x1
    refine go_iconst dX5_readCond_12 ?_
    refine go_istore (L' := [vr 76, vr 1, vr 8, vi k, vi 0]) dX5_readCond_13 (by decide) rfl rfl ?_
    have lp_15 : ∀ (n_15 : Nat) (m1 : Mem) (j : Int) (a : Rs) (f : Nat), (a.1 = 0) → (SQ B m1 a.2.1 a.2.2.1 (l ++ a.2.2.2)) → (seqL (B 4) 213 (seqF (B 4) 214 (oneF B 8)) f a = seqL (B 4) 213 (seqF (B 4) 214 (oneF B 8)) 21 ((seqF (B 4) 214 (oneF B 8)) i o)) → (0 ≤ j ∧ j + (f : Int) = 21) → ((o + 1 + j ≤ a.2.2.1 ∧ a.2.2.1 ≤ 20) ∧ (a.2.2.2.length : Int) + 1 ≤ 2 * (a.2.2.1 - o)) → f < n_15 → Go 0 52 mX5_readCond (fun r m' => QP B r m' l (seqF (B 4) 213 (seqF (B 4) 214 (oneF B 8)) i o)) 15 [vr 76, vr 1, vr 8, vi k, vi j] [] m1 := by
      intro n_15
      induction n_15 with
      | zero => intro m1 j a f ha0 hs1 hsl hj hab hmu; exact absurd hmu (Nat.not_lt_zero _)
      | succ n_15 ih_15 =>
        intro m1 j a f ha0 hs1 hsl hj hab hmu
        obtain ⟨hab1, hab2⟩ := hab
        have hsu : seqL (B 4) 213 (seqF (B 4) 214 (oneF B 8)) f a = if B 4 a.2.1 = 213 then (if ((seqF (B 4) 214 (oneF B 8)) (a.2.1 + 1) a.2.2.1).1 ≠ 0 then ((seqF (B 4) 214 (oneF B 8)) (a.2.1 + 1) a.2.2.1) else seqL (B 4) 213 (seqF (B 4) 214 (oneF B 8)) (f - 1) (0, ((seqF (B 4) 214 (oneF B 8)) (a.2.1 + 1) a.2.2.1).2.1, ((seqF (B 4) 214 (oneF B 8)) (a.2.1 + 1) a.2.2.1).2.2.1, a.2.2.2 ++ ((seqF (B 4) 214 (oneF B 8)) (a.2.1 + 1) a.2.2.1).2.2.2 ++ [(213, 0, 0)])) else a := by
          obtain ⟨g, rfl⟩ : ∃ g, f = g + 1 := ⟨f - 1, by omega⟩
          rfl
        refine go_iload dX5_readCond_15 rfl ?_
        refine go_bipush dX5_readCond_17 (by decide) ?_
        refine go_icmp_ge (tgt := 63) dX5_readCond_19 (by decide) ⟨by omega, by omega⟩ ⟨by omega, by omega⟩ (fun h_19 => ?_) (fun h_19 => ?_)
        · exfalso; omega
        · refine go_aload_n dX5_readCond_22 rfl ?_
          refine go_getf_i (ki := 2) dX5_readCond_23 fl_5_54 ob_1 rfl rfl (fun hf_23 => ?_)
          rw [show (m1 1 2 : Int) = (B 4 a.2.1) from hs1.kd] at hf_23 ⊢
          refine go_sipush dX5_readCond_26 (by decide) ?_
          refine go_icmp_ne (tgt := 63) dX5_readCond_29 (by decide) hf_23 ⟨by omega, by omega⟩ (fun h_29 => ?_) (fun h_29 => ?_)
          · refine go_iconst dX5_readCond_63 ?_
            refine go_ret (v := 1) rfl dX5_readCond_64 (okZ (by first | exact Or.inl rfl | exact Or.inr rfl | assumption | omega)) ?_
            rw [seqF_e (B 4) 213, if_neg (fun z => z x1), ← hsl, hsu, if_neg (by omega)]
            exact Or.inl ⟨rfl, ha0, hs1⟩
          · refine go_aload_n dX5_readCond_32 rfl ?_
            refine go_callV_v (as := []) (S := []) (b := 1) (ev_X7_next (m := m1)  (by rw [hs1.1.1, hs1.1.2.1]; have h := hs1.2.1; have := hk.lt h.2 (by omega); omega)) rfl dX5_readCond_33 cv_5_47 rfl rfl ob_1 rfl (by decide) (Nat.le_of_ble_eq_true rfl) (fun m_33 hr_33 => ?_)
            have sq1 := hs1.nx hk (by omega)
            subst hr_33
            refine go_aload_n dX5_readCond_36 rfl ?_
            refine go_aload_n dX5_readCond_37 rfl ?_
            refine go_aload_n dX5_readCond_38 rfl ?_
            refine go_iload_n dX5_readCond_39 rfl ?_
            refine go_callV_z (as := [vr 1, vr 8, vi k]) (S := []) (b := 76) (ev_X5_all8 (m := (nxt m1)) (k := k) (B := B) (i := (a.2.1 + 1)) (o := a.2.2.1) (l := (l ++ a.2.2.2)) sq1 (by first | assumption | omega | exact ⟨by omega, by omega⟩ | (constructor <;> omega)) (by first | assumption | omega | exact ⟨by omega, by omega⟩ | (constructor <;> omega)) (by omega) (by simp only [List.length_append]; omega) (by first | assumption | omega | exact ⟨by omega, by omega⟩ | (constructor <;> omega))) rfl dX5_readCond_40 cv_5_61 rfl rfl ob_76 rfl (by decide) (Nat.le_of_ble_eq_true rfl) (fun r_40 m_40 hr_40 ho_40 => ?_)
            refine go_if_ne (tgt := 48) dX5_readCond_43 (by decide) ⟨by omega, by omega⟩ (fun h_43 => ?_) (fun h_43 => ?_)
            · obtain ⟨-, x1, x2⟩ := hr_40.resolve_right (fun h => h_43 h.1)
              have hR2 := hPB (a.2.1 + 1) a.2.2.1 (by omega) (by omega) x1
              refine go_aload_n dX5_readCond_48 rfl ?_
              refine go_sipush dX5_readCond_49 (by decide) ?_
              refine go_iconst dX5_readCond_52 ?_
              refine go_iconst dX5_readCond_53 ?_
              refine go_callV_v (as := [vi 213, vi 0, vi 0]) (S := []) (b := 76) (ev_X5_add (m := m_40) (k := 213) (g := 0) (v := 0) (by first | assumption | omega | exact ⟨by omega, by omega⟩ | (constructor <;> omega)) (by first | assumption | omega | exact ⟨by omega, by omega⟩ | (constructor <;> omega)) (by first | assumption | omega | exact ⟨by omega, by omega⟩ | (constructor <;> omega)) (by rw [x2.2.2.2.1]; simp only [List.length_append]; omega)) rfl dX5_readCond_54 cv_5_64 rfl rfl ob_76 rfl (by decide) (Nat.le_of_ble_eq_true rfl) (fun m_54 hr_54 => ?_)
              have sq3 := x2.add (k := 213) (g := 0) (v := 0)
              subst hr_54
              refine go_iinc (L' := [vr 76, vr 1, vr 8, vi k, vi (j + 1)]) dX5_readCond_57 rfl (by decide) rfl rfl ?_
              refine go_goto (tgt := 15) dX5_readCond_60 (by decide) ?_
              exact ih_15 (addM m_40 213 0 0) (j + 1) (0, ((seqF (B 4) 214 (oneF B 8)) (a.2.1 + 1) a.2.2.1).2.1, ((seqF (B 4) 214 (oneF B 8)) (a.2.1 + 1) a.2.2.1).2.2.1, a.2.2.2 ++ ((seqF (B 4) 214 (oneF B 8)) (a.2.1 + 1) a.2.2.1).2.2.2 ++ [(213, 0, 0)]) (f - 1) rfl (by show SQ B _ _ _ (l ++ (a.2.2.2 ++ _ ++ _)); rw [← List.append_assoc, ← List.append_assoc]; exact sq3) (by rw [← hsl, hsu, if_pos (by omega), if_neg (fun z => z x1)]) (by first | assumption | omega | rfl) (by
                    refine ⟨⟨?_, ?_⟩, ?_⟩
                    · show o + 1 + (j + 1) ≤ ((seqF (B 4) 214 (oneF B 8)) (a.2.1 + 1) a.2.2.1).2.2.1; omega
                    · show ((seqF (B 4) 214 (oneF B 8)) (a.2.1 + 1) a.2.2.1).2.2.1 ≤ 20; omega
                    · show ((a.2.2.2 ++ ((seqF (B 4) 214 (oneF B 8)) (a.2.1 + 1) a.2.2.1).2.2.2 ++ [(213, 0, 0)] : List Cd).length : Int) + 1 ≤ 2 * (((seqF (B 4) 214 (oneF B 8)) (a.2.1 + 1) a.2.2.1).2.2.1 - o)
                      simp only [List.length_append, List.length_singleton]
                      omega) (by omega)
            · refine go_iconst dX5_readCond_46 ?_
              refine go_ret (v := 0) rfl dX5_readCond_47 (okZ (by first | exact Or.inl rfl | exact Or.inr rfl | assumption | omega)) ?_
              obtain ⟨-, y1, y2⟩ := hr_40.resolve_left (fun h => by have := h.1; omega)
              rw [seqF_e (B 4) 213, if_neg (fun z => z x1), ← hsl, hsu, if_pos (by omega), if_pos y1]
              exact Or.inr ⟨rfl, y1, y2⟩
    exact lp_15 _ m_4 0 ((seqF (B 4) 214 (oneF B 8)) i o) 21 x1 x2 rfl (by first | assumption | omega | rfl) ⟨by omega, hR1.2.2⟩ (Nat.lt_succ_self _)
  · refine go_iconst dX5_readCond_10 ?_
    refine go_ret (v := 0) rfl dX5_readCond_11 (okZ (by first | exact Or.inl rfl | exact Or.inr rfl | assumption | omega)) ?_
    obtain ⟨-, x1, x2⟩ := hr_4.resolve_left (fun h => by have := h.1; omega)
    rw [seqF_e (B 4) 213, if_pos x1]
    exact Or.inr ⟨rfl, x1, x2⟩
