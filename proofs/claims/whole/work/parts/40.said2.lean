abbrev snF (B : Mem) : Rs := seqF (B 4) 213 (seqF (B 4) 214 (oneF B 8)) 0 0
def RsPost (B : Mem) (r : Int) (m' : Mem) : Prop := (r = 1 ∧ (snF B).1 = 0 ∧ B 4 (snF B).2.1 = 0 ∧ SQ B m' (snF B).2.1 (snF B).2.2.1 (snF B).2.2.2) ∨ (r = 0 ∧ (((snF B).1 ≠ 0 ∧ FQ B m' (snF B).2.1 (snF B).1) ∨ ((snF B).1 = 0 ∧ B 4 (snF B).2.1 ≠ 0 ∧ FQ B m' (snF B).2.1 1)))
def SnPost (m : Mem) (r : Int) (m' : Mem) : Prop := ∃ (B m1 : Mem) (r1 : Int), BgOk (zse m 76) B 200 ∧ RsPost B r1 m1 ∧ ((r1 = 0 ∧ r = -1 - m1 1 3 ∧ m' = wr m1 1 1 0) ∨ (r1 = 1 ∧ r = m1 76 0 ∧ m' = rows (wr m1 1 1 0) 26 76 4))
abbrev b2i (b : Bool) : Int := if b then 1 else 0
def stp1 (A : Cd → Bool) (c : Cd) (S : List Bool) : List Bool := if c.1 = 215 then (match S with | b :: T => (!b) :: T | [] => []) else if c.1 = 214 ∨ c.1 = 213 then (match S with | b :: a :: T => (if c.1 = 214 then a && b else a || b) :: T | T => T) else A c :: S
def evR (A : Cd → Bool) (kd sg vl : Int → Int) : Nat → List Bool
  | 0 => []
  | n + 1 => stp1 A (kd (n : Int), sg (n : Int), vl (n : Int)) (evR A kd sg vl n)
theorem evR_s {A : Cd → Bool} {kd sg vl : Int → Int} {k : Int} (h : 0 ≤ k) : evR A kd sg vl (k + 1).toNat = stp1 A (kd k, sg k, vl k) (evR A kd sg vl k.toNat) := by
  rw [show (k + 1).toNat = k.toNat + 1 by omega]
  show stp1 A (kd (k.toNat : Int), sg (k.toNat : Int), vl (k.toNat : Int)) _ = _
  rw [Int.toNat_of_nonneg h]
theorem stp1_len (A : Cd → Bool) (c : Cd) (S : List Bool) : (stp1 A c S).length ≤ S.length + 1 := by
  unfold stp1
  split
  · cases S with
    | nil => simp
    | cons b T => simp
  · split
    · match S with
      | [] => simp
      | [b] => simp
      | b :: a :: T => simp
    · simp
theorem evR_len (A : Cd → Bool) (kd sg vl : Int → Int) (n : Nat) : (evR A kd sg vl n).length ≤ n := by
  induction n with
  | zero => simp [evR]
  | succ n ih => have := stp1_len A (kd (n : Int), sg (n : Int), vl (n : Int)) (evR A kd sg vl n); show (stp1 _ _ _).length ≤ _; omega
def stk (m : Mem) (a : Nat) : List Bool → Prop
  | [] => True
  | b :: S => m a (S.length : Int) = b2i b ∧ stk m a S
theorem stk_w {m : Mem} {a : Nat} {j x : Int} : ∀ {S : List Bool}, (S.length : Int) ≤ j → stk m a S → stk (wr m a j x) a S := by
  intro S
  induction S with
  | nil => intro _ _; trivial
  | cons b S ih =>
    intro h hs
    rw [List.length_cons] at h
    exact ⟨by rw [wr_ni (by omega)]; exact hs.1, ih (by omega) hs.2⟩
def cmpB (x : Int) (c : Cd) : Bool := if c.2.1 = 60 then decide (x < c.2.2) else if c.2.1 = 62 then decide (c.2.2 < x) else decide (x = c.2.2)
def plA (m : Mem) (p : Int) (c : Cd) : Bool := if c.1 = 216 then decide (m 22 p = 0) else if c.1 = 217 then decide (m 23 p = 0) else if c.1 = 218 then setlC m 8 18 p else if c.1 = 219 then decide (iand (ishr (m 24 p) c.2.2) 1 = 1) else if c.1 = 220 then decide (iabs (m 20 p - m 20 c.2.2) + iabs (m 21 p - m 21 c.2.2) = 1) else if c.1 = 221 then cmpB (m 23 p) c else if c.1 = 222 then cmpB (m 22 p) c else if c.1 = 223 then cmpB (m 25 p) c else cmpB p c
theorem plA_e {m m' : Mem} (h : ∀ b : Nat, b ≠ 30 → m' b = m b) (p : Int) : plA m' p = plA m p := by
  funext c
  unfold plA setlC
  rw [h 22 (by decide), h 23 (by decide), h 24 (by decide), h 20 (by decide), h 21 (by decide), h 25 (by decide), h 8 (by decide)]
  try rfl
def SeOk (m : Mem) : Prop := (0 ≤ m 26 1 ∧ m 26 1 ≤ 40) ∧ (∀ A : Cd → Bool, ∃ b : Bool, evR A (m 27) (m 28) (m 29) (m 26 1).toNat = [b]) ∧ ∀ k : Int, 0 ≤ k → k < m 26 1 → m 27 k = 220 → 0 ≤ m 29 k ∧ m 29 k < m 8 3
def hdB (m : Mem) (p : Int) : Bool := decide (evR (plA m p) (m 27) (m 28) (m 29) (m 26 1).toNat = [true])
def saidF (P : Int → Bool) (n k : Int) : Int := if fnd (fun p => P p && decide (cntI P p = k)) n ≠ -1 then fnd (fun p => P p && decide (cntI P p = k)) n else if k = -1 then cntI P n else -1

theorem dX5_read_0 : decode mX5_read.2.1 0 = .ok (.aload_n 0, 1) := by decide +kernel
theorem dX5_read_1 : decode mX5_read.2.1 1 = .ok (.invokevirtual 38, 3) := by decide +kernel
theorem dX5_read_4 : decode mX5_read.2.1 4 = .ok (.aload_n 1, 1) := by decide +kernel
theorem dX5_read_5 : decode mX5_read.2.1 5 = .ok (.sipush 200, 3) := by decide +kernel
theorem dX5_read_8 : decode mX5_read.2.1 8 = .ok (.invokevirtual 41, 3) := by decide +kernel
theorem dX5_read_11 : decode mX5_read.2.1 11 = .ok (.aload_n 1, 1) := by decide +kernel
theorem dX5_read_12 : decode mX5_read.2.1 12 = .ok (.invokevirtual 47, 3) := by decide +kernel
theorem dX5_read_15 : decode mX5_read.2.1 15 = .ok (.aload_n 0, 1) := by decide +kernel
theorem dX5_read_16 : decode mX5_read.2.1 16 = .ok (.aload_n 1, 1) := by decide +kernel
theorem dX5_read_17 : decode mX5_read.2.1 17 = .ok (.aload_n 2, 1) := by decide +kernel
theorem dX5_read_18 : decode mX5_read.2.1 18 = .ok (.iconst 1, 1) := by decide +kernel
theorem dX5_read_19 : decode mX5_read.2.1 19 = .ok (.invokevirtual 50, 3) := by decide +kernel
theorem dX5_read_22 : decode mX5_read.2.1 22 = .ok (.ifCond .eq 22, 3) := by decide +kernel
theorem dX5_read_25 : decode mX5_read.2.1 25 = .ok (.aload_n 1, 1) := by decide +kernel
theorem dX5_read_26 : decode mX5_read.2.1 26 = .ok (.getfield 54, 3) := by decide +kernel
theorem dX5_read_29 : decode mX5_read.2.1 29 = .ok (.ifCond .eq 11, 3) := by decide +kernel
theorem dX5_read_32 : decode mX5_read.2.1 32 = .ok (.aload_n 1, 1) := by decide +kernel
theorem dX5_read_33 : decode mX5_read.2.1 33 = .ok (.iconst 1, 1) := by decide +kernel
theorem dX5_read_34 : decode mX5_read.2.1 34 = .ok (.invokevirtual 57, 3) := by decide +kernel
theorem dX5_read_37 : decode mX5_read.2.1 37 = .ok (.ifCond .eq 7, 3) := by decide +kernel
theorem dX5_read_40 : decode mX5_read.2.1 40 = .ok (.iconst 1, 1) := by decide +kernel
theorem dX5_read_41 : decode mX5_read.2.1 41 = .ok (.goto 4, 3) := by decide +kernel
theorem dX5_read_44 : decode mX5_read.2.1 44 = .ok (.iconst 0, 1) := by decide +kernel
theorem dX5_read_45 : decode mX5_read.2.1 45 = .ok (.ireturn, 1) := by decide +kernel
set_option maxRecDepth 4000 in
theorem ev_X5_read {m : Mem}  (hsz : 0 ≤ m 1 1 ∧ m 1 1 ≤ 940) (hdn : DnOk m 8) : Ev 0 53 mX5_read [vr 76, vr 1, vr 8] m (fun r m' => ∃ B : Mem, BgOk (zse m 76) B 200 ∧ RsPost B r m') := by
  refine Ev.of (L := [vr 76, vr 1, vr 8]) (by decide +kernel) rfl (Nat.le_of_ble_eq_true rfl) rfl (fun t ht => by cases ht; first | exact Or.inl rfl | exact Or.inr (Or.inl rfl) | exact Or.inr (Or.inr rfl)) (fun hcan => ?_)
  refine go_aload_n dX5_read_0 rfl ?_
  refine go_callV_v (as := []) (S := []) (b := 76) (ev_X5_clear (m := m) (e := 76) isSe_76) rfl dX5_read_1 cv_5_38 rfl rfl ob_76 rfl (by decide) (Nat.le_of_ble_eq_true rfl) (fun m_1 hr_1 => ?_)
  subst hr_1
  have z76 : ∀ b : Nat, b ≠ 76 → zse m 76 b = m b := fun b hb => by funext j; unfold zse; rw [if_neg hb]
  refine go_aload_n dX5_read_4 rfl ?_
  refine go_sipush dX5_read_5 (by decide) ?_
  refine go_callV_v (as := [vi 200]) (S := []) (b := 1) (ev_X7_begin (m := (zse m 76)) (lim := 200) (by rw [z76 1 (by decide)]; exact hsz) (by first | assumption | omega | exact ⟨by omega, by omega⟩ | (constructor <;> omega))) rfl dX5_read_8 cv_5_41 rfl rfl ob_1 rfl (by decide) (Nat.le_of_ble_eq_true rfl) (fun m_8 hr_8 => ?_)
  have hbg : BgOk (zse m 76) m_8 200 := hr_8
  obtain ⟨htkB, hb12, hb6, hb1, hbr⟩ := id hbg
  have htS := htkB.s
  have hdB : DnOk m_8 8 := hdn.congr (fun k hk => by rw [hbr _ (by omega) (by omega) (by omega) (by omega), z76 _ (by omega)])
  have hl0 : m_8 76 0 = 0 := by rw [hbr 76 (by decide) (by decide) (by decide) (by decide)]; unfold zse; rw [if_pos rfl]
  have hl1 : m_8 76 1 = 0 := by rw [hbr 76 (by decide) (by decide) (by decide) (by decide)]; unfold zse; rw [if_pos rfl]
  have hkb := htS.1
  refine go_aload_n dX5_read_11 rfl ?_
  refine go_callV_v (as := []) (S := []) (b := 1) (ev_X7_next (m := m_8)  (by omega)) rfl dX5_read_12 cv_5_47 rfl rfl ob_1 rfl (by decide) (Nat.le_of_ble_eq_true rfl) (fun m_12 hr_12 => ?_)
  have htp0 : TP m_8 m_12 (0 + 1) := by
    rw [hr_12]
    have h := nxt_adv m_8
    rw [show (0 : Int) + 1 = m_8 1 12 + 1 by omega]
    exact ⟨h.1.1, h.1.2.2.2.2.2.2 11 (by decide) (by decide) (by decide) (by decide) (by decide) (by decide), h.2 4 (by decide), h.2 5 (by decide), h.2 6 (by decide), h.1⟩
  have heq0 : ∀ b : Nat, b ≠ 1 → m_12 b = m_8 b := by rw [hr_12]; exact (nxt_adv m_8).2
  have sq0 : SQ m_8 m_12 0 0 [] := ⟨htp0, by omega, by rw [heq0 76 (by decide)]; exact hl0, by rw [heq0 76 (by decide)]; exact hl1, trivial, fun b hb _ => heq0 b hb⟩
  clear hr_12
  refine go_aload_n dX5_read_15 rfl ?_
  refine go_aload_n dX5_read_16 rfl ?_
  refine go_aload_n dX5_read_17 rfl ?_
  refine go_iconst dX5_read_18 ?_
  refine go_callV_z (as := [vr 1, vr 8, vi 1]) (S := []) (b := 76) (ev_X5_con8 (m := m_12) (k := 1) (B := m_8) (i := 0) (o := 0) (l := []) sq0 htS hdB (by omega) (by show ((0 : Nat) : Int) ≤ 2 * 0; decide) (by first | assumption | omega | exact ⟨by omega, by omega⟩ | (constructor <;> omega))) rfl dX5_read_19 cv_5_50 rfl rfl ob_76 rfl (by decide) (Nat.le_of_ble_eq_true rfl) (fun r_19 m_19 hr_19 ho_19 => ?_)
  have hr_19 : QP m_8 r_19 m_19 [] (snF m_8) := hr_19
  refine go_if_eq (tgt := 44) dX5_read_22 (by decide) ⟨by omega, by omega⟩ (fun h_22 => ?_) (fun h_22 => ?_)
  · refine go_iconst dX5_read_44 ?_
    refine go_ret (v := 0) rfl dX5_read_45 (okZ (by first | exact Or.inl rfl | exact Or.inr rfl | assumption | omega)) ?_
    refine ⟨m_8, hbg, ?_⟩
    first
    | (exfalso; have h := hr_34.1; omega)
    | exact Or.inl ⟨rfl, x1, by omega, x2⟩
    | (refine Or.inr ⟨rfl, Or.inr ⟨x1, h_29, ?_⟩⟩
       rw [hr_34.2]
       exact x2.ref)
    | (obtain ⟨-, y1, y2⟩ := hr_19.resolve_left (fun h => by have := h.1; omega)
       exact Or.inr ⟨rfl, Or.inl ⟨y1, y2⟩⟩)
  · obtain ⟨-, x1, x2⟩ := hr_19.resolve_right (fun h => h_22 h.1)
    have x2 : SQ m_8 m_19 (snF m_8).2.1 (snF m_8).2.2.1 (snF m_8).2.2.2 := x2
    refine go_aload_n dX5_read_25 rfl ?_
    refine go_getf_i (ki := 2) dX5_read_26 fl_5_54 ob_1 rfl rfl (fun hf_26 => ?_)
    rw [show (m_19 1 2 : Int) = (m_8 4 (snF m_8).2.1) from x2.kd] at hf_26 ⊢
    refine go_if_eq (tgt := 40) dX5_read_29 (by decide) hf_26 (fun h_29 => ?_) (fun h_29 => ?_)
    · refine go_iconst dX5_read_40 ?_
      refine go_goto (tgt := 45) dX5_read_41 (by decide) ?_
      refine go_ret (v := 1) rfl dX5_read_45 (okZ (by first | exact Or.inl rfl | exact Or.inr rfl | assumption | omega)) ?_
      refine ⟨m_8, hbg, ?_⟩
      first
      | (exfalso; have h := hr_34.1; omega)
      | exact Or.inl ⟨rfl, x1, by omega, x2⟩
      | (refine Or.inr ⟨rfl, Or.inr ⟨x1, h_29, ?_⟩⟩
         rw [hr_34.2]
         exact x2.ref)
      | (obtain ⟨-, y1, y2⟩ := hr_19.resolve_left (fun h => by have := h.1; omega)
         exact Or.inr ⟨rfl, Or.inl ⟨y1, y2⟩⟩)
    · refine go_aload_n dX5_read_32 rfl ?_
      refine go_iconst dX5_read_33 ?_
      refine go_callV_z (as := [vi 1]) (S := []) (b := 1) (ev_X7_refuse (m := m_19) (k := 1) (by first | assumption | omega | exact ⟨by omega, by omega⟩ | (constructor <;> omega))) rfl dX5_read_34 cv_5_57 rfl rfl ob_1 rfl (by decide) (Nat.le_of_ble_eq_true rfl) (fun r_34 m_34 hr_34 ho_34 => ?_)
      refine go_if_eq (tgt := 44) dX5_read_37 (by decide) ⟨by omega, by omega⟩ (fun h_37 => ?_) (fun h_37 => ?_)
      · refine go_iconst dX5_read_44 ?_
        refine go_ret (v := 0) rfl dX5_read_45 (okZ (by first | exact Or.inl rfl | exact Or.inr rfl | assumption | omega)) ?_
        refine ⟨m_8, hbg, ?_⟩
        first
        | (exfalso; have h := hr_34.1; omega)
        | exact Or.inl ⟨rfl, x1, by omega, x2⟩
        | (refine Or.inr ⟨rfl, Or.inr ⟨x1, h_29, ?_⟩⟩
           rw [hr_34.2]
           exact x2.ref)
        | (obtain ⟨-, y1, y2⟩ := hr_19.resolve_left (fun h => by have := h.1; omega)
           exact Or.inr ⟨rfl, Or.inl ⟨y1, y2⟩⟩)
      · refine go_iconst dX5_read_40 ?_
        refine go_goto (tgt := 45) dX5_read_41 (by decide) ?_
        refine go_ret (v := 1) rfl dX5_read_45 (okZ (by first | exact Or.inl rfl | exact Or.inr rfl | assumption | omega)) ?_
        refine ⟨m_8, hbg, ?_⟩
        first
        | (exfalso; have h := hr_34.1; omega)
        | exact Or.inl ⟨rfl, x1, by omega, x2⟩
        | (refine Or.inr ⟨rfl, Or.inr ⟨x1, h_29, ?_⟩⟩
           rw [hr_34.2]
           exact x2.ref)
        | (obtain ⟨-, y1, y2⟩ := hr_19.resolve_left (fun h => by have := h.1; omega)
           exact Or.inr ⟨rfl, Or.inl ⟨y1, y2⟩⟩)
theorem dX11_sentence_0 : decode mX11_sentence.2.1 0 = .ok (.aload_n 0, 1) := by decide +kernel
theorem dX11_sentence_1 : decode mX11_sentence.2.1 1 = .ok (.getfield 54, 3) := by decide +kernel
theorem dX11_sentence_4 : decode mX11_sentence.2.1 4 = .ok (.aload_n 0, 1) := by decide +kernel
theorem dX11_sentence_5 : decode mX11_sentence.2.1 5 = .ok (.getfield 12, 3) := by decide +kernel
theorem dX11_sentence_8 : decode mX11_sentence.2.1 8 = .ok (.aload_n 0, 1) := by decide +kernel
theorem dX11_sentence_9 : decode mX11_sentence.2.1 9 = .ok (.getfield 24, 3) := by decide +kernel
theorem dX11_sentence_12 : decode mX11_sentence.2.1 12 = .ok (.getfield 28, 3) := by decide +kernel
theorem dX11_sentence_15 : decode mX11_sentence.2.1 15 = .ok (.invokevirtual 379, 3) := by decide +kernel
theorem dX11_sentence_18 : decode mX11_sentence.2.1 18 = .ok (.istore_n 1, 1) := by decide +kernel
theorem dX11_sentence_19 : decode mX11_sentence.2.1 19 = .ok (.aload_n 0, 1) := by decide +kernel
theorem dX11_sentence_20 : decode mX11_sentence.2.1 20 = .ok (.getfield 12, 3) := by decide +kernel
theorem dX11_sentence_23 : decode mX11_sentence.2.1 23 = .ok (.iconst 0, 1) := by decide +kernel
theorem dX11_sentence_24 : decode mX11_sentence.2.1 24 = .ok (.putfield 102, 3) := by decide +kernel
theorem dX11_sentence_27 : decode mX11_sentence.2.1 27 = .ok (.iload_n 1, 1) := by decide +kernel
theorem dX11_sentence_28 : decode mX11_sentence.2.1 28 = .ok (.ifCond .ne 13, 3) := by decide +kernel
theorem dX11_sentence_31 : decode mX11_sentence.2.1 31 = .ok (.iconst (-1), 1) := by decide +kernel
theorem dX11_sentence_32 : decode mX11_sentence.2.1 32 = .ok (.aload_n 0, 1) := by decide +kernel
theorem dX11_sentence_33 : decode mX11_sentence.2.1 33 = .ok (.getfield 12, 3) := by decide +kernel
theorem dX11_sentence_36 : decode mX11_sentence.2.1 36 = .ok (.getfield 113, 3) := by decide +kernel
theorem dX11_sentence_39 : decode mX11_sentence.2.1 39 = .ok (.isub, 1) := by decide +kernel
theorem dX11_sentence_40 : decode mX11_sentence.2.1 40 = .ok (.ireturn, 1) := by decide +kernel
theorem dX11_sentence_41 : decode mX11_sentence.2.1 41 = .ok (.aload_n 0, 1) := by decide +kernel
theorem dX11_sentence_42 : decode mX11_sentence.2.1 42 = .ok (.getfield 24, 3) := by decide +kernel
theorem dX11_sentence_45 : decode mX11_sentence.2.1 45 = .ok (.getfield 382, 3) := by decide +kernel
theorem dX11_sentence_48 : decode mX11_sentence.2.1 48 = .ok (.aload_n 0, 1) := by decide +kernel
theorem dX11_sentence_49 : decode mX11_sentence.2.1 49 = .ok (.getfield 54, 3) := by decide +kernel
theorem dX11_sentence_52 : decode mX11_sentence.2.1 52 = .ok (.invokevirtual 385, 3) := by decide +kernel
theorem dX11_sentence_55 : decode mX11_sentence.2.1 55 = .ok (.aload_n 0, 1) := by decide +kernel
theorem dX11_sentence_56 : decode mX11_sentence.2.1 56 = .ok (.getfield 54, 3) := by decide +kernel
theorem dX11_sentence_59 : decode mX11_sentence.2.1 59 = .ok (.getfield 388, 3) := by decide +kernel
theorem dX11_sentence_62 : decode mX11_sentence.2.1 62 = .ok (.ireturn, 1) := by decide +kernel
set_option maxRecDepth 4000 in
theorem ev_X11_sentence {m : Mem}  (hsz : 0 ≤ m 1 1 ∧ m 1 1 ≤ 940) (hdn : DnOk m 8) : Ev 0 54 mX11_sentence [vr 0] m (fun r m' => SnPost m r m') := by
  refine Ev.of (L := [vr 0, un]) (by decide +kernel) rfl (Nat.le_of_ble_eq_true rfl) rfl (fun t ht => by cases ht; first | exact Or.inl rfl | exact Or.inr (Or.inl rfl) | exact Or.inr (Or.inr rfl)) (fun hcan => ?_)
  refine go_aload_n dX11_sentence_0 rfl ?_
  refine go_getf_p (b := 76) dX11_sentence_1 fl_11_54 ob_0 rfl pt_0_5 ?_
  refine go_aload_n dX11_sentence_4 rfl ?_
  refine go_getf_p (b := 1) dX11_sentence_5 fl_11_12 ob_0 rfl pt_0_0 ?_
  refine go_aload_n dX11_sentence_8 rfl ?_
  refine go_getf_p (b := 7) dX11_sentence_9 fl_11_24 ob_0 rfl pt_0_1 ?_
  refine go_getf_p (b := 8) dX11_sentence_12 fl_11_28 ob_7 rfl pt_7_0 ?_
  refine go_callV_z (as := [vr 1, vr 8]) (S := []) (b := 76) (ev_X5_read (m := m)  (by first | assumption | omega | exact ⟨by omega, by omega⟩ | (constructor <;> omega)) (by first | assumption | omega | exact ⟨by omega, by omega⟩ | (constructor <;> omega))) rfl dX11_sentence_15 cv_11_379 rfl rfl ob_76 rfl (by decide) (Nat.le_of_ble_eq_true rfl) (fun r_15 m_15 hr_15 ho_15 => ?_)
  obtain ⟨C, hC, hR⟩ := hr_15
  have hrb : r_15 = 0 ∨ r_15 = 1 := by rcases hR with h | h <;> omega
  refine go_istore_n (L' := [vr 0, vi r_15]) dX11_sentence_18 (by decide) rfl rfl ?_
  refine go_aload_n dX11_sentence_19 rfl ?_
  refine go_getf_p (b := 1) dX11_sentence_20 fl_11_12 ob_0 rfl pt_0_0 ?_
  refine go_iconst dX11_sentence_23 ?_
  refine go_putf_i (ki := 1) dX11_sentence_24 fw_11_102 ob_1 rfl rfl ⟨by omega, by omega⟩ ?_
  refine go_iload_n dX11_sentence_27 rfl ?_
  refine go_if_ne (tgt := 41) dX11_sentence_28 (by decide) ⟨by omega, by omega⟩ (fun h_28 => ?_) (fun h_28 => ?_)
  · refine go_aload_n dX11_sentence_41 rfl ?_
    refine go_getf_p (b := 7) dX11_sentence_42 fl_11_24 ob_0 rfl pt_0_1 ?_
    refine go_getf_p (b := 26) dX11_sentence_45 fl_11_382 ob_7 rfl pt_7_2 ?_
    refine go_aload_n dX11_sentence_48 rfl ?_
    refine go_getf_p (b := 76) dX11_sentence_49 fl_11_54 ob_0 rfl pt_0_5 ?_
    refine go_callV_v (as := [vr 76]) (S := []) (b := 26) (ev_X5_copyFrom (m := (wr m_15 1 1 0)) (e := 26) (o := 76) isSe_26 isSe_76 (by omega)) rfl dX11_sentence_52 cv_11_385 rfl rfl ob_26 rfl (by decide) (Nat.le_of_ble_eq_true rfl) (fun m_52 hr_52 => ?_)
    subst hr_52
    refine go_aload_n dX11_sentence_55 rfl ?_
    refine go_getf_p (b := 76) dX11_sentence_56 fl_11_54 ob_0 rfl pt_0_5 ?_
    refine go_getf_i (ki := 0) dX11_sentence_59 fl_11_388 ob_76 rfl rfl (fun hf_59 => ?_)
    rw [show ((rows (wr m_15 1 1 0) 26 76 4) 76 0 : Int) = (m_15 76 0) from by rw [rows_out (by omega), wr_na (by decide)]] at hf_59 ⊢
    exact go_ret (v := (m_15 76 0)) rfl dX11_sentence_62 (okI ⟨by omega, by omega⟩) ⟨C, m_15, r_15, hC, hR, Or.inr ⟨by omega, rfl, rfl⟩⟩
  · refine go_iconst dX11_sentence_31 ?_
    refine go_aload_n dX11_sentence_32 rfl ?_
    refine go_getf_p (b := 1) dX11_sentence_33 fl_11_12 ob_0 rfl pt_0_0 ?_
    refine go_getf_i (ki := 3) dX11_sentence_36 fl_11_113 ob_1 rfl rfl (fun hf_36 => ?_)
    rw [show ((wr m_15 1 1 0) 1 3 : Int) = (m_15 1 3) from by rw [wr_ni (by decide)]] at hf_36 ⊢
    refine go_isub dX11_sentence_39 ?_
    exact go_ret (v := ((-1) - (m_15 1 3))) rfl dX11_sentence_40 (okI ⟨by omega, by omega⟩) ⟨C, m_15, r_15, hC, hR, Or.inl ⟨by omega, rfl, rfl⟩⟩
theorem dX5_join_0 : decode mX5_join.2.1 0 = .ok (.iload_n 0, 1) := by decide +kernel
theorem dX5_join_1 : decode mX5_join.2.1 1 = .ok (.sipush 214, 3) := by decide +kernel
theorem dX5_join_4 : decode mX5_join.2.1 4 = .ok (.if_icmp .ne 19, 3) := by decide +kernel
theorem dX5_join_7 : decode mX5_join.2.1 7 = .ok (.iload_n 1, 1) := by decide +kernel
theorem dX5_join_8 : decode mX5_join.2.1 8 = .ok (.ifCond .eq 11, 3) := by decide +kernel
theorem dX5_join_11 : decode mX5_join.2.1 11 = .ok (.iload_n 2, 1) := by decide +kernel
theorem dX5_join_12 : decode mX5_join.2.1 12 = .ok (.ifCond .eq 7, 3) := by decide +kernel
theorem dX5_join_15 : decode mX5_join.2.1 15 = .ok (.iconst 1, 1) := by decide +kernel
theorem dX5_join_16 : decode mX5_join.2.1 16 = .ok (.goto 20, 3) := by decide +kernel
theorem dX5_join_19 : decode mX5_join.2.1 19 = .ok (.iconst 0, 1) := by decide +kernel
theorem dX5_join_20 : decode mX5_join.2.1 20 = .ok (.goto 16, 3) := by decide +kernel
theorem dX5_join_23 : decode mX5_join.2.1 23 = .ok (.iload_n 1, 1) := by decide +kernel
theorem dX5_join_24 : decode mX5_join.2.1 24 = .ok (.ifCond .ne 7, 3) := by decide +kernel
theorem dX5_join_27 : decode mX5_join.2.1 27 = .ok (.iload_n 2, 1) := by decide +kernel
theorem dX5_join_28 : decode mX5_join.2.1 28 = .ok (.ifCond .eq 7, 3) := by decide +kernel
theorem dX5_join_31 : decode mX5_join.2.1 31 = .ok (.iconst 1, 1) := by decide +kernel
theorem dX5_join_32 : decode mX5_join.2.1 32 = .ok (.goto 4, 3) := by decide +kernel
theorem dX5_join_35 : decode mX5_join.2.1 35 = .ok (.iconst 0, 1) := by decide +kernel
theorem dX5_join_36 : decode mX5_join.2.1 36 = .ok (.ireturn, 1) := by decide +kernel
set_option maxRecDepth 4000 in
theorem ev_X5_join {m : Mem} {k : Int} {a : Bool} {b : Bool} (hk : InR k) : Ev 0 1 mX5_join [vi k, vi (b2i a), vi (b2i b)] m (fun r m' => m' = m ∧ (r = b2i (if k = 214 then a && b else a || b))) := by
  refine Ev.of (L := [vi k, vi (b2i a), vi (b2i b)]) (by decide +kernel) rfl (Nat.le_of_ble_eq_true rfl) rfl (fun t ht => by cases ht; first | exact Or.inl rfl | exact Or.inr (Or.inl rfl) | exact Or.inr (Or.inr rfl)) (fun hcan => ?_)
  have ha : b2i a = 0 ∨ b2i a = 1 := by cases a <;> simp [b2i]
  have hb : b2i b = 0 ∨ b2i b = 1 := by cases b <;> simp [b2i]
  refine go_iload_n dX5_join_0 rfl ?_
  refine go_sipush dX5_join_1 (by decide) ?_
  refine go_icmp_ne (tgt := 23) dX5_join_4 (by decide) ⟨by omega, by omega⟩ ⟨by omega, by omega⟩ (fun h_4 => ?_) (fun h_4 => ?_)
  · refine go_iload_n dX5_join_23 rfl ?_
    refine go_if_ne (tgt := 31) dX5_join_24 (by decide) ⟨by omega, by omega⟩ (fun h_24 => ?_) (fun h_24 => ?_)
    · refine go_iconst dX5_join_31 ?_
      refine go_goto (tgt := 36) dX5_join_32 (by decide) ?_
      exact go_ret (v := 1) rfl dX5_join_36 (okZ (by first | exact Or.inl rfl | exact Or.inr rfl | assumption | omega)) ⟨rfl, (by cases a <;> cases b <;> simp_all [b2i])⟩
    · refine go_iload_n dX5_join_27 rfl ?_
      refine go_if_eq (tgt := 35) dX5_join_28 (by decide) ⟨by omega, by omega⟩ (fun h_28 => ?_) (fun h_28 => ?_)
      · refine go_iconst dX5_join_35 ?_
        exact go_ret (v := 0) rfl dX5_join_36 (okZ (by first | exact Or.inl rfl | exact Or.inr rfl | assumption | omega)) ⟨rfl, (by cases a <;> cases b <;> simp_all [b2i])⟩
      · refine go_iconst dX5_join_31 ?_
        refine go_goto (tgt := 36) dX5_join_32 (by decide) ?_
        exact go_ret (v := 1) rfl dX5_join_36 (okZ (by first | exact Or.inl rfl | exact Or.inr rfl | assumption | omega)) ⟨rfl, (by cases a <;> cases b <;> simp_all [b2i])⟩
  · refine go_iload_n dX5_join_7 rfl ?_
    refine go_if_eq (tgt := 19) dX5_join_8 (by decide) ⟨by omega, by omega⟩ (fun h_8 => ?_) (fun h_8 => ?_)
    · refine go_iconst dX5_join_19 ?_
      refine go_goto (tgt := 36) dX5_join_20 (by decide) ?_
      exact go_ret (v := 0) rfl dX5_join_36 (okZ (by first | exact Or.inl rfl | exact Or.inr rfl | assumption | omega)) ⟨rfl, (by cases a <;> cases b <;> simp_all [b2i])⟩
    · refine go_iload_n dX5_join_11 rfl ?_
      refine go_if_eq (tgt := 19) dX5_join_12 (by decide) ⟨by omega, by omega⟩ (fun h_12 => ?_) (fun h_12 => ?_)
      · refine go_iconst dX5_join_19 ?_
        refine go_goto (tgt := 36) dX5_join_20 (by decide) ?_
        exact go_ret (v := 0) rfl dX5_join_36 (okZ (by first | exact Or.inl rfl | exact Or.inr rfl | assumption | omega)) ⟨rfl, (by cases a <;> cases b <;> simp_all [b2i])⟩
      · refine go_iconst dX5_join_15 ?_
        refine go_goto (tgt := 36) dX5_join_16 (by decide) ?_
        exact go_ret (v := 1) rfl dX5_join_36 (okZ (by first | exact Or.inl rfl | exact Or.inr rfl | assumption | omega)) ⟨rfl, (by cases a <;> cases b <;> simp_all [b2i])⟩
theorem dX5_compares_0 : decode mX5_compares.2.1 0 = .ok (.aload_n 0, 1) := by decide +kernel
theorem dX5_compares_1 : decode mX5_compares.2.1 1 = .ok (.getfield 22, 3) := by decide +kernel
theorem dX5_compares_4 : decode mX5_compares.2.1 4 = .ok (.iload_n 2, 1) := by decide +kernel
theorem dX5_compares_5 : decode mX5_compares.2.1 5 = .ok (.iaload, 1) := by decide +kernel
theorem dX5_compares_6 : decode mX5_compares.2.1 6 = .ok (.bipush 60, 2) := by decide +kernel
theorem dX5_compares_8 : decode mX5_compares.2.1 8 = .ok (.if_icmp .ne 19, 3) := by decide +kernel
theorem dX5_compares_11 : decode mX5_compares.2.1 11 = .ok (.iload_n 1, 1) := by decide +kernel
theorem dX5_compares_12 : decode mX5_compares.2.1 12 = .ok (.aload_n 0, 1) := by decide +kernel
theorem dX5_compares_13 : decode mX5_compares.2.1 13 = .ok (.getfield 25, 3) := by decide +kernel
theorem dX5_compares_16 : decode mX5_compares.2.1 16 = .ok (.iload_n 2, 1) := by decide +kernel
theorem dX5_compares_17 : decode mX5_compares.2.1 17 = .ok (.iaload, 1) := by decide +kernel
theorem dX5_compares_18 : decode mX5_compares.2.1 18 = .ok (.if_icmp .ge 7, 3) := by decide +kernel
theorem dX5_compares_21 : decode mX5_compares.2.1 21 = .ok (.iconst 1, 1) := by decide +kernel
theorem dX5_compares_22 : decode mX5_compares.2.1 22 = .ok (.goto 4, 3) := by decide +kernel
theorem dX5_compares_25 : decode mX5_compares.2.1 25 = .ok (.iconst 0, 1) := by decide +kernel
theorem dX5_compares_26 : decode mX5_compares.2.1 26 = .ok (.ireturn, 1) := by decide +kernel
theorem dX5_compares_27 : decode mX5_compares.2.1 27 = .ok (.aload_n 0, 1) := by decide +kernel
theorem dX5_compares_28 : decode mX5_compares.2.1 28 = .ok (.getfield 22, 3) := by decide +kernel
theorem dX5_compares_31 : decode mX5_compares.2.1 31 = .ok (.iload_n 2, 1) := by decide +kernel
theorem dX5_compares_32 : decode mX5_compares.2.1 32 = .ok (.iaload, 1) := by decide +kernel
theorem dX5_compares_33 : decode mX5_compares.2.1 33 = .ok (.bipush 62, 2) := by decide +kernel
theorem dX5_compares_35 : decode mX5_compares.2.1 35 = .ok (.if_icmp .ne 21, 3) := by decide +kernel
theorem dX5_compares_38 : decode mX5_compares.2.1 38 = .ok (.iload_n 1, 1) := by decide +kernel
theorem dX5_compares_39 : decode mX5_compares.2.1 39 = .ok (.aload_n 0, 1) := by decide +kernel
theorem dX5_compares_40 : decode mX5_compares.2.1 40 = .ok (.getfield 25, 3) := by decide +kernel
theorem dX5_compares_43 : decode mX5_compares.2.1 43 = .ok (.iload_n 2, 1) := by decide +kernel
theorem dX5_compares_44 : decode mX5_compares.2.1 44 = .ok (.iaload, 1) := by decide +kernel
theorem dX5_compares_45 : decode mX5_compares.2.1 45 = .ok (.if_icmp .le 7, 3) := by decide +kernel
theorem dX5_compares_48 : decode mX5_compares.2.1 48 = .ok (.iconst 1, 1) := by decide +kernel
theorem dX5_compares_49 : decode mX5_compares.2.1 49 = .ok (.goto 22, 3) := by decide +kernel
theorem dX5_compares_52 : decode mX5_compares.2.1 52 = .ok (.iconst 0, 1) := by decide +kernel
theorem dX5_compares_53 : decode mX5_compares.2.1 53 = .ok (.goto 18, 3) := by decide +kernel
theorem dX5_compares_56 : decode mX5_compares.2.1 56 = .ok (.iload_n 1, 1) := by decide +kernel
theorem dX5_compares_57 : decode mX5_compares.2.1 57 = .ok (.aload_n 0, 1) := by decide +kernel
theorem dX5_compares_58 : decode mX5_compares.2.1 58 = .ok (.getfield 25, 3) := by decide +kernel
theorem dX5_compares_61 : decode mX5_compares.2.1 61 = .ok (.iload_n 2, 1) := by decide +kernel
theorem dX5_compares_62 : decode mX5_compares.2.1 62 = .ok (.iaload, 1) := by decide +kernel
theorem dX5_compares_63 : decode mX5_compares.2.1 63 = .ok (.if_icmp .ne 7, 3) := by decide +kernel
theorem dX5_compares_66 : decode mX5_compares.2.1 66 = .ok (.iconst 1, 1) := by decide +kernel
theorem dX5_compares_67 : decode mX5_compares.2.1 67 = .ok (.goto 4, 3) := by decide +kernel
theorem dX5_compares_70 : decode mX5_compares.2.1 70 = .ok (.iconst 0, 1) := by decide +kernel
theorem dX5_compares_71 : decode mX5_compares.2.1 71 = .ok (.ireturn, 1) := by decide +kernel
set_option maxRecDepth 4000 in
theorem ev_X5_compares {m : Mem} {x : Int} {k : Int} (hx : InR x) (hk : 0 ≤ k ∧ k < 40) : Ev 0 1 mX5_compares [vr 26, vi x, vi k] m (fun r m' => m' = m ∧ (r = b2i (cmpB x (m 27 k, m 28 k, m 29 k)))) := by
  refine Ev.of (L := [vr 26, vi x, vi k]) (by decide +kernel) rfl (Nat.le_of_ble_eq_true rfl) rfl (fun t ht => by cases ht; first | exact Or.inl rfl | exact Or.inr (Or.inl rfl) | exact Or.inr (Or.inr rfl)) (fun hcan => ?_)
  refine go_aload_n dX5_compares_0 rfl ?_
  refine go_getf_p (b := 28) dX5_compares_1 fl_5_22 ob_26 rfl pt_26_3 ?_
  refine go_iload_n dX5_compares_4 rfl ?_
  refine go_iaload dX5_compares_5 ar_28 (by omega) (by omega) (fun he_5 => ?_)
  refine go_bipush dX5_compares_6 (by decide) ?_
  refine go_icmp_ne (tgt := 27) dX5_compares_8 (by decide) ⟨by omega, by omega⟩ ⟨by omega, by omega⟩ (fun h_8 => ?_) (fun h_8 => ?_)
  · refine go_aload_n dX5_compares_27 rfl ?_
    refine go_getf_p (b := 28) dX5_compares_28 fl_5_22 ob_26 rfl pt_26_3 ?_
    refine go_iload_n dX5_compares_31 rfl ?_
    refine go_iaload dX5_compares_32 ar_28 (by omega) (by omega) (fun he_32 => ?_)
    refine go_bipush dX5_compares_33 (by decide) ?_
    refine go_icmp_ne (tgt := 56) dX5_compares_35 (by decide) ⟨by omega, by omega⟩ ⟨by omega, by omega⟩ (fun h_35 => ?_) (fun h_35 => ?_)
    · refine go_iload_n dX5_compares_56 rfl ?_
      refine go_aload_n dX5_compares_57 rfl ?_
      refine go_getf_p (b := 29) dX5_compares_58 fl_5_25 ob_26 rfl pt_26_4 ?_
      refine go_iload_n dX5_compares_61 rfl ?_
      refine go_iaload dX5_compares_62 ar_29 (by omega) (by omega) (fun he_62 => ?_)
      refine go_icmp_ne (tgt := 70) dX5_compares_63 (by decide) ⟨by omega, by omega⟩ ⟨by omega, by omega⟩ (fun h_63 => ?_) (fun h_63 => ?_)
      · refine go_iconst dX5_compares_70 ?_
        exact go_ret (v := 0) rfl dX5_compares_71 (okZ (by first | exact Or.inl rfl | exact Or.inr rfl | assumption | omega)) ⟨rfl, (by unfold cmpB; dsimp only; rw [if_neg (by omega)]; first | (rw [if_pos (by omega)]; first | (rw [decide_eq_true (show m 29 k < x by omega)]; rfl) | (rw [decide_eq_false (show ¬ m 29 k < x by omega)]; rfl)) | (rw [if_neg (by omega)]; first | (rw [decide_eq_true (show x = m 29 k by omega)]; rfl) | (rw [decide_eq_false (show ¬ x = m 29 k by omega)]; rfl)))⟩
      · refine go_iconst dX5_compares_66 ?_
        refine go_goto (tgt := 71) dX5_compares_67 (by decide) ?_
        exact go_ret (v := 1) rfl dX5_compares_71 (okZ (by first | exact Or.inl rfl | exact Or.inr rfl | assumption | omega)) ⟨rfl, (by unfold cmpB; dsimp only; rw [if_neg (by omega)]; first | (rw [if_pos (by omega)]; first | (rw [decide_eq_true (show m 29 k < x by omega)]; rfl) | (rw [decide_eq_false (show ¬ m 29 k < x by omega)]; rfl)) | (rw [if_neg (by omega)]; first | (rw [decide_eq_true (show x = m 29 k by omega)]; rfl) | (rw [decide_eq_false (show ¬ x = m 29 k by omega)]; rfl)))⟩
    · refine go_iload_n dX5_compares_38 rfl ?_
      refine go_aload_n dX5_compares_39 rfl ?_
      refine go_getf_p (b := 29) dX5_compares_40 fl_5_25 ob_26 rfl pt_26_4 ?_
      refine go_iload_n dX5_compares_43 rfl ?_
      refine go_iaload dX5_compares_44 ar_29 (by omega) (by omega) (fun he_44 => ?_)
      refine go_icmp_le (tgt := 52) dX5_compares_45 (by decide) ⟨by omega, by omega⟩ ⟨by omega, by omega⟩ (fun h_45 => ?_) (fun h_45 => ?_)
      · refine go_iconst dX5_compares_52 ?_
        refine go_goto (tgt := 71) dX5_compares_53 (by decide) ?_
        exact go_ret (v := 0) rfl dX5_compares_71 (okZ (by first | exact Or.inl rfl | exact Or.inr rfl | assumption | omega)) ⟨rfl, (by unfold cmpB; dsimp only; rw [if_neg (by omega)]; first | (rw [if_pos (by omega)]; first | (rw [decide_eq_true (show m 29 k < x by omega)]; rfl) | (rw [decide_eq_false (show ¬ m 29 k < x by omega)]; rfl)) | (rw [if_neg (by omega)]; first | (rw [decide_eq_true (show x = m 29 k by omega)]; rfl) | (rw [decide_eq_false (show ¬ x = m 29 k by omega)]; rfl)))⟩
      · refine go_iconst dX5_compares_48 ?_
        refine go_goto (tgt := 71) dX5_compares_49 (by decide) ?_
        exact go_ret (v := 1) rfl dX5_compares_71 (okZ (by first | exact Or.inl rfl | exact Or.inr rfl | assumption | omega)) ⟨rfl, (by unfold cmpB; dsimp only; rw [if_neg (by omega)]; first | (rw [if_pos (by omega)]; first | (rw [decide_eq_true (show m 29 k < x by omega)]; rfl) | (rw [decide_eq_false (show ¬ m 29 k < x by omega)]; rfl)) | (rw [if_neg (by omega)]; first | (rw [decide_eq_true (show x = m 29 k by omega)]; rfl) | (rw [decide_eq_false (show ¬ x = m 29 k by omega)]; rfl)))⟩
  · refine go_iload_n dX5_compares_11 rfl ?_
    refine go_aload_n dX5_compares_12 rfl ?_
    refine go_getf_p (b := 29) dX5_compares_13 fl_5_25 ob_26 rfl pt_26_4 ?_
    refine go_iload_n dX5_compares_16 rfl ?_
    refine go_iaload dX5_compares_17 ar_29 (by omega) (by omega) (fun he_17 => ?_)
    refine go_icmp_ge (tgt := 25) dX5_compares_18 (by decide) ⟨by omega, by omega⟩ ⟨by omega, by omega⟩ (fun h_18 => ?_) (fun h_18 => ?_)
    · refine go_iconst dX5_compares_25 ?_
      exact go_ret (v := 0) rfl dX5_compares_26 (okZ (by first | exact Or.inl rfl | exact Or.inr rfl | assumption | omega)) ⟨rfl, (by unfold cmpB; dsimp only; rw [if_pos (by omega)]; first | (rw [decide_eq_true (show x < m 29 k by omega)]; rfl) | (rw [decide_eq_false (show ¬ x < m 29 k by omega)]; rfl))⟩
    · refine go_iconst dX5_compares_21 ?_
      refine go_goto (tgt := 26) dX5_compares_22 (by decide) ?_
      exact go_ret (v := 1) rfl dX5_compares_26 (okZ (by first | exact Or.inl rfl | exact Or.inr rfl | assumption | omega)) ⟨rfl, (by unfold cmpB; dsimp only; rw [if_pos (by omega)]; first | (rw [decide_eq_true (show x < m 29 k by omega)]; rfl) | (rw [decide_eq_false (show ¬ x < m 29 k by omega)]; rfl))⟩
theorem dX5_plainHolds_0 : decode mX5_plainHolds.2.1 0 = .ok (.aload_n 1, 1) := by decide +kernel
theorem dX5_plainHolds_1 : decode mX5_plainHolds.2.1 1 = .ok (.getfield 115, 3) := by decide +kernel
theorem dX5_plainHolds_4 : decode mX5_plainHolds.2.1 4 = .ok (.astore 4, 2) := by decide +kernel
theorem dX5_plainHolds_6 : decode mX5_plainHolds.2.1 6 = .ok (.aload_n 0, 1) := by decide +kernel
theorem dX5_plainHolds_7 : decode mX5_plainHolds.2.1 7 = .ok (.getfield 18, 3) := by decide +kernel
theorem dX5_plainHolds_10 : decode mX5_plainHolds.2.1 10 = .ok (.iload_n 3, 1) := by decide +kernel
theorem dX5_plainHolds_11 : decode mX5_plainHolds.2.1 11 = .ok (.iaload, 1) := by decide +kernel
theorem dX5_plainHolds_12 : decode mX5_plainHolds.2.1 12 = .ok (.tableswitch 163 216 223 #[48, 64, 80, 86, 112, 124, 137, 150], 48) := by decide +kernel
theorem dX5_plainHolds_60 : decode mX5_plainHolds.2.1 60 = .ok (.aload 4, 2) := by decide +kernel
theorem dX5_plainHolds_62 : decode mX5_plainHolds.2.1 62 = .ok (.getfield 121, 3) := by decide +kernel
theorem dX5_plainHolds_65 : decode mX5_plainHolds.2.1 65 = .ok (.iload_n 2, 1) := by decide +kernel
theorem dX5_plainHolds_66 : decode mX5_plainHolds.2.1 66 = .ok (.iaload, 1) := by decide +kernel
theorem dX5_plainHolds_67 : decode mX5_plainHolds.2.1 67 = .ok (.ifCond .ne 7, 3) := by decide +kernel
theorem dX5_plainHolds_70 : decode mX5_plainHolds.2.1 70 = .ok (.iconst 1, 1) := by decide +kernel
theorem dX5_plainHolds_71 : decode mX5_plainHolds.2.1 71 = .ok (.goto 4, 3) := by decide +kernel
theorem dX5_plainHolds_74 : decode mX5_plainHolds.2.1 74 = .ok (.iconst 0, 1) := by decide +kernel
theorem dX5_plainHolds_75 : decode mX5_plainHolds.2.1 75 = .ok (.ireturn, 1) := by decide +kernel
theorem dX5_plainHolds_76 : decode mX5_plainHolds.2.1 76 = .ok (.aload 4, 2) := by decide +kernel
theorem dX5_plainHolds_78 : decode mX5_plainHolds.2.1 78 = .ok (.getfield 126, 3) := by decide +kernel
theorem dX5_plainHolds_81 : decode mX5_plainHolds.2.1 81 = .ok (.iload_n 2, 1) := by decide +kernel
theorem dX5_plainHolds_82 : decode mX5_plainHolds.2.1 82 = .ok (.iaload, 1) := by decide +kernel
theorem dX5_plainHolds_83 : decode mX5_plainHolds.2.1 83 = .ok (.ifCond .ne 7, 3) := by decide +kernel
theorem dX5_plainHolds_86 : decode mX5_plainHolds.2.1 86 = .ok (.iconst 1, 1) := by decide +kernel
theorem dX5_plainHolds_87 : decode mX5_plainHolds.2.1 87 = .ok (.goto 4, 3) := by decide +kernel
theorem dX5_plainHolds_90 : decode mX5_plainHolds.2.1 90 = .ok (.iconst 0, 1) := by decide +kernel
theorem dX5_plainHolds_91 : decode mX5_plainHolds.2.1 91 = .ok (.ireturn, 1) := by decide +kernel
theorem dX5_plainHolds_92 : decode mX5_plainHolds.2.1 92 = .ok (.aload_n 1, 1) := by decide +kernel
theorem dX5_plainHolds_93 : decode mX5_plainHolds.2.1 93 = .ok (.iload_n 2, 1) := by decide +kernel
theorem dX5_plainHolds_94 : decode mX5_plainHolds.2.1 94 = .ok (.invokevirtual 129, 3) := by decide +kernel
theorem dX5_plainHolds_97 : decode mX5_plainHolds.2.1 97 = .ok (.ireturn, 1) := by decide +kernel
theorem dX5_plainHolds_98 : decode mX5_plainHolds.2.1 98 = .ok (.aload 4, 2) := by decide +kernel
theorem dX5_plainHolds_100 : decode mX5_plainHolds.2.1 100 = .ok (.getfield 132, 3) := by decide +kernel
theorem dX5_plainHolds_103 : decode mX5_plainHolds.2.1 103 = .ok (.iload_n 2, 1) := by decide +kernel
theorem dX5_plainHolds_104 : decode mX5_plainHolds.2.1 104 = .ok (.iaload, 1) := by decide +kernel
theorem dX5_plainHolds_105 : decode mX5_plainHolds.2.1 105 = .ok (.aload_n 0, 1) := by decide +kernel
theorem dX5_plainHolds_106 : decode mX5_plainHolds.2.1 106 = .ok (.getfield 25, 3) := by decide +kernel
theorem dX5_plainHolds_109 : decode mX5_plainHolds.2.1 109 = .ok (.iload_n 3, 1) := by decide +kernel
theorem dX5_plainHolds_110 : decode mX5_plainHolds.2.1 110 = .ok (.iaload, 1) := by decide +kernel
theorem dX5_plainHolds_111 : decode mX5_plainHolds.2.1 111 = .ok (.ishr, 1) := by decide +kernel
theorem dX5_plainHolds_112 : decode mX5_plainHolds.2.1 112 = .ok (.iconst 1, 1) := by decide +kernel
theorem dX5_plainHolds_113 : decode mX5_plainHolds.2.1 113 = .ok (.iand, 1) := by decide +kernel
theorem dX5_plainHolds_114 : decode mX5_plainHolds.2.1 114 = .ok (.iconst 1, 1) := by decide +kernel
theorem dX5_plainHolds_115 : decode mX5_plainHolds.2.1 115 = .ok (.if_icmp .ne 7, 3) := by decide +kernel
theorem dX5_plainHolds_118 : decode mX5_plainHolds.2.1 118 = .ok (.iconst 1, 1) := by decide +kernel
theorem dX5_plainHolds_119 : decode mX5_plainHolds.2.1 119 = .ok (.goto 4, 3) := by decide +kernel
theorem dX5_plainHolds_122 : decode mX5_plainHolds.2.1 122 = .ok (.iconst 0, 1) := by decide +kernel
theorem dX5_plainHolds_123 : decode mX5_plainHolds.2.1 123 = .ok (.ireturn, 1) := by decide +kernel
theorem dX5_plainHolds_124 : decode mX5_plainHolds.2.1 124 = .ok (.aload_n 1, 1) := by decide +kernel
theorem dX5_plainHolds_125 : decode mX5_plainHolds.2.1 125 = .ok (.iload_n 2, 1) := by decide +kernel
theorem dX5_plainHolds_126 : decode mX5_plainHolds.2.1 126 = .ok (.aload_n 0, 1) := by decide +kernel
theorem dX5_plainHolds_127 : decode mX5_plainHolds.2.1 127 = .ok (.getfield 25, 3) := by decide +kernel
theorem dX5_plainHolds_130 : decode mX5_plainHolds.2.1 130 = .ok (.iload_n 3, 1) := by decide +kernel
theorem dX5_plainHolds_131 : decode mX5_plainHolds.2.1 131 = .ok (.iaload, 1) := by decide +kernel
theorem dX5_plainHolds_132 : decode mX5_plainHolds.2.1 132 = .ok (.invokevirtual 135, 3) := by decide +kernel
theorem dX5_plainHolds_135 : decode mX5_plainHolds.2.1 135 = .ok (.ireturn, 1) := by decide +kernel
theorem dX5_plainHolds_136 : decode mX5_plainHolds.2.1 136 = .ok (.aload_n 0, 1) := by decide +kernel
theorem dX5_plainHolds_137 : decode mX5_plainHolds.2.1 137 = .ok (.aload 4, 2) := by decide +kernel
theorem dX5_plainHolds_139 : decode mX5_plainHolds.2.1 139 = .ok (.getfield 126, 3) := by decide +kernel
theorem dX5_plainHolds_142 : decode mX5_plainHolds.2.1 142 = .ok (.iload_n 2, 1) := by decide +kernel
theorem dX5_plainHolds_143 : decode mX5_plainHolds.2.1 143 = .ok (.iaload, 1) := by decide +kernel
theorem dX5_plainHolds_144 : decode mX5_plainHolds.2.1 144 = .ok (.iload_n 3, 1) := by decide +kernel
theorem dX5_plainHolds_145 : decode mX5_plainHolds.2.1 145 = .ok (.invokevirtual 139, 3) := by decide +kernel
theorem dX5_plainHolds_148 : decode mX5_plainHolds.2.1 148 = .ok (.ireturn, 1) := by decide +kernel
theorem dX5_plainHolds_149 : decode mX5_plainHolds.2.1 149 = .ok (.aload_n 0, 1) := by decide +kernel
theorem dX5_plainHolds_150 : decode mX5_plainHolds.2.1 150 = .ok (.aload 4, 2) := by decide +kernel
theorem dX5_plainHolds_152 : decode mX5_plainHolds.2.1 152 = .ok (.getfield 121, 3) := by decide +kernel
theorem dX5_plainHolds_155 : decode mX5_plainHolds.2.1 155 = .ok (.iload_n 2, 1) := by decide +kernel
theorem dX5_plainHolds_156 : decode mX5_plainHolds.2.1 156 = .ok (.iaload, 1) := by decide +kernel
theorem dX5_plainHolds_157 : decode mX5_plainHolds.2.1 157 = .ok (.iload_n 3, 1) := by decide +kernel
theorem dX5_plainHolds_158 : decode mX5_plainHolds.2.1 158 = .ok (.invokevirtual 139, 3) := by decide +kernel
theorem dX5_plainHolds_161 : decode mX5_plainHolds.2.1 161 = .ok (.ireturn, 1) := by decide +kernel
theorem dX5_plainHolds_162 : decode mX5_plainHolds.2.1 162 = .ok (.aload_n 0, 1) := by decide +kernel
theorem dX5_plainHolds_163 : decode mX5_plainHolds.2.1 163 = .ok (.aload 4, 2) := by decide +kernel
theorem dX5_plainHolds_165 : decode mX5_plainHolds.2.1 165 = .ok (.getfield 142, 3) := by decide +kernel
theorem dX5_plainHolds_168 : decode mX5_plainHolds.2.1 168 = .ok (.iload_n 2, 1) := by decide +kernel
theorem dX5_plainHolds_169 : decode mX5_plainHolds.2.1 169 = .ok (.iaload, 1) := by decide +kernel
theorem dX5_plainHolds_170 : decode mX5_plainHolds.2.1 170 = .ok (.iload_n 3, 1) := by decide +kernel
theorem dX5_plainHolds_171 : decode mX5_plainHolds.2.1 171 = .ok (.invokevirtual 139, 3) := by decide +kernel
theorem dX5_plainHolds_174 : decode mX5_plainHolds.2.1 174 = .ok (.ireturn, 1) := by decide +kernel
theorem dX5_plainHolds_175 : decode mX5_plainHolds.2.1 175 = .ok (.aload_n 0, 1) := by decide +kernel
theorem dX5_plainHolds_176 : decode mX5_plainHolds.2.1 176 = .ok (.iload_n 2, 1) := by decide +kernel
theorem dX5_plainHolds_177 : decode mX5_plainHolds.2.1 177 = .ok (.iload_n 3, 1) := by decide +kernel
theorem dX5_plainHolds_178 : decode mX5_plainHolds.2.1 178 = .ok (.invokevirtual 139, 3) := by decide +kernel
theorem dX5_plainHolds_181 : decode mX5_plainHolds.2.1 181 = .ok (.ireturn, 1) := by decide +kernel
set_option maxRecDepth 4000 in
theorem ev_X5_plainHolds {m : Mem} {p : Int} {k : Int} {B : Int} (hdn : DnOk m 8) (hst : StOk m 8 18 B) (hp : 0 ≤ p ∧ p < m 8 3) (hk : 0 ≤ k ∧ k < 40) (hv : m 27 k = 220 → 0 ≤ m 29 k ∧ m 29 k < m 8 3) : Ev 0 5 mX5_plainHolds [vr 26, vr 7, vi p, vi k] m (fun r m' => m' = m ∧ (r = b2i (plA m p (m 27 k, m 28 k, m 29 k)))) := by
  refine Ev.of (L := [vr 26, vr 7, vi p, vi k, un]) (by decide +kernel) rfl (Nat.le_of_ble_eq_true rfl) rfl (fun t ht => by cases ht; first | exact Or.inl rfl | exact Or.inr (Or.inl rfl) | exact Or.inr (Or.inr rfl)) (fun hcan => ?_)
  obtain ⟨⟨hd0, hd1⟩, ⟨hd2, hd3⟩, ⟨hd4, hd5⟩, ⟨hd6, hd7⟩, ⟨hd8, hd9⟩, hdf, hdp, hdq⟩ := id hdn
  obtain ⟨⟨hs0, hs1⟩, ⟨hs2, hs3⟩, hsw, hsp, hsd, hsz⟩ := id hst
  refine go_aload_n dX5_plainHolds_0 rfl ?_
  refine go_getf_p (b := 18) dX5_plainHolds_1 fl_5_115 ob_7 rfl pt_7_1 ?_
  refine go_astore (L' := [vr 26, vr 7, vi p, vi k, vr 18]) dX5_plainHolds_4 (by decide) rfl rfl ?_
  refine go_aload_n dX5_plainHolds_6 rfl ?_
  refine go_getf_p (b := 27) dX5_plainHolds_7 fl_5_18 ob_26 rfl pt_26_2 ?_
  refine go_iload_n dX5_plainHolds_10 rfl ?_
  refine go_iaload dX5_plainHolds_11 ar_27 (by omega) (by omega) (fun he_11 => ?_)
  refine go_tswitch (tgt := 175) dX5_plainHolds_12 ⟨by omega, by omega⟩ (by decide) (fun n_12 h_12 hb_12 => ?_) (fun h_12 => ?_)
  · match n_12, h_12, hb_12 with
    | 0, h_12, hb_12 =>
      refine ⟨48, 60, rfl, by decide, ?_⟩
      refine go_aload dX5_plainHolds_60 rfl ?_
      refine go_getf_p (b := 22) dX5_plainHolds_62 fl_5_121 ob_18 rfl pt_18_5 ?_
      refine go_iload_n dX5_plainHolds_65 rfl ?_
      refine go_iaload dX5_plainHolds_66 ar_22 (by omega) (by omega) (fun he_66 => ?_)
      refine go_if_ne (tgt := 74) dX5_plainHolds_67 (by decide) ⟨by omega, by omega⟩ (fun h_67 => ?_) (fun h_67 => ?_)
      · refine go_iconst dX5_plainHolds_74 ?_
        exact go_ret (v := 0) rfl dX5_plainHolds_75 (okZ (by first | exact Or.inl rfl | exact Or.inr rfl | assumption | omega)) ⟨rfl, (by unfold plA; dsimp only; rw [if_pos (by omega)]; first | (rw [decide_eq_true (show m 22 p = 0 by omega)]; rfl) | (rw [decide_eq_false (show ¬ (m 22 p = 0) by omega)]; rfl))⟩
      · refine go_iconst dX5_plainHolds_70 ?_
        refine go_goto (tgt := 75) dX5_plainHolds_71 (by decide) ?_
        exact go_ret (v := 1) rfl dX5_plainHolds_75 (okZ (by first | exact Or.inl rfl | exact Or.inr rfl | assumption | omega)) ⟨rfl, (by unfold plA; dsimp only; rw [if_pos (by omega)]; first | (rw [decide_eq_true (show m 22 p = 0 by omega)]; rfl) | (rw [decide_eq_false (show ¬ (m 22 p = 0) by omega)]; rfl))⟩
    | 1, h_12, hb_12 =>
      refine ⟨64, 76, rfl, by decide, ?_⟩
      refine go_aload dX5_plainHolds_76 rfl ?_
      refine go_getf_p (b := 23) dX5_plainHolds_78 fl_5_126 ob_18 rfl pt_18_6 ?_
      refine go_iload_n dX5_plainHolds_81 rfl ?_
      refine go_iaload dX5_plainHolds_82 ar_23 (by omega) (by omega) (fun he_82 => ?_)
      refine go_if_ne (tgt := 90) dX5_plainHolds_83 (by decide) ⟨by omega, by omega⟩ (fun h_83 => ?_) (fun h_83 => ?_)
      · refine go_iconst dX5_plainHolds_90 ?_
        exact go_ret (v := 0) rfl dX5_plainHolds_91 (okZ (by first | exact Or.inl rfl | exact Or.inr rfl | assumption | omega)) ⟨rfl, (by unfold plA; dsimp only; rw [if_neg (by omega), if_pos (by omega)]; first | (rw [decide_eq_true (show m 23 p = 0 by omega)]; rfl) | (rw [decide_eq_false (show ¬ (m 23 p = 0) by omega)]; rfl))⟩
      · refine go_iconst dX5_plainHolds_86 ?_
        refine go_goto (tgt := 91) dX5_plainHolds_87 (by decide) ?_
        exact go_ret (v := 1) rfl dX5_plainHolds_91 (okZ (by first | exact Or.inl rfl | exact Or.inr rfl | assumption | omega)) ⟨rfl, (by unfold plA; dsimp only; rw [if_neg (by omega), if_pos (by omega)]; first | (rw [decide_eq_true (show m 23 p = 0 by omega)]; rfl) | (rw [decide_eq_false (show ¬ (m 23 p = 0) by omega)]; rfl))⟩
    | 2, h_12, hb_12 =>
      refine ⟨80, 92, rfl, by decide, ?_⟩
      refine go_aload_n dX5_plainHolds_92 rfl ?_
      refine go_iload_n dX5_plainHolds_93 rfl ?_
      refine go_callVp_z (as := [vi p]) (S := []) (b := 7) (ev_X10_isSettled (m := m) (w := 7) (p := p) (d := 8) (st := 18) isWd_7 (by first | assumption | omega | exact ⟨by omega, by omega⟩ | (constructor <;> omega)) (by first | assumption | omega | exact ⟨by omega, by omega⟩ | (constructor <;> omega))) rfl dX5_plainHolds_94 cv_5_129 rfl rfl ob_7 rfl (by decide) (Nat.le_of_ble_eq_true rfl) (fun r_94 hr_94 ho_94 => ?_)
      exact go_ret (v := r_94) rfl dX5_plainHolds_97 (okZ (by first | exact Or.inl rfl | exact Or.inr rfl | assumption | omega)) ⟨rfl, (by unfold plA; dsimp only; rw [if_neg (by omega), if_neg (by omega), if_pos (by omega)]; rcases hr_94 with h | h <;> (rw [h.2]; exact h.1))⟩
    | 3, h_12, hb_12 =>
      refine ⟨86, 98, rfl, by decide, ?_⟩
      refine go_aload dX5_plainHolds_98 rfl ?_
      refine go_getf_p (b := 24) dX5_plainHolds_100 fl_5_132 ob_18 rfl pt_18_7 ?_
      refine go_iload_n dX5_plainHolds_103 rfl ?_
      refine go_iaload dX5_plainHolds_104 ar_24 (by omega) (by omega) (fun he_104 => ?_)
      refine go_aload_n dX5_plainHolds_105 rfl ?_
      refine go_getf_p (b := 29) dX5_plainHolds_106 fl_5_25 ob_26 rfl pt_26_4 ?_
      refine go_iload_n dX5_plainHolds_109 rfl ?_
      refine go_iaload dX5_plainHolds_110 ar_29 (by omega) (by omega) (fun he_110 => ?_)
      refine go_ishr dX5_plainHolds_111 ?_
      refine go_iconst dX5_plainHolds_112 ?_
      have hia := iand1_R (ishr (m 24 p) (m 29 k))
      refine go_iand dX5_plainHolds_113 ?_
      refine go_iconst dX5_plainHolds_114 ?_
      refine go_icmp_ne (tgt := 122) dX5_plainHolds_115 (by decide) ⟨by omega, by omega⟩ ⟨by omega, by omega⟩ (fun h_115 => ?_) (fun h_115 => ?_)
      · refine go_iconst dX5_plainHolds_122 ?_
        exact go_ret (v := 0) rfl dX5_plainHolds_123 (okZ (by first | exact Or.inl rfl | exact Or.inr rfl | assumption | omega)) ⟨rfl, (by unfold plA; dsimp only; rw [if_neg (by omega), if_neg (by omega), if_neg (by omega), if_pos (by omega)]; first | (rw [decide_eq_true (show iand (ishr (m 24 p) (m 29 k)) 1 = 1 by omega)]; rfl) | (rw [decide_eq_false (show ¬ (iand (ishr (m 24 p) (m 29 k)) 1 = 1) by omega)]; rfl))⟩
      · refine go_iconst dX5_plainHolds_118 ?_
        refine go_goto (tgt := 123) dX5_plainHolds_119 (by decide) ?_
        exact go_ret (v := 1) rfl dX5_plainHolds_123 (okZ (by first | exact Or.inl rfl | exact Or.inr rfl | assumption | omega)) ⟨rfl, (by unfold plA; dsimp only; rw [if_neg (by omega), if_neg (by omega), if_neg (by omega), if_pos (by omega)]; first | (rw [decide_eq_true (show iand (ishr (m 24 p) (m 29 k)) 1 = 1 by omega)]; rfl) | (rw [decide_eq_false (show ¬ (iand (ishr (m 24 p) (m 29 k)) 1 = 1) by omega)]; rfl))⟩
    | 4, h_12, hb_12 =>
      refine ⟨112, 124, rfl, by decide, ?_⟩
      refine go_aload_n dX5_plainHolds_124 rfl ?_
      refine go_iload_n dX5_plainHolds_125 rfl ?_
      refine go_aload_n dX5_plainHolds_126 rfl ?_
      refine go_getf_p (b := 29) dX5_plainHolds_127 fl_5_25 ob_26 rfl pt_26_4 ?_
      refine go_iload_n dX5_plainHolds_130 rfl ?_
      refine go_iaload dX5_plainHolds_131 ar_29 (by omega) (by omega) (fun he_131 => ?_)
      refine go_callVp_z (as := [vi p, vi (m 29 k)]) (S := []) (b := 7) (ev_X10_isBeside (m := m) (w := 7) (p := p) (o := (m 29 k)) (B := B) (d := 8) (st := 18) isWd_7 (by first | assumption | omega | exact ⟨by omega, by omega⟩ | (constructor <;> omega)) (by first | assumption | omega | exact ⟨by omega, by omega⟩ | (constructor <;> omega)) (by first | assumption | omega | exact ⟨by omega, by omega⟩ | (constructor <;> omega)) (hv (by omega))) rfl dX5_plainHolds_132 cv_5_135 rfl rfl ob_7 rfl (by decide) (Nat.le_of_ble_eq_true rfl) (fun r_132 hr_132 ho_132 => ?_)
      exact go_ret (v := r_132) rfl dX5_plainHolds_135 (okZ (by first | exact Or.inl rfl | exact Or.inr rfl | assumption | omega)) ⟨rfl, (by unfold plA; dsimp only; rw [if_neg (by omega), if_neg (by omega), if_neg (by omega), if_neg (by omega), if_pos (by omega)]; rcases hr_132 with h | h; (rw [decide_eq_true (show iabs (m 20 p - m 20 (m 29 k)) + iabs (m 21 p - m 21 (m 29 k)) = 1 from h.2)]; exact h.1); (rw [decide_eq_false (show ¬ iabs (m 20 p - m 20 (m 29 k)) + iabs (m 21 p - m 21 (m 29 k)) = 1 from h.2)]; exact h.1))⟩
    | 5, h_12, hb_12 =>
      refine ⟨124, 136, rfl, by decide, ?_⟩
      refine go_aload_n dX5_plainHolds_136 rfl ?_
      refine go_aload dX5_plainHolds_137 rfl ?_
      refine go_getf_p (b := 23) dX5_plainHolds_139 fl_5_126 ob_18 rfl pt_18_6 ?_
      refine go_iload_n dX5_plainHolds_142 rfl ?_
      refine go_iaload dX5_plainHolds_143 ar_23 (by omega) (by omega) (fun he_143 => ?_)
      refine go_iload_n dX5_plainHolds_144 rfl ?_
      refine go_callVp_z (as := [vi (m 23 p), vi k]) (S := []) (b := 26) (ev_X5_compares (m := m) (x := (m 23 p)) (k := k) (by first | assumption | omega | exact ⟨by omega, by omega⟩ | (constructor <;> omega)) (by first | assumption | omega | exact ⟨by omega, by omega⟩ | (constructor <;> omega))) rfl dX5_plainHolds_145 cv_5_139 rfl rfl ob_26 rfl (by decide) (Nat.le_of_ble_eq_true rfl) (fun r_145 hr_145 ho_145 => ?_)
      exact go_ret (v := r_145) rfl dX5_plainHolds_148 (okZ (by first | exact Or.inl rfl | exact Or.inr rfl | assumption | omega)) ⟨rfl, (by unfold plA; dsimp only; rw [if_neg (by omega), if_neg (by omega), if_neg (by omega), if_neg (by omega), if_neg (by omega), if_pos (by omega)]; exact hr_145)⟩
    | 6, h_12, hb_12 =>
      refine ⟨137, 149, rfl, by decide, ?_⟩
      refine go_aload_n dX5_plainHolds_149 rfl ?_
      refine go_aload dX5_plainHolds_150 rfl ?_
      refine go_getf_p (b := 22) dX5_plainHolds_152 fl_5_121 ob_18 rfl pt_18_5 ?_
      refine go_iload_n dX5_plainHolds_155 rfl ?_
      refine go_iaload dX5_plainHolds_156 ar_22 (by omega) (by omega) (fun he_156 => ?_)
      refine go_iload_n dX5_plainHolds_157 rfl ?_
      refine go_callVp_z (as := [vi (m 22 p), vi k]) (S := []) (b := 26) (ev_X5_compares (m := m) (x := (m 22 p)) (k := k) (by first | assumption | omega | exact ⟨by omega, by omega⟩ | (constructor <;> omega)) (by first | assumption | omega | exact ⟨by omega, by omega⟩ | (constructor <;> omega))) rfl dX5_plainHolds_158 cv_5_139 rfl rfl ob_26 rfl (by decide) (Nat.le_of_ble_eq_true rfl) (fun r_158 hr_158 ho_158 => ?_)
      exact go_ret (v := r_158) rfl dX5_plainHolds_161 (okZ (by first | exact Or.inl rfl | exact Or.inr rfl | assumption | omega)) ⟨rfl, (by unfold plA; dsimp only; rw [if_neg (by omega), if_neg (by omega), if_neg (by omega), if_neg (by omega), if_neg (by omega), if_neg (by omega), if_pos (by omega)]; exact hr_158)⟩
    | 7, h_12, hb_12 =>
      refine ⟨150, 162, rfl, by decide, ?_⟩
      refine go_aload_n dX5_plainHolds_162 rfl ?_
      refine go_aload dX5_plainHolds_163 rfl ?_
      refine go_getf_p (b := 25) dX5_plainHolds_165 fl_5_142 ob_18 rfl pt_18_8 ?_
      refine go_iload_n dX5_plainHolds_168 rfl ?_
      refine go_iaload dX5_plainHolds_169 ar_25 (by omega) (by omega) (fun he_169 => ?_)
      refine go_iload_n dX5_plainHolds_170 rfl ?_
      refine go_callVp_z (as := [vi (m 25 p), vi k]) (S := []) (b := 26) (ev_X5_compares (m := m) (x := (m 25 p)) (k := k) (by first | assumption | omega | exact ⟨by omega, by omega⟩ | (constructor <;> omega)) (by first | assumption | omega | exact ⟨by omega, by omega⟩ | (constructor <;> omega))) rfl dX5_plainHolds_171 cv_5_139 rfl rfl ob_26 rfl (by decide) (Nat.le_of_ble_eq_true rfl) (fun r_171 hr_171 ho_171 => ?_)
      exact go_ret (v := r_171) rfl dX5_plainHolds_174 (okZ (by first | exact Or.inl rfl | exact Or.inr rfl | assumption | omega)) ⟨rfl, (by unfold plA; dsimp only; rw [if_neg (by omega), if_neg (by omega), if_neg (by omega), if_neg (by omega), if_neg (by omega), if_neg (by omega), if_neg (by omega), if_pos (by omega)]; exact hr_171)⟩
    | k + 8, h_12, hb_12 => exfalso; omega
  · refine go_aload_n dX5_plainHolds_175 rfl ?_
    refine go_iload_n dX5_plainHolds_176 rfl ?_
    refine go_iload_n dX5_plainHolds_177 rfl ?_
    refine go_callVp_z (as := [vi p, vi k]) (S := []) (b := 26) (ev_X5_compares (m := m) (x := p) (k := k) (by first | assumption | omega | exact ⟨by omega, by omega⟩ | (constructor <;> omega)) (by first | assumption | omega | exact ⟨by omega, by omega⟩ | (constructor <;> omega))) rfl dX5_plainHolds_178 cv_5_139 rfl rfl ob_26 rfl (by decide) (Nat.le_of_ble_eq_true rfl) (fun r_178 hr_178 ho_178 => ?_)
    exact go_ret (v := r_178) rfl dX5_plainHolds_181 (okZ (by first | exact Or.inl rfl | exact Or.inr rfl | assumption | omega)) ⟨rfl, (by unfold plA; dsimp only; rw [if_neg (by omega), if_neg (by omega), if_neg (by omega), if_neg (by omega), if_neg (by omega), if_neg (by omega), if_neg (by omega), if_neg (by omega)]; exact hr_178)⟩
theorem dX5_holdsFor_0 : decode mX5_holdsFor.2.1 0 = .ok (.iconst 0, 1) := by decide +kernel
theorem dX5_holdsFor_1 : decode mX5_holdsFor.2.1 1 = .ok (.istore_n 3, 1) := by decide +kernel
theorem dX5_holdsFor_2 : decode mX5_holdsFor.2.1 2 = .ok (.iconst 0, 1) := by decide +kernel
theorem dX5_holdsFor_3 : decode mX5_holdsFor.2.1 3 = .ok (.istore 4, 2) := by decide +kernel
theorem dX5_holdsFor_5 : decode mX5_holdsFor.2.1 5 = .ok (.iload 4, 2) := by decide +kernel
theorem dX5_holdsFor_7 : decode mX5_holdsFor.2.1 7 = .ok (.aload_n 0, 1) := by decide +kernel
theorem dX5_holdsFor_8 : decode mX5_holdsFor.2.1 8 = .ok (.getfield 15, 3) := by decide +kernel
theorem dX5_holdsFor_11 : decode mX5_holdsFor.2.1 11 = .ok (.if_icmp .ge 138, 3) := by decide +kernel
theorem dX5_holdsFor_14 : decode mX5_holdsFor.2.1 14 = .ok (.aload_n 0, 1) := by decide +kernel
theorem dX5_holdsFor_15 : decode mX5_holdsFor.2.1 15 = .ok (.getfield 18, 3) := by decide +kernel
theorem dX5_holdsFor_18 : decode mX5_holdsFor.2.1 18 = .ok (.iload 4, 2) := by decide +kernel
theorem dX5_holdsFor_20 : decode mX5_holdsFor.2.1 20 = .ok (.iaload, 1) := by decide +kernel
theorem dX5_holdsFor_21 : decode mX5_holdsFor.2.1 21 = .ok (.istore 5, 2) := by decide +kernel
theorem dX5_holdsFor_23 : decode mX5_holdsFor.2.1 23 = .ok (.iload 5, 2) := by decide +kernel
theorem dX5_holdsFor_25 : decode mX5_holdsFor.2.1 25 = .ok (.sipush 215, 3) := by decide +kernel
theorem dX5_holdsFor_28 : decode mX5_holdsFor.2.1 28 = .ok (.if_icmp .ne 35, 3) := by decide +kernel
theorem dX5_holdsFor_31 : decode mX5_holdsFor.2.1 31 = .ok (.iload_n 3, 1) := by decide +kernel
theorem dX5_holdsFor_32 : decode mX5_holdsFor.2.1 32 = .ok (.iconst 1, 1) := by decide +kernel
theorem dX5_holdsFor_33 : decode mX5_holdsFor.2.1 33 = .ok (.if_icmp .lt 110, 3) := by decide +kernel
theorem dX5_holdsFor_36 : decode mX5_holdsFor.2.1 36 = .ok (.aload_n 0, 1) := by decide +kernel
theorem dX5_holdsFor_37 : decode mX5_holdsFor.2.1 37 = .ok (.getfield 28, 3) := by decide +kernel
theorem dX5_holdsFor_40 : decode mX5_holdsFor.2.1 40 = .ok (.iload_n 3, 1) := by decide +kernel
theorem dX5_holdsFor_41 : decode mX5_holdsFor.2.1 41 = .ok (.iconst 1, 1) := by decide +kernel
theorem dX5_holdsFor_42 : decode mX5_holdsFor.2.1 42 = .ok (.isub, 1) := by decide +kernel
theorem dX5_holdsFor_43 : decode mX5_holdsFor.2.1 43 = .ok (.aload_n 0, 1) := by decide +kernel
theorem dX5_holdsFor_44 : decode mX5_holdsFor.2.1 44 = .ok (.getfield 28, 3) := by decide +kernel
theorem dX5_holdsFor_47 : decode mX5_holdsFor.2.1 47 = .ok (.iload_n 3, 1) := by decide +kernel
theorem dX5_holdsFor_48 : decode mX5_holdsFor.2.1 48 = .ok (.iconst 1, 1) := by decide +kernel
theorem dX5_holdsFor_49 : decode mX5_holdsFor.2.1 49 = .ok (.isub, 1) := by decide +kernel
theorem dX5_holdsFor_50 : decode mX5_holdsFor.2.1 50 = .ok (.baload, 1) := by decide +kernel
theorem dX5_holdsFor_51 : decode mX5_holdsFor.2.1 51 = .ok (.ifCond .ne 7, 3) := by decide +kernel
theorem dX5_holdsFor_54 : decode mX5_holdsFor.2.1 54 = .ok (.iconst 1, 1) := by decide +kernel
theorem dX5_holdsFor_55 : decode mX5_holdsFor.2.1 55 = .ok (.goto 4, 3) := by decide +kernel
theorem dX5_holdsFor_58 : decode mX5_holdsFor.2.1 58 = .ok (.iconst 0, 1) := by decide +kernel
theorem dX5_holdsFor_59 : decode mX5_holdsFor.2.1 59 = .ok (.bastore, 1) := by decide +kernel
theorem dX5_holdsFor_60 : decode mX5_holdsFor.2.1 60 = .ok (.goto 83, 3) := by decide +kernel
theorem dX5_holdsFor_63 : decode mX5_holdsFor.2.1 63 = .ok (.iload 5, 2) := by decide +kernel
theorem dX5_holdsFor_65 : decode mX5_holdsFor.2.1 65 = .ok (.sipush 214, 3) := by decide +kernel
theorem dX5_holdsFor_68 : decode mX5_holdsFor.2.1 68 = .ok (.if_icmp .eq 11, 3) := by decide +kernel
theorem dX5_holdsFor_71 : decode mX5_holdsFor.2.1 71 = .ok (.iload 5, 2) := by decide +kernel
theorem dX5_holdsFor_73 : decode mX5_holdsFor.2.1 73 = .ok (.sipush 213, 3) := by decide +kernel
theorem dX5_holdsFor_76 : decode mX5_holdsFor.2.1 76 = .ok (.if_icmp .ne 41, 3) := by decide +kernel
theorem dX5_holdsFor_79 : decode mX5_holdsFor.2.1 79 = .ok (.iload_n 3, 1) := by decide +kernel
theorem dX5_holdsFor_80 : decode mX5_holdsFor.2.1 80 = .ok (.iconst 2, 1) := by decide +kernel
theorem dX5_holdsFor_81 : decode mX5_holdsFor.2.1 81 = .ok (.if_icmp .lt 62, 3) := by decide +kernel
theorem dX5_holdsFor_84 : decode mX5_holdsFor.2.1 84 = .ok (.iinc 3 (-1), 3) := by decide +kernel
theorem dX5_holdsFor_87 : decode mX5_holdsFor.2.1 87 = .ok (.aload_n 0, 1) := by decide +kernel
theorem dX5_holdsFor_88 : decode mX5_holdsFor.2.1 88 = .ok (.getfield 28, 3) := by decide +kernel
theorem dX5_holdsFor_91 : decode mX5_holdsFor.2.1 91 = .ok (.iload_n 3, 1) := by decide +kernel
theorem dX5_holdsFor_92 : decode mX5_holdsFor.2.1 92 = .ok (.iconst 1, 1) := by decide +kernel
theorem dX5_holdsFor_93 : decode mX5_holdsFor.2.1 93 = .ok (.isub, 1) := by decide +kernel
theorem dX5_holdsFor_94 : decode mX5_holdsFor.2.1 94 = .ok (.iload 5, 2) := by decide +kernel
theorem dX5_holdsFor_96 : decode mX5_holdsFor.2.1 96 = .ok (.aload_n 0, 1) := by decide +kernel
theorem dX5_holdsFor_97 : decode mX5_holdsFor.2.1 97 = .ok (.getfield 28, 3) := by decide +kernel
theorem dX5_holdsFor_100 : decode mX5_holdsFor.2.1 100 = .ok (.iload_n 3, 1) := by decide +kernel
theorem dX5_holdsFor_101 : decode mX5_holdsFor.2.1 101 = .ok (.iconst 1, 1) := by decide +kernel
theorem dX5_holdsFor_102 : decode mX5_holdsFor.2.1 102 = .ok (.isub, 1) := by decide +kernel
theorem dX5_holdsFor_103 : decode mX5_holdsFor.2.1 103 = .ok (.baload, 1) := by decide +kernel
theorem dX5_holdsFor_104 : decode mX5_holdsFor.2.1 104 = .ok (.aload_n 0, 1) := by decide +kernel
theorem dX5_holdsFor_105 : decode mX5_holdsFor.2.1 105 = .ok (.getfield 28, 3) := by decide +kernel
theorem dX5_holdsFor_108 : decode mX5_holdsFor.2.1 108 = .ok (.iload_n 3, 1) := by decide +kernel
theorem dX5_holdsFor_109 : decode mX5_holdsFor.2.1 109 = .ok (.baload, 1) := by decide +kernel
theorem dX5_holdsFor_110 : decode mX5_holdsFor.2.1 110 = .ok (.invokestatic 107, 3) := by decide +kernel
theorem dX5_holdsFor_113 : decode mX5_holdsFor.2.1 113 = .ok (.bastore, 1) := by decide +kernel
theorem dX5_holdsFor_114 : decode mX5_holdsFor.2.1 114 = .ok (.goto 29, 3) := by decide +kernel
theorem dX5_holdsFor_117 : decode mX5_holdsFor.2.1 117 = .ok (.iload_n 3, 1) := by decide +kernel
theorem dX5_holdsFor_118 : decode mX5_holdsFor.2.1 118 = .ok (.aload_n 0, 1) := by decide +kernel
theorem dX5_holdsFor_119 : decode mX5_holdsFor.2.1 119 = .ok (.getfield 28, 3) := by decide +kernel
theorem dX5_holdsFor_122 : decode mX5_holdsFor.2.1 122 = .ok (.arraylength, 1) := by decide +kernel
theorem dX5_holdsFor_123 : decode mX5_holdsFor.2.1 123 = .ok (.if_icmp .ge 20, 3) := by decide +kernel
theorem dX5_holdsFor_126 : decode mX5_holdsFor.2.1 126 = .ok (.aload_n 0, 1) := by decide +kernel
theorem dX5_holdsFor_127 : decode mX5_holdsFor.2.1 127 = .ok (.getfield 28, 3) := by decide +kernel
theorem dX5_holdsFor_130 : decode mX5_holdsFor.2.1 130 = .ok (.iload_n 3, 1) := by decide +kernel
theorem dX5_holdsFor_131 : decode mX5_holdsFor.2.1 131 = .ok (.aload_n 0, 1) := by decide +kernel
theorem dX5_holdsFor_132 : decode mX5_holdsFor.2.1 132 = .ok (.aload_n 1, 1) := by decide +kernel
theorem dX5_holdsFor_133 : decode mX5_holdsFor.2.1 133 = .ok (.iload_n 2, 1) := by decide +kernel
theorem dX5_holdsFor_134 : decode mX5_holdsFor.2.1 134 = .ok (.iload 4, 2) := by decide +kernel
theorem dX5_holdsFor_136 : decode mX5_holdsFor.2.1 136 = .ok (.invokevirtual 111, 3) := by decide +kernel
theorem dX5_holdsFor_139 : decode mX5_holdsFor.2.1 139 = .ok (.bastore, 1) := by decide +kernel
theorem dX5_holdsFor_140 : decode mX5_holdsFor.2.1 140 = .ok (.iinc 3 1, 3) := by decide +kernel
theorem dX5_holdsFor_143 : decode mX5_holdsFor.2.1 143 = .ok (.iinc 4 1, 3) := by decide +kernel
theorem dX5_holdsFor_146 : decode mX5_holdsFor.2.1 146 = .ok (.goto (-141), 3) := by decide +kernel
theorem dX5_holdsFor_149 : decode mX5_holdsFor.2.1 149 = .ok (.iload_n 3, 1) := by decide +kernel
theorem dX5_holdsFor_150 : decode mX5_holdsFor.2.1 150 = .ok (.iconst 1, 1) := by decide +kernel
theorem dX5_holdsFor_151 : decode mX5_holdsFor.2.1 151 = .ok (.if_icmp .lt 16, 3) := by decide +kernel
theorem dX5_holdsFor_154 : decode mX5_holdsFor.2.1 154 = .ok (.aload_n 0, 1) := by decide +kernel
theorem dX5_holdsFor_155 : decode mX5_holdsFor.2.1 155 = .ok (.getfield 28, 3) := by decide +kernel
theorem dX5_holdsFor_158 : decode mX5_holdsFor.2.1 158 = .ok (.iconst 0, 1) := by decide +kernel
theorem dX5_holdsFor_159 : decode mX5_holdsFor.2.1 159 = .ok (.baload, 1) := by decide +kernel
theorem dX5_holdsFor_160 : decode mX5_holdsFor.2.1 160 = .ok (.ifCond .eq 7, 3) := by decide +kernel
theorem dX5_holdsFor_163 : decode mX5_holdsFor.2.1 163 = .ok (.iconst 1, 1) := by decide +kernel
theorem dX5_holdsFor_164 : decode mX5_holdsFor.2.1 164 = .ok (.goto 4, 3) := by decide +kernel
theorem dX5_holdsFor_167 : decode mX5_holdsFor.2.1 167 = .ok (.iconst 0, 1) := by decide +kernel
theorem dX5_holdsFor_168 : decode mX5_holdsFor.2.1 168 = .ok (.ireturn, 1) := by decide +kernel
set_option maxRecDepth 4000 in
theorem ev_X5_holdsFor {m : Mem} {p : Int} {B : Int} (hdn : DnOk m 8) (hst : StOk m 8 18 B) (hp : 0 ≤ p ∧ p < m 8 3) (hse : SeOk m) : Ev 0 6 mX5_holdsFor [vr 26, vr 7, vi p] m (fun r m' => r = b2i (hdB m p) ∧ ∀ b : Nat, b ≠ 30 → m' b = m b) := by
  refine Ev.of (L := [vr 26, vr 7, vi p, un, un, un]) (by decide +kernel) rfl (Nat.le_of_ble_eq_true rfl) rfl (fun t ht => by cases ht; first | exact Or.inl rfl | exact Or.inr (Or.inl rfl) | exact Or.inr (Or.inr rfl)) (fun hcan => ?_)
  obtain ⟨hs0, hs1, hs2⟩ := hse
  refine go_iconst dX5_holdsFor_0 ?_
  refine go_istore_n (L' := [vr 26, vr 7, vi p, vi 0, un, un]) dX5_holdsFor_1 (by decide) rfl rfl ?_
  refine go_iconst dX5_holdsFor_2 ?_
  refine go_istore (L' := [vr 26, vr 7, vi p, vi 0, vi 0, un]) dX5_holdsFor_3 (by decide) rfl rfl ?_
  have lp_5 : ∀ (n_5 : Nat) (m1 : Mem) (t : Int) (k : Int) , (0 ≤ k) → (k ≤ m 26 1) → (∀ b : Nat, b ≠ 30 → m1 b = m b) → (((evR (plA m p) (m 27) (m 28) (m 29) k.toNat).length : Int) = t) → (stk m1 30 (evR (plA m p) (m 27) (m 28) (m 29) k.toNat)) → (m 26 1 - k).toNat < n_5 → Go 0 6 mX5_holdsFor (fun r m' => r = b2i (hdB m p) ∧ ∀ b : Nat, b ≠ 30 → m' b = m b) 5 [vr 26, vr 7, vi p, vi t, vi k, un] [] m1 := by
    intro n_5
    induction n_5 with
    | zero => intro m1 t k hk0 hk1 hfr ht hst1 hmu; exact absurd hmu (Nat.not_lt_zero _)
    | succ n_5 ih_5 =>
      intro m1 t k hk0 hk1 hfr ht hst1 hmu
      have hln := evR_len (plA m p) (m 27) (m 28) (m 29) k.toNat
      have hes := evR_s (A := plA m p) (kd := m 27) (sg := m 28) (vl := m 29) hk0
      obtain ⟨S, hS⟩ : ∃ z, z = (evR (plA m p) (m 27) (m 28) (m 29) k.toNat) := ⟨_, rfl⟩
      rw [← hS] at hln hes ht hst1
      have ht0 : 0 ≤ t ∧ t ≤ k := by omega
      refine go_iload dX5_holdsFor_5 rfl ?_
      refine go_aload_n dX5_holdsFor_7 rfl ?_
      refine go_getf_i (ki := 1) dX5_holdsFor_8 fl_5_15 ob_26 rfl rfl (fun hf_8 => ?_)
      rw [show (m1 26 1 : Int) = (m 26 1) from by rw [hfr 26 (by decide)]] at hf_8 ⊢
      refine go_icmp_ge (tgt := 149) dX5_holdsFor_11 (by decide) ⟨by omega, by omega⟩ ⟨by omega, by omega⟩ (fun h_11 => ?_) (fun h_11 => ?_)
      · have ek : k = m 26 1 := by omega
        rw [ek] at hS
        obtain ⟨b, hb⟩ := hs1 (plA m p)
        rw [← hS] at hb
        subst hb
        have hb0 : m1 30 0 = b2i b := hst1.1
        have hbz : b2i b = 0 ∨ b2i b = 1 := by cases b <;> simp [b2i]
        have hhd : hdB m p = b := by unfold hdB; rw [← hS]; cases b <;> simp
        have ht1 : t = 1 := by simp at ht; omega
        refine go_iload_n dX5_holdsFor_149 rfl ?_
        refine go_iconst dX5_holdsFor_150 ?_
        refine go_icmp_lt (tgt := 167) dX5_holdsFor_151 (by decide) ⟨by omega, by omega⟩ ⟨by omega, by omega⟩ (fun h_151 => ?_) (fun h_151 => ?_)
        · exfalso; omega
        · refine go_aload_n dX5_holdsFor_154 rfl ?_
          refine go_getf_p (b := 30) dX5_holdsFor_155 fl_5_28 ob_26 rfl pt_26_5 ?_
          refine go_iconst dX5_holdsFor_158 ?_
          refine go_zaload dX5_holdsFor_159 ar_30 (by omega) (by omega) (fun he_159 => ?_)
          rw [show (m1 30 0 : Int) = (b2i b) from hb0] at he_159 ⊢
          refine go_if_eq (tgt := 167) dX5_holdsFor_160 (by decide) ⟨by omega, by omega⟩ (fun h_160 => ?_) (fun h_160 => ?_)
          · refine go_iconst dX5_holdsFor_167 ?_
            exact go_ret (v := 0) rfl dX5_holdsFor_168 (okZ (by first | exact Or.inl rfl | exact Or.inr rfl | assumption | omega)) ⟨by rw [hhd]; first | (exfalso; omega) | omega, hfr⟩
          · refine go_iconst dX5_holdsFor_163 ?_
            refine go_goto (tgt := 168) dX5_holdsFor_164 (by decide) ?_
            exact go_ret (v := 1) rfl dX5_holdsFor_168 (okZ (by first | exact Or.inl rfl | exact Or.inr rfl | assumption | omega)) ⟨by rw [hhd]; first | (exfalso; omega) | omega, hfr⟩
      · refine go_aload_n dX5_holdsFor_14 rfl ?_
        refine go_getf_p (b := 27) dX5_holdsFor_15 fl_5_18 ob_26 rfl pt_26_2 ?_
        refine go_iload dX5_holdsFor_18 rfl ?_
        refine go_iaload dX5_holdsFor_20 ar_27 (by omega) (by omega) (fun he_20 => ?_)
        rw [show (m1 27 k : Int) = (m 27 k) from by rw [hfr 27 (by decide)]] at he_20 ⊢
        refine go_istore (L' := [vr 26, vr 7, vi p, vi t, vi k, vi (m 27 k)]) dX5_holdsFor_21 (by decide) rfl rfl ?_
        refine go_iload dX5_holdsFor_23 rfl ?_
        refine go_sipush dX5_holdsFor_25 (by decide) ?_
        refine go_icmp_ne (tgt := 63) dX5_holdsFor_28 (by decide) ⟨by omega, by omega⟩ ⟨by omega, by omega⟩ (fun h_28 => ?_) (fun h_28 => ?_)
        · refine go_iload dX5_holdsFor_63 rfl ?_
          refine go_sipush dX5_holdsFor_65 (by decide) ?_
          refine go_icmp_eq (tgt := 79) dX5_holdsFor_68 (by decide) ⟨by omega, by omega⟩ ⟨by omega, by omega⟩ (fun h_68 => ?_) (fun h_68 => ?_)
          · refine go_iload_n dX5_holdsFor_79 rfl ?_
            refine go_iconst dX5_holdsFor_80 ?_
            refine go_icmp_lt (tgt := 143) dX5_holdsFor_81 (by decide) ⟨by omega, by omega⟩ ⟨by omega, by omega⟩ (fun h_81 => ?_) (fun h_81 => ?_)
            · refine go_iinc (L' := [vr 26, vr 7, vi p, vi t, vi (k + 1), vi (m 27 k)]) dX5_holdsFor_143 rfl (by decide) rfl rfl ?_
              refine go_goto (tgt := 5) dX5_holdsFor_146 (by decide) ?_
              refine go_drop (j := 5) (L' := [vr 26, vr 7, vi p, vi t, vi (k + 1), un]) rfl ?_
              exact ih_5 m1 t (k + 1) (by first | assumption | omega | rfl) (by first | assumption | omega | rfl) (fun x hx => by first | (rw [wr_row hx]; exact hfr x hx) | exact hfr x hx) (by
                    rw [hes]
                    unfold stp1
                    dsimp only
                    first
                    | (rw [if_neg (by omega), if_neg (by omega)]; simp only [List.length_cons]; omega)
                    | (rw [if_pos (by omega)]; simp only [List.length_cons]; omega)
                    | (rw [if_neg (by omega), if_pos (by omega)]; simp only [List.length_cons]; omega)
                    | (rw [if_pos (by omega)]; cases S with
                       | nil => simpa using ht
                       | cons b T => exfalso; simp at ht; omega)
                    | (rw [if_neg (by omega), if_pos (by omega)]
                       match S, ht with
                       | [], ht => simpa using ht
                       | [b], ht => simpa using ht
                       | b :: a :: T, ht => exfalso; simp at ht; omega)) (by
                    rw [hes]
                    unfold stp1
                    dsimp only
                    first
                    | (rw [if_neg (by omega), if_neg (by omega)]
                       refine ⟨?_, stk_w (by omega) hst1⟩
                       rw [ht, wr_self]; exact hr_136)
                    | (rw [if_pos (by omega)]
                       refine ⟨?_, stk_w (by omega) hst1.2⟩
                       rw [show (T.length : Int) = t - 1 by omega, wr_self]
                       cases b <;> simp_all [b2i])
                    | (rw [if_neg (by omega), if_pos (by omega)]
                       refine ⟨?_, stk_w (by omega) hst1.2.2⟩
                       rw [show (T.length : Int) = t + -1 - 1 by omega, wr_self, hr_110])
                    | (rw [if_pos (by omega)]; cases S with
                       | nil => trivial
                       | cons b T => exfalso; simp at ht; omega)
                    | (rw [if_neg (by omega), if_pos (by omega)]
                       match S, ht, hst1 with
                       | [], _, _ => trivial
                       | [b], _, h => exact h
                       | b :: a :: T, ht, _ => exfalso; simp at ht; omega)) (by omega)
            · obtain ⟨b, a, T, rfl⟩ : ∃ b a T, S = b :: a :: T := by
                match S, ht with
                | [], ht => exfalso; simp at ht; omega
                | [b], ht => exfalso; simp at ht; omega
                | b :: a :: T, _ => exact ⟨b, a, T, rfl⟩
              rw [List.length_cons, List.length_cons] at ht
              have hb1 : m1 30 (t + -1) = b2i b := by rw [show t + -1 = ((a :: T).length : Int) by rw [List.length_cons]; omega]; exact hst1.1
              have ha1 : m1 30 (t + -1 - 1) = b2i a := by rw [show t + -1 - 1 = (T.length : Int) by omega]; exact hst1.2.1
              have hjz : ∀ z : Bool, b2i z = 0 ∨ b2i z = 1 := fun z => by cases z <;> simp [b2i]
              refine go_iinc (L' := [vr 26, vr 7, vi p, vi (t + (-1)), vi k, vi (m 27 k)]) dX5_holdsFor_84 rfl (by decide) rfl rfl ?_
              refine go_aload_n dX5_holdsFor_87 rfl ?_
              refine go_getf_p (b := 30) dX5_holdsFor_88 fl_5_28 ob_26 rfl pt_26_5 ?_
              refine go_iload_n dX5_holdsFor_91 rfl ?_
              refine go_iconst dX5_holdsFor_92 ?_
              refine go_isub dX5_holdsFor_93 ?_
              refine go_iload dX5_holdsFor_94 rfl ?_
              refine go_aload_n dX5_holdsFor_96 rfl ?_
              refine go_getf_p (b := 30) dX5_holdsFor_97 fl_5_28 ob_26 rfl pt_26_5 ?_
              refine go_iload_n dX5_holdsFor_100 rfl ?_
              refine go_iconst dX5_holdsFor_101 ?_
              refine go_isub dX5_holdsFor_102 ?_
              refine go_zaload dX5_holdsFor_103 ar_30 (by omega) (by omega) (fun he_103 => ?_)
              rw [show (m1 30 ((t + (-1)) - 1) : Int) = (b2i a) from ha1] at he_103 ⊢
              refine go_aload_n dX5_holdsFor_104 rfl ?_
              refine go_getf_p (b := 30) dX5_holdsFor_105 fl_5_28 ob_26 rfl pt_26_5 ?_
              refine go_iload_n dX5_holdsFor_108 rfl ?_
              refine go_zaload dX5_holdsFor_109 ar_30 (by omega) (by omega) (fun he_109 => ?_)
              rw [show (m1 30 (t + (-1)) : Int) = (b2i b) from hb1] at he_109 ⊢
              refine go_callSp_z (as := [vi (m 27 k), vi (b2i a), vi (b2i b)]) (S := [vi ((t + (-1)) - 1), vr 30]) (ev_X5_join (m := m1) (k := (m 27 k)) (a := a) (b := b) (by first | assumption | omega | exact ⟨by omega, by omega⟩ | (constructor <;> omega))) rfl dX5_holdsFor_110 cs_5_107 rfl rfl (by decide) (Nat.le_of_ble_eq_true rfl) (fun r_110 hr_110 ho_110 => ?_)
              refine go_zastore dX5_holdsFor_113 ar_30 (by omega) (by omega) (by rw [hr_110]; exact hjz _) ?_
              refine go_goto (tgt := 143) dX5_holdsFor_114 (by decide) ?_
              refine go_iinc (L' := [vr 26, vr 7, vi p, vi (t + (-1)), vi (k + 1), vi (m 27 k)]) dX5_holdsFor_143 rfl (by decide) rfl rfl ?_
              refine go_goto (tgt := 5) dX5_holdsFor_146 (by decide) ?_
              refine go_drop (j := 5) (L' := [vr 26, vr 7, vi p, vi (t + (-1)), vi (k + 1), un]) rfl ?_
              exact ih_5 (wr m1 30 ((t + (-1)) - 1) r_110) (t + (-1)) (k + 1) (by first | assumption | omega | rfl) (by first | assumption | omega | rfl) (fun x hx => by first | (rw [wr_row hx]; exact hfr x hx) | exact hfr x hx) (by
                    rw [hes]
                    unfold stp1
                    dsimp only
                    first
                    | (rw [if_neg (by omega), if_neg (by omega)]; simp only [List.length_cons]; omega)
                    | (rw [if_pos (by omega)]; simp only [List.length_cons]; omega)
                    | (rw [if_neg (by omega), if_pos (by omega)]; simp only [List.length_cons]; omega)
                    | (rw [if_pos (by omega)]; cases S with
                       | nil => simpa using ht
                       | cons b T => exfalso; simp at ht; omega)
                    | (rw [if_neg (by omega), if_pos (by omega)]
                       match S, ht with
                       | [], ht => simpa using ht
                       | [b], ht => simpa using ht
                       | b :: a :: T, ht => exfalso; simp at ht; omega)) (by
                    rw [hes]
                    unfold stp1
                    dsimp only
                    first
                    | (rw [if_neg (by omega), if_neg (by omega)]
                       refine ⟨?_, stk_w (by omega) hst1⟩
                       rw [ht, wr_self]; exact hr_136)
                    | (rw [if_pos (by omega)]
                       refine ⟨?_, stk_w (by omega) hst1.2⟩
                       rw [show (T.length : Int) = t - 1 by omega, wr_self]
                       cases b <;> simp_all [b2i])
                    | (rw [if_neg (by omega), if_pos (by omega)]
                       refine ⟨?_, stk_w (by omega) hst1.2.2⟩
                       rw [show (T.length : Int) = t + -1 - 1 by omega, wr_self, hr_110])
                    | (rw [if_pos (by omega)]; cases S with
                       | nil => trivial
                       | cons b T => exfalso; simp at ht; omega)
                    | (rw [if_neg (by omega), if_pos (by omega)]
                       match S, ht, hst1 with
                       | [], _, _ => trivial
                       | [b], _, h => exact h
                       | b :: a :: T, ht, _ => exfalso; simp at ht; omega)) (by omega)
          · refine go_iload dX5_holdsFor_71 rfl ?_
            refine go_sipush dX5_holdsFor_73 (by decide) ?_
            refine go_icmp_ne (tgt := 117) dX5_holdsFor_76 (by decide) ⟨by omega, by omega⟩ ⟨by omega, by omega⟩ (fun h_76 => ?_) (fun h_76 => ?_)
            · refine go_iload_n dX5_holdsFor_117 rfl ?_
              refine go_aload_n dX5_holdsFor_118 rfl ?_
              refine go_getf_p (b := 30) dX5_holdsFor_119 fl_5_28 ob_26 rfl pt_26_5 ?_
              refine go_alen (x := 40) dX5_holdsFor_122 ar_30 (by decide) rfl ?_
              refine go_icmp_ge (tgt := 143) dX5_holdsFor_123 (by decide) ⟨by omega, by omega⟩ ⟨by omega, by omega⟩ (fun h_123 => ?_) (fun h_123 => ?_)
              · exfalso; omega
              · refine go_aload_n dX5_holdsFor_126 rfl ?_
                refine go_getf_p (b := 30) dX5_holdsFor_127 fl_5_28 ob_26 rfl pt_26_5 ?_
                refine go_iload_n dX5_holdsFor_130 rfl ?_
                refine go_aload_n dX5_holdsFor_131 rfl ?_
                refine go_aload_n dX5_holdsFor_132 rfl ?_
                refine go_iload_n dX5_holdsFor_133 rfl ?_
                refine go_iload dX5_holdsFor_134 rfl ?_
                refine go_callVp_z (as := [vr 7, vi p, vi k]) (S := [vi t, vr 30]) (b := 26) (ev_X5_plainHolds (m := m1) (p := p) (k := k) (B := B) (hdn.congr (fun k hk => hfr _ (by omega))) (hst.congr (hfr 8 (by decide)) (hfr 13 (by decide)) (fun k hk => hfr _ (by omega))) (by rw [hfr 8 (by decide)]; exact hp) (by first | assumption | omega | exact ⟨by omega, by omega⟩ | (constructor <;> omega)) (by rw [hfr 27 (by decide), hfr 29 (by decide), hfr 8 (by decide)]; exact hs2 k hk0 (by omega))) rfl dX5_holdsFor_136 cv_5_111 rfl rfl ob_26 rfl (by decide) (Nat.le_of_ble_eq_true rfl) (fun r_136 hr_136 ho_136 => ?_)
                rw [plA_e hfr, hfr 27 (by decide), hfr 28 (by decide), hfr 29 (by decide)] at hr_136
                have hrz : r_136 = 0 ∨ r_136 = 1 := by rw [hr_136]; cases plA m p (m 27 k, m 28 k, m 29 k) <;> simp [b2i]
                refine go_zastore dX5_holdsFor_139 ar_30 (by omega) (by omega) (by first | exact Or.inl rfl | exact Or.inr rfl | assumption | omega) ?_
                refine go_iinc (L' := [vr 26, vr 7, vi p, vi (t + 1), vi k, vi (m 27 k)]) dX5_holdsFor_140 rfl (by decide) rfl rfl ?_
                refine go_iinc (L' := [vr 26, vr 7, vi p, vi (t + 1), vi (k + 1), vi (m 27 k)]) dX5_holdsFor_143 rfl (by decide) rfl rfl ?_
                refine go_goto (tgt := 5) dX5_holdsFor_146 (by decide) ?_
                refine go_drop (j := 5) (L' := [vr 26, vr 7, vi p, vi (t + 1), vi (k + 1), un]) rfl ?_
                exact ih_5 (wr m1 30 t r_136) (t + 1) (k + 1) (by first | assumption | omega | rfl) (by first | assumption | omega | rfl) (fun x hx => by first | (rw [wr_row hx]; exact hfr x hx) | exact hfr x hx) (by
                      rw [hes]
                      unfold stp1
                      dsimp only
                      first
                      | (rw [if_neg (by omega), if_neg (by omega)]; simp only [List.length_cons]; omega)
                      | (rw [if_pos (by omega)]; simp only [List.length_cons]; omega)
                      | (rw [if_neg (by omega), if_pos (by omega)]; simp only [List.length_cons]; omega)
                      | (rw [if_pos (by omega)]; cases S with
                         | nil => simpa using ht
                         | cons b T => exfalso; simp at ht; omega)
                      | (rw [if_neg (by omega), if_pos (by omega)]
                         match S, ht with
                         | [], ht => simpa using ht
                         | [b], ht => simpa using ht
                         | b :: a :: T, ht => exfalso; simp at ht; omega)) (by
                      rw [hes]
                      unfold stp1
                      dsimp only
                      first
                      | (rw [if_neg (by omega), if_neg (by omega)]
                         refine ⟨?_, stk_w (by omega) hst1⟩
                         rw [ht, wr_self]; exact hr_136)
                      | (rw [if_pos (by omega)]
                         refine ⟨?_, stk_w (by omega) hst1.2⟩
                         rw [show (T.length : Int) = t - 1 by omega, wr_self]
                         cases b <;> simp_all [b2i])
                      | (rw [if_neg (by omega), if_pos (by omega)]
                         refine ⟨?_, stk_w (by omega) hst1.2.2⟩
                         rw [show (T.length : Int) = t + -1 - 1 by omega, wr_self, hr_110])
                      | (rw [if_pos (by omega)]; cases S with
                         | nil => trivial
                         | cons b T => exfalso; simp at ht; omega)
                      | (rw [if_neg (by omega), if_pos (by omega)]
                         match S, ht, hst1 with
                         | [], _, _ => trivial
                         | [b], _, h => exact h
                         | b :: a :: T, ht, _ => exfalso; simp at ht; omega)) (by omega)
            · refine go_iload_n dX5_holdsFor_79 rfl ?_
              refine go_iconst dX5_holdsFor_80 ?_
              refine go_icmp_lt (tgt := 143) dX5_holdsFor_81 (by decide) ⟨by omega, by omega⟩ ⟨by omega, by omega⟩ (fun h_81 => ?_) (fun h_81 => ?_)
              · refine go_iinc (L' := [vr 26, vr 7, vi p, vi t, vi (k + 1), vi (m 27 k)]) dX5_holdsFor_143 rfl (by decide) rfl rfl ?_
                refine go_goto (tgt := 5) dX5_holdsFor_146 (by decide) ?_
                refine go_drop (j := 5) (L' := [vr 26, vr 7, vi p, vi t, vi (k + 1), un]) rfl ?_
                exact ih_5 m1 t (k + 1) (by first | assumption | omega | rfl) (by first | assumption | omega | rfl) (fun x hx => by first | (rw [wr_row hx]; exact hfr x hx) | exact hfr x hx) (by
                      rw [hes]
                      unfold stp1
                      dsimp only
                      first
                      | (rw [if_neg (by omega), if_neg (by omega)]; simp only [List.length_cons]; omega)
                      | (rw [if_pos (by omega)]; simp only [List.length_cons]; omega)
                      | (rw [if_neg (by omega), if_pos (by omega)]; simp only [List.length_cons]; omega)
                      | (rw [if_pos (by omega)]; cases S with
                         | nil => simpa using ht
                         | cons b T => exfalso; simp at ht; omega)
                      | (rw [if_neg (by omega), if_pos (by omega)]
                         match S, ht with
                         | [], ht => simpa using ht
                         | [b], ht => simpa using ht
                         | b :: a :: T, ht => exfalso; simp at ht; omega)) (by
                      rw [hes]
                      unfold stp1
                      dsimp only
                      first
                      | (rw [if_neg (by omega), if_neg (by omega)]
                         refine ⟨?_, stk_w (by omega) hst1⟩
                         rw [ht, wr_self]; exact hr_136)
                      | (rw [if_pos (by omega)]
                         refine ⟨?_, stk_w (by omega) hst1.2⟩
                         rw [show (T.length : Int) = t - 1 by omega, wr_self]
                         cases b <;> simp_all [b2i])
                      | (rw [if_neg (by omega), if_pos (by omega)]
                         refine ⟨?_, stk_w (by omega) hst1.2.2⟩
                         rw [show (T.length : Int) = t + -1 - 1 by omega, wr_self, hr_110])
                      | (rw [if_pos (by omega)]; cases S with
                         | nil => trivial
                         | cons b T => exfalso; simp at ht; omega)
                      | (rw [if_neg (by omega), if_pos (by omega)]
                         match S, ht, hst1 with
                         | [], _, _ => trivial
                         | [b], _, h => exact h
                         | b :: a :: T, ht, _ => exfalso; simp at ht; omega)) (by omega)
              · obtain ⟨b, a, T, rfl⟩ : ∃ b a T, S = b :: a :: T := by
                  match S, ht with
                  | [], ht => exfalso; simp at ht; omega
                  | [b], ht => exfalso; simp at ht; omega
                  | b :: a :: T, _ => exact ⟨b, a, T, rfl⟩
                rw [List.length_cons, List.length_cons] at ht
                have hb1 : m1 30 (t + -1) = b2i b := by rw [show t + -1 = ((a :: T).length : Int) by rw [List.length_cons]; omega]; exact hst1.1
                have ha1 : m1 30 (t + -1 - 1) = b2i a := by rw [show t + -1 - 1 = (T.length : Int) by omega]; exact hst1.2.1
                have hjz : ∀ z : Bool, b2i z = 0 ∨ b2i z = 1 := fun z => by cases z <;> simp [b2i]
                refine go_iinc (L' := [vr 26, vr 7, vi p, vi (t + (-1)), vi k, vi (m 27 k)]) dX5_holdsFor_84 rfl (by decide) rfl rfl ?_
                refine go_aload_n dX5_holdsFor_87 rfl ?_
                refine go_getf_p (b := 30) dX5_holdsFor_88 fl_5_28 ob_26 rfl pt_26_5 ?_
                refine go_iload_n dX5_holdsFor_91 rfl ?_
                refine go_iconst dX5_holdsFor_92 ?_
                refine go_isub dX5_holdsFor_93 ?_
                refine go_iload dX5_holdsFor_94 rfl ?_
                refine go_aload_n dX5_holdsFor_96 rfl ?_
                refine go_getf_p (b := 30) dX5_holdsFor_97 fl_5_28 ob_26 rfl pt_26_5 ?_
                refine go_iload_n dX5_holdsFor_100 rfl ?_
                refine go_iconst dX5_holdsFor_101 ?_
                refine go_isub dX5_holdsFor_102 ?_
                refine go_zaload dX5_holdsFor_103 ar_30 (by omega) (by omega) (fun he_103 => ?_)
                rw [show (m1 30 ((t + (-1)) - 1) : Int) = (b2i a) from ha1] at he_103 ⊢
                refine go_aload_n dX5_holdsFor_104 rfl ?_
                refine go_getf_p (b := 30) dX5_holdsFor_105 fl_5_28 ob_26 rfl pt_26_5 ?_
                refine go_iload_n dX5_holdsFor_108 rfl ?_
                refine go_zaload dX5_holdsFor_109 ar_30 (by omega) (by omega) (fun he_109 => ?_)
                rw [show (m1 30 (t + (-1)) : Int) = (b2i b) from hb1] at he_109 ⊢
                refine go_callSp_z (as := [vi (m 27 k), vi (b2i a), vi (b2i b)]) (S := [vi ((t + (-1)) - 1), vr 30]) (ev_X5_join (m := m1) (k := (m 27 k)) (a := a) (b := b) (by first | assumption | omega | exact ⟨by omega, by omega⟩ | (constructor <;> omega))) rfl dX5_holdsFor_110 cs_5_107 rfl rfl (by decide) (Nat.le_of_ble_eq_true rfl) (fun r_110 hr_110 ho_110 => ?_)
                refine go_zastore dX5_holdsFor_113 ar_30 (by omega) (by omega) (by rw [hr_110]; exact hjz _) ?_
                refine go_goto (tgt := 143) dX5_holdsFor_114 (by decide) ?_
                refine go_iinc (L' := [vr 26, vr 7, vi p, vi (t + (-1)), vi (k + 1), vi (m 27 k)]) dX5_holdsFor_143 rfl (by decide) rfl rfl ?_
                refine go_goto (tgt := 5) dX5_holdsFor_146 (by decide) ?_
                refine go_drop (j := 5) (L' := [vr 26, vr 7, vi p, vi (t + (-1)), vi (k + 1), un]) rfl ?_
                exact ih_5 (wr m1 30 ((t + (-1)) - 1) r_110) (t + (-1)) (k + 1) (by first | assumption | omega | rfl) (by first | assumption | omega | rfl) (fun x hx => by first | (rw [wr_row hx]; exact hfr x hx) | exact hfr x hx) (by
                      rw [hes]
                      unfold stp1
                      dsimp only
                      first
                      | (rw [if_neg (by omega), if_neg (by omega)]; simp only [List.length_cons]; omega)
                      | (rw [if_pos (by omega)]; simp only [List.length_cons]; omega)
                      | (rw [if_neg (by omega), if_pos (by omega)]; simp only [List.length_cons]; omega)
                      | (rw [if_pos (by omega)]; cases S with
                         | nil => simpa using ht
                         | cons b T => exfalso; simp at ht; omega)
                      | (rw [if_neg (by omega), if_pos (by omega)]
                         match S, ht with
                         | [], ht => simpa using ht
                         | [b], ht => simpa using ht
                         | b :: a :: T, ht => exfalso; simp at ht; omega)) (by
                      rw [hes]
                      unfold stp1
                      dsimp only
                      first
                      | (rw [if_neg (by omega), if_neg (by omega)]
                         refine ⟨?_, stk_w (by omega) hst1⟩
                         rw [ht, wr_self]; exact hr_136)
                      | (rw [if_pos (by omega)]
                         refine ⟨?_, stk_w (by omega) hst1.2⟩
                         rw [show (T.length : Int) = t - 1 by omega, wr_self]
                         cases b <;> simp_all [b2i])
                      | (rw [if_neg (by omega), if_pos (by omega)]
                         refine ⟨?_, stk_w (by omega) hst1.2.2⟩
                         rw [show (T.length : Int) = t + -1 - 1 by omega, wr_self, hr_110])
                      | (rw [if_pos (by omega)]; cases S with
                         | nil => trivial
                         | cons b T => exfalso; simp at ht; omega)
                      | (rw [if_neg (by omega), if_pos (by omega)]
                         match S, ht, hst1 with
                         | [], _, _ => trivial
                         | [b], _, h => exact h
                         | b :: a :: T, ht, _ => exfalso; simp at ht; omega)) (by omega)
        · refine go_iload_n dX5_holdsFor_31 rfl ?_
          refine go_iconst dX5_holdsFor_32 ?_
          refine go_icmp_lt (tgt := 143) dX5_holdsFor_33 (by decide) ⟨by omega, by omega⟩ ⟨by omega, by omega⟩ (fun h_33 => ?_) (fun h_33 => ?_)
          · refine go_iinc (L' := [vr 26, vr 7, vi p, vi t, vi (k + 1), vi (m 27 k)]) dX5_holdsFor_143 rfl (by decide) rfl rfl ?_
            refine go_goto (tgt := 5) dX5_holdsFor_146 (by decide) ?_
            refine go_drop (j := 5) (L' := [vr 26, vr 7, vi p, vi t, vi (k + 1), un]) rfl ?_
            exact ih_5 m1 t (k + 1) (by first | assumption | omega | rfl) (by first | assumption | omega | rfl) (fun x hx => by first | (rw [wr_row hx]; exact hfr x hx) | exact hfr x hx) (by
                  rw [hes]
                  unfold stp1
                  dsimp only
                  first
                  | (rw [if_neg (by omega), if_neg (by omega)]; simp only [List.length_cons]; omega)
                  | (rw [if_pos (by omega)]; simp only [List.length_cons]; omega)
                  | (rw [if_neg (by omega), if_pos (by omega)]; simp only [List.length_cons]; omega)
                  | (rw [if_pos (by omega)]; cases S with
                     | nil => simpa using ht
                     | cons b T => exfalso; simp at ht; omega)
                  | (rw [if_neg (by omega), if_pos (by omega)]
                     match S, ht with
                     | [], ht => simpa using ht
                     | [b], ht => simpa using ht
                     | b :: a :: T, ht => exfalso; simp at ht; omega)) (by
                  rw [hes]
                  unfold stp1
                  dsimp only
                  first
                  | (rw [if_neg (by omega), if_neg (by omega)]
                     refine ⟨?_, stk_w (by omega) hst1⟩
                     rw [ht, wr_self]; exact hr_136)
                  | (rw [if_pos (by omega)]
                     refine ⟨?_, stk_w (by omega) hst1.2⟩
                     rw [show (T.length : Int) = t - 1 by omega, wr_self]
                     cases b <;> simp_all [b2i])
                  | (rw [if_neg (by omega), if_pos (by omega)]
                     refine ⟨?_, stk_w (by omega) hst1.2.2⟩
                     rw [show (T.length : Int) = t + -1 - 1 by omega, wr_self, hr_110])
                  | (rw [if_pos (by omega)]; cases S with
                     | nil => trivial
                     | cons b T => exfalso; simp at ht; omega)
                  | (rw [if_neg (by omega), if_pos (by omega)]
                     match S, ht, hst1 with
                     | [], _, _ => trivial
                     | [b], _, h => exact h
                     | b :: a :: T, ht, _ => exfalso; simp at ht; omega)) (by omega)
          · obtain ⟨b, T, rfl⟩ : ∃ b T, S = b :: T := by
              cases S with
              | nil => exfalso; simp at ht; omega
              | cons b T => exact ⟨b, T, rfl⟩
            rw [List.length_cons] at ht
            have hb1 : m1 30 (t - 1) = b2i b := by rw [show t - 1 = (T.length : Int) by omega]; exact hst1.1
            have hbz : b2i b = 0 ∨ b2i b = 1 := by cases b <;> simp [b2i]
            refine go_aload_n dX5_holdsFor_36 rfl ?_
            refine go_getf_p (b := 30) dX5_holdsFor_37 fl_5_28 ob_26 rfl pt_26_5 ?_
            refine go_iload_n dX5_holdsFor_40 rfl ?_
            refine go_iconst dX5_holdsFor_41 ?_
            refine go_isub dX5_holdsFor_42 ?_
            refine go_aload_n dX5_holdsFor_43 rfl ?_
            refine go_getf_p (b := 30) dX5_holdsFor_44 fl_5_28 ob_26 rfl pt_26_5 ?_
            refine go_iload_n dX5_holdsFor_47 rfl ?_
            refine go_iconst dX5_holdsFor_48 ?_
            refine go_isub dX5_holdsFor_49 ?_
            refine go_zaload dX5_holdsFor_50 ar_30 (by omega) (by omega) (fun he_50 => ?_)
            rw [show (m1 30 (t - 1) : Int) = (b2i b) from hb1] at he_50 ⊢
            refine go_if_ne (tgt := 58) dX5_holdsFor_51 (by decide) ⟨by omega, by omega⟩ (fun h_51 => ?_) (fun h_51 => ?_)
            · refine go_iconst dX5_holdsFor_58 ?_
              refine go_zastore dX5_holdsFor_59 ar_30 (by omega) (by omega) (by first | exact Or.inl rfl | exact Or.inr rfl | assumption | omega) ?_
              refine go_goto (tgt := 143) dX5_holdsFor_60 (by decide) ?_
              refine go_iinc (L' := [vr 26, vr 7, vi p, vi t, vi (k + 1), vi (m 27 k)]) dX5_holdsFor_143 rfl (by decide) rfl rfl ?_
              refine go_goto (tgt := 5) dX5_holdsFor_146 (by decide) ?_
              refine go_drop (j := 5) (L' := [vr 26, vr 7, vi p, vi t, vi (k + 1), un]) rfl ?_
              exact ih_5 (wr m1 30 (t - 1) 0) t (k + 1) (by first | assumption | omega | rfl) (by first | assumption | omega | rfl) (fun x hx => by first | (rw [wr_row hx]; exact hfr x hx) | exact hfr x hx) (by
                    rw [hes]
                    unfold stp1
                    dsimp only
                    first
                    | (rw [if_neg (by omega), if_neg (by omega)]; simp only [List.length_cons]; omega)
                    | (rw [if_pos (by omega)]; simp only [List.length_cons]; omega)
                    | (rw [if_neg (by omega), if_pos (by omega)]; simp only [List.length_cons]; omega)
                    | (rw [if_pos (by omega)]; cases S with
                       | nil => simpa using ht
                       | cons b T => exfalso; simp at ht; omega)
                    | (rw [if_neg (by omega), if_pos (by omega)]
                       match S, ht with
                       | [], ht => simpa using ht
                       | [b], ht => simpa using ht
                       | b :: a :: T, ht => exfalso; simp at ht; omega)) (by
                    rw [hes]
                    unfold stp1
                    dsimp only
                    first
                    | (rw [if_neg (by omega), if_neg (by omega)]
                       refine ⟨?_, stk_w (by omega) hst1⟩
                       rw [ht, wr_self]; exact hr_136)
                    | (rw [if_pos (by omega)]
                       refine ⟨?_, stk_w (by omega) hst1.2⟩
                       rw [show (T.length : Int) = t - 1 by omega, wr_self]
                       cases b <;> simp_all [b2i])
                    | (rw [if_neg (by omega), if_pos (by omega)]
                       refine ⟨?_, stk_w (by omega) hst1.2.2⟩
                       rw [show (T.length : Int) = t + -1 - 1 by omega, wr_self, hr_110])
                    | (rw [if_pos (by omega)]; cases S with
                       | nil => trivial
                       | cons b T => exfalso; simp at ht; omega)
                    | (rw [if_neg (by omega), if_pos (by omega)]
                       match S, ht, hst1 with
                       | [], _, _ => trivial
                       | [b], _, h => exact h
                       | b :: a :: T, ht, _ => exfalso; simp at ht; omega)) (by omega)
            · refine go_iconst dX5_holdsFor_54 ?_
              refine go_goto (tgt := 59) dX5_holdsFor_55 (by decide) ?_
              refine go_zastore dX5_holdsFor_59 ar_30 (by omega) (by omega) (by first | exact Or.inl rfl | exact Or.inr rfl | assumption | omega) ?_
              refine go_goto (tgt := 143) dX5_holdsFor_60 (by decide) ?_
              refine go_iinc (L' := [vr 26, vr 7, vi p, vi t, vi (k + 1), vi (m 27 k)]) dX5_holdsFor_143 rfl (by decide) rfl rfl ?_
              refine go_goto (tgt := 5) dX5_holdsFor_146 (by decide) ?_
              refine go_drop (j := 5) (L' := [vr 26, vr 7, vi p, vi t, vi (k + 1), un]) rfl ?_
              exact ih_5 (wr m1 30 (t - 1) 1) t (k + 1) (by first | assumption | omega | rfl) (by first | assumption | omega | rfl) (fun x hx => by first | (rw [wr_row hx]; exact hfr x hx) | exact hfr x hx) (by
                    rw [hes]
                    unfold stp1
                    dsimp only
                    first
                    | (rw [if_neg (by omega), if_neg (by omega)]; simp only [List.length_cons]; omega)
                    | (rw [if_pos (by omega)]; simp only [List.length_cons]; omega)
                    | (rw [if_neg (by omega), if_pos (by omega)]; simp only [List.length_cons]; omega)
                    | (rw [if_pos (by omega)]; cases S with
                       | nil => simpa using ht
                       | cons b T => exfalso; simp at ht; omega)
                    | (rw [if_neg (by omega), if_pos (by omega)]
                       match S, ht with
                       | [], ht => simpa using ht
                       | [b], ht => simpa using ht
                       | b :: a :: T, ht => exfalso; simp at ht; omega)) (by
                    rw [hes]
                    unfold stp1
                    dsimp only
                    first
                    | (rw [if_neg (by omega), if_neg (by omega)]
                       refine ⟨?_, stk_w (by omega) hst1⟩
                       rw [ht, wr_self]; exact hr_136)
                    | (rw [if_pos (by omega)]
                       refine ⟨?_, stk_w (by omega) hst1.2⟩
                       rw [show (T.length : Int) = t - 1 by omega, wr_self]
                       cases b <;> simp_all [b2i])
                    | (rw [if_neg (by omega), if_pos (by omega)]
                       refine ⟨?_, stk_w (by omega) hst1.2.2⟩
                       rw [show (T.length : Int) = t + -1 - 1 by omega, wr_self, hr_110])
                    | (rw [if_pos (by omega)]; cases S with
                       | nil => trivial
                       | cons b T => exfalso; simp at ht; omega)
                    | (rw [if_neg (by omega), if_pos (by omega)]
                       match S, ht, hst1 with
                       | [], _, _ => trivial
                       | [b], _, h => exact h
                       | b :: a :: T, ht, _ => exfalso; simp at ht; omega)) (by omega)
  exact lp_5 _ m 0 0 (by first | assumption | omega | rfl) (by first | assumption | omega | rfl) (fun b _ => rfl) rfl trivial (Nat.lt_succ_self _)
theorem dX11_said_0 : decode mX11_said.2.1 0 = .ok (.aload_n 0, 1) := by decide +kernel
theorem dX11_said_1 : decode mX11_said.2.1 1 = .ok (.getfield 24, 3) := by decide +kernel
theorem dX11_said_4 : decode mX11_said.2.1 4 = .ok (.getfield 382, 3) := by decide +kernel
theorem dX11_said_7 : decode mX11_said.2.1 7 = .ok (.getfield 388, 3) := by decide +kernel
theorem dX11_said_10 : decode mX11_said.2.1 10 = .ok (.ifCond .ne 5, 3) := by decide +kernel
theorem dX11_said_13 : decode mX11_said.2.1 13 = .ok (.iconst (-1), 1) := by decide +kernel
theorem dX11_said_14 : decode mX11_said.2.1 14 = .ok (.ireturn, 1) := by decide +kernel
theorem dX11_said_15 : decode mX11_said.2.1 15 = .ok (.iconst 0, 1) := by decide +kernel
theorem dX11_said_16 : decode mX11_said.2.1 16 = .ok (.istore_n 2, 1) := by decide +kernel
theorem dX11_said_17 : decode mX11_said.2.1 17 = .ok (.iconst 0, 1) := by decide +kernel
theorem dX11_said_18 : decode mX11_said.2.1 18 = .ok (.istore_n 3, 1) := by decide +kernel
theorem dX11_said_19 : decode mX11_said.2.1 19 = .ok (.iload_n 3, 1) := by decide +kernel
theorem dX11_said_20 : decode mX11_said.2.1 20 = .ok (.aload_n 0, 1) := by decide +kernel
theorem dX11_said_21 : decode mX11_said.2.1 21 = .ok (.getfield 24, 3) := by decide +kernel
theorem dX11_said_24 : decode mX11_said.2.1 24 = .ok (.getfield 28, 3) := by decide +kernel
theorem dX11_said_27 : decode mX11_said.2.1 27 = .ok (.getfield 327, 3) := by decide +kernel
theorem dX11_said_30 : decode mX11_said.2.1 30 = .ok (.if_icmp .ge 37, 3) := by decide +kernel
theorem dX11_said_33 : decode mX11_said.2.1 33 = .ok (.aload_n 0, 1) := by decide +kernel
theorem dX11_said_34 : decode mX11_said.2.1 34 = .ok (.getfield 24, 3) := by decide +kernel
theorem dX11_said_37 : decode mX11_said.2.1 37 = .ok (.getfield 382, 3) := by decide +kernel
theorem dX11_said_40 : decode mX11_said.2.1 40 = .ok (.aload_n 0, 1) := by decide +kernel
theorem dX11_said_41 : decode mX11_said.2.1 41 = .ok (.getfield 24, 3) := by decide +kernel
theorem dX11_said_44 : decode mX11_said.2.1 44 = .ok (.iload_n 3, 1) := by decide +kernel
theorem dX11_said_45 : decode mX11_said.2.1 45 = .ok (.invokevirtual 391, 3) := by decide +kernel
theorem dX11_said_48 : decode mX11_said.2.1 48 = .ok (.ifCond .eq 13, 3) := by decide +kernel
theorem dX11_said_51 : decode mX11_said.2.1 51 = .ok (.iload_n 2, 1) := by decide +kernel
theorem dX11_said_52 : decode mX11_said.2.1 52 = .ok (.iload_n 1, 1) := by decide +kernel
theorem dX11_said_53 : decode mX11_said.2.1 53 = .ok (.if_icmp .ne 5, 3) := by decide +kernel
theorem dX11_said_56 : decode mX11_said.2.1 56 = .ok (.iload_n 3, 1) := by decide +kernel
theorem dX11_said_57 : decode mX11_said.2.1 57 = .ok (.ireturn, 1) := by decide +kernel
theorem dX11_said_58 : decode mX11_said.2.1 58 = .ok (.iinc 2 1, 3) := by decide +kernel
theorem dX11_said_61 : decode mX11_said.2.1 61 = .ok (.iinc 3 1, 3) := by decide +kernel
theorem dX11_said_64 : decode mX11_said.2.1 64 = .ok (.goto (-45), 3) := by decide +kernel
theorem dX11_said_67 : decode mX11_said.2.1 67 = .ok (.iload_n 1, 1) := by decide +kernel
theorem dX11_said_68 : decode mX11_said.2.1 68 = .ok (.iconst (-1), 1) := by decide +kernel
theorem dX11_said_69 : decode mX11_said.2.1 69 = .ok (.if_icmp .ne 7, 3) := by decide +kernel
theorem dX11_said_72 : decode mX11_said.2.1 72 = .ok (.iload_n 2, 1) := by decide +kernel
theorem dX11_said_73 : decode mX11_said.2.1 73 = .ok (.goto 4, 3) := by decide +kernel
theorem dX11_said_76 : decode mX11_said.2.1 76 = .ok (.iconst (-1), 1) := by decide +kernel
theorem dX11_said_77 : decode mX11_said.2.1 77 = .ok (.ireturn, 1) := by decide +kernel
set_option maxRecDepth 4000 in
theorem ev_X11_said {m : Mem} {k : Int} {B : Int} (hdn : DnOk m 8) (hst : StOk m 8 18 B) (hk : InR k) (hse : m 26 0 ≠ 0 → SeOk m) : Ev 0 7 mX11_said [vr 0, vi k] m (fun r m' => (r = if m 26 0 = 0 then -1 else saidF (hdB m) (m 8 3) k) ∧ ∀ b : Nat, b ≠ 30 → m' b = m b) := by
  refine Ev.of (L := [vr 0, vi k, un, un]) (by decide +kernel) rfl (Nat.le_of_ble_eq_true rfl) rfl (fun t ht => by cases ht; first | exact Or.inl rfl | exact Or.inr (Or.inl rfl) | exact Or.inr (Or.inr rfl)) (fun hcan => ?_)
  obtain ⟨⟨hd0, hd1⟩, ⟨hd2, hd3⟩, ⟨hd4, hd5⟩, ⟨hd6, hd7⟩, ⟨hd8, hd9⟩, hdf, hdp, hdq⟩ := id hdn
  refine go_aload_n dX11_said_0 rfl ?_
  refine go_getf_p (b := 7) dX11_said_1 fl_11_24 ob_0 rfl pt_0_1 ?_
  refine go_getf_p (b := 26) dX11_said_4 fl_11_382 ob_7 rfl pt_7_2 ?_
  refine go_getf_i (ki := 0) dX11_said_7 fl_11_388 ob_26 rfl rfl (fun hf_7 => ?_)
  refine go_if_ne (tgt := 15) dX11_said_10 (by decide) ⟨by omega, by omega⟩ (fun h_10 => ?_) (fun h_10 => ?_)
  · refine go_iconst dX11_said_15 ?_
    refine go_istore_n (L' := [vr 0, vi k, vi 0, un]) dX11_said_16 (by decide) rfl rfl ?_
    refine go_iconst dX11_said_17 ?_
    refine go_istore_n (L' := [vr 0, vi k, vi 0, vi 0]) dX11_said_18 (by decide) rfl rfl ?_
    have lp_19 : ∀ (n_19 : Nat) (m1 : Mem) (n : Int) (p : Int) , (0 ≤ p) → (p ≤ m 8 3) → (n = cntI (hdB m) p) → (∀ b : Nat, b ≠ 30 → m1 b = m b) → (∀ j : Int, 0 ≤ j → j < p → (hdB m j && decide (cntI (hdB m) j = k)) = false) → (m 8 3 - p).toNat < n_19 → Go 0 7 mX11_said (fun r m' => (r = if m 26 0 = 0 then -1 else saidF (hdB m) (m 8 3) k) ∧ ∀ b : Nat, b ≠ 30 → m' b = m b) 19 [vr 0, vi k, vi n, vi p] [] m1 := by
      intro n_19
      induction n_19 with
      | zero => intro m1 n p hp0 hp1 hn hfr hno hmu; exact absurd hmu (Nat.not_lt_zero _)
      | succ n_19 ih_19 =>
        intro m1 n p hp0 hp1 hn hfr hno hmu
        have hcb := cntI_b (hdB m) hp0
        rw [← hn] at hcb
        have hcs := cntI_s (hdB m) hp0
        refine go_iload_n dX11_said_19 rfl ?_
        refine go_aload_n dX11_said_20 rfl ?_
        refine go_getf_p (b := 7) dX11_said_21 fl_11_24 ob_0 rfl pt_0_1 ?_
        refine go_getf_p (b := 8) dX11_said_24 fl_11_28 ob_7 rfl pt_7_0 ?_
        refine go_getf_i (ki := 3) dX11_said_27 fl_11_327 ob_8 rfl rfl (fun hf_27 => ?_)
        rw [show (m1 8 3 : Int) = (m 8 3) from by rw [hfr 8 (by decide)]] at hf_27 ⊢
        refine go_icmp_ge (tgt := 67) dX11_said_30 (by decide) ⟨by omega, by omega⟩ ⟨by omega, by omega⟩ (fun h_30 => ?_) (fun h_30 => ?_)
        · refine go_iload_n dX11_said_67 rfl ?_
          refine go_iconst dX11_said_68 ?_
          refine go_icmp_ne (tgt := 76) dX11_said_69 (by decide) ⟨by omega, by omega⟩ ⟨by omega, by omega⟩ (fun h_69 => ?_) (fun h_69 => ?_)
          · refine go_iconst dX11_said_76 ?_
            refine go_ret (v := (-1)) rfl dX11_said_77 (okI ⟨by omega, by omega⟩) ?_
            refine ⟨?_, hfr⟩
            have e : fnd (fun p => hdB m p && decide (cntI (hdB m) p = k)) (m 8 3) = -1 := fnd_none (fun j a b => hno j a (by omega))
            rw [if_neg (by omega)]
            unfold saidF
            rw [e, if_neg (fun z => z rfl)]
            first
            | (rw [if_pos (by omega), hn, show p = m 8 3 by omega])
            | (rw [if_neg (by omega)])
          · refine go_iload_n dX11_said_72 rfl ?_
            refine go_goto (tgt := 77) dX11_said_73 (by decide) ?_
            refine go_ret (v := n) rfl dX11_said_77 (okI ⟨by omega, by omega⟩) ?_
            refine ⟨?_, hfr⟩
            have e : fnd (fun p => hdB m p && decide (cntI (hdB m) p = k)) (m 8 3) = -1 := fnd_none (fun j a b => hno j a (by omega))
            rw [if_neg (by omega)]
            unfold saidF
            rw [e, if_neg (fun z => z rfl)]
            first
            | (rw [if_pos (by omega), hn, show p = m 8 3 by omega])
            | (rw [if_neg (by omega)])
        · refine go_aload_n dX11_said_33 rfl ?_
          refine go_getf_p (b := 7) dX11_said_34 fl_11_24 ob_0 rfl pt_0_1 ?_
          refine go_getf_p (b := 26) dX11_said_37 fl_11_382 ob_7 rfl pt_7_2 ?_
          refine go_aload_n dX11_said_40 rfl ?_
          refine go_getf_p (b := 7) dX11_said_41 fl_11_24 ob_0 rfl pt_0_1 ?_
          refine go_iload_n dX11_said_44 rfl ?_
          refine go_callV_z (as := [vr 7, vi p]) (S := []) (b := 26) (ev_X5_holdsFor (m := m1) (p := p) (B := B) (hdn.congr (fun k hk => hfr _ (by omega))) (hst.congr (hfr 8 (by decide)) (hfr 13 (by decide)) (fun k hk => hfr _ (by omega))) (by rw [hfr 8 (by decide)]; omega) (by have h := hse h_10; unfold SeOk at h ⊢; rw [hfr 26 (by decide), hfr 27 (by decide), hfr 28 (by decide), hfr 29 (by decide), hfr 8 (by decide)]; exact h)) rfl dX11_said_45 cv_11_391 rfl rfl ob_26 rfl (by decide) (Nat.le_of_ble_eq_true rfl) (fun r_45 m_45 hr_45 ho_45 => ?_)
          have ehd : hdB m1 p = hdB m p := by unfold hdB; rw [plA_e hfr, hfr 26 (by decide), hfr 27 (by decide), hfr 28 (by decide), hfr 29 (by decide)]
          rw [ehd] at hr_45
          have hfr2 : ∀ b : Nat, b ≠ 30 → m_45 b = m b := fun b hb => by rw [hr_45.2 b hb, hfr b hb]
          have hr45 := hr_45.1
          have hh1 : r_45 = 0 → hdB m p = false := fun z => by rw [hr45] at z; cases e : hdB m p with
            | false => rfl
            | true => rw [e] at z; exact absurd z (by decide)
          have hh2 : r_45 ≠ 0 → hdB m p = true := fun z => by rw [hr45] at z; cases e : hdB m p with
            | true => rfl
            | false => rw [e] at z; exact absurd rfl z
          refine go_if_eq (tgt := 61) dX11_said_48 (by decide) ⟨by omega, by omega⟩ (fun h_48 => ?_) (fun h_48 => ?_)
          · refine go_iinc (L' := [vr 0, vi k, vi n, vi (p + 1)]) dX11_said_61 rfl (by decide) rfl rfl ?_
            refine go_goto (tgt := 19) dX11_said_64 (by decide) ?_
            exact ih_19 m_45 n (p + 1) (by first | assumption | omega | rfl) (by first | assumption | omega | rfl) (by rw [hcs, ← hn]; first | (rw [hh1 (by omega)]; simp) | (rw [hh2 (by omega)]; simp)) hfr2 (stp hno (by first | (rw [hh1 (by omega)]; rfl) | (rw [← hn, decide_eq_false (show ¬ n = k by omega), Bool.and_false]))) (by omega)
          · refine go_iload_n dX11_said_51 rfl ?_
            refine go_iload_n dX11_said_52 rfl ?_
            refine go_icmp_ne (tgt := 58) dX11_said_53 (by decide) ⟨by omega, by omega⟩ ⟨by omega, by omega⟩ (fun h_53 => ?_) (fun h_53 => ?_)
            · refine go_iinc (L' := [vr 0, vi k, vi (n + 1), vi p]) dX11_said_58 rfl (by decide) rfl rfl ?_
              refine go_iinc (L' := [vr 0, vi k, vi (n + 1), vi (p + 1)]) dX11_said_61 rfl (by decide) rfl rfl ?_
              refine go_goto (tgt := 19) dX11_said_64 (by decide) ?_
              exact ih_19 m_45 (n + 1) (p + 1) (by first | assumption | omega | rfl) (by first | assumption | omega | rfl) (by rw [hcs, ← hn]; first | (rw [hh1 (by omega)]; simp) | (rw [hh2 (by omega)]; simp)) hfr2 (stp hno (by first | (rw [hh1 (by omega)]; rfl) | (rw [← hn, decide_eq_false (show ¬ n = k by omega), Bool.and_false]))) (by omega)
            · refine go_iload_n dX11_said_56 rfl ?_
              refine go_ret (v := p) rfl dX11_said_57 (okI ⟨by omega, by omega⟩) ?_
              refine ⟨?_, hfr2⟩
              have e : fnd (fun p => hdB m p && decide (cntI (hdB m) p = k)) (m 8 3) = p := fnd_some hp0 (by omega) (by rw [hh2 (by omega), ← hn, decide_eq_true (show n = k by omega)]; rfl) hno
              rw [if_neg (by omega)]
              unfold saidF
              rw [e, if_pos (by omega)]
    exact lp_19 _ m 0 0 (by first | assumption | omega | rfl) (by first | assumption | omega | rfl) rfl (fun b _ => rfl) (fun j a b => by omega) (Nat.lt_succ_self _)
  · refine go_iconst dX11_said_13 ?_
    exact go_ret (v := (-1)) rfl dX11_said_14 (okI ⟨by omega, by omega⟩) ⟨by rw [if_pos (by omega)], fun b _ => rfl⟩
