/-! ===== the reference reads lines of a BOOK ===== -/
def rmF (G : Mem) (a : Nat) (c i : Int) : Int := if G 4 i = 3 then (if nameAt G a (G 6 i) c = -1 then 3 else 0) else 1
def RmP (G : Mem) (t kw : Int → Int) (n lim : Int) (m m' : Mem) (a : Nat) (c i r : Int) : Prop := (rmF G a c i = 0 ∧ r = 1 ∧ OkT G t kw n lim m m' (i + 1) ∧ m' 214 13 = nameAt G a (G 6 i) c) ∨ (rmF G a c i ≠ 0 ∧ r = 0 ∧ NoT G m m' (rmF G a c i) i)
def SdP (G : Mem) (t kw : Int → Int) (n lim : Int) (m m' : Mem) (i r : Int) : Prop := (sdF G i = 0 ∧ r = 1 ∧ OkT G t kw n lim m m' (i + 1) ∧ m' 214 13 = G 4 i - 209) ∨ (sdF G i ≠ 0 ∧ r = 0 ∧ NoT G m m' (sdF G i) i)
def Bx (m m' : Mem) (p : Int) : Prop := (∀ b : Nat, b ≠ 214 → b ≠ 232 → m' b = m b) ∧ (∀ j : Int, (j < 5 ∨ 13 < j) → m' 214 j = m 214 j) ∧ ∀ j : Int, (j < p ∨ p + 4 ≤ j) → m' 232 j = m 232 j
theorem Bx.rf {m : Mem} {p : Int} : Bx m m p := ⟨fun _ _ _ => rfl, fun _ _ => rfl, fun _ _ => rfl⟩
theorem Bx.tr {m n o : Mem} {p : Int} (h : Bx m n p) (h' : Bx n o p) : Bx m o p := ⟨fun b h1 h2 => (h'.1 b h1 h2).trans (h.1 b h1 h2), fun j hj => (h'.2.1 j hj).trans (h.2.1 j hj), fun j hj => (h'.2.2 j hj).trans (h.2.2 j hj)⟩
theorem Bx.w {m n : Mem} {p j x : Int} (h : Bx m n p) (h0 : p ≤ j) (h1 : j < p + 4) : Bx m (wr n 232 j x) p := ⟨fun b a c => by rw [wr_row c]; exact h.1 b a c, fun k hk => by rw [wr_na (by decide)]; exact h.2.1 k hk, fun k hk => by rw [wr_ni (by omega)]; exact h.2.2 k hk⟩
theorem Lx.b {m m' : Mem} {p : Int} (h : Lx m m') : Bx m m' p := ⟨fun b a _ => h.1 b a, h.2, fun j _ => by rw [h.1 232 (by decide)]⟩
def DoL (G : Mem) (L : Int → Int) (p i : Int) : Prop := (G 4 i = 205 ∧ L p = 0 ∧ L (p + 2) = nameAt G (8 + 1) (G 6 (i + 1)) (G 8 2) ∧ L (p + 3) = G 4 (i + 2) - 209) ∨ (G 4 i = 206 ∧ L p = 1 ∧ L (p + 3) = G 4 (i + 1) - 209) ∨ (G 4 i = 207 ∧ L p = 2)
def DoP (G : Mem) (t kw : Int → Int) (n lim : Int) (m m' : Mem) (p i r : Int) : Prop := Bx m m' p ∧ (((deF G i).1 = 0 ∧ r = 1 ∧ m' 214 10 = m 214 10 ∧ TM G t kw n lim m' (deF G i).2 ∧ m' 232 (p + 1) = m 232 (p + 1) ∧ DoL G (m' 232) p i) ∨ ((deF G i).1 ≠ 0 ∧ r = 0 ∧ m' 214 10 = (deF G i).1 ∧ m' 214 11 = G 5 (deF G i).2))
def LnR (G : Mem) (L : Int → Int) (l : Int) : Prop := (G 71 l = 208 ∧ L (4 * l) = 3 ∧ L (4 * l + 1) = G 75 l) ∨ (G 71 l = 205 ∧ L (4 * l) = 0 ∧ L (4 * l + 1) = G 72 l ∧ L (4 * l + 2) = G 73 l ∧ L (4 * l + 3) = G 74 l) ∨ (G 71 l = 206 ∧ L (4 * l) = 1 ∧ L (4 * l + 1) = G 72 l ∧ L (4 * l + 3) = G 74 l) ∨ (G 71 l = 207 ∧ L (4 * l) = 2 ∧ L (4 * l + 1) = G 72 l)
def BlP (G : Mem) (t kw : Int → Int) (n lim : Int) (m m' : Mem) (l i r : Int) : Prop := Bx m m' (4 * l) ∧ (((bkF G (i + 1)).1 = 0 ∧ G 4 (bkF G (i + 1)).2 = 59 ∧ r = 1 ∧ m' 214 10 = m 214 10 ∧ TM G t kw n lim m' ((bkF G (i + 1)).2 + 1) ∧ LnR (bkX G (i + 1)) (m' 232) l) ∨
  (r = 0 ∧ m' 214 11 = G 5 (bkF G (i + 1)).2 ∧ (((bkF G (i + 1)).1 ≠ 0 ∧ m' 214 10 = (bkF G (i + 1)).1) ∨ ((bkF G (i + 1)).1 = 0 ∧ G 4 (bkF G (i + 1)).2 ≠ 59 ∧ m' 214 10 = 1))))
theorem sd_no {G : Mem} {i : Int} (h : ∀ j : Int, 9 ≤ j → j < 13 → G 4 i ≠ 200 + j) : sdF G i = 1 := by
  unfold sdF
  rw [if_neg (fun z => h (G 4 i - 200) (by omega) (by omega) (by omega))]
theorem nm_fnd {G m : Mem} {a : Nat} {b c v w : Int} (hw : Wr v w) (h : ∀ k : Int, 0 ≤ k → k < c → Wr (G a k) (m 221 (b + k))) : fnd (fun k => decide (m 221 (b + k) = w)) c = nameAt G a v c := fnd_congr (fun j x y => by
  have hij := (h j x y).inj hw
  by_cases q : G a j = v
  · rw [decide_eq_true q, decide_eq_true (hij.mp q)]
  · rw [decide_eq_false q, decide_eq_false (fun z => q (hij.mpr z))])
theorem TM.wd3 {G m : Mem} {t kw : Int → Int} {n lim i : Int} (h : TM G t kw n lim m i) (h3 : G 4 i = 3) : Wr (G 6 i) (m 214 12) := by
  have hk := h.kd
  by_cases q : m 214 7 = 2
  · exact (hk.k2 q).2.1
  · have := hk.n2 q; omega
/-- what goes on in a line -/
theorem live_of {J : Mem} {l wh x f s : Int} (h : (wh = 3 ∧ J 71 l = 208 ∧ x = J 75 l) ∨ (wh = 0 ∧ J 71 l = 205 ∧ x = J 72 l ∧ f = J 73 l ∧ s = J 74 l) ∨ (wh = 1 ∧ J 71 l = 206 ∧ x = J 72 l ∧ s = J 74 l) ∨ (wh = 2 ∧ J 71 l = 207 ∧ x = J 72 l)) :
    (wh = 3 → liveR J 32 l = (if 400 - J 32 0 < x then 31 else 0) ∧ liveX J 32 l = if 400 - J 32 0 < x then J else passC J 8 32 x) ∧ (wh ≠ 3 → liveR J 32 l = bh (10 * wh) (whyG J 8 32 wh x f s) ∧ liveX J 32 l = actIf J 8 32 wh x f s) := by
  rcases h with ⟨e, h1, h2⟩ | ⟨e, h1, h2, h3, h4⟩ | ⟨e, h1, h2, h4⟩ | ⟨e, h1, h2⟩
  · refine ⟨fun _ => ?_, fun z => absurd e z⟩
    unfold liveR liveX
    rw [if_neg (show ¬ J 71 l = 205 by omega), if_neg (show ¬ J 71 l = 206 by omega), if_neg (show ¬ J 71 l = 207 by omega), if_neg (show ¬ J 71 l = 205 by omega), if_neg (show ¬ J 71 l = 206 by omega), if_neg (show ¬ J 71 l = 207 by omega), h2]
    exact ⟨rfl, rfl⟩
  · refine ⟨fun z => by omega, fun _ => ?_⟩
    unfold liveR liveX
    rw [if_pos h1, if_pos h1, e, h2, h3, h4, actIf_0]
    refine ⟨?_, rfl⟩
    show whySayC J 8 32 (J 72 l) (J 73 l) (J 74 l) = bh (10 * 0) (whySayC J 8 32 (J 72 l) (J 73 l) (J 74 l))
    unfold bh; split <;> omega
  · refine ⟨fun z => by omega, fun _ => ?_⟩
    unfold liveR liveX
    rw [if_neg (show ¬ J 71 l = 205 by omega), if_pos h1, if_neg (show ¬ J 71 l = 205 by omega), if_pos h1, e, h2, h4, actIf_1]
    exact ⟨rfl, rfl⟩
  · refine ⟨fun z => by omega, fun _ => ?_⟩
    unfold liveR liveX
    rw [if_neg (show ¬ J 71 l = 205 by omega), if_neg (show ¬ J 71 l = 206 by omega), if_pos h1, if_neg (show ¬ J 71 l = 205 by omega), if_neg (show ¬ J 71 l = 206 by omega), if_pos h1, e, h2, actIf_2]
    exact ⟨rfl, rfl⟩

theorem dX12_keep_0 : decode mX12_keep.2.1 0 = .ok (.iload_n 2, 1) := by decide +kernel
theorem dX12_keep_1 : decode mX12_keep.2.1 1 = .ok (.ifCond .eq 13, 3) := by decide +kernel
theorem dX12_keep_4 : decode mX12_keep.2.1 4 = .ok (.aload_n 0, 1) := by decide +kernel
theorem dX12_keep_5 : decode mX12_keep.2.1 5 = .ok (.getfield 151, 3) := by decide +kernel
theorem dX12_keep_8 : decode mX12_keep.2.1 8 = .ok (.iload_n 1, 1) := by decide +kernel
theorem dX12_keep_9 : decode mX12_keep.2.1 9 = .ok (.aload_n 0, 1) := by decide +kernel
theorem dX12_keep_10 : decode mX12_keep.2.1 10 = .ok (.getfield 79, 3) := by decide +kernel
theorem dX12_keep_13 : decode mX12_keep.2.1 13 = .ok (.iastore, 1) := by decide +kernel
theorem dX12_keep_14 : decode mX12_keep.2.1 14 = .ok (.iload_n 2, 1) := by decide +kernel
theorem dX12_keep_15 : decode mX12_keep.2.1 15 = .ok (.ireturn, 1) := by decide +kernel
set_option maxRecDepth 4000 in
theorem ev_X12_keep {m : Mem} {k : Int} {g : Int} (hk : 0 ≤ k ∧ k < 160) (hg : g = 0 ∨ g = 1) : Ev 0 1 mX12_keep [vr 214, vi k, vi g] m (fun r m' => r = g ∧ m' = if g = 1 then wr m 232 k (m 214 13) else m) := by
  refine Ev.of (L := [vr 214, vi k, vi g]) (by decide +kernel) rfl (Nat.le_of_ble_eq_true rfl) rfl (fun t ht => by cases ht; first | exact Or.inl rfl | exact Or.inr (Or.inl rfl) | exact Or.inr (Or.inr rfl)) (fun hcan => ?_)
  refine go_iload_n dX12_keep_0 rfl ?_
  refine go_if_eq (tgt := 14) dX12_keep_1 (by decide) ⟨by omega, by omega⟩ (fun h_1 => ?_) (fun h_1 => ?_)
  · refine go_iload_n dX12_keep_14 rfl ?_
    exact go_ret (v := g) rfl dX12_keep_15 (okZ (by omega)) ⟨rfl, by first | rw [if_pos (by omega)] | rw [if_neg (by omega)]⟩
  · refine go_aload_n dX12_keep_4 rfl ?_
    refine go_getf_p (b := 232) dX12_keep_5 fl_12_151 ob_214 rfl pt_214_39 ?_
    refine go_iload_n dX12_keep_8 rfl ?_
    refine go_aload_n dX12_keep_9 rfl ?_
    refine go_getf_i (ki := 13) dX12_keep_10 fl_12_79 ob_214 rfl rfl (fun hf_10 => ?_)
    refine go_iastore dX12_keep_13 ar_232 (by omega) (by omega) ⟨by omega, by omega⟩ ?_
    refine go_iload_n dX12_keep_14 rfl ?_
    exact go_ret (v := g) rfl dX12_keep_15 (okZ (by omega)) ⟨rfl, by first | rw [if_pos (by omega)] | rw [if_neg (by omega)]⟩
theorem dX12_readNamed_0 : decode mX12_readNamed.2.1 0 = .ok (.aload_n 0, 1) := by decide +kernel
theorem dX12_readNamed_1 : decode mX12_readNamed.2.1 1 = .ok (.invokevirtual 166, 3) := by decide +kernel
theorem dX12_readNamed_4 : decode mX12_readNamed.2.1 4 = .ok (.ifCond .ne 9, 3) := by decide +kernel
theorem dX12_readNamed_7 : decode mX12_readNamed.2.1 7 = .ok (.aload_n 0, 1) := by decide +kernel
theorem dX12_readNamed_8 : decode mX12_readNamed.2.1 8 = .ok (.iconst 1, 1) := by decide +kernel
theorem dX12_readNamed_9 : decode mX12_readNamed.2.1 9 = .ok (.invokevirtual 72, 3) := by decide +kernel
theorem dX12_readNamed_12 : decode mX12_readNamed.2.1 12 = .ok (.ireturn, 1) := by decide +kernel
theorem dX12_readNamed_13 : decode mX12_readNamed.2.1 13 = .ok (.aload_n 0, 1) := by decide +kernel
theorem dX12_readNamed_14 : decode mX12_readNamed.2.1 14 = .ok (.aload_n 0, 1) := by decide +kernel
theorem dX12_readNamed_15 : decode mX12_readNamed.2.1 15 = .ok (.getfield 113, 3) := by decide +kernel
theorem dX12_readNamed_18 : decode mX12_readNamed.2.1 18 = .ok (.iload_n 1, 1) := by decide +kernel
theorem dX12_readNamed_19 : decode mX12_readNamed.2.1 19 = .ok (.iload_n 2, 1) := by decide +kernel
theorem dX12_readNamed_20 : decode mX12_readNamed.2.1 20 = .ok (.aload_n 0, 1) := by decide +kernel
theorem dX12_readNamed_21 : decode mX12_readNamed.2.1 21 = .ok (.getfield 43, 3) := by decide +kernel
theorem dX12_readNamed_24 : decode mX12_readNamed.2.1 24 = .ok (.invokestatic 170, 3) := by decide +kernel
theorem dX12_readNamed_27 : decode mX12_readNamed.2.1 27 = .ok (.putfield 79, 3) := by decide +kernel
theorem dX12_readNamed_30 : decode mX12_readNamed.2.1 30 = .ok (.aload_n 0, 1) := by decide +kernel
theorem dX12_readNamed_31 : decode mX12_readNamed.2.1 31 = .ok (.getfield 79, 3) := by decide +kernel
theorem dX12_readNamed_34 : decode mX12_readNamed.2.1 34 = .ok (.iconst (-1), 1) := by decide +kernel
theorem dX12_readNamed_35 : decode mX12_readNamed.2.1 35 = .ok (.if_icmp .ne 9, 3) := by decide +kernel
theorem dX12_readNamed_38 : decode mX12_readNamed.2.1 38 = .ok (.aload_n 0, 1) := by decide +kernel
theorem dX12_readNamed_39 : decode mX12_readNamed.2.1 39 = .ok (.iconst 3, 1) := by decide +kernel
theorem dX12_readNamed_40 : decode mX12_readNamed.2.1 40 = .ok (.invokevirtual 72, 3) := by decide +kernel
theorem dX12_readNamed_43 : decode mX12_readNamed.2.1 43 = .ok (.ireturn, 1) := by decide +kernel
theorem dX12_readNamed_44 : decode mX12_readNamed.2.1 44 = .ok (.aload_n 0, 1) := by decide +kernel
theorem dX12_readNamed_45 : decode mX12_readNamed.2.1 45 = .ok (.invokevirtual 82, 3) := by decide +kernel
theorem dX12_readNamed_48 : decode mX12_readNamed.2.1 48 = .ok (.iconst 1, 1) := by decide +kernel
theorem dX12_readNamed_49 : decode mX12_readNamed.2.1 49 = .ok (.ireturn, 1) := by decide +kernel
set_option maxRecDepth 4000 in
theorem ev_X12_readNamed {m : Mem} {G : Mem} {t : Int → Int} {kw : Int → Int} {n : Int} {lim : Int} {i : Int} {a : Nat} {b : Int} {c : Int} (htm : TM G t kw n lim m i) (hb0 : 0 ≤ b ∧ 0 ≤ c ∧ b + c ≤ 16) (hwr : ∀ k : Int, 0 ≤ k → k < c → Wr (G a k) (m 221 (b + k))) : Ev 0 4 mX12_readNamed [vr 214, vi b, vi c] m (fun r m' => RmP G t kw n lim m m' a c i r) := by
  refine Ev.of (L := [vr 214, vi b, vi c]) (by decide +kernel) rfl (Nat.le_of_ble_eq_true rfl) rfl (fun t ht => by cases ht; first | exact Or.inl rfl | exact Or.inr (Or.inl rfl) | exact Or.inr (Or.inr rfl)) (fun hcan => ?_)
  refine go_aload_n dX12_readNamed_0 rfl ?_
  refine go_callVp_z (as := []) (S := []) (b := 214) (ev_X12_isName (m := m) (G := G) (t := t) (kw := kw) (n := n) (lim := lim) (i := i) htm) rfl dX12_readNamed_1 cv_12_166 rfl rfl ob_214 rfl (by decide) (Nat.le_of_ble_eq_true rfl) (fun r_1 hr_1 ho_1 => ?_)
  refine go_if_ne (tgt := 13) dX12_readNamed_4 (by decide) ⟨by omega, by omega⟩ (fun h_4 => ?_) (fun h_4 => ?_)
  · have hK3 : G 4 i = 3 := by omega
    refine go_aload_n dX12_readNamed_13 rfl ?_
    refine go_aload_n dX12_readNamed_14 rfl ?_
    refine go_getf_p (b := 221) dX12_readNamed_15 fl_12_113 ob_214 rfl pt_214_19 ?_
    refine go_iload_n dX12_readNamed_18 rfl ?_
    refine go_iload_n dX12_readNamed_19 rfl ?_
    refine go_aload_n dX12_readNamed_20 rfl ?_
    refine go_getf_l (ki := 12) dX12_readNamed_21 fl_12_43 ob_214 rfl rfl (fun hf_21 => ?_)
    refine go_callSp_i (as := [vr 221, vi b, vi c, vl (m 214 12)]) (S := [vr 214]) (ev_X12_findIn (m := m) (a := 221) (b := b) (c := c) (w := (m 214 12)) ar_221 (by first | assumption | omega | exact ⟨by omega, by omega⟩ | (constructor <;> omega)) hf_21) rfl dX12_readNamed_24 cs_12_170 rfl rfl (by decide) (Nat.le_of_ble_eq_true rfl) (fun r_24 hr_24 ho_24 => ?_)
    rw [nm_fnd (htm.wd3 hK3) hwr] at hr_24
    have hnb := nameAt_b G a (G 6 i) c
    rw [← hr_24] at hnb
    refine go_putf_i (ki := 13) dX12_readNamed_27 fw_12_79 ob_214 rfl rfl ⟨by omega, by omega⟩ ?_
    refine go_aload_n dX12_readNamed_30 rfl ?_
    refine go_getf_i (ki := 13) dX12_readNamed_31 fl_12_79 ob_214 rfl rfl (fun hf_31 => ?_)
    rw [show ((wr m 214 13 r_24) 214 13 : Int) = r_24 from by rw [wr_self]] at hf_31 ⊢
    refine go_iconst dX12_readNamed_34 ?_
    refine go_icmp_ne (tgt := 44) dX12_readNamed_35 (by decide) ⟨by omega, by omega⟩ ⟨by omega, by omega⟩ (fun h_35 => ?_) (fun h_35 => ?_)
    · refine go_aload_n dX12_readNamed_44 rfl ?_
      refine go_callV_v (as := []) (S := []) (b := 214) (ev_X12_go (m := (wr m 214 13 r_24)) (G := G) (t := t) (kw := kw) (n := n) (lim := lim) (i := (i + 1)) ((htm.nx (by omega)).w (by decide) (by omega))) rfl dX12_readNamed_45 cv_12_82 rfl rfl ob_214 rfl (by decide) (Nat.le_of_ble_eq_true rfl) (fun m_45 hr_45 => ?_)
      refine go_iconst dX12_readNamed_48 ?_
      exact go_ret (v := 1) rfl dX12_readNamed_49 (okZ (by first | exact Or.inl rfl | exact Or.inr rfl | assumption | omega)) (Or.inl ⟨by unfold rmF; rw [if_pos hK3, if_neg (by omega)], rfl, ⟨(Lx.rf.w (by omega) (by omega)).tr hr_45.1.l, by rw [hr_45.1.2 10 (by decide) (by decide) (by decide) (by decide) (by decide) (by decide), wr_ni (by decide)], hr_45.2⟩, by rw [hr_45.1.2 13 (by decide) (by decide) (by decide) (by decide) (by decide) (by decide), wr_self]; exact hr_24⟩)
    · refine go_aload_n dX12_readNamed_38 rfl ?_
      refine go_iconst dX12_readNamed_39 ?_
      refine go_callV_z (as := [vi 3]) (S := []) (b := 214) (ev_X12_bad (m := (wr m 214 13 r_24)) (k := 3) (G := G) (t := t) (kw := kw) (n := n) (lim := lim) (i := i) (htm.w (by decide) (by omega)) (by first | assumption | omega | exact ⟨by omega, by omega⟩ | (constructor <;> omega))) rfl dX12_readNamed_40 cv_12_72 rfl rfl ob_214 rfl (by decide) (Nat.le_of_ble_eq_true rfl) (fun r_40 m_40 hr_40 ho_40 => ?_)
      exact go_ret (v := r_40) rfl dX12_readNamed_43 (okZ (by first | exact Or.inl rfl | exact Or.inr rfl | assumption | omega)) (Or.inr (by have hq : rmF G a c i = 3 := (by unfold rmF; rw [if_pos hK3, if_pos (by omega)]); rw [hq]; exact ⟨by decide, hr_40.1, NoT.tr (n := wr m 214 13 r_24) (Lx.rf.w (by omega) (by omega)) (NoT.b (by rw [hr_40.2, if_neg (by omega)]))⟩))
  · refine go_aload_n dX12_readNamed_7 rfl ?_
    refine go_iconst dX12_readNamed_8 ?_
    refine go_callV_z (as := [vi 1]) (S := []) (b := 214) (ev_X12_bad (m := m) (k := 1) (G := G) (t := t) (kw := kw) (n := n) (lim := lim) (i := i) htm (by first | assumption | omega | exact ⟨by omega, by omega⟩ | (constructor <;> omega))) rfl dX12_readNamed_9 cv_12_72 rfl rfl ob_214 rfl (by decide) (Nat.le_of_ble_eq_true rfl) (fun r_9 m_9 hr_9 ho_9 => ?_)
    exact go_ret (v := r_9) rfl dX12_readNamed_12 (okZ (by first | exact Or.inl rfl | exact Or.inr rfl | assumption | omega)) (Or.inr ⟨by unfold rmF; rw [if_neg (by omega)]; decide, hr_9.1, by unfold rmF; rw [if_neg (by omega)]; exact NoT.b (by rw [hr_9.2]; congr 2; split <;> rfl)⟩)
theorem dX12_readSide_0 : decode mX12_readSide.2.1 0 = .ok (.bipush 9, 2) := by decide +kernel
theorem dX12_readSide_2 : decode mX12_readSide.2.1 2 = .ok (.istore_n 1, 1) := by decide +kernel
theorem dX12_readSide_3 : decode mX12_readSide.2.1 3 = .ok (.iload_n 1, 1) := by decide +kernel
theorem dX12_readSide_4 : decode mX12_readSide.2.1 4 = .ok (.bipush 12, 2) := by decide +kernel
theorem dX12_readSide_6 : decode mX12_readSide.2.1 6 = .ok (.if_icmp .gt 17, 3) := by decide +kernel
theorem dX12_readSide_9 : decode mX12_readSide.2.1 9 = .ok (.aload_n 0, 1) := by decide +kernel
theorem dX12_readSide_10 : decode mX12_readSide.2.1 10 = .ok (.iload_n 1, 1) := by decide +kernel
theorem dX12_readSide_11 : decode mX12_readSide.2.1 11 = .ok (.invokevirtual 202, 3) := by decide +kernel
theorem dX12_readSide_14 : decode mX12_readSide.2.1 14 = .ok (.ifCond .ne 9, 3) := by decide +kernel
theorem dX12_readSide_17 : decode mX12_readSide.2.1 17 = .ok (.iinc 1 1, 3) := by decide +kernel
theorem dX12_readSide_20 : decode mX12_readSide.2.1 20 = .ok (.goto (-17), 3) := by decide +kernel
theorem dX12_readSide_23 : decode mX12_readSide.2.1 23 = .ok (.iload_n 1, 1) := by decide +kernel
theorem dX12_readSide_24 : decode mX12_readSide.2.1 24 = .ok (.bipush 12, 2) := by decide +kernel
theorem dX12_readSide_26 : decode mX12_readSide.2.1 26 = .ok (.if_icmp .le 9, 3) := by decide +kernel
theorem dX12_readSide_29 : decode mX12_readSide.2.1 29 = .ok (.aload_n 0, 1) := by decide +kernel
theorem dX12_readSide_30 : decode mX12_readSide.2.1 30 = .ok (.iconst 1, 1) := by decide +kernel
theorem dX12_readSide_31 : decode mX12_readSide.2.1 31 = .ok (.invokevirtual 72, 3) := by decide +kernel
theorem dX12_readSide_34 : decode mX12_readSide.2.1 34 = .ok (.ireturn, 1) := by decide +kernel
theorem dX12_readSide_35 : decode mX12_readSide.2.1 35 = .ok (.aload_n 0, 1) := by decide +kernel
theorem dX12_readSide_36 : decode mX12_readSide.2.1 36 = .ok (.iload_n 1, 1) := by decide +kernel
theorem dX12_readSide_37 : decode mX12_readSide.2.1 37 = .ok (.bipush 9, 2) := by decide +kernel
theorem dX12_readSide_39 : decode mX12_readSide.2.1 39 = .ok (.isub, 1) := by decide +kernel
theorem dX12_readSide_40 : decode mX12_readSide.2.1 40 = .ok (.putfield 79, 3) := by decide +kernel
theorem dX12_readSide_43 : decode mX12_readSide.2.1 43 = .ok (.aload_n 0, 1) := by decide +kernel
theorem dX12_readSide_44 : decode mX12_readSide.2.1 44 = .ok (.invokevirtual 82, 3) := by decide +kernel
theorem dX12_readSide_47 : decode mX12_readSide.2.1 47 = .ok (.iconst 1, 1) := by decide +kernel
theorem dX12_readSide_48 : decode mX12_readSide.2.1 48 = .ok (.ireturn, 1) := by decide +kernel
set_option maxRecDepth 4000 in
theorem ev_X12_readSide {m : Mem} {G : Mem} {t : Int → Int} {kw : Int → Int} {n : Int} {lim : Int} {i : Int} (htm : TM G t kw n lim m i) : Ev 0 4 mX12_readSide [vr 214] m (fun r m' => SdP G t kw n lim m m' i r) := by
  refine Ev.of (L := [vr 214, un]) (by decide +kernel) rfl (Nat.le_of_ble_eq_true rfl) rfl (fun t ht => by cases ht; first | exact Or.inl rfl | exact Or.inr (Or.inl rfl) | exact Or.inr (Or.inr rfl)) (fun hcan => ?_)
  refine go_bipush dX12_readSide_0 (by decide) ?_
  refine go_istore_n (L' := [vr 214, vi 9]) dX12_readSide_2 (by decide) rfl rfl ?_
  have lp_3 : ∀ (n_3 : Nat) (w : Int) , (9 ≤ w) → (w ≤ 13) → (∀ j : Int, 9 ≤ j → j < w → G 4 i ≠ 200 + j) → (13 - w).toNat < n_3 → Go 0 4 mX12_readSide (fun r m' => SdP G t kw n lim m m' i r) 3 [vr 214, vi w] [] m := by
    intro n_3
    induction n_3 with
    | zero => intro w hw0 hw1 hno hmu; exact absurd hmu (Nat.not_lt_zero _)
    | succ n_3 ih_3 =>
      intro w hw0 hw1 hno hmu
      refine go_iload_n dX12_readSide_3 rfl ?_
      refine go_bipush dX12_readSide_4 (by decide) ?_
      refine go_icmp_gt (tgt := 23) dX12_readSide_6 (by decide) ⟨by omega, by omega⟩ ⟨by omega, by omega⟩ (fun h_6 => ?_) (fun h_6 => ?_)
      · refine go_iload_n dX12_readSide_23 rfl ?_
        refine go_bipush dX12_readSide_24 (by decide) ?_
        refine go_icmp_le (tgt := 35) dX12_readSide_26 (by decide) ⟨by omega, by omega⟩ ⟨by omega, by omega⟩ (fun h_26 => ?_) (fun h_26 => ?_)
        · exfalso; omega
        · refine go_aload_n dX12_readSide_29 rfl ?_
          refine go_iconst dX12_readSide_30 ?_
          refine go_callV_z (as := [vi 1]) (S := []) (b := 214) (ev_X12_bad (m := m) (k := 1) (G := G) (t := t) (kw := kw) (n := n) (lim := lim) (i := i) htm (by first | assumption | omega | exact ⟨by omega, by omega⟩ | (constructor <;> omega))) rfl dX12_readSide_31 cv_12_72 rfl rfl ob_214 rfl (by decide) (Nat.le_of_ble_eq_true rfl) (fun r_31 m_31 hr_31 ho_31 => ?_)
          exact go_ret (v := r_31) rfl dX12_readSide_34 (okZ (by first | exact Or.inl rfl | exact Or.inr rfl | assumption | omega)) (Or.inr (by have hq : sdF G i = 1 := sd_no (fun j a b => hno j a (by omega)); rw [hq]; exact ⟨by decide, hr_31.1, NoT.b (by rw [hr_31.2]; congr 2; split <;> rfl)⟩))
      · refine go_aload_n dX12_readSide_9 rfl ?_
        refine go_iload_n dX12_readSide_10 rfl ?_
        refine go_callVp_z (as := [vi w]) (S := []) (b := 214) (ev_X12_isWord (m := m) (k := w) (G := G) (t := t) (kw := kw) (n := n) (lim := lim) (i := i) htm (by first | assumption | omega | exact ⟨by omega, by omega⟩ | (constructor <;> omega))) rfl dX12_readSide_11 cv_12_202 rfl rfl ob_214 rfl (by decide) (Nat.le_of_ble_eq_true rfl) (fun r_11 hr_11 ho_11 => ?_)
        refine go_if_ne (tgt := 23) dX12_readSide_14 (by decide) ⟨by omega, by omega⟩ (fun h_14 => ?_) (fun h_14 => ?_)
        · refine go_iload_n dX12_readSide_23 rfl ?_
          refine go_bipush dX12_readSide_24 (by decide) ?_
          refine go_icmp_le (tgt := 35) dX12_readSide_26 (by decide) ⟨by omega, by omega⟩ ⟨by omega, by omega⟩ (fun h_26 => ?_) (fun h_26 => ?_)
          · refine go_aload_n dX12_readSide_35 rfl ?_
            refine go_iload_n dX12_readSide_36 rfl ?_
            refine go_bipush dX12_readSide_37 (by decide) ?_
            refine go_isub dX12_readSide_39 ?_
            refine go_putf_i (ki := 13) dX12_readSide_40 fw_12_79 ob_214 rfl rfl ⟨by omega, by omega⟩ ?_
            refine go_aload_n dX12_readSide_43 rfl ?_
            refine go_callV_v (as := []) (S := []) (b := 214) (ev_X12_go (m := (wr m 214 13 (w - 9))) (G := G) (t := t) (kw := kw) (n := n) (lim := lim) (i := (i + 1)) ((htm.nx (by omega)).w (by decide) (by omega))) rfl dX12_readSide_44 cv_12_82 rfl rfl ob_214 rfl (by decide) (Nat.le_of_ble_eq_true rfl) (fun m_44 hr_44 => ?_)
            refine go_iconst dX12_readSide_47 ?_
            exact go_ret (v := 1) rfl dX12_readSide_48 (okZ (by first | exact Or.inl rfl | exact Or.inr rfl | assumption | omega)) (Or.inl ⟨by unfold sdF; rw [if_pos (by omega)], rfl, ⟨(Lx.rf.w (by omega) (by omega)).tr hr_44.1.l, by rw [hr_44.1.2 10 (by decide) (by decide) (by decide) (by decide) (by decide) (by decide), wr_ni (by decide)], hr_44.2⟩, by rw [hr_44.1.2 13 (by decide) (by decide) (by decide) (by decide) (by decide) (by decide), wr_self]; omega⟩)
          · exfalso; omega
        · refine go_iinc (L' := [vr 214, vi (w + 1)]) dX12_readSide_17 rfl (by decide) rfl rfl ?_
          refine go_goto (tgt := 3) dX12_readSide_20 (by decide) ?_
          exact ih_3 (w + 1) (by first | assumption | omega | rfl) (by first | assumption | omega | rfl) (fun j a b => by by_cases q : j < w; exact hno j a q; (rw [show j = w by omega]; omega)) (by omega)
  exact lp_3 _ 9 (by first | assumption | omega | rfl) (by first | assumption | omega | rfl) (fun j a b => by omega) (Nat.lt_succ_self _)
theorem dX12_readDoes_0 : decode mX12_readDoes.2.1 0 = .ok (.iconst 5, 1) := by decide +kernel
theorem dX12_readDoes_1 : decode mX12_readDoes.2.1 1 = .ok (.istore_n 2, 1) := by decide +kernel
theorem dX12_readDoes_2 : decode mX12_readDoes.2.1 2 = .ok (.iload_n 2, 1) := by decide +kernel
theorem dX12_readDoes_3 : decode mX12_readDoes.2.1 3 = .ok (.bipush 7, 2) := by decide +kernel
theorem dX12_readDoes_5 : decode mX12_readDoes.2.1 5 = .ok (.if_icmp .gt 17, 3) := by decide +kernel
theorem dX12_readDoes_8 : decode mX12_readDoes.2.1 8 = .ok (.aload_n 0, 1) := by decide +kernel
theorem dX12_readDoes_9 : decode mX12_readDoes.2.1 9 = .ok (.iload_n 2, 1) := by decide +kernel
theorem dX12_readDoes_10 : decode mX12_readDoes.2.1 10 = .ok (.invokevirtual 202, 3) := by decide +kernel
theorem dX12_readDoes_13 : decode mX12_readDoes.2.1 13 = .ok (.ifCond .ne 9, 3) := by decide +kernel
theorem dX12_readDoes_16 : decode mX12_readDoes.2.1 16 = .ok (.iinc 2 1, 3) := by decide +kernel
theorem dX12_readDoes_19 : decode mX12_readDoes.2.1 19 = .ok (.goto (-17), 3) := by decide +kernel
theorem dX12_readDoes_22 : decode mX12_readDoes.2.1 22 = .ok (.iload_n 2, 1) := by decide +kernel
theorem dX12_readDoes_23 : decode mX12_readDoes.2.1 23 = .ok (.bipush 7, 2) := by decide +kernel
theorem dX12_readDoes_25 : decode mX12_readDoes.2.1 25 = .ok (.if_icmp .le 9, 3) := by decide +kernel
theorem dX12_readDoes_28 : decode mX12_readDoes.2.1 28 = .ok (.aload_n 0, 1) := by decide +kernel
theorem dX12_readDoes_29 : decode mX12_readDoes.2.1 29 = .ok (.iconst 1, 1) := by decide +kernel
theorem dX12_readDoes_30 : decode mX12_readDoes.2.1 30 = .ok (.invokevirtual 72, 3) := by decide +kernel
theorem dX12_readDoes_33 : decode mX12_readDoes.2.1 33 = .ok (.ireturn, 1) := by decide +kernel
theorem dX12_readDoes_34 : decode mX12_readDoes.2.1 34 = .ok (.aload_n 0, 1) := by decide +kernel
theorem dX12_readDoes_35 : decode mX12_readDoes.2.1 35 = .ok (.getfield 151, 3) := by decide +kernel
theorem dX12_readDoes_38 : decode mX12_readDoes.2.1 38 = .ok (.iload_n 1, 1) := by decide +kernel
theorem dX12_readDoes_39 : decode mX12_readDoes.2.1 39 = .ok (.iload_n 2, 1) := by decide +kernel
theorem dX12_readDoes_40 : decode mX12_readDoes.2.1 40 = .ok (.iconst 5, 1) := by decide +kernel
theorem dX12_readDoes_41 : decode mX12_readDoes.2.1 41 = .ok (.isub, 1) := by decide +kernel
theorem dX12_readDoes_42 : decode mX12_readDoes.2.1 42 = .ok (.iastore, 1) := by decide +kernel
theorem dX12_readDoes_43 : decode mX12_readDoes.2.1 43 = .ok (.aload_n 0, 1) := by decide +kernel
theorem dX12_readDoes_44 : decode mX12_readDoes.2.1 44 = .ok (.invokevirtual 82, 3) := by decide +kernel
theorem dX12_readDoes_47 : decode mX12_readDoes.2.1 47 = .ok (.aload_n 0, 1) := by decide +kernel
theorem dX12_readDoes_48 : decode mX12_readDoes.2.1 48 = .ok (.getfield 151, 3) := by decide +kernel
theorem dX12_readDoes_51 : decode mX12_readDoes.2.1 51 = .ok (.iload_n 1, 1) := by decide +kernel
theorem dX12_readDoes_52 : decode mX12_readDoes.2.1 52 = .ok (.iaload, 1) := by decide +kernel
theorem dX12_readDoes_53 : decode mX12_readDoes.2.1 53 = .ok (.lookupswitch 80 #[(0, 27), (1, 68)], 27) := by decide +kernel
theorem dX12_readDoes_80 : decode mX12_readDoes.2.1 80 = .ok (.aload_n 0, 1) := by decide +kernel
theorem dX12_readDoes_81 : decode mX12_readDoes.2.1 81 = .ok (.iload_n 1, 1) := by decide +kernel
theorem dX12_readDoes_82 : decode mX12_readDoes.2.1 82 = .ok (.iconst 2, 1) := by decide +kernel
theorem dX12_readDoes_83 : decode mX12_readDoes.2.1 83 = .ok (.iadd, 1) := by decide +kernel
theorem dX12_readDoes_84 : decode mX12_readDoes.2.1 84 = .ok (.aload_n 0, 1) := by decide +kernel
theorem dX12_readDoes_85 : decode mX12_readDoes.2.1 85 = .ok (.iconst 0, 1) := by decide +kernel
theorem dX12_readDoes_86 : decode mX12_readDoes.2.1 86 = .ok (.aload_n 0, 1) := by decide +kernel
theorem dX12_readDoes_87 : decode mX12_readDoes.2.1 87 = .ok (.getfield 98, 3) := by decide +kernel
theorem dX12_readDoes_90 : decode mX12_readDoes.2.1 90 = .ok (.iconst 2, 1) := by decide +kernel
theorem dX12_readDoes_91 : decode mX12_readDoes.2.1 91 = .ok (.iaload, 1) := by decide +kernel
theorem dX12_readDoes_92 : decode mX12_readDoes.2.1 92 = .ok (.invokevirtual 396, 3) := by decide +kernel
theorem dX12_readDoes_95 : decode mX12_readDoes.2.1 95 = .ok (.invokevirtual 399, 3) := by decide +kernel
theorem dX12_readDoes_98 : decode mX12_readDoes.2.1 98 = .ok (.ifCond .eq 21, 3) := by decide +kernel
theorem dX12_readDoes_101 : decode mX12_readDoes.2.1 101 = .ok (.aload_n 0, 1) := by decide +kernel
theorem dX12_readDoes_102 : decode mX12_readDoes.2.1 102 = .ok (.iload_n 1, 1) := by decide +kernel
theorem dX12_readDoes_103 : decode mX12_readDoes.2.1 103 = .ok (.iconst 3, 1) := by decide +kernel
theorem dX12_readDoes_104 : decode mX12_readDoes.2.1 104 = .ok (.iadd, 1) := by decide +kernel
theorem dX12_readDoes_105 : decode mX12_readDoes.2.1 105 = .ok (.aload_n 0, 1) := by decide +kernel
theorem dX12_readDoes_106 : decode mX12_readDoes.2.1 106 = .ok (.invokevirtual 402, 3) := by decide +kernel
theorem dX12_readDoes_109 : decode mX12_readDoes.2.1 109 = .ok (.invokevirtual 399, 3) := by decide +kernel
theorem dX12_readDoes_112 : decode mX12_readDoes.2.1 112 = .ok (.ifCond .eq 7, 3) := by decide +kernel
theorem dX12_readDoes_115 : decode mX12_readDoes.2.1 115 = .ok (.iconst 1, 1) := by decide +kernel
theorem dX12_readDoes_116 : decode mX12_readDoes.2.1 116 = .ok (.goto 4, 3) := by decide +kernel
theorem dX12_readDoes_119 : decode mX12_readDoes.2.1 119 = .ok (.iconst 0, 1) := by decide +kernel
theorem dX12_readDoes_120 : decode mX12_readDoes.2.1 120 = .ok (.ireturn, 1) := by decide +kernel
theorem dX12_readDoes_121 : decode mX12_readDoes.2.1 121 = .ok (.aload_n 0, 1) := by decide +kernel
theorem dX12_readDoes_122 : decode mX12_readDoes.2.1 122 = .ok (.iload_n 1, 1) := by decide +kernel
theorem dX12_readDoes_123 : decode mX12_readDoes.2.1 123 = .ok (.iconst 3, 1) := by decide +kernel
theorem dX12_readDoes_124 : decode mX12_readDoes.2.1 124 = .ok (.iadd, 1) := by decide +kernel
theorem dX12_readDoes_125 : decode mX12_readDoes.2.1 125 = .ok (.aload_n 0, 1) := by decide +kernel
theorem dX12_readDoes_126 : decode mX12_readDoes.2.1 126 = .ok (.invokevirtual 402, 3) := by decide +kernel
theorem dX12_readDoes_129 : decode mX12_readDoes.2.1 129 = .ok (.invokevirtual 399, 3) := by decide +kernel
theorem dX12_readDoes_132 : decode mX12_readDoes.2.1 132 = .ok (.ireturn, 1) := by decide +kernel
theorem dX12_readDoes_133 : decode mX12_readDoes.2.1 133 = .ok (.iconst 1, 1) := by decide +kernel
theorem dX12_readDoes_134 : decode mX12_readDoes.2.1 134 = .ok (.ireturn, 1) := by decide +kernel
set_option maxRecDepth 4000 in
theorem ev_X12_readDoes {m : Mem} {G : Mem} {t : Int → Int} {kw : Int → Int} {n : Int} {lim : Int} {i : Int} {p : Int} (htm : TM G t kw n lim m i) (hb : Bg G 8 18 (m 216)) (hdn : DnOk G 8) (hnm : NmR G 8 (m 221)) (hp : 0 ≤ p ∧ p + 4 ≤ 160) : Ev 0 5 mX12_readDoes [vr 214, vi p] m (fun r m' => DoP G t kw n lim m m' p i r) := by
  refine Ev.of (L := [vr 214, vi p, un]) (by decide +kernel) rfl (Nat.le_of_ble_eq_true rfl) rfl (fun t ht => by cases ht; first | exact Or.inl rfl | exact Or.inr (Or.inl rfl) | exact Or.inr (Or.inr rfl)) (fun hcan => ?_)
  obtain ⟨⟨hd0, hd1⟩, ⟨hd2, hd3⟩, ⟨hd4, hd5⟩, ⟨hd6, hd7⟩, ⟨hd8, hd9⟩, hdf, hdp, hdq⟩ := id hdn
  refine go_iconst dX12_readDoes_0 ?_
  refine go_istore_n (L' := [vr 214, vi p, vi 5]) dX12_readDoes_1 (by decide) rfl rfl ?_
  have lp_2 : ∀ (n_2 : Nat) (w : Int) , (5 ≤ w) → (w ≤ 8) → (∀ j : Int, 5 ≤ j → j < w → G 4 i ≠ 200 + j) → (8 - w).toNat < n_2 → Go 0 5 mX12_readDoes (fun r m' => DoP G t kw n lim m m' p i r) 2 [vr 214, vi p, vi w] [] m := by
    intro n_2
    induction n_2 with
    | zero => intro w hw0 hw1 hno hmu; exact absurd hmu (Nat.not_lt_zero _)
    | succ n_2 ih_2 =>
      intro w hw0 hw1 hno hmu
      refine go_iload_n dX12_readDoes_2 rfl ?_
      refine go_bipush dX12_readDoes_3 (by decide) ?_
      refine go_icmp_gt (tgt := 22) dX12_readDoes_5 (by decide) ⟨by omega, by omega⟩ ⟨by omega, by omega⟩ (fun h_5 => ?_) (fun h_5 => ?_)
      · refine go_iload_n dX12_readDoes_22 rfl ?_
        refine go_bipush dX12_readDoes_23 (by decide) ?_
        refine go_icmp_le (tgt := 34) dX12_readDoes_25 (by decide) ⟨by omega, by omega⟩ ⟨by omega, by omega⟩ (fun h_25 => ?_) (fun h_25 => ?_)
        · exfalso; omega
        · refine go_aload_n dX12_readDoes_28 rfl ?_
          refine go_iconst dX12_readDoes_29 ?_
          refine go_callV_z (as := [vi 1]) (S := []) (b := 214) (ev_X12_bad (m := m) (k := 1) (G := G) (t := t) (kw := kw) (n := n) (lim := lim) (i := i) htm (by first | assumption | omega | exact ⟨by omega, by omega⟩ | (constructor <;> omega))) rfl dX12_readDoes_30 cv_12_72 rfl rfl ob_214 rfl (by decide) (Nat.le_of_ble_eq_true rfl) (fun r_30 m_30 hr_30 ho_30 => ?_)
          exact go_ret (v := r_30) rfl dX12_readDoes_33 (okZ (by first | exact Or.inl rfl | exact Or.inr rfl | assumption | omega)) (by have hq : deF G i = (1, i) := (by have q5 := hno 5 (by omega) (by omega); have q6 := hno 6 (by omega) (by omega); have q7 := hno 7 (by omega) (by omega); unfold deF; rw [if_neg (by omega), if_neg (by omega), if_neg (by omega)]); have z := NoT.b (G := G) (m := m) (m' := m_30) (f := 1) (i := i) (by rw [hr_30.2]; congr 2; split <;> rfl); rw [DoP, hq]; exact ⟨z.1.b, Or.inr ⟨(show (1 : Int) ≠ 0 by decide), hr_30.1, z.2.1, z.2.2⟩⟩)
      · refine go_aload_n dX12_readDoes_8 rfl ?_
        refine go_iload_n dX12_readDoes_9 rfl ?_
        refine go_callVp_z (as := [vi w]) (S := []) (b := 214) (ev_X12_isWord (m := m) (k := w) (G := G) (t := t) (kw := kw) (n := n) (lim := lim) (i := i) htm (by first | assumption | omega | exact ⟨by omega, by omega⟩ | (constructor <;> omega))) rfl dX12_readDoes_10 cv_12_202 rfl rfl ob_214 rfl (by decide) (Nat.le_of_ble_eq_true rfl) (fun r_10 hr_10 ho_10 => ?_)
        refine go_if_ne (tgt := 22) dX12_readDoes_13 (by decide) ⟨by omega, by omega⟩ (fun h_13 => ?_) (fun h_13 => ?_)
        · refine go_iload_n dX12_readDoes_22 rfl ?_
          refine go_bipush dX12_readDoes_23 (by decide) ?_
          refine go_icmp_le (tgt := 34) dX12_readDoes_25 (by decide) ⟨by omega, by omega⟩ ⟨by omega, by omega⟩ (fun h_25 => ?_) (fun h_25 => ?_)
          · refine go_aload_n dX12_readDoes_34 rfl ?_
            refine go_getf_p (b := 232) dX12_readDoes_35 fl_12_151 ob_214 rfl pt_214_39 ?_
            refine go_iload_n dX12_readDoes_38 rfl ?_
            refine go_iload_n dX12_readDoes_39 rfl ?_
            refine go_iconst dX12_readDoes_40 ?_
            refine go_isub dX12_readDoes_41 ?_
            refine go_iastore dX12_readDoes_42 ar_232 (by omega) (by omega) ⟨by omega, by omega⟩ ?_
            refine go_aload_n dX12_readDoes_43 rfl ?_
            refine go_callV_v (as := []) (S := []) (b := 214) (ev_X12_go (m := (wr m 232 p (w - 5))) (G := G) (t := t) (kw := kw) (n := n) (lim := lim) (i := (i + 1)) ((htm.nx (by omega)).w (by decide) (by omega))) rfl dX12_readDoes_44 cv_12_82 rfl rfl ob_214 rfl (by decide) (Nat.le_of_ble_eq_true rfl) (fun m_44 hr_44 => ?_)
            have b44 : Bx m m_44 p := (Bx.rf.w (by omega) (by omega)).tr hr_44.1.l.b
            have hb44 : Bg G 8 18 (m_44 216) := by rw [hr_44.1.1 216 (by decide), wr_row (by decide)]; exact hb
            have f44 : m_44 214 10 = m 214 10 := by rw [hr_44.1.2 10 (by decide) (by decide) (by decide) (by decide) (by decide) (by decide), wr_na (by decide)]
            have l44 : m_44 232 = wr m 232 p (w - 5) 232 := hr_44.1.1 232 (by decide)
            refine go_aload_n dX12_readDoes_47 rfl ?_
            refine go_getf_p (b := 232) dX12_readDoes_48 fl_12_151 ob_214 rfl pt_214_39 ?_
            refine go_iload_n dX12_readDoes_51 rfl ?_
            refine go_iaload dX12_readDoes_52 ar_232 (by omega) (by omega) (fun he_52 => ?_)
            rw [show (m_44 232 p : Int) = (w - 5) from by rw [hr_44.1.1 232 (by decide), wr_self]] at he_52 ⊢
            by_cases hk_53_0 : (w - 5) = 0
            · refine go_lswitch (off := 27) (tgt := 80) dX12_readDoes_53 ⟨by omega, by omega⟩ (by decide) (by rw [hk_53_0] <;> rfl) (by decide) ?_
              refine go_aload_n dX12_readDoes_80 rfl ?_
              refine go_iload_n dX12_readDoes_81 rfl ?_
              refine go_iconst dX12_readDoes_82 ?_
              refine go_iadd dX12_readDoes_83 ?_
              refine go_aload_n dX12_readDoes_84 rfl ?_
              refine go_iconst dX12_readDoes_85 ?_
              refine go_aload_n dX12_readDoes_86 rfl ?_
              refine go_getf_p (b := 216) dX12_readDoes_87 fl_12_98 ob_214 rfl pt_214_14 ?_
              refine go_iconst dX12_readDoes_90 ?_
              refine go_iaload dX12_readDoes_91 ar_216 (by omega) (by omega) (fun he_91 => ?_)
              rw [show (m_44 216 2 : Int) = (G 8 2) from hb44.n2] at he_91 ⊢
              refine go_callV_z (as := [vi 0, vi (G 8 2)]) (S := [vi (p + 2), vr 214]) (b := 214) (ev_X12_readNamed (m := m_44) (b := 0) (c := (G 8 2)) (G := G) (t := t) (kw := kw) (n := n) (lim := lim) (i := (i + 1)) (a := (8 + 1)) hr_44.2 (by first | assumption | omega | exact ⟨by omega, by omega⟩ | (constructor <;> omega)) (fun k a b => by rw [hr_44.1.1 221 (by decide), wr_row (by decide), Int.zero_add]; exact hnm.1 k a b)) rfl dX12_readDoes_92 cv_12_396 rfl rfl ob_214 rfl (by decide) (Nat.le_of_ble_eq_true rfl) (fun r_92 m_92 hr_92 ho_92 => ?_)
              rcases hr_92 with ⟨f_92, e_92, ok_92, v_92⟩ | ⟨f_92, e_92, no_92⟩
              · refine go_callV_z (as := [vi (p + 2), vi r_92]) (S := []) (b := 214) (ev_X12_keep (m := m_92) (k := (p + 2)) (g := r_92) (by omega) (by first | assumption | omega | exact ⟨by omega, by omega⟩ | (constructor <;> omega))) rfl dX12_readDoes_95 cv_12_399 rfl rfl ob_214 rfl (by decide) (Nat.le_of_ble_eq_true rfl) (fun r_95 m_95 hr_95 ho_95 => ?_)
                obtain ⟨e_95, hm_95⟩ := hr_95
                first | rw [if_pos e_92] at hm_95 | rw [if_neg (by omega)] at hm_95
                refine go_if_eq (tgt := 119) dX12_readDoes_98 (by decide) ⟨by omega, by omega⟩ (fun h_98 => ?_) (fun h_98 => ?_)
                · exfalso; omega
                · refine go_aload_n dX12_readDoes_101 rfl ?_
                  refine go_iload_n dX12_readDoes_102 rfl ?_
                  refine go_iconst dX12_readDoes_103 ?_
                  refine go_iadd dX12_readDoes_104 ?_
                  refine go_aload_n dX12_readDoes_105 rfl ?_
                  refine go_callV_z (as := []) (S := [vi (p + 3), vr 214]) (b := 214) (ev_X12_readSide (m := m_95) (G := G) (t := t) (kw := kw) (n := n) (lim := lim) (i := (i + 1 + 1)) (by rw [hm_95]; exact ok_92.2.2.w (by decide) (by omega))) rfl dX12_readDoes_106 cv_12_402 rfl rfl ob_214 rfl (by decide) (Nat.le_of_ble_eq_true rfl) (fun r_106 m_106 hr_106 ho_106 => ?_)
                  rcases hr_106 with ⟨f_106, e_106, ok_106, v_106⟩ | ⟨f_106, e_106, no_106⟩
                  · refine go_callV_z (as := [vi (p + 3), vi r_106]) (S := []) (b := 214) (ev_X12_keep (m := m_106) (k := (p + 3)) (g := r_106) (by omega) (by first | assumption | omega | exact ⟨by omega, by omega⟩ | (constructor <;> omega))) rfl dX12_readDoes_109 cv_12_399 rfl rfl ob_214 rfl (by decide) (Nat.le_of_ble_eq_true rfl) (fun r_109 m_109 hr_109 ho_109 => ?_)
                    obtain ⟨e_109, hm_109⟩ := hr_109
                    first | rw [if_pos e_106] at hm_109 | rw [if_neg (by omega)] at hm_109
                    refine go_if_eq (tgt := 119) dX12_readDoes_112 (by decide) ⟨by omega, by omega⟩ (fun h_112 => ?_) (fun h_112 => ?_)
                    · exfalso; omega
                    · refine go_iconst dX12_readDoes_115 ?_
                      refine go_goto (tgt := 120) dX12_readDoes_116 (by decide) ?_
                      refine go_ret (v := 1) rfl dX12_readDoes_120 (okZ (by first | exact Or.inl rfl | exact Or.inr rfl | assumption | omega)) ?_
                      have hK : G 4 i = 205 := by omega
                      rw [DoP, deF_205 hK]
                      first
                      | (have f9 : ffF G (i + 1) ≠ 0 := f_92
                         rw [if_pos f9]
                         refine ⟨b44.tr (by rw [hm_95]; exact no_92.1.b), Or.inr ⟨f9, rfl, by rw [hm_95]; exact no_92.2.1, by rw [hm_95]; exact no_92.2.2⟩⟩)
                      | (have f9 : ¬ ffF G (i + 1) ≠ 0 := fun z => z f_92
                         rw [if_neg f9, if_pos (show sdF G (i + 2) ≠ 0 by rw [show i + 2 = i + 1 + 1 by omega]; exact f_106)]
                         rw [show i + 1 + 1 = i + 2 by omega] at no_106
                         have k95 : Bx m m_95 p := b44.tr (ok_92.1.b.tr (by rw [hm_95]; exact Bx.rf.w (by omega) (by omega)))
                         refine ⟨k95.tr (by rw [hm_109]; exact no_106.1.b), Or.inr ⟨by rw [show i + 2 = i + 1 + 1 by omega]; exact f_106, rfl, by rw [hm_109]; exact no_106.2.1, by rw [hm_109]; exact no_106.2.2⟩⟩)
                      | (have f9 : ¬ ffF G (i + 1) ≠ 0 := fun z => z f_92
                         rw [if_neg f9, if_neg (show ¬ sdF G (i + 2) ≠ 0 by rw [show i + 2 = i + 1 + 1 by omega]; exact fun z => z f_106)]
                         have z106 := ok_106.2.2
                         rw [show i + 1 + 1 + 1 = i + 3 by omega] at z106
                         have l95 : m_95 232 = wr m_44 232 (p + 2) (nameAt G (8 + 1) (G 6 (i + 1)) (G 8 2)) 232 := by rw [hm_95, wr_rowat, wr_rowat, v_92, ok_92.1.1 232 (by decide)]
                         have l109 : ∀ j : Int, m_109 232 j = if j = p + 3 then G 4 (i + 2) - 209 else m_95 232 j := fun j => by rw [hm_109, wr_rowat, v_106, ok_106.1.1 232 (by decide), show i + 1 + 1 = i + 2 by omega]
                         have k95 : Bx m m_95 p := b44.tr (ok_92.1.b.tr (by rw [hm_95]; exact Bx.rf.w (by omega) (by omega)))
                         refine ⟨k95.tr (ok_106.1.b.tr (by rw [hm_109]; exact Bx.rf.w (by omega) (by omega))), Or.inl ⟨rfl, rfl, ?_, by rw [hm_109]; exact z106.w (by decide) (by omega), ?_, Or.inl ⟨hK, ?_, ?_, ?_⟩⟩⟩
                         · rw [hm_109, wr_na (by decide), ok_106.2.1, hm_95, wr_na (by decide), ok_92.2.1]; exact f44
                         · rw [l109, if_neg (by omega), l95, wr_ni (by omega), l44, wr_ni (by omega)]
                         · rw [l109, if_neg (by omega), l95, wr_ni (by omega), l44, wr_self]; omega
                         · rw [l109, if_neg (by omega), l95, wr_self]
                         · rw [l109, if_pos rfl])
                  · refine go_callV_z (as := [vi (p + 3), vi r_106]) (S := []) (b := 214) (ev_X12_keep (m := m_106) (k := (p + 3)) (g := r_106) (by omega) (by first | assumption | omega | exact ⟨by omega, by omega⟩ | (constructor <;> omega))) rfl dX12_readDoes_109 cv_12_399 rfl rfl ob_214 rfl (by decide) (Nat.le_of_ble_eq_true rfl) (fun r_109 m_109 hr_109 ho_109 => ?_)
                    obtain ⟨e_109, hm_109⟩ := hr_109
                    first | rw [if_pos e_106] at hm_109 | rw [if_neg (by omega)] at hm_109
                    refine go_if_eq (tgt := 119) dX12_readDoes_112 (by decide) ⟨by omega, by omega⟩ (fun h_112 => ?_) (fun h_112 => ?_)
                    · refine go_iconst dX12_readDoes_119 ?_
                      refine go_ret (v := 0) rfl dX12_readDoes_120 (okZ (by first | exact Or.inl rfl | exact Or.inr rfl | assumption | omega)) ?_
                      have hK : G 4 i = 205 := by omega
                      rw [DoP, deF_205 hK]
                      first
                      | (have f9 : ffF G (i + 1) ≠ 0 := f_92
                         rw [if_pos f9]
                         refine ⟨b44.tr (by rw [hm_95]; exact no_92.1.b), Or.inr ⟨f9, rfl, by rw [hm_95]; exact no_92.2.1, by rw [hm_95]; exact no_92.2.2⟩⟩)
                      | (have f9 : ¬ ffF G (i + 1) ≠ 0 := fun z => z f_92
                         rw [if_neg f9, if_pos (show sdF G (i + 2) ≠ 0 by rw [show i + 2 = i + 1 + 1 by omega]; exact f_106)]
                         rw [show i + 1 + 1 = i + 2 by omega] at no_106
                         have k95 : Bx m m_95 p := b44.tr (ok_92.1.b.tr (by rw [hm_95]; exact Bx.rf.w (by omega) (by omega)))
                         refine ⟨k95.tr (by rw [hm_109]; exact no_106.1.b), Or.inr ⟨by rw [show i + 2 = i + 1 + 1 by omega]; exact f_106, rfl, by rw [hm_109]; exact no_106.2.1, by rw [hm_109]; exact no_106.2.2⟩⟩)
                      | (have f9 : ¬ ffF G (i + 1) ≠ 0 := fun z => z f_92
                         rw [if_neg f9, if_neg (show ¬ sdF G (i + 2) ≠ 0 by rw [show i + 2 = i + 1 + 1 by omega]; exact fun z => z f_106)]
                         have z106 := ok_106.2.2
                         rw [show i + 1 + 1 + 1 = i + 3 by omega] at z106
                         have l95 : m_95 232 = wr m_44 232 (p + 2) (nameAt G (8 + 1) (G 6 (i + 1)) (G 8 2)) 232 := by rw [hm_95, wr_rowat, wr_rowat, v_92, ok_92.1.1 232 (by decide)]
                         have l109 : ∀ j : Int, m_109 232 j = if j = p + 3 then G 4 (i + 2) - 209 else m_95 232 j := fun j => by rw [hm_109, wr_rowat, v_106, ok_106.1.1 232 (by decide), show i + 1 + 1 = i + 2 by omega]
                         have k95 : Bx m m_95 p := b44.tr (ok_92.1.b.tr (by rw [hm_95]; exact Bx.rf.w (by omega) (by omega)))
                         refine ⟨k95.tr (ok_106.1.b.tr (by rw [hm_109]; exact Bx.rf.w (by omega) (by omega))), Or.inl ⟨rfl, rfl, ?_, by rw [hm_109]; exact z106.w (by decide) (by omega), ?_, Or.inl ⟨hK, ?_, ?_, ?_⟩⟩⟩
                         · rw [hm_109, wr_na (by decide), ok_106.2.1, hm_95, wr_na (by decide), ok_92.2.1]; exact f44
                         · rw [l109, if_neg (by omega), l95, wr_ni (by omega), l44, wr_ni (by omega)]
                         · rw [l109, if_neg (by omega), l95, wr_ni (by omega), l44, wr_self]; omega
                         · rw [l109, if_neg (by omega), l95, wr_self]
                         · rw [l109, if_pos rfl])
                    · exfalso; omega
              · refine go_callV_z (as := [vi (p + 2), vi r_92]) (S := []) (b := 214) (ev_X12_keep (m := m_92) (k := (p + 2)) (g := r_92) (by omega) (by first | assumption | omega | exact ⟨by omega, by omega⟩ | (constructor <;> omega))) rfl dX12_readDoes_95 cv_12_399 rfl rfl ob_214 rfl (by decide) (Nat.le_of_ble_eq_true rfl) (fun r_95 m_95 hr_95 ho_95 => ?_)
                obtain ⟨e_95, hm_95⟩ := hr_95
                first | rw [if_pos e_92] at hm_95 | rw [if_neg (by omega)] at hm_95
                refine go_if_eq (tgt := 119) dX12_readDoes_98 (by decide) ⟨by omega, by omega⟩ (fun h_98 => ?_) (fun h_98 => ?_)
                · refine go_iconst dX12_readDoes_119 ?_
                  refine go_ret (v := 0) rfl dX12_readDoes_120 (okZ (by first | exact Or.inl rfl | exact Or.inr rfl | assumption | omega)) ?_
                  have hK : G 4 i = 205 := by omega
                  rw [DoP, deF_205 hK]
                  first
                  | (have f9 : ffF G (i + 1) ≠ 0 := f_92
                     rw [if_pos f9]
                     refine ⟨b44.tr (by rw [hm_95]; exact no_92.1.b), Or.inr ⟨f9, rfl, by rw [hm_95]; exact no_92.2.1, by rw [hm_95]; exact no_92.2.2⟩⟩)
                  | (have f9 : ¬ ffF G (i + 1) ≠ 0 := fun z => z f_92
                     rw [if_neg f9, if_pos (show sdF G (i + 2) ≠ 0 by rw [show i + 2 = i + 1 + 1 by omega]; exact f_106)]
                     rw [show i + 1 + 1 = i + 2 by omega] at no_106
                     have k95 : Bx m m_95 p := b44.tr (ok_92.1.b.tr (by rw [hm_95]; exact Bx.rf.w (by omega) (by omega)))
                     refine ⟨k95.tr (by rw [hm_109]; exact no_106.1.b), Or.inr ⟨by rw [show i + 2 = i + 1 + 1 by omega]; exact f_106, rfl, by rw [hm_109]; exact no_106.2.1, by rw [hm_109]; exact no_106.2.2⟩⟩)
                  | (have f9 : ¬ ffF G (i + 1) ≠ 0 := fun z => z f_92
                     rw [if_neg f9, if_neg (show ¬ sdF G (i + 2) ≠ 0 by rw [show i + 2 = i + 1 + 1 by omega]; exact fun z => z f_106)]
                     have z106 := ok_106.2.2
                     rw [show i + 1 + 1 + 1 = i + 3 by omega] at z106
                     have l95 : m_95 232 = wr m_44 232 (p + 2) (nameAt G (8 + 1) (G 6 (i + 1)) (G 8 2)) 232 := by rw [hm_95, wr_rowat, wr_rowat, v_92, ok_92.1.1 232 (by decide)]
                     have l109 : ∀ j : Int, m_109 232 j = if j = p + 3 then G 4 (i + 2) - 209 else m_95 232 j := fun j => by rw [hm_109, wr_rowat, v_106, ok_106.1.1 232 (by decide), show i + 1 + 1 = i + 2 by omega]
                     have k95 : Bx m m_95 p := b44.tr (ok_92.1.b.tr (by rw [hm_95]; exact Bx.rf.w (by omega) (by omega)))
                     refine ⟨k95.tr (ok_106.1.b.tr (by rw [hm_109]; exact Bx.rf.w (by omega) (by omega))), Or.inl ⟨rfl, rfl, ?_, by rw [hm_109]; exact z106.w (by decide) (by omega), ?_, Or.inl ⟨hK, ?_, ?_, ?_⟩⟩⟩
                     · rw [hm_109, wr_na (by decide), ok_106.2.1, hm_95, wr_na (by decide), ok_92.2.1]; exact f44
                     · rw [l109, if_neg (by omega), l95, wr_ni (by omega), l44, wr_ni (by omega)]
                     · rw [l109, if_neg (by omega), l95, wr_ni (by omega), l44, wr_self]; omega
                     · rw [l109, if_neg (by omega), l95, wr_self]
                     · rw [l109, if_pos rfl])
                · exfalso; omega
            · skip
              by_cases hk_53_1 : (w - 5) = 1
              · refine go_lswitch (off := 68) (tgt := 121) dX12_readDoes_53 ⟨by omega, by omega⟩ (by decide) (by rw [hk_53_1] <;> rfl) (by decide) ?_
                refine go_aload_n dX12_readDoes_121 rfl ?_
                refine go_iload_n dX12_readDoes_122 rfl ?_
                refine go_iconst dX12_readDoes_123 ?_
                refine go_iadd dX12_readDoes_124 ?_
                refine go_aload_n dX12_readDoes_125 rfl ?_
                refine go_callV_z (as := []) (S := [vi (p + 3), vr 214]) (b := 214) (ev_X12_readSide (m := m_44) (G := G) (t := t) (kw := kw) (n := n) (lim := lim) (i := (i + 1)) hr_44.2) rfl dX12_readDoes_126 cv_12_402 rfl rfl ob_214 rfl (by decide) (Nat.le_of_ble_eq_true rfl) (fun r_126 m_126 hr_126 ho_126 => ?_)
                rcases hr_126 with ⟨f_126, e_126, ok_126, v_126⟩ | ⟨f_126, e_126, no_126⟩
                · refine go_callV_z (as := [vi (p + 3), vi r_126]) (S := []) (b := 214) (ev_X12_keep (m := m_126) (k := (p + 3)) (g := r_126) (by omega) (by first | assumption | omega | exact ⟨by omega, by omega⟩ | (constructor <;> omega))) rfl dX12_readDoes_129 cv_12_399 rfl rfl ob_214 rfl (by decide) (Nat.le_of_ble_eq_true rfl) (fun r_129 m_129 hr_129 ho_129 => ?_)
                  obtain ⟨e_129, hm_129⟩ := hr_129
                  first | rw [if_pos e_126] at hm_129 | rw [if_neg (by omega)] at hm_129
                  refine go_ret (v := r_129) rfl dX12_readDoes_132 (okZ (by omega)) ?_
                  have hK : G 4 i = 206 := by omega
                  rw [DoP, deF_206 hK]
                  first
                  | (rw [if_pos f_126]
                     refine ⟨b44.tr (by rw [hm_129]; exact no_126.1.b), Or.inr ⟨f_126, by omega, by rw [hm_129]; exact no_126.2.1, by rw [hm_129]; exact no_126.2.2⟩⟩)
                  | (rw [if_neg (fun z => z f_126)]
                     have z126 := ok_126.2.2
                     rw [show i + 1 + 1 = i + 2 by omega] at z126
                     have l129 : ∀ j : Int, m_129 232 j = if j = p + 3 then G 4 (i + 1) - 209 else m_44 232 j := fun j => by rw [hm_129, wr_rowat, v_126, ok_126.1.1 232 (by decide)]
                     refine ⟨b44.tr (ok_126.1.b.tr (by rw [hm_129]; exact Bx.rf.w (by omega) (by omega))), Or.inl ⟨rfl, by omega, ?_, by rw [hm_129]; exact z126.w (by decide) (by omega), ?_, Or.inr (Or.inl ⟨hK, ?_, ?_⟩)⟩⟩
                     · rw [hm_129, wr_na (by decide), ok_126.2.1]; exact f44
                     · rw [l129, if_neg (by omega), l44, wr_ni (by omega)]
                     · rw [l129, if_neg (by omega), l44, wr_self]; omega
                     · rw [l129, if_pos rfl])
                · refine go_callV_z (as := [vi (p + 3), vi r_126]) (S := []) (b := 214) (ev_X12_keep (m := m_126) (k := (p + 3)) (g := r_126) (by omega) (by first | assumption | omega | exact ⟨by omega, by omega⟩ | (constructor <;> omega))) rfl dX12_readDoes_129 cv_12_399 rfl rfl ob_214 rfl (by decide) (Nat.le_of_ble_eq_true rfl) (fun r_129 m_129 hr_129 ho_129 => ?_)
                  obtain ⟨e_129, hm_129⟩ := hr_129
                  first | rw [if_pos e_126] at hm_129 | rw [if_neg (by omega)] at hm_129
                  refine go_ret (v := r_129) rfl dX12_readDoes_132 (okZ (by omega)) ?_
                  have hK : G 4 i = 206 := by omega
                  rw [DoP, deF_206 hK]
                  first
                  | (rw [if_pos f_126]
                     refine ⟨b44.tr (by rw [hm_129]; exact no_126.1.b), Or.inr ⟨f_126, by omega, by rw [hm_129]; exact no_126.2.1, by rw [hm_129]; exact no_126.2.2⟩⟩)
                  | (rw [if_neg (fun z => z f_126)]
                     have z126 := ok_126.2.2
                     rw [show i + 1 + 1 = i + 2 by omega] at z126
                     have l129 : ∀ j : Int, m_129 232 j = if j = p + 3 then G 4 (i + 1) - 209 else m_44 232 j := fun j => by rw [hm_129, wr_rowat, v_126, ok_126.1.1 232 (by decide)]
                     refine ⟨b44.tr (ok_126.1.b.tr (by rw [hm_129]; exact Bx.rf.w (by omega) (by omega))), Or.inl ⟨rfl, by omega, ?_, by rw [hm_129]; exact z126.w (by decide) (by omega), ?_, Or.inr (Or.inl ⟨hK, ?_, ?_⟩)⟩⟩
                     · rw [hm_129, wr_na (by decide), ok_126.2.1]; exact f44
                     · rw [l129, if_neg (by omega), l44, wr_ni (by omega)]
                     · rw [l129, if_neg (by omega), l44, wr_self]; omega
                     · rw [l129, if_pos rfl])
              · skip
                refine go_lswitch (off := 80) (tgt := 133) dX12_readDoes_53 ⟨by omega, by omega⟩ (by decide) (by simp [Op.lookupswitch.offset, hk_53_0, show ¬ (0 : Int) = (w - 5) from fun z => hk_53_0 z.symm, hk_53_1, show ¬ (1 : Int) = (w - 5) from fun z => hk_53_1 z.symm]) (by decide) ?_
                refine go_iconst dX12_readDoes_133 ?_
                refine go_ret (v := 1) rfl dX12_readDoes_134 (okZ (by first | exact Or.inl rfl | exact Or.inr rfl | assumption | omega)) ?_
                have hK : G 4 i = 207 := by omega
                have hq : deF G i = (0, i + 1) := by unfold deF; rw [if_neg (by omega), if_neg (by omega), if_pos hK]
                rw [DoP, hq]
                exact ⟨b44, Or.inl ⟨rfl, rfl, f44, hr_44.2, by rw [l44, wr_ni (by omega)], Or.inr (Or.inr ⟨hK, by rw [l44, wr_self]; omega⟩)⟩⟩
          · exfalso; omega
        · refine go_iinc (L' := [vr 214, vi p, vi (w + 1)]) dX12_readDoes_16 rfl (by decide) rfl rfl ?_
          refine go_goto (tgt := 2) dX12_readDoes_19 (by decide) ?_
          exact ih_2 (w + 1) (by first | assumption | omega | rfl) (by first | assumption | omega | rfl) (fun j a b => by by_cases q : j < w; exact hno j a q; (rw [show j = w by omega]; omega)) (by omega)
  exact lp_2 _ 5 (by first | assumption | omega | rfl) (by first | assumption | omega | rfl) (fun j a b => by omega) (Nat.lt_succ_self _)
