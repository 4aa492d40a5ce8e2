/-! ===== the reference: what a TOKEN is, a number, a name, a cell ===== -/
section
variable {K V : Int} {m : Mem}
theorem TKd.k2 (h : TKd K V m) (e : m 214 7 = 2) : (K = 3 ∨ (200 ≤ K ∧ K < 225)) ∧ Wr V (m 214 12) ∧ K = kwd kwC V := by
  rcases h with h | h | h | h | h
  · omega
  · omega
  · omega
  · exact ⟨h.1.1, h.2⟩
  · have := h.2.1; omega
theorem TKd.n2 (h : TKd K V m) (e : m 214 7 ≠ 2) : K ≠ 3 ∧ K < 200 := by
  rcases h with h | h | h | h | h
  · omega
  · omega
  · omega
  · exact absurd h.1.2 e
  · have := h.1; unfold isS at this; omega
theorem TKd.k3 (h : TKd K V m) (e : m 214 7 = 3) : K = 2 ∧ m 214 8 = w32 V := by
  rcases h with h | h | h | h | h
  · omega
  · omega
  · exact ⟨h.1, h.2.2⟩
  · have := h.1.2; omega
  · have := h.2.1; omega
theorem TKd.n3 (h : TKd K V m) (e : m 214 7 ≠ 3) : K ≠ 2 := by
  rcases h with h | h | h | h | h
  · omega
  · omega
  · omega
  · have := h.1.1; omega
  · have := h.1; unfold isS at this; omega
theorem TKd.k4 (h : TKd K V m) (e : m 214 7 = 4) : isS K ∧ m 214 9 = K := by
  rcases h with h | h | h | h | h
  · omega
  · omega
  · omega
  · have := h.1.2; omega
  · exact ⟨h.1, h.2.2⟩
theorem TKd.n4 (h : TKd K V m) (e : m 214 7 ≠ 4) : ¬ isS K := by
  rcases h with h | h | h | h | h
  · unfold isS; omega
  · unfold isS; omega
  · unfold isS; omega
  · have := h.1.1; unfold isS; omega
  · exact absurd h.2.1 e
theorem TKd.k1 (h : TKd K V m) : m 214 7 = 1 ↔ K = 1 := by
  rcases h with h | h | h | h | h
  · omega
  · omega
  · omega
  · have := h.1; omega
  · have := h.1; have := h.2.1; unfold isS at *; omega
theorem TKd.k0 (h : TKd K V m) : m 214 7 = 0 ↔ K = 0 := by
  rcases h with h | h | h | h | h
  · omega
  · omega
  · omega
  · have := h.1; omega
  · have := h.1; have := h.2.1; unfold isS at *; omega
theorem TKd.rng (h : TKd K V m) : 0 ≤ K ∧ K < 225 := by
  rcases h with h | h | h | h | h
  · omega
  · omega
  · omega
  · have := h.1; omega
  · have := h.1; unfold isS at *; omega
theorem TKd.wd (h : TKd K V m) (e : m 214 7 = 2) {k : Int} (h0 : 0 ≤ k) (h1 : k < 25) : m 214 12 = wdC k ↔ K = 200 + k := by
  obtain ⟨-, h2, h3⟩ := h.k2 e
  rw [h3, kwd_eq h0 h1]
  exact (h2.inj (kw_Wr h0 h1)).symm
theorem TKd.nm (h : TKd K V m) (e : m 214 7 = 2) : (∀ k : Int, 0 ≤ k → k < 25 → m 214 12 ≠ wdC k) ↔ K = 3 := by
  obtain ⟨-, h2, h3⟩ := h.k2 e
  rw [h3, kwd_3]
  constructor
  · intro hh k h0 h1 z
    exact hh k h0 h1 ((h2.inj (kw_Wr h0 h1)).mp z)
  · intro hh k h0 h1 z
    exact hh k h0 h1 ((h2.inj (kw_Wr h0 h1)).mpr z)
end
/-- reading on: nothing but the reader's own numbers has changed -/
def Lx (m m' : Mem) : Prop := (∀ b : Nat, b ≠ 214 → m' b = m b) ∧ ∀ j : Int, (j < 5 ∨ 13 < j) → m' 214 j = m 214 j
theorem Lx.rf {m : Mem} : Lx m m := ⟨fun _ _ => rfl, fun _ _ => rfl⟩
theorem Lx.tr {m n o : Mem} (h : Lx m n) (h' : Lx n o) : Lx m o := ⟨fun b hb => (h'.1 b hb).trans (h.1 b hb), fun j hj => (h'.2 j hj).trans (h.2 j hj)⟩
theorem Lx.w {m n : Mem} {j x : Int} (h : Lx m n) (h0 : 5 ≤ j) (h1 : j ≤ 13) : Lx m (wr n 214 j x) := ⟨fun b hb => by rw [wr_row hb]; exact h.1 b hb, fun k hk => by rw [wr_ni (by omega)]; exact h.2 k hk⟩
theorem Gx.l {m m' : Mem} (h : Gx m m') : Lx m m' := ⟨h.1, fun j hj => h.2 j (by omega) (by omega) (by omega) (by omega) (by omega) (by omega)⟩
def NoT (G m m' : Mem) (F P : Int) : Prop := Lx m m' ∧ m' 214 10 = F ∧ m' 214 11 = G 5 P
def OkT (G : Mem) (t kw : Int → Int) (n lim : Int) (m m' : Mem) (i : Int) : Prop := Lx m m' ∧ m' 214 10 = m 214 10 ∧ TM G t kw n lim m' i
theorem NoT.b {G m m' : Mem} {f i : Int} (h : m' = wr (wr m 214 10 f) 214 11 (G 5 i)) : NoT G m m' f i := by
  rw [h]
  exact ⟨(Lx.rf.w (by omega) (by omega)).w (by omega) (by omega), by rw [wr_ni (by decide), wr_self], wr_self _ _ _ _⟩
theorem NoT.tr {G m n o : Mem} {F P : Int} (h : Lx m n) (h' : NoT G n o F P) : NoT G m o F P := ⟨h.tr h'.1, h'.2⟩
theorem OkT.tr {G : Mem} {t kw : Int → Int} {n lim : Int} {m m1 m2 : Mem} {i : Int} (h : Lx m m1) (hf : m1 214 10 = m 214 10) (h' : OkT G t kw n lim m1 m2 i) : OkT G t kw n lim m m2 i := ⟨h.tr h'.1, h'.2.1.trans hf, h'.2.2⟩
theorem OkT.gx {G : Mem} {t kw : Int → Int} {n lim : Int} {m m' : Mem} {i : Int} (h : Gx m m') (h' : TM G t kw n lim m' i) : OkT G t kw n lim m m' i := ⟨h.l, h.2 10 (by decide) (by decide) (by decide) (by decide) (by decide) (by decide), h'⟩
def RnP (G : Mem) (t kw : Int → Int) (n lim : Int) (m m' : Mem) (i lo hi r : Int) : Prop := (numF (G 4) (vN G) i lo hi = 0 ∧ r = 1 ∧ OkT G t kw n lim m m' (i + 1) ∧ m' 214 13 = vN G i) ∨ (numF (G 4) (vN G) i lo hi ≠ 0 ∧ r = 0 ∧ NoT G m m' (numF (G 4) (vN G) i lo hi) i)
def ReP (G : Mem) (t kw : Int → Int) (n lim : Int) (m m' : Mem) (i r : Int) : Prop := (G 4 i = 59 ∧ r = 1 ∧ OkT G t kw n lim m m' (i + 1)) ∨ (G 4 i ≠ 59 ∧ r = 0 ∧ NoT G m m' 1 i)
def BeP (G : Mem) (t kw : Int → Int) (n lim : Int) (m m' : Mem) : Prop := TM G t kw n lim m' 0 ∧ (∀ b : Nat, b ≠ 214 → m' b = m b) ∧ (m' 214 0 = 0 ∧ m' 214 2 = 0 ∧ m' 214 10 = 0) ∧ ∀ j : Int, (j = 1 ∨ 13 ≤ j) → m' 214 j = m 214 j
/-- what the reference has read of DOWNS, told by the class's draft -/
def RdR (G : Mem) (N M : Int → Int) : Prop := (N 0 = G 47 0 ∧ N 1 = G 47 1 ∧ N 2 = G 47 2 ∧ N 3 = G 47 3 ∧ N 4 = G 47 4) ∧
  (∀ f : Int, 0 ≤ f → f < G 47 2 → (N (5 + f) = G 49 f ∧ N (11 + f) = G 50 f) ∧ Wr (G 48 f) (M f)) ∧
  (∀ p : Int, 0 ≤ p → p < G 47 3 → (N (17 + p) = 9 * G 60 p + G 59 p ∧ N (22 + p) = G 61 p ∧ N (27 + p) = G 52 p ∧ G 62 p = G 52 p) ∧ Wr (G 51 p) (M (6 + p))) ∧
  (∀ q : Int, 0 ≤ q → q < G 47 4 → (N (32 + q) = 9 * G 55 q + G 54 q ∧ N (37 + q) = G 56 q) ∧ Wr (G 53 q) (M (11 + q))) ∧
  ∀ c : Int, 0 ≤ c → c < 81 → N (42 + c) = G 58 c
def RdA (G m : Mem) : Prop := RdR G (m 217) (m 222) ∧ m 214 23 = G 45 2 ∧ m 214 24 = G 45 3
def Px (m m' : Mem) : Prop := (∀ b : Nat, b ≠ 214 → b ≠ 217 → b ≠ 222 → m' b = m b) ∧ ∀ j : Int, (j < 5 ∨ (13 < j ∧ j ≠ 23 ∧ j ≠ 24)) → m' 214 j = m 214 j
theorem Px.rf {m : Mem} : Px m m := ⟨fun _ _ _ _ => rfl, fun _ _ => rfl⟩
theorem Px.tr {m n o : Mem} (h : Px m n) (h' : Px n o) : Px m o := ⟨fun b h1 h2 h3 => (h'.1 b h1 h2 h3).trans (h.1 b h1 h2 h3), fun j hj => (h'.2 j hj).trans (h.2 j hj)⟩
theorem Lx.p {m m' : Mem} (h : Lx m m') : Px m m' := ⟨fun b h1 _ _ => h.1 b h1, fun j hj => h.2 j (by omega)⟩
theorem Px.w {m n : Mem} {b : Nat} {j x : Int} (h : Px m n) (hb : b = 217 ∨ b = 222 ∨ (b = 214 ∧ (j = 23 ∨ j = 24))) : Px m (wr n b j x) := ⟨fun c h1 h2 h3 => by rw [wr_row (by omega)]; exact h.1 c h1 h2 h3, fun k hk => by
    by_cases q : (214 : Nat) = b
    · rw [wr_ni (by omega)]; exact h.2 k hk
    · rw [wr_na q]; exact h.2 k hk⟩
theorem filC_of {G : Mem} {x y : Int} (hi : insC G 47 x y) : filC G x y ↔ (G 58 (9 * y + x) ≠ 0 ∨ whoC G 47 57 x y ≠ -1) := by
  unfold filC wallC
  rw [if_pos hi]
def NoP (G m m' : Mem) (F P : Int) : Prop := Px m m' ∧ m' 214 10 = F ∧ m' 214 11 = G 5 P
theorem NoT.p {G m m' : Mem} {F P : Int} (h : NoT G m m' F P) : NoP G m m' F P := ⟨h.1.p, h.2⟩
theorem NoP.tr {G m n o : Mem} {F P : Int} (h : Px m n) (h' : NoP G n o F P) : NoP G m o F P := ⟨h.tr h'.1, h'.2⟩
/-- a cell is read: the fault, and how far -/
def ceF (G : Mem) (e i : Int) : Int × Int := if numF (G 4) (vN G) i 0 (G 47 0 - 1) ≠ 0 then (numF (G 4) (vN G) i 0 (G 47 0 - 1), i) else if (if e = 1 then frF G (vN G i) (i + 1) else numF (G 4) (vN G) (i + 1) 0 (G 47 1 - 1)) ≠ 0 then ((if e = 1 then frF G (vN G i) (i + 1) else numF (G 4) (vN G) (i + 1) 0 (G 47 1 - 1)), i + 1) else (0, i + 2)
def CeP (G : Mem) (t kw : Int → Int) (n lim : Int) (m m' : Mem) (e i r : Int) : Prop := ((ceF G e i).1 = 0 ∧ r = 1 ∧ (ceF G e i).2 = i + 2 ∧ OkT G t kw n lim (wr m 214 24 1) m' (i + 2) ∧ m' 214 13 = 9 * vN G (i + 1) + vN G i) ∨ ((ceF G e i).1 ≠ 0 ∧ r = 0 ∧ NoT G (wr m 214 24 1) m' (ceF G e i).1 (ceF G e i).2)
theorem f2_no {G : Mem} {e x i f : Int} (hf : numF (G 4) (vN G) i 0 (G 47 1 - 1) = f) (hne : f ≠ 0) : (if e = 1 then frF G x i else numF (G 4) (vN G) i 0 (G 47 1 - 1)) = f := by
  split
  · unfold frF; rw [if_pos (by rw [hf]; exact hne)]; exact hf
  · exact hf
theorem ceF_1 {G : Mem} {e i f : Int} (h0 : numF (G 4) (vN G) i 0 (G 47 0 - 1) = 0) (hf : (if e = 1 then frF G (vN G i) (i + 1) else numF (G 4) (vN G) (i + 1) 0 (G 47 1 - 1)) = f) (hne : f ≠ 0) : ceF G e i = (f, i + 1) := by
  unfold ceF
  rw [if_neg (by rw [h0]; decide), hf, if_pos hne]
theorem ceF_0 {G : Mem} {e i : Int} (h0 : numF (G 4) (vN G) i 0 (G 47 0 - 1) = 0) (hf : (if e = 1 then frF G (vN G i) (i + 1) else numF (G 4) (vN G) (i + 1) 0 (G 47 1 - 1)) = 0) : ceF G e i = (0, i + 2) := by
  unfold ceF
  rw [if_neg (by rw [h0]; decide), hf, if_neg (by decide)]
theorem RdR.e {G m m' : Mem} (h : RdR G (m 217) (m 222)) (h1 : m' 217 = m 217) (h2 : m' 222 = m 222) : RdR G (m' 217) (m' 222) := by rw [h1, h2]; exact h
def NeP (G : Mem) (t kw : Int → Int) (n lim : Int) (m m' : Mem) (slot i r : Int) : Prop := (nmF G i = 0 ∧ r = 1 ∧ ∃ w : Int, Wr (G 6 i) w ∧ OkT G t kw n lim (wr m 222 slot w) m' (i + 1)) ∨ (nmF G i ≠ 0 ∧ r = 0 ∧ NoT G m m' (nmF G i) i)
theorem TE.c {G G' : Mem} {t kw : Int → Int} {n lim : Int} (h : TE G t kw n lim) (h1 : G' 1 11 = G 1 11) (h4 : G' 4 = G 4) (h5 : G' 5 = G 5) (h6 : G' 6 = G 6) : TE G' t kw n lim := by
  unfold TE TkOk at *
  rw [h1, h4, h5, h6]; exact h
theorem TM.c {G G' m : Mem} {t kw : Int → Int} {n lim i : Int} (h : TM G t kw n lim m i) (h1 : G' 1 11 = G 1 11) (h4 : G' 4 = G 4) (h5 : G' 5 = G 5) (h6 : G' 6 = G 6) : TM G' t kw n lim m i := by
  unfold TM at *
  rw [h1, h4, h5, h6]
  exact ⟨h.1.c h1 h4 h5 h6, h.2⟩

theorem dX12_isWord_0 : decode mX12_isWord.2.1 0 = .ok (.aload_n 0, 1) := by decide +kernel
theorem dX12_isWord_1 : decode mX12_isWord.2.1 1 = .ok (.getfield 30, 3) := by decide +kernel
theorem dX12_isWord_4 : decode mX12_isWord.2.1 4 = .ok (.iconst 2, 1) := by decide +kernel
theorem dX12_isWord_5 : decode mX12_isWord.2.1 5 = .ok (.if_icmp .ne 19, 3) := by decide +kernel
theorem dX12_isWord_8 : decode mX12_isWord.2.1 8 = .ok (.aload_n 0, 1) := by decide +kernel
theorem dX12_isWord_9 : decode mX12_isWord.2.1 9 = .ok (.getfield 43, 3) := by decide +kernel
theorem dX12_isWord_12 : decode mX12_isWord.2.1 12 = .ok (.iload_n 1, 1) := by decide +kernel
theorem dX12_isWord_13 : decode mX12_isWord.2.1 13 = .ok (.invokestatic 62, 3) := by decide +kernel
theorem dX12_isWord_16 : decode mX12_isWord.2.1 16 = .ok (.lcmp, 1) := by decide +kernel
theorem dX12_isWord_17 : decode mX12_isWord.2.1 17 = .ok (.ifCond .ne 7, 3) := by decide +kernel
theorem dX12_isWord_20 : decode mX12_isWord.2.1 20 = .ok (.iconst 1, 1) := by decide +kernel
theorem dX12_isWord_21 : decode mX12_isWord.2.1 21 = .ok (.goto 4, 3) := by decide +kernel
theorem dX12_isWord_24 : decode mX12_isWord.2.1 24 = .ok (.iconst 0, 1) := by decide +kernel
theorem dX12_isWord_25 : decode mX12_isWord.2.1 25 = .ok (.ireturn, 1) := by decide +kernel
set_option maxRecDepth 4000 in
theorem ev_X12_isWord {m : Mem} {G : Mem} {t : Int → Int} {kw : Int → Int} {n : Int} {lim : Int} {i : Int} {k : Int} (htm : TM G t kw n lim m i) (hk : 0 ≤ k ∧ k ≤ 24) : Ev 0 3 mX12_isWord [vr 214, vi k] m (fun r m' => m' = m ∧ ((r = 1 ∧ G 4 i = 200 + k) ∨ (r = 0 ∧ G 4 i ≠ 200 + k))) := by
  refine Ev.of (L := [vr 214, vi k]) (by decide +kernel) rfl (Nat.le_of_ble_eq_true rfl) rfl (fun t ht => by cases ht; first | exact Or.inl rfl | exact Or.inr (Or.inl rfl) | exact Or.inr (Or.inr rfl)) (fun hcan => ?_)
  have hkd := htm.kd
  refine go_aload_n dX12_isWord_0 rfl ?_
  refine go_getf_i (ki := 7) dX12_isWord_1 fl_12_30 ob_214 rfl rfl (fun hf_1 => ?_)
  refine go_iconst dX12_isWord_4 ?_
  refine go_icmp_ne (tgt := 24) dX12_isWord_5 (by decide) ⟨by omega, by omega⟩ ⟨by omega, by omega⟩ (fun h_5 => ?_) (fun h_5 => ?_)
  · refine go_iconst dX12_isWord_24 ?_
    exact go_ret (v := 0) rfl dX12_isWord_25 (okZ (by first | exact Or.inl rfl | exact Or.inr rfl | assumption | omega)) ⟨rfl, (by first | (left; exact ⟨rfl, hl0.mp (by omega)⟩) | (right; exact ⟨rfl, fun z => by have := hl0.mpr z; omega⟩) | (right; refine ⟨rfl, ?_⟩; have := hkd.n2 (by omega); omega))⟩
  · refine go_aload_n dX12_isWord_8 rfl ?_
    refine go_getf_l (ki := 12) dX12_isWord_9 fl_12_43 ob_214 rfl rfl (fun hf_9 => ?_)
    refine go_iload_n dX12_isWord_12 rfl ?_
    refine go_callSp_l (as := [vi k]) (S := [vl (m 214 12)]) (ev_X12_wordOf (m := m) (k := k) (by first | assumption | omega | exact ⟨by omega, by omega⟩ | (constructor <;> omega))) rfl dX12_isWord_13 cs_12_62 rfl rfl (by decide) (Nat.le_of_ble_eq_true rfl) (fun r_13 hr_13 ho_13 => ?_)
    refine go_lcmp dX12_isWord_16 hf_9 ho_13 ?_
    have hl0 := lcmpI_0 (m 214 12) r_13
    rw [hr_13] at hl0
    rw [hkd.wd (by omega) (k := k) (by omega) (by omega)] at hl0
    rw [← hr_13] at hl0
    refine go_if_ne (tgt := 24) dX12_isWord_17 (by decide) (lcmpI_R _ _) (fun h_17 => ?_) (fun h_17 => ?_)
    · refine go_iconst dX12_isWord_24 ?_
      exact go_ret (v := 0) rfl dX12_isWord_25 (okZ (by first | exact Or.inl rfl | exact Or.inr rfl | assumption | omega)) ⟨rfl, (by first | (left; exact ⟨rfl, hl0.mp (by omega)⟩) | (right; exact ⟨rfl, fun z => by have := hl0.mpr z; omega⟩) | (right; refine ⟨rfl, ?_⟩; have := hkd.n2 (by omega); omega))⟩
    · refine go_iconst dX12_isWord_20 ?_
      refine go_goto (tgt := 25) dX12_isWord_21 (by decide) ?_
      exact go_ret (v := 1) rfl dX12_isWord_25 (okZ (by first | exact Or.inl rfl | exact Or.inr rfl | assumption | omega)) ⟨rfl, (by first | (left; exact ⟨rfl, hl0.mp (by omega)⟩) | (right; exact ⟨rfl, fun z => by have := hl0.mpr z; omega⟩) | (right; refine ⟨rfl, ?_⟩; have := hkd.n2 (by omega); omega))⟩
theorem dX12_isSign_0 : decode mX12_isSign.2.1 0 = .ok (.aload_n 0, 1) := by decide +kernel
theorem dX12_isSign_1 : decode mX12_isSign.2.1 1 = .ok (.getfield 30, 3) := by decide +kernel
theorem dX12_isSign_4 : decode mX12_isSign.2.1 4 = .ok (.iconst 4, 1) := by decide +kernel
theorem dX12_isSign_5 : decode mX12_isSign.2.1 5 = .ok (.if_icmp .ne 15, 3) := by decide +kernel
theorem dX12_isSign_8 : decode mX12_isSign.2.1 8 = .ok (.aload_n 0, 1) := by decide +kernel
theorem dX12_isSign_9 : decode mX12_isSign.2.1 9 = .ok (.getfield 40, 3) := by decide +kernel
theorem dX12_isSign_12 : decode mX12_isSign.2.1 12 = .ok (.iload_n 1, 1) := by decide +kernel
theorem dX12_isSign_13 : decode mX12_isSign.2.1 13 = .ok (.if_icmp .ne 7, 3) := by decide +kernel
theorem dX12_isSign_16 : decode mX12_isSign.2.1 16 = .ok (.iconst 1, 1) := by decide +kernel
theorem dX12_isSign_17 : decode mX12_isSign.2.1 17 = .ok (.goto 4, 3) := by decide +kernel
theorem dX12_isSign_20 : decode mX12_isSign.2.1 20 = .ok (.iconst 0, 1) := by decide +kernel
theorem dX12_isSign_21 : decode mX12_isSign.2.1 21 = .ok (.ireturn, 1) := by decide +kernel
set_option maxRecDepth 4000 in
theorem ev_X12_isSign {m : Mem} {G : Mem} {t : Int → Int} {kw : Int → Int} {n : Int} {lim : Int} {i : Int} {c : Int} (htm : TM G t kw n lim m i) (hc : isS c) : Ev 0 1 mX12_isSign [vr 214, vi c] m (fun r m' => m' = m ∧ ((r = 1 ∧ G 4 i = c) ∨ (r = 0 ∧ G 4 i ≠ c))) := by
  refine Ev.of (L := [vr 214, vi c]) (by decide +kernel) rfl (Nat.le_of_ble_eq_true rfl) rfl (fun t ht => by cases ht; first | exact Or.inl rfl | exact Or.inr (Or.inl rfl) | exact Or.inr (Or.inr rfl)) (fun hcan => ?_)
  have hkd := htm.kd
  refine go_aload_n dX12_isSign_0 rfl ?_
  refine go_getf_i (ki := 7) dX12_isSign_1 fl_12_30 ob_214 rfl rfl (fun hf_1 => ?_)
  refine go_iconst dX12_isSign_4 ?_
  refine go_icmp_ne (tgt := 20) dX12_isSign_5 (by decide) ⟨by omega, by omega⟩ ⟨by omega, by omega⟩ (fun h_5 => ?_) (fun h_5 => ?_)
  · refine go_iconst dX12_isSign_20 ?_
    exact go_ret (v := 0) rfl dX12_isSign_21 (okZ (by first | exact Or.inl rfl | exact Or.inr rfl | assumption | omega)) ⟨rfl, (by first | (left; exact ⟨rfl, by omega⟩) | (right; exact ⟨rfl, by omega⟩) | (right; refine ⟨rfl, fun z => hkd.n4 (by omega) (by rw [z]; exact hc)⟩))⟩
  · have h4 := hkd.k4 (by omega)
    refine go_aload_n dX12_isSign_8 rfl ?_
    refine go_getf_i (ki := 9) dX12_isSign_9 fl_12_40 ob_214 rfl rfl (fun hf_9 => ?_)
    refine go_iload_n dX12_isSign_12 rfl ?_
    refine go_icmp_ne (tgt := 20) dX12_isSign_13 (by decide) ⟨by omega, by omega⟩ (by unfold isS at hc; exact ⟨by omega, by omega⟩) (fun h_13 => ?_) (fun h_13 => ?_)
    · refine go_iconst dX12_isSign_20 ?_
      exact go_ret (v := 0) rfl dX12_isSign_21 (okZ (by first | exact Or.inl rfl | exact Or.inr rfl | assumption | omega)) ⟨rfl, (by first | (left; exact ⟨rfl, by omega⟩) | (right; exact ⟨rfl, by omega⟩) | (right; refine ⟨rfl, fun z => hkd.n4 (by omega) (by rw [z]; exact hc)⟩))⟩
    · refine go_iconst dX12_isSign_16 ?_
      refine go_goto (tgt := 21) dX12_isSign_17 (by decide) ?_
      exact go_ret (v := 1) rfl dX12_isSign_21 (okZ (by first | exact Or.inl rfl | exact Or.inr rfl | assumption | omega)) ⟨rfl, (by first | (left; exact ⟨rfl, by omega⟩) | (right; exact ⟨rfl, by omega⟩) | (right; refine ⟨rfl, fun z => hkd.n4 (by omega) (by rw [z]; exact hc)⟩))⟩
theorem dX12_isName_0 : decode mX12_isName.2.1 0 = .ok (.aload_n 0, 1) := by decide +kernel
theorem dX12_isName_1 : decode mX12_isName.2.1 1 = .ok (.getfield 30, 3) := by decide +kernel
theorem dX12_isName_4 : decode mX12_isName.2.1 4 = .ok (.iconst 2, 1) := by decide +kernel
theorem dX12_isName_5 : decode mX12_isName.2.1 5 = .ok (.if_icmp .eq 5, 3) := by decide +kernel
theorem dX12_isName_8 : decode mX12_isName.2.1 8 = .ok (.iconst 0, 1) := by decide +kernel
theorem dX12_isName_9 : decode mX12_isName.2.1 9 = .ok (.ireturn, 1) := by decide +kernel
theorem dX12_isName_10 : decode mX12_isName.2.1 10 = .ok (.iconst 0, 1) := by decide +kernel
theorem dX12_isName_11 : decode mX12_isName.2.1 11 = .ok (.istore_n 1, 1) := by decide +kernel
theorem dX12_isName_12 : decode mX12_isName.2.1 12 = .ok (.iload_n 1, 1) := by decide +kernel
theorem dX12_isName_13 : decode mX12_isName.2.1 13 = .ok (.bipush 24, 2) := by decide +kernel
theorem dX12_isName_15 : decode mX12_isName.2.1 15 = .ok (.if_icmp .gt 23, 3) := by decide +kernel
theorem dX12_isName_18 : decode mX12_isName.2.1 18 = .ok (.aload_n 0, 1) := by decide +kernel
theorem dX12_isName_19 : decode mX12_isName.2.1 19 = .ok (.getfield 43, 3) := by decide +kernel
theorem dX12_isName_22 : decode mX12_isName.2.1 22 = .ok (.iload_n 1, 1) := by decide +kernel
theorem dX12_isName_23 : decode mX12_isName.2.1 23 = .ok (.invokestatic 62, 3) := by decide +kernel
theorem dX12_isName_26 : decode mX12_isName.2.1 26 = .ok (.lcmp, 1) := by decide +kernel
theorem dX12_isName_27 : decode mX12_isName.2.1 27 = .ok (.ifCond .ne 5, 3) := by decide +kernel
theorem dX12_isName_30 : decode mX12_isName.2.1 30 = .ok (.iconst 0, 1) := by decide +kernel
theorem dX12_isName_31 : decode mX12_isName.2.1 31 = .ok (.ireturn, 1) := by decide +kernel
theorem dX12_isName_32 : decode mX12_isName.2.1 32 = .ok (.iinc 1 1, 3) := by decide +kernel
theorem dX12_isName_35 : decode mX12_isName.2.1 35 = .ok (.goto (-23), 3) := by decide +kernel
theorem dX12_isName_38 : decode mX12_isName.2.1 38 = .ok (.iconst 1, 1) := by decide +kernel
theorem dX12_isName_39 : decode mX12_isName.2.1 39 = .ok (.ireturn, 1) := by decide +kernel
set_option maxRecDepth 4000 in
theorem ev_X12_isName {m : Mem} {G : Mem} {t : Int → Int} {kw : Int → Int} {n : Int} {lim : Int} {i : Int} (htm : TM G t kw n lim m i) : Ev 0 3 mX12_isName [vr 214] m (fun r m' => m' = m ∧ ((r = 1 ∧ G 4 i = 3) ∨ (r = 0 ∧ G 4 i ≠ 3))) := by
  refine Ev.of (L := [vr 214, un]) (by decide +kernel) rfl (Nat.le_of_ble_eq_true rfl) rfl (fun t ht => by cases ht; first | exact Or.inl rfl | exact Or.inr (Or.inl rfl) | exact Or.inr (Or.inr rfl)) (fun hcan => ?_)
  have hkd := htm.kd
  refine go_aload_n dX12_isName_0 rfl ?_
  refine go_getf_i (ki := 7) dX12_isName_1 fl_12_30 ob_214 rfl rfl (fun hf_1 => ?_)
  refine go_iconst dX12_isName_4 ?_
  refine go_icmp_eq (tgt := 10) dX12_isName_5 (by decide) ⟨by omega, by omega⟩ ⟨by omega, by omega⟩ (fun h_5 => ?_) (fun h_5 => ?_)
  · have hnm := hkd.nm (by omega)
    refine go_iconst dX12_isName_10 ?_
    refine go_istore_n (L' := [vr 214, vi 0]) dX12_isName_11 (by decide) rfl rfl ?_
    have lp_12 : ∀ (n_12 : Nat) (k : Int) , (0 ≤ k) → (k ≤ 25) → (∀ j : Int, 0 ≤ j → j < k → m 214 12 ≠ wdC j) → (25 - k).toNat < n_12 → Go 0 3 mX12_isName (fun r m' => m' = m ∧ ((r = 1 ∧ G 4 i = 3) ∨ (r = 0 ∧ G 4 i ≠ 3))) 12 [vr 214, vi k] [] m := by
      intro n_12
      induction n_12 with
      | zero => intro k hk0 hk1 hno hmu; exact absurd hmu (Nat.not_lt_zero _)
      | succ n_12 ih_12 =>
        intro k hk0 hk1 hno hmu
        refine go_iload_n dX12_isName_12 rfl ?_
        refine go_bipush dX12_isName_13 (by decide) ?_
        refine go_icmp_gt (tgt := 38) dX12_isName_15 (by decide) ⟨by omega, by omega⟩ ⟨by omega, by omega⟩ (fun h_15 => ?_) (fun h_15 => ?_)
        · refine go_iconst dX12_isName_38 ?_
          exact go_ret (v := 1) rfl dX12_isName_39 (okZ (by first | exact Or.inl rfl | exact Or.inr rfl | assumption | omega)) ⟨rfl, (Or.inl ⟨rfl, hnm.mp (fun j a b => hno j a (by omega))⟩)⟩
        · refine go_aload_n dX12_isName_18 rfl ?_
          refine go_getf_l (ki := 12) dX12_isName_19 fl_12_43 ob_214 rfl rfl (fun hf_19 => ?_)
          refine go_iload_n dX12_isName_22 rfl ?_
          refine go_callSp_l (as := [vi k]) (S := [vl (m 214 12)]) (ev_X12_wordOf (m := m) (k := k) (by first | assumption | omega | exact ⟨by omega, by omega⟩ | (constructor <;> omega))) rfl dX12_isName_23 cs_12_62 rfl rfl (by decide) (Nat.le_of_ble_eq_true rfl) (fun r_23 hr_23 ho_23 => ?_)
          refine go_lcmp dX12_isName_26 hf_19 ho_23 ?_
          have hl0 := lcmpI_0 (m 214 12) r_23
          rw [hr_23] at hl0
          refine go_if_ne (tgt := 32) dX12_isName_27 (by decide) (lcmpI_R _ _) (fun h_27 => ?_) (fun h_27 => ?_)
          · refine go_iinc (L' := [vr 214, vi (k + 1)]) dX12_isName_32 rfl (by decide) rfl rfl ?_
            refine go_goto (tgt := 12) dX12_isName_35 (by decide) ?_
            exact ih_12 (k + 1) (by first | assumption | omega | rfl) (by first | assumption | omega | rfl) (stp hno (fun z => by have := hl0.mpr z; rw [← hr_23] at this; omega)) (by omega)
          · refine go_iconst dX12_isName_30 ?_
            exact go_ret (v := 0) rfl dX12_isName_31 (okZ (by first | exact Or.inl rfl | exact Or.inr rfl | assumption | omega)) ⟨rfl, (Or.inr ⟨rfl, fun z => hnm.mpr z k hk0 (by omega) (hl0.mp (by rw [← hr_23]; omega))⟩)⟩
    exact lp_12 _ 0 (by first | assumption | omega | rfl) (by first | assumption | omega | rfl) (fun j a b => by omega) (Nat.lt_succ_self _)
  · refine go_iconst dX12_isName_8 ?_
    exact go_ret (v := 0) rfl dX12_isName_9 (okZ (by first | exact Or.inl rfl | exact Or.inr rfl | assumption | omega)) ⟨rfl, (Or.inr ⟨rfl, (hkd.n2 (by omega)).1⟩)⟩
theorem dX12_bad_0 : decode mX12_bad.2.1 0 = .ok (.aload_n 0, 1) := by decide +kernel
theorem dX12_bad_1 : decode mX12_bad.2.1 1 = .ok (.aload_n 0, 1) := by decide +kernel
theorem dX12_bad_2 : decode mX12_bad.2.1 2 = .ok (.getfield 30, 3) := by decide +kernel
theorem dX12_bad_5 : decode mX12_bad.2.1 5 = .ok (.iconst 1, 1) := by decide +kernel
theorem dX12_bad_6 : decode mX12_bad.2.1 6 = .ok (.if_icmp .ne 7, 3) := by decide +kernel
theorem dX12_bad_9 : decode mX12_bad.2.1 9 = .ok (.iconst 1, 1) := by decide +kernel
theorem dX12_bad_10 : decode mX12_bad.2.1 10 = .ok (.goto 4, 3) := by decide +kernel
theorem dX12_bad_13 : decode mX12_bad.2.1 13 = .ok (.iload_n 1, 1) := by decide +kernel
theorem dX12_bad_14 : decode mX12_bad.2.1 14 = .ok (.putfield 66, 3) := by decide +kernel
theorem dX12_bad_17 : decode mX12_bad.2.1 17 = .ok (.aload_n 0, 1) := by decide +kernel
theorem dX12_bad_18 : decode mX12_bad.2.1 18 = .ok (.aload_n 0, 1) := by decide +kernel
theorem dX12_bad_19 : decode mX12_bad.2.1 19 = .ok (.getfield 24, 3) := by decide +kernel
theorem dX12_bad_22 : decode mX12_bad.2.1 22 = .ok (.putfield 69, 3) := by decide +kernel
theorem dX12_bad_25 : decode mX12_bad.2.1 25 = .ok (.iconst 0, 1) := by decide +kernel
theorem dX12_bad_26 : decode mX12_bad.2.1 26 = .ok (.ireturn, 1) := by decide +kernel
set_option maxRecDepth 4000 in
theorem ev_X12_bad {m : Mem} {G : Mem} {t : Int → Int} {kw : Int → Int} {n : Int} {lim : Int} {i : Int} {k : Int} (htm : TM G t kw n lim m i) (hk : InR k) : Ev 0 1 mX12_bad [vr 214, vi k] m (fun r m' => r = 0 ∧ m' = wr (wr m 214 10 (if G 4 i = 1 then 1 else k)) 214 11 (G 5 i)) := by
  refine Ev.of (L := [vr 214, vi k]) (by decide +kernel) rfl (Nat.le_of_ble_eq_true rfl) rfl (fun t ht => by cases ht; first | exact Or.inl rfl | exact Or.inr (Or.inl rfl) | exact Or.inr (Or.inr rfl)) (fun hcan => ?_)
  have hkd := htm.kd
  have hk1 := hkd.k1
  refine go_aload_n dX12_bad_0 rfl ?_
  refine go_aload_n dX12_bad_1 rfl ?_
  refine go_getf_i (ki := 7) dX12_bad_2 fl_12_30 ob_214 rfl rfl (fun hf_2 => ?_)
  refine go_iconst dX12_bad_5 ?_
  refine go_icmp_ne (tgt := 13) dX12_bad_6 (by decide) ⟨by omega, by omega⟩ ⟨by omega, by omega⟩ (fun h_6 => ?_) (fun h_6 => ?_)
  · refine go_iload_n dX12_bad_13 rfl ?_
    refine go_putf_i (ki := 10) dX12_bad_14 fw_12_66 ob_214 rfl rfl ⟨by omega, by omega⟩ ?_
    refine go_aload_n dX12_bad_17 rfl ?_
    refine go_aload_n dX12_bad_18 rfl ?_
    refine go_getf_i (ki := 6) dX12_bad_19 fl_12_24 ob_214 rfl rfl (fun hf_19 => ?_)
    rw [show ((wr m 214 10 k) 214 6 : Int) = (G 5 i) from by rw [wr_ni (by decide)]; exact htm.2.2.2.2.1] at hf_19 ⊢
    refine go_putf_i (ki := 11) dX12_bad_22 fw_12_69 ob_214 rfl rfl ⟨by omega, by omega⟩ ?_
    refine go_iconst dX12_bad_25 ?_
    exact go_ret (v := 0) rfl dX12_bad_26 (okZ (by first | exact Or.inl rfl | exact Or.inr rfl | assumption | omega)) ⟨rfl, by first | rw [if_pos (by omega)] | rw [if_neg (by omega)]⟩
  · refine go_iconst dX12_bad_9 ?_
    refine go_goto (tgt := 14) dX12_bad_10 (by decide) ?_
    refine go_putf_i (ki := 10) dX12_bad_14 fw_12_66 ob_214 rfl rfl ⟨by omega, by omega⟩ ?_
    refine go_aload_n dX12_bad_17 rfl ?_
    refine go_aload_n dX12_bad_18 rfl ?_
    refine go_getf_i (ki := 6) dX12_bad_19 fl_12_24 ob_214 rfl rfl (fun hf_19 => ?_)
    rw [show ((wr m 214 10 1) 214 6 : Int) = (G 5 i) from by rw [wr_ni (by decide)]; exact htm.2.2.2.2.1] at hf_19 ⊢
    refine go_putf_i (ki := 11) dX12_bad_22 fw_12_69 ob_214 rfl rfl ⟨by omega, by omega⟩ ?_
    refine go_iconst dX12_bad_25 ?_
    exact go_ret (v := 0) rfl dX12_bad_26 (okZ (by first | exact Or.inl rfl | exact Or.inr rfl | assumption | omega)) ⟨rfl, by first | rw [if_pos (by omega)] | rw [if_neg (by omega)]⟩
theorem dX12_readNumber_0 : decode mX12_readNumber.2.1 0 = .ok (.aload_n 0, 1) := by decide +kernel
theorem dX12_readNumber_1 : decode mX12_readNumber.2.1 1 = .ok (.getfield 30, 3) := by decide +kernel
theorem dX12_readNumber_4 : decode mX12_readNumber.2.1 4 = .ok (.iconst 3, 1) := by decide +kernel
theorem dX12_readNumber_5 : decode mX12_readNumber.2.1 5 = .ok (.if_icmp .eq 9, 3) := by decide +kernel
theorem dX12_readNumber_8 : decode mX12_readNumber.2.1 8 = .ok (.aload_n 0, 1) := by decide +kernel
theorem dX12_readNumber_9 : decode mX12_readNumber.2.1 9 = .ok (.iconst 1, 1) := by decide +kernel
theorem dX12_readNumber_10 : decode mX12_readNumber.2.1 10 = .ok (.invokevirtual 72, 3) := by decide +kernel
theorem dX12_readNumber_13 : decode mX12_readNumber.2.1 13 = .ok (.ireturn, 1) := by decide +kernel
theorem dX12_readNumber_14 : decode mX12_readNumber.2.1 14 = .ok (.aload_n 0, 1) := by decide +kernel
theorem dX12_readNumber_15 : decode mX12_readNumber.2.1 15 = .ok (.getfield 47, 3) := by decide +kernel
theorem dX12_readNumber_18 : decode mX12_readNumber.2.1 18 = .ok (.iload_n 1, 1) := by decide +kernel
theorem dX12_readNumber_19 : decode mX12_readNumber.2.1 19 = .ok (.iload_n 2, 1) := by decide +kernel
theorem dX12_readNumber_20 : decode mX12_readNumber.2.1 20 = .ok (.invokestatic 75, 3) := by decide +kernel
theorem dX12_readNumber_23 : decode mX12_readNumber.2.1 23 = .ok (.ifCond .ne 9, 3) := by decide +kernel
theorem dX12_readNumber_26 : decode mX12_readNumber.2.1 26 = .ok (.aload_n 0, 1) := by decide +kernel
theorem dX12_readNumber_27 : decode mX12_readNumber.2.1 27 = .ok (.iconst 2, 1) := by decide +kernel
theorem dX12_readNumber_28 : decode mX12_readNumber.2.1 28 = .ok (.invokevirtual 72, 3) := by decide +kernel
theorem dX12_readNumber_31 : decode mX12_readNumber.2.1 31 = .ok (.ireturn, 1) := by decide +kernel
theorem dX12_readNumber_32 : decode mX12_readNumber.2.1 32 = .ok (.aload_n 0, 1) := by decide +kernel
theorem dX12_readNumber_33 : decode mX12_readNumber.2.1 33 = .ok (.aload_n 0, 1) := by decide +kernel
theorem dX12_readNumber_34 : decode mX12_readNumber.2.1 34 = .ok (.getfield 47, 3) := by decide +kernel
theorem dX12_readNumber_37 : decode mX12_readNumber.2.1 37 = .ok (.putfield 79, 3) := by decide +kernel
theorem dX12_readNumber_40 : decode mX12_readNumber.2.1 40 = .ok (.aload_n 0, 1) := by decide +kernel
theorem dX12_readNumber_41 : decode mX12_readNumber.2.1 41 = .ok (.invokevirtual 82, 3) := by decide +kernel
theorem dX12_readNumber_44 : decode mX12_readNumber.2.1 44 = .ok (.iconst 1, 1) := by decide +kernel
theorem dX12_readNumber_45 : decode mX12_readNumber.2.1 45 = .ok (.ireturn, 1) := by decide +kernel
set_option maxRecDepth 4000 in
theorem ev_X12_readNumber {m : Mem} {G : Mem} {t : Int → Int} {kw : Int → Int} {n : Int} {lim : Int} {i : Int} {lo : Int} {hi : Int} (htm : TM G t kw n lim m i) (h1 : InR lo) (h2 : InR hi) : Ev 0 3 mX12_readNumber [vr 214, vi lo, vi hi] m (fun r m' => RnP G t kw n lim m m' i lo hi r) := by
  refine Ev.of (L := [vr 214, vi lo, vi hi]) (by decide +kernel) rfl (Nat.le_of_ble_eq_true rfl) rfl (fun t ht => by cases ht; first | exact Or.inl rfl | exact Or.inr (Or.inl rfl) | exact Or.inr (Or.inr rfl)) (fun hcan => ?_)
  have hkd := htm.kd
  have hrg := hkd.rng
  refine go_aload_n dX12_readNumber_0 rfl ?_
  refine go_getf_i (ki := 7) dX12_readNumber_1 fl_12_30 ob_214 rfl rfl (fun hf_1 => ?_)
  refine go_iconst dX12_readNumber_4 ?_
  refine go_icmp_eq (tgt := 14) dX12_readNumber_5 (by decide) ⟨by omega, by omega⟩ ⟨by omega, by omega⟩ (fun h_5 => ?_) (fun h_5 => ?_)
  · have h3 := hkd.k3 (by omega)
    have hv : m 214 8 = vN G i := h3.2
    refine go_aload_n dX12_readNumber_14 rfl ?_
    refine go_getf_i (ki := 8) dX12_readNumber_15 fl_12_47 ob_214 rfl rfl (fun hf_15 => ?_)
    refine go_iload_n dX12_readNumber_18 rfl ?_
    refine go_iload_n dX12_readNumber_19 rfl ?_
    refine go_callSp_z (as := [vi (m 214 8), vi lo, vi hi]) (S := []) (ev_X12_isIn (m := m) (n := (m 214 8)) (lo := lo) (hi := hi) (by first | assumption | omega | exact ⟨by omega, by omega⟩ | (constructor <;> omega)) (by first | assumption | omega | exact ⟨by omega, by omega⟩ | (constructor <;> omega)) (by first | assumption | omega | exact ⟨by omega, by omega⟩ | (constructor <;> omega))) rfl dX12_readNumber_20 cs_12_75 rfl rfl (by decide) (Nat.le_of_ble_eq_true rfl) (fun r_20 hr_20 ho_20 => ?_)
    refine go_if_ne (tgt := 32) dX12_readNumber_23 (by decide) ⟨by omega, by omega⟩ (fun h_23 => ?_) (fun h_23 => ?_)
    · refine go_aload_n dX12_readNumber_32 rfl ?_
      refine go_aload_n dX12_readNumber_33 rfl ?_
      refine go_getf_i (ki := 8) dX12_readNumber_34 fl_12_47 ob_214 rfl rfl (fun hf_34 => ?_)
      refine go_putf_i (ki := 13) dX12_readNumber_37 fw_12_79 ob_214 rfl rfl ⟨by omega, by omega⟩ ?_
      refine go_aload_n dX12_readNumber_40 rfl ?_
      refine go_callV_v (as := []) (S := []) (b := 214) (ev_X12_go (m := (wr m 214 13 (m 214 8))) (G := G) (t := t) (kw := kw) (n := n) (lim := lim) (i := (i + 1)) ((htm.nx (by omega)).w (by decide) (by omega))) rfl dX12_readNumber_41 cv_12_82 rfl rfl ob_214 rfl (by decide) (Nat.le_of_ble_eq_true rfl) (fun m_41 hr_41 => ?_)
      refine go_iconst dX12_readNumber_44 ?_
      exact go_ret (v := 1) rfl dX12_readNumber_45 (okZ (by first | exact Or.inl rfl | exact Or.inr rfl | assumption | omega)) (Or.inl ⟨by unfold numF; rw [if_pos h3.1, if_pos (by omega)], rfl, ⟨(Lx.rf.w (by omega) (by omega)).tr hr_41.1.l, by rw [hr_41.1.2 10 (by decide) (by decide) (by decide) (by decide) (by decide) (by decide), wr_ni (by decide)], hr_41.2⟩, by rw [hr_41.1.2 13 (by decide) (by decide) (by decide) (by decide) (by decide) (by decide), wr_self]; exact hv⟩)
    · refine go_aload_n dX12_readNumber_26 rfl ?_
      refine go_iconst dX12_readNumber_27 ?_
      refine go_callV_z (as := [vi 2]) (S := []) (b := 214) (ev_X12_bad (m := m) (k := 2) (G := G) (t := t) (kw := kw) (n := n) (lim := lim) (i := i) htm (by first | assumption | omega | exact ⟨by omega, by omega⟩ | (constructor <;> omega))) rfl dX12_readNumber_28 cv_12_72 rfl rfl ob_214 rfl (by decide) (Nat.le_of_ble_eq_true rfl) (fun r_28 m_28 hr_28 ho_28 => ?_)
      exact go_ret (v := r_28) rfl dX12_readNumber_31 (okZ (by first | exact Or.inl rfl | exact Or.inr rfl | assumption | omega)) (Or.inr ⟨by unfold numF; rw [if_pos h3.1, if_neg (by omega)]; decide, hr_28.1, by unfold numF; rw [if_pos h3.1, if_neg (by omega)]; refine NoT.b ?_; rw [hr_28.2, if_neg (by omega)]⟩)
  · refine go_aload_n dX12_readNumber_8 rfl ?_
    refine go_iconst dX12_readNumber_9 ?_
    refine go_callV_z (as := [vi 1]) (S := []) (b := 214) (ev_X12_bad (m := m) (k := 1) (G := G) (t := t) (kw := kw) (n := n) (lim := lim) (i := i) htm (by first | assumption | omega | exact ⟨by omega, by omega⟩ | (constructor <;> omega))) rfl dX12_readNumber_10 cv_12_72 rfl rfl ob_214 rfl (by decide) (Nat.le_of_ble_eq_true rfl) (fun r_10 m_10 hr_10 ho_10 => ?_)
    exact go_ret (v := r_10) rfl dX12_readNumber_13 (okZ (by first | exact Or.inl rfl | exact Or.inr rfl | assumption | omega)) (Or.inr ⟨by unfold numF; rw [if_neg (hkd.n3 (by omega))]; decide, hr_10.1, by unfold numF; rw [if_neg (hkd.n3 (by omega))]; refine NoT.b ?_; rw [hr_10.2]; congr 2; split <;> rfl⟩)
theorem dX12_readEnd_0 : decode mX12_readEnd.2.1 0 = .ok (.aload_n 0, 1) := by decide +kernel
theorem dX12_readEnd_1 : decode mX12_readEnd.2.1 1 = .ok (.bipush 59, 2) := by decide +kernel
theorem dX12_readEnd_3 : decode mX12_readEnd.2.1 3 = .ok (.invokevirtual 86, 3) := by decide +kernel
theorem dX12_readEnd_6 : decode mX12_readEnd.2.1 6 = .ok (.ifCond .ne 9, 3) := by decide +kernel
theorem dX12_readEnd_9 : decode mX12_readEnd.2.1 9 = .ok (.aload_n 0, 1) := by decide +kernel
theorem dX12_readEnd_10 : decode mX12_readEnd.2.1 10 = .ok (.iconst 1, 1) := by decide +kernel
theorem dX12_readEnd_11 : decode mX12_readEnd.2.1 11 = .ok (.invokevirtual 72, 3) := by decide +kernel
theorem dX12_readEnd_14 : decode mX12_readEnd.2.1 14 = .ok (.ireturn, 1) := by decide +kernel
theorem dX12_readEnd_15 : decode mX12_readEnd.2.1 15 = .ok (.aload_n 0, 1) := by decide +kernel
theorem dX12_readEnd_16 : decode mX12_readEnd.2.1 16 = .ok (.invokevirtual 82, 3) := by decide +kernel
theorem dX12_readEnd_19 : decode mX12_readEnd.2.1 19 = .ok (.iconst 1, 1) := by decide +kernel
theorem dX12_readEnd_20 : decode mX12_readEnd.2.1 20 = .ok (.ireturn, 1) := by decide +kernel
set_option maxRecDepth 4000 in
theorem ev_X12_readEnd {m : Mem} {G : Mem} {t : Int → Int} {kw : Int → Int} {n : Int} {lim : Int} {i : Int} (htm : TM G t kw n lim m i) : Ev 0 3 mX12_readEnd [vr 214] m (fun r m' => ReP G t kw n lim m m' i r) := by
  refine Ev.of (L := [vr 214]) (by decide +kernel) rfl (Nat.le_of_ble_eq_true rfl) rfl (fun t ht => by cases ht; first | exact Or.inl rfl | exact Or.inr (Or.inl rfl) | exact Or.inr (Or.inr rfl)) (fun hcan => ?_)
  refine go_aload_n dX12_readEnd_0 rfl ?_
  refine go_bipush dX12_readEnd_1 (by decide) ?_
  refine go_callVp_z (as := [vi 59]) (S := []) (b := 214) (ev_X12_isSign (m := m) (c := 59) (G := G) (t := t) (kw := kw) (n := n) (lim := lim) (i := i) htm (by unfold isS; omega)) rfl dX12_readEnd_3 cv_12_86 rfl rfl ob_214 rfl (by decide) (Nat.le_of_ble_eq_true rfl) (fun r_3 hr_3 ho_3 => ?_)
  refine go_if_ne (tgt := 15) dX12_readEnd_6 (by decide) ⟨by omega, by omega⟩ (fun h_6 => ?_) (fun h_6 => ?_)
  · refine go_aload_n dX12_readEnd_15 rfl ?_
    refine go_callV_v (as := []) (S := []) (b := 214) (ev_X12_go (m := m) (G := G) (t := t) (kw := kw) (n := n) (lim := lim) (i := (i + 1)) (htm.nx (by omega))) rfl dX12_readEnd_16 cv_12_82 rfl rfl ob_214 rfl (by decide) (Nat.le_of_ble_eq_true rfl) (fun m_16 hr_16 => ?_)
    refine go_iconst dX12_readEnd_19 ?_
    exact go_ret (v := 1) rfl dX12_readEnd_20 (okZ (by first | exact Or.inl rfl | exact Or.inr rfl | assumption | omega)) (Or.inl ⟨by omega, rfl, OkT.gx hr_16.1 hr_16.2⟩)
  · refine go_aload_n dX12_readEnd_9 rfl ?_
    refine go_iconst dX12_readEnd_10 ?_
    refine go_callV_z (as := [vi 1]) (S := []) (b := 214) (ev_X12_bad (m := m) (k := 1) (G := G) (t := t) (kw := kw) (n := n) (lim := lim) (i := i) htm (by first | assumption | omega | exact ⟨by omega, by omega⟩ | (constructor <;> omega))) rfl dX12_readEnd_11 cv_12_72 rfl rfl ob_214 rfl (by decide) (Nat.le_of_ble_eq_true rfl) (fun r_11 m_11 hr_11 ho_11 => ?_)
    exact go_ret (v := r_11) rfl dX12_readEnd_14 (okZ (by first | exact Or.inl rfl | exact Or.inr rfl | assumption | omega)) (Or.inr ⟨by omega, hr_11.1, by refine NoT.b ?_; rw [hr_11.2]; congr 2; split <;> rfl⟩)
theorem dX12_begin_0 : decode mX12_begin.2.1 0 = .ok (.aload_n 0, 1) := by decide +kernel
theorem dX12_begin_1 : decode mX12_begin.2.1 1 = .ok (.iconst 0, 1) := by decide +kernel
theorem dX12_begin_2 : decode mX12_begin.2.1 2 = .ok (.putfield 1, 3) := by decide +kernel
theorem dX12_begin_5 : decode mX12_begin.2.1 5 = .ok (.aload_n 0, 1) := by decide +kernel
theorem dX12_begin_6 : decode mX12_begin.2.1 6 = .ok (.aload_n 0, 1) := by decide +kernel
theorem dX12_begin_7 : decode mX12_begin.2.1 7 = .ok (.invokevirtual 89, 3) := by decide +kernel
theorem dX12_begin_10 : decode mX12_begin.2.1 10 = .ok (.putfield 18, 3) := by decide +kernel
theorem dX12_begin_13 : decode mX12_begin.2.1 13 = .ok (.aload_n 0, 1) := by decide +kernel
theorem dX12_begin_14 : decode mX12_begin.2.1 14 = .ok (.iload_n 1, 1) := by decide +kernel
theorem dX12_begin_15 : decode mX12_begin.2.1 15 = .ok (.putfield 27, 3) := by decide +kernel
theorem dX12_begin_18 : decode mX12_begin.2.1 18 = .ok (.aload_n 0, 1) := by decide +kernel
theorem dX12_begin_19 : decode mX12_begin.2.1 19 = .ok (.iconst 0, 1) := by decide +kernel
theorem dX12_begin_20 : decode mX12_begin.2.1 20 = .ok (.putfield 66, 3) := by decide +kernel
theorem dX12_begin_23 : decode mX12_begin.2.1 23 = .ok (.aload_n 0, 1) := by decide +kernel
theorem dX12_begin_24 : decode mX12_begin.2.1 24 = .ok (.iconst 0, 1) := by decide +kernel
theorem dX12_begin_25 : decode mX12_begin.2.1 25 = .ok (.putfield 21, 3) := by decide +kernel
theorem dX12_begin_28 : decode mX12_begin.2.1 28 = .ok (.aload_n 0, 1) := by decide +kernel
theorem dX12_begin_29 : decode mX12_begin.2.1 29 = .ok (.invokevirtual 82, 3) := by decide +kernel
theorem dX12_begin_32 : decode mX12_begin.2.1 32 = .ok (.return_, 1) := by decide +kernel
set_option maxRecDepth 4000 in
theorem ev_X12_begin {m : Mem} {G : Mem} {t : Int → Int} {kw : Int → Int} {n : Int} {lim : Int} (hte : TE G t kw n lim) (hsz : m 214 2 = n) (ht : ∀ j : Int, 0 ≤ j → j < n → m 215 j = t j) : Ev 0 3 mX12_begin [vr 214, vi lim] m (fun r m' => BeP G t kw n lim m m') := by
  refine Ev.of (L := [vr 214, vi lim]) (by decide +kernel) rfl (Nat.le_of_ble_eq_true rfl) rfl (fun t ht => by cases ht) (fun hcan => ?_)
  obtain ⟨hTk, hkw, hn, hlim, h255⟩ := id hte
  have hT1 := hTk.1
  refine go_aload_n dX12_begin_0 rfl ?_
  refine go_iconst dX12_begin_1 ?_
  refine go_putf_i (ki := 0) dX12_begin_2 fw_12_1 ob_214 rfl rfl ⟨by omega, by omega⟩ ?_
  refine go_aload_n dX12_begin_5 rfl ?_
  refine go_aload_n dX12_begin_6 rfl ?_
  refine go_callV_i (as := []) (S := [vr 214]) (b := 214) (ev_X12_take (m := (wr m 214 0 0))  ) rfl dX12_begin_7 cv_12_89 rfl rfl ob_214 rfl (by decide) (Nat.le_of_ble_eq_true rfl) (fun r_7 m_7 hr_7 ho_7 => ?_)
  obtain ⟨ha_7, hm_7⟩ := hr_7
  rw [wr_ni (by decide), hsz] at ha_7
  have ha_7 := ha_7.symm
  subst ha_7
  subst hm_7
  refine go_putf_i (ki := 3) dX12_begin_10 fw_12_18 ob_214 rfl rfl ⟨by omega, by omega⟩ ?_
  refine go_aload_n dX12_begin_13 rfl ?_
  refine go_iload_n dX12_begin_14 rfl ?_
  refine go_putf_i (ki := 4) dX12_begin_15 fw_12_27 ob_214 rfl rfl ⟨by omega, by omega⟩ ?_
  refine go_aload_n dX12_begin_18 rfl ?_
  refine go_iconst dX12_begin_19 ?_
  refine go_putf_i (ki := 10) dX12_begin_20 fw_12_66 ob_214 rfl rfl ⟨by omega, by omega⟩ ?_
  refine go_aload_n dX12_begin_23 rfl ?_
  refine go_iconst dX12_begin_24 ?_
  refine go_putf_i (ki := 5) dX12_begin_25 fw_12_21 ob_214 rfl rfl ⟨by omega, by omega⟩ ?_
  refine go_aload_n dX12_begin_28 rfl ?_
  refine go_callV_v (as := []) (S := []) (b := 214) (ev_X12_go (m := (wr (wr (wr (wr (wr (wr m 214 0 0) 214 2 0) 214 3 n) 214 4 lim) 214 10 0) 214 5 0)) (G := G) (t := t) (kw := kw) (n := n) (lim := lim) (i := 0) ⟨hte, ⟨by rw [wr_ni (by decide), wr_ni (by decide), wr_ni (by decide), wr_self], by rw [wr_ni (by decide), wr_ni (by decide), wr_self], fun j a b => by simp (disch := decide) only [wr_na]; exact ht j a b⟩, ⟨by omega, by omega⟩, wr_self _ _ _ _⟩) rfl dX12_begin_29 cv_12_82 rfl rfl ob_214 rfl (by decide) (Nat.le_of_ble_eq_true rfl) (fun m_29 hr_29 => ?_)
  refine go_ret (v := 0) rfl dX12_begin_32 rfl ?_
  refine ⟨hr_29.2, fun b hb => ?_, ⟨?_, ?_, ?_⟩, fun j hj => ?_⟩
  · rw [hr_29.1.1 b hb]; simp (disch := exact hb) only [wr_row]
  · rw [hr_29.1.2 0 (by decide) (by decide) (by decide) (by decide) (by decide) (by decide)]; simp (disch := decide) only [wr_ni, wr_self]
  · rw [hr_29.1.2 2 (by decide) (by decide) (by decide) (by decide) (by decide) (by decide)]; simp (disch := decide) only [wr_ni, wr_self]
  · rw [hr_29.1.2 10 (by decide) (by decide) (by decide) (by decide) (by decide) (by decide)]; simp (disch := decide) only [wr_ni, wr_self]
  · rw [hr_29.1.2 j (by omega) (by omega) (by omega) (by omega) (by omega) (by omega)]; simp (disch := omega) only [wr_ni]
theorem dX12_findIn_0 : decode mX12_findIn.2.1 0 = .ok (.iconst 0, 1) := by decide +kernel
theorem dX12_findIn_1 : decode mX12_findIn.2.1 1 = .ok (.istore 5, 2) := by decide +kernel
theorem dX12_findIn_3 : decode mX12_findIn.2.1 3 = .ok (.iload 5, 2) := by decide +kernel
theorem dX12_findIn_5 : decode mX12_findIn.2.1 5 = .ok (.iload_n 2, 1) := by decide +kernel
theorem dX12_findIn_6 : decode mX12_findIn.2.1 6 = .ok (.if_icmp .ge 23, 3) := by decide +kernel
theorem dX12_findIn_9 : decode mX12_findIn.2.1 9 = .ok (.aload_n 0, 1) := by decide +kernel
theorem dX12_findIn_10 : decode mX12_findIn.2.1 10 = .ok (.iload_n 1, 1) := by decide +kernel
theorem dX12_findIn_11 : decode mX12_findIn.2.1 11 = .ok (.iload 5, 2) := by decide +kernel
theorem dX12_findIn_13 : decode mX12_findIn.2.1 13 = .ok (.iadd, 1) := by decide +kernel
theorem dX12_findIn_14 : decode mX12_findIn.2.1 14 = .ok (.laload, 1) := by decide +kernel
theorem dX12_findIn_15 : decode mX12_findIn.2.1 15 = .ok (.lload_n 3, 1) := by decide +kernel
theorem dX12_findIn_16 : decode mX12_findIn.2.1 16 = .ok (.lcmp, 1) := by decide +kernel
theorem dX12_findIn_17 : decode mX12_findIn.2.1 17 = .ok (.ifCond .ne 6, 3) := by decide +kernel
theorem dX12_findIn_20 : decode mX12_findIn.2.1 20 = .ok (.iload 5, 2) := by decide +kernel
theorem dX12_findIn_22 : decode mX12_findIn.2.1 22 = .ok (.ireturn, 1) := by decide +kernel
theorem dX12_findIn_23 : decode mX12_findIn.2.1 23 = .ok (.iinc 5 1, 3) := by decide +kernel
theorem dX12_findIn_26 : decode mX12_findIn.2.1 26 = .ok (.goto (-23), 3) := by decide +kernel
theorem dX12_findIn_29 : decode mX12_findIn.2.1 29 = .ok (.iconst (-1), 1) := by decide +kernel
theorem dX12_findIn_30 : decode mX12_findIn.2.1 30 = .ok (.ireturn, 1) := by decide +kernel
set_option maxRecDepth 4000 in
theorem ev_X12_findIn {m : Mem} {a : Nat} {b : Int} {c : Int} {w : Int} (ha : ar a 3 16) (hb : 0 ≤ b ∧ 0 ≤ c ∧ b + c ≤ 16) (hw : InL w) : Ev 0 1 mX12_findIn [vr a, vi b, vi c, vl w] m (fun r m' => m' = m ∧ (r = fnd (fun k => decide (m a (b + k) = w)) c)) := by
  refine Ev.of (L := [vr a, vi b, vi c, vl w, un, un]) (by decide +kernel) rfl (Nat.le_of_ble_eq_true rfl) rfl (fun t ht => by cases ht; first | exact Or.inl rfl | exact Or.inr (Or.inl rfl) | exact Or.inr (Or.inr rfl)) (fun hcan => ?_)
  refine go_iconst dX12_findIn_0 ?_
  refine go_istore (L' := [vr a, vi b, vi c, vl w, un, vi 0]) dX12_findIn_1 (by decide) rfl rfl ?_
  have lp_3 : ∀ (n_3 : Nat) (k : Int) , (0 ≤ k) → (k ≤ c) → (∀ j : Int, 0 ≤ j → j < k → decide (m a (b + j) = w) = false) → (c - k).toNat < n_3 → Go 0 1 mX12_findIn (fun r m' => m' = m ∧ (r = fnd (fun k => decide (m a (b + k) = w)) c)) 3 [vr a, vi b, vi c, vl w, un, vi k] [] m := by
    intro n_3
    induction n_3 with
    | zero => intro k hk0 hk1 hno hmu; exact absurd hmu (Nat.not_lt_zero _)
    | succ n_3 ih_3 =>
      intro k hk0 hk1 hno hmu
      refine go_iload dX12_findIn_3 rfl ?_
      refine go_iload_n dX12_findIn_5 rfl ?_
      refine go_icmp_ge (tgt := 29) dX12_findIn_6 (by decide) ⟨by omega, by omega⟩ ⟨by omega, by omega⟩ (fun h_6 => ?_) (fun h_6 => ?_)
      · refine go_iconst dX12_findIn_29 ?_
        exact go_ret (v := (-1)) rfl dX12_findIn_30 (okI ⟨by omega, by omega⟩) ⟨rfl, (fnd_none (fun j a b => hno j a (by omega))).symm⟩
      · refine go_aload_n dX12_findIn_9 rfl ?_
        refine go_iload_n dX12_findIn_10 rfl ?_
        refine go_iload dX12_findIn_11 rfl ?_
        refine go_iadd dX12_findIn_13 ?_
        refine go_laload dX12_findIn_14 ha (by omega) (by omega) (fun he_14 => ?_)
        refine go_lload_n dX12_findIn_15 rfl ?_
        refine go_lcmp dX12_findIn_16 he_14 hw ?_
        have hl0 := lcmpI_0 (m a (b + k)) w
        refine go_if_ne (tgt := 23) dX12_findIn_17 (by decide) (lcmpI_R _ _) (fun h_17 => ?_) (fun h_17 => ?_)
        · refine go_iinc (L' := [vr a, vi b, vi c, vl w, un, vi (k + 1)]) dX12_findIn_23 rfl (by decide) rfl rfl ?_
          refine go_goto (tgt := 3) dX12_findIn_26 (by decide) ?_
          exact ih_3 (k + 1) (by first | assumption | omega | rfl) (by first | assumption | omega | rfl) (stp hno (decide_eq_false (fun z => by have := hl0.mpr z; omega))) (by omega)
        · refine go_iload dX12_findIn_20 rfl ?_
          exact go_ret (v := k) rfl dX12_findIn_22 (okI ⟨by omega, by omega⟩) ⟨rfl, (fnd_some hk0 (by omega) (decide_eq_true (hl0.mp (by omega))) hno).symm⟩
  exact lp_3 _ 0 (by first | assumption | omega | rfl) (by first | assumption | omega | rfl) (fun j a b => by omega) (Nat.lt_succ_self _)
theorem dX12_isFilled_0 : decode mX12_isFilled.2.1 0 = .ok (.aload_n 0, 1) := by decide +kernel
theorem dX12_isFilled_1 : decode mX12_isFilled.2.1 1 = .ok (.getfield 101, 3) := by decide +kernel
theorem dX12_isFilled_4 : decode mX12_isFilled.2.1 4 = .ok (.bipush 42, 2) := by decide +kernel
theorem dX12_isFilled_6 : decode mX12_isFilled.2.1 6 = .ok (.iload_n 1, 1) := by decide +kernel
theorem dX12_isFilled_7 : decode mX12_isFilled.2.1 7 = .ok (.iadd, 1) := by decide +kernel
theorem dX12_isFilled_8 : decode mX12_isFilled.2.1 8 = .ok (.iaload, 1) := by decide +kernel
theorem dX12_isFilled_9 : decode mX12_isFilled.2.1 9 = .ok (.ifCond .le 5, 3) := by decide +kernel
theorem dX12_isFilled_12 : decode mX12_isFilled.2.1 12 = .ok (.iconst 1, 1) := by decide +kernel
theorem dX12_isFilled_13 : decode mX12_isFilled.2.1 13 = .ok (.ireturn, 1) := by decide +kernel
theorem dX12_isFilled_14 : decode mX12_isFilled.2.1 14 = .ok (.iconst 0, 1) := by decide +kernel
theorem dX12_isFilled_15 : decode mX12_isFilled.2.1 15 = .ok (.istore_n 2, 1) := by decide +kernel
theorem dX12_isFilled_16 : decode mX12_isFilled.2.1 16 = .ok (.iload_n 2, 1) := by decide +kernel
theorem dX12_isFilled_17 : decode mX12_isFilled.2.1 17 = .ok (.aload_n 0, 1) := by decide +kernel
theorem dX12_isFilled_18 : decode mX12_isFilled.2.1 18 = .ok (.getfield 101, 3) := by decide +kernel
theorem dX12_isFilled_21 : decode mX12_isFilled.2.1 21 = .ok (.iconst 3, 1) := by decide +kernel
theorem dX12_isFilled_22 : decode mX12_isFilled.2.1 22 = .ok (.iaload, 1) := by decide +kernel
theorem dX12_isFilled_23 : decode mX12_isFilled.2.1 23 = .ok (.if_icmp .ge 24, 3) := by decide +kernel
theorem dX12_isFilled_26 : decode mX12_isFilled.2.1 26 = .ok (.aload_n 0, 1) := by decide +kernel
theorem dX12_isFilled_27 : decode mX12_isFilled.2.1 27 = .ok (.getfield 101, 3) := by decide +kernel
theorem dX12_isFilled_30 : decode mX12_isFilled.2.1 30 = .ok (.bipush 17, 2) := by decide +kernel
theorem dX12_isFilled_32 : decode mX12_isFilled.2.1 32 = .ok (.iload_n 2, 1) := by decide +kernel
theorem dX12_isFilled_33 : decode mX12_isFilled.2.1 33 = .ok (.iadd, 1) := by decide +kernel
theorem dX12_isFilled_34 : decode mX12_isFilled.2.1 34 = .ok (.iaload, 1) := by decide +kernel
theorem dX12_isFilled_35 : decode mX12_isFilled.2.1 35 = .ok (.iload_n 1, 1) := by decide +kernel
theorem dX12_isFilled_36 : decode mX12_isFilled.2.1 36 = .ok (.if_icmp .ne 5, 3) := by decide +kernel
theorem dX12_isFilled_39 : decode mX12_isFilled.2.1 39 = .ok (.iconst 1, 1) := by decide +kernel
theorem dX12_isFilled_40 : decode mX12_isFilled.2.1 40 = .ok (.ireturn, 1) := by decide +kernel
theorem dX12_isFilled_41 : decode mX12_isFilled.2.1 41 = .ok (.iinc 2 1, 3) := by decide +kernel
theorem dX12_isFilled_44 : decode mX12_isFilled.2.1 44 = .ok (.goto (-28), 3) := by decide +kernel
theorem dX12_isFilled_47 : decode mX12_isFilled.2.1 47 = .ok (.iconst 0, 1) := by decide +kernel
theorem dX12_isFilled_48 : decode mX12_isFilled.2.1 48 = .ok (.ireturn, 1) := by decide +kernel
set_option maxRecDepth 4000 in
theorem ev_X12_isFilled {m : Mem} {G : Mem} {c : Int} {x : Int} {y : Int} (hdr : DrOk G) (hra : RdR G (m 217) (m 222)) (hc : c = 9 * y + x) (hi : insC G 47 x y) : Ev 0 1 mX12_isFilled [vr 214, vi c] m (fun r m' => m' = m ∧ ((r = 1 ∧ filC G x y) ∨ (r = 0 ∧ ¬ filC G x y))) := by
  refine Ev.of (L := [vr 214, vi c, un]) (by decide +kernel) rfl (Nat.le_of_ble_eq_true rfl) rfl (fun t ht => by cases ht; first | exact Or.inl rfl | exact Or.inr (Or.inl rfl) | exact Or.inr (Or.inr rfl)) (fun hcan => ?_)
  obtain ⟨hdn, hst, hdr3, hdr4, hdr5, hdr6, hdr7⟩ := id hdr
  obtain ⟨⟨hd0, hd1⟩, ⟨hd2, hd3⟩, ⟨hd4, hd5⟩, ⟨hd6, hd7⟩, ⟨hd8, hd9⟩, hdf, hdp, hdq⟩ := id hdn
  obtain ⟨⟨hs0, hs1⟩, ⟨hs2, hs3⟩, hsw, hsp, hsd, hsz⟩ := id hst
  have hfl := filC_of hi
  have hww := hsw (9 * y + x)
  unfold insC at hi
  refine go_aload_n dX12_isFilled_0 rfl ?_
  refine go_getf_p (b := 217) dX12_isFilled_1 fl_12_101 ob_214 rfl pt_214_15 ?_
  refine go_bipush dX12_isFilled_4 (by decide) ?_
  refine go_iload_n dX12_isFilled_6 rfl ?_
  refine go_iadd dX12_isFilled_7 ?_
  refine go_iaload dX12_isFilled_8 ar_217 (by omega) (by omega) (fun he_8 => ?_)
  rw [show (m 217 (42 + c) : Int) = (G (57 + 1) (9 * y + x)) from by rw [hc]; exact hra.2.2.2.2 _ (by omega) (by omega)] at he_8 ⊢
  refine go_if_le (tgt := 14) dX12_isFilled_9 (by decide) ⟨by omega, by omega⟩ (fun h_9 => ?_) (fun h_9 => ?_)
  · refine go_iconst dX12_isFilled_14 ?_
    refine go_istore_n (L' := [vr 214, vi c, vi 0]) dX12_isFilled_15 (by decide) rfl rfl ?_
    have lp_16 : ∀ (n_16 : Nat) (p : Int) , (0 ≤ p) → (p ≤ G 47 3) → (∀ j : Int, 0 ≤ j → j < p → decide (G (57 + 2) j = x ∧ G (57 + 3) j = y) = false) → (G 47 3 - p).toNat < n_16 → Go 0 1 mX12_isFilled (fun r m' => m' = m ∧ ((r = 1 ∧ filC G x y) ∨ (r = 0 ∧ ¬ filC G x y))) 16 [vr 214, vi c, vi p] [] m := by
      intro n_16
      induction n_16 with
      | zero => intro p hp0 hp1 hno hmu; exact absurd hmu (Nat.not_lt_zero _)
      | succ n_16 ih_16 =>
        intro p hp0 hp1 hno hmu
        refine go_iload_n dX12_isFilled_16 rfl ?_
        refine go_aload_n dX12_isFilled_17 rfl ?_
        refine go_getf_p (b := 217) dX12_isFilled_18 fl_12_101 ob_214 rfl pt_214_15 ?_
        refine go_iconst dX12_isFilled_21 ?_
        refine go_iaload dX12_isFilled_22 ar_217 (by omega) (by omega) (fun he_22 => ?_)
        rw [show (m 217 3 : Int) = (G 47 3) from hra.1.2.2.2.1] at he_22 ⊢
        refine go_icmp_ge (tgt := 47) dX12_isFilled_23 (by decide) ⟨by omega, by omega⟩ ⟨by omega, by omega⟩ (fun h_23 => ?_) (fun h_23 => ?_)
        · refine go_iconst dX12_isFilled_47 ?_
          exact go_ret (v := 0) rfl dX12_isFilled_48 (okZ (by first | exact Or.inl rfl | exact Or.inr rfl | assumption | omega)) ⟨rfl, (Or.inr ⟨rfl, fun z => by rcases hfl.mp z with q | q; (have q2 : ¬ G (57 + 1) (9 * y + x) = 0 := q; omega); (exact q (fnd_none (fun j a b => hno j a (by omega))))⟩)⟩
        · have hpp := hsp p hp0 (by omega)
          have hrp := (hra.2.2.1 p hp0 (by omega)).1
          refine go_aload_n dX12_isFilled_26 rfl ?_
          refine go_getf_p (b := 217) dX12_isFilled_27 fl_12_101 ob_214 rfl pt_214_15 ?_
          refine go_bipush dX12_isFilled_30 (by decide) ?_
          refine go_iload_n dX12_isFilled_32 rfl ?_
          refine go_iadd dX12_isFilled_33 ?_
          refine go_iaload dX12_isFilled_34 ar_217 (by omega) (by omega) (fun he_34 => ?_)
          rw [show (m 217 (17 + p) : Int) = (9 * G (57 + 3) p + G (57 + 2) p) from hrp.1] at he_34 ⊢
          refine go_iload_n dX12_isFilled_35 rfl ?_
          refine go_icmp_ne (tgt := 41) dX12_isFilled_36 (by decide) ⟨by omega, by omega⟩ ⟨by omega, by omega⟩ (fun h_36 => ?_) (fun h_36 => ?_)
          · refine go_iinc (L' := [vr 214, vi c, vi (p + 1)]) dX12_isFilled_41 rfl (by decide) rfl rfl ?_
            refine go_goto (tgt := 16) dX12_isFilled_44 (by decide) ?_
            exact ih_16 (p + 1) (by first | assumption | omega | rfl) (by first | assumption | omega | rfl) (stp hno (decide_eq_false (by omega))) (by omega)
          · refine go_iconst dX12_isFilled_39 ?_
            exact go_ret (v := 1) rfl dX12_isFilled_40 (okZ (by first | exact Or.inl rfl | exact Or.inr rfl | assumption | omega)) ⟨rfl, (Or.inl ⟨rfl, hfl.mpr (Or.inr (by show fnd _ _ ≠ -1; rw [fnd_some hp0 (by omega) (decide_eq_true (by omega)) hno]; omega))⟩)⟩
    exact lp_16 _ 0 (by first | assumption | omega | rfl) (by first | assumption | omega | rfl) (fun j a b => by omega) (Nat.lt_succ_self _)
  · refine go_iconst dX12_isFilled_12 ?_
    exact go_ret (v := 1) rfl dX12_isFilled_13 (okZ (by first | exact Or.inl rfl | exact Or.inr rfl | assumption | omega)) ⟨rfl, (Or.inl ⟨rfl, hfl.mpr (Or.inl (fun z => by have z2 : G (57 + 1) (9 * y + x) = 0 := z; omega))⟩)⟩
theorem dX12_readCell_0 : decode mX12_readCell.2.1 0 = .ok (.aload_n 0, 1) := by decide +kernel
theorem dX12_readCell_1 : decode mX12_readCell.2.1 1 = .ok (.iconst 1, 1) := by decide +kernel
theorem dX12_readCell_2 : decode mX12_readCell.2.1 2 = .ok (.putfield 178, 3) := by decide +kernel
theorem dX12_readCell_5 : decode mX12_readCell.2.1 5 = .ok (.aload_n 0, 1) := by decide +kernel
theorem dX12_readCell_6 : decode mX12_readCell.2.1 6 = .ok (.iconst 0, 1) := by decide +kernel
theorem dX12_readCell_7 : decode mX12_readCell.2.1 7 = .ok (.aload_n 0, 1) := by decide +kernel
theorem dX12_readCell_8 : decode mX12_readCell.2.1 8 = .ok (.getfield 101, 3) := by decide +kernel
theorem dX12_readCell_11 : decode mX12_readCell.2.1 11 = .ok (.iconst 0, 1) := by decide +kernel
theorem dX12_readCell_12 : decode mX12_readCell.2.1 12 = .ok (.iaload, 1) := by decide +kernel
theorem dX12_readCell_13 : decode mX12_readCell.2.1 13 = .ok (.iconst 1, 1) := by decide +kernel
theorem dX12_readCell_14 : decode mX12_readCell.2.1 14 = .ok (.isub, 1) := by decide +kernel
theorem dX12_readCell_15 : decode mX12_readCell.2.1 15 = .ok (.invokevirtual 181, 3) := by decide +kernel
theorem dX12_readCell_18 : decode mX12_readCell.2.1 18 = .ok (.ifCond .ne 5, 3) := by decide +kernel
theorem dX12_readCell_21 : decode mX12_readCell.2.1 21 = .ok (.iconst 0, 1) := by decide +kernel
theorem dX12_readCell_22 : decode mX12_readCell.2.1 22 = .ok (.ireturn, 1) := by decide +kernel
theorem dX12_readCell_23 : decode mX12_readCell.2.1 23 = .ok (.aload_n 0, 1) := by decide +kernel
theorem dX12_readCell_24 : decode mX12_readCell.2.1 24 = .ok (.getfield 79, 3) := by decide +kernel
theorem dX12_readCell_27 : decode mX12_readCell.2.1 27 = .ok (.istore_n 2, 1) := by decide +kernel
theorem dX12_readCell_28 : decode mX12_readCell.2.1 28 = .ok (.aload_n 0, 1) := by decide +kernel
theorem dX12_readCell_29 : decode mX12_readCell.2.1 29 = .ok (.getfield 30, 3) := by decide +kernel
theorem dX12_readCell_32 : decode mX12_readCell.2.1 32 = .ok (.iconst 3, 1) := by decide +kernel
theorem dX12_readCell_33 : decode mX12_readCell.2.1 33 = .ok (.if_icmp .eq 9, 3) := by decide +kernel
theorem dX12_readCell_36 : decode mX12_readCell.2.1 36 = .ok (.aload_n 0, 1) := by decide +kernel
theorem dX12_readCell_37 : decode mX12_readCell.2.1 37 = .ok (.iconst 1, 1) := by decide +kernel
theorem dX12_readCell_38 : decode mX12_readCell.2.1 38 = .ok (.invokevirtual 72, 3) := by decide +kernel
theorem dX12_readCell_41 : decode mX12_readCell.2.1 41 = .ok (.ireturn, 1) := by decide +kernel
theorem dX12_readCell_42 : decode mX12_readCell.2.1 42 = .ok (.aload_n 0, 1) := by decide +kernel
theorem dX12_readCell_43 : decode mX12_readCell.2.1 43 = .ok (.getfield 47, 3) := by decide +kernel
theorem dX12_readCell_46 : decode mX12_readCell.2.1 46 = .ok (.iconst 0, 1) := by decide +kernel
theorem dX12_readCell_47 : decode mX12_readCell.2.1 47 = .ok (.aload_n 0, 1) := by decide +kernel
theorem dX12_readCell_48 : decode mX12_readCell.2.1 48 = .ok (.getfield 101, 3) := by decide +kernel
theorem dX12_readCell_51 : decode mX12_readCell.2.1 51 = .ok (.iconst 1, 1) := by decide +kernel
theorem dX12_readCell_52 : decode mX12_readCell.2.1 52 = .ok (.iaload, 1) := by decide +kernel
theorem dX12_readCell_53 : decode mX12_readCell.2.1 53 = .ok (.iconst 1, 1) := by decide +kernel
theorem dX12_readCell_54 : decode mX12_readCell.2.1 54 = .ok (.isub, 1) := by decide +kernel
theorem dX12_readCell_55 : decode mX12_readCell.2.1 55 = .ok (.invokestatic 75, 3) := by decide +kernel
theorem dX12_readCell_58 : decode mX12_readCell.2.1 58 = .ok (.ifCond .ne 9, 3) := by decide +kernel
theorem dX12_readCell_61 : decode mX12_readCell.2.1 61 = .ok (.aload_n 0, 1) := by decide +kernel
theorem dX12_readCell_62 : decode mX12_readCell.2.1 62 = .ok (.iconst 2, 1) := by decide +kernel
theorem dX12_readCell_63 : decode mX12_readCell.2.1 63 = .ok (.invokevirtual 72, 3) := by decide +kernel
theorem dX12_readCell_66 : decode mX12_readCell.2.1 66 = .ok (.ireturn, 1) := by decide +kernel
theorem dX12_readCell_67 : decode mX12_readCell.2.1 67 = .ok (.aload_n 0, 1) := by decide +kernel
theorem dX12_readCell_68 : decode mX12_readCell.2.1 68 = .ok (.bipush 9, 2) := by decide +kernel
theorem dX12_readCell_70 : decode mX12_readCell.2.1 70 = .ok (.aload_n 0, 1) := by decide +kernel
theorem dX12_readCell_71 : decode mX12_readCell.2.1 71 = .ok (.getfield 47, 3) := by decide +kernel
theorem dX12_readCell_74 : decode mX12_readCell.2.1 74 = .ok (.imul, 1) := by decide +kernel
theorem dX12_readCell_75 : decode mX12_readCell.2.1 75 = .ok (.iload_n 2, 1) := by decide +kernel
theorem dX12_readCell_76 : decode mX12_readCell.2.1 76 = .ok (.iadd, 1) := by decide +kernel
theorem dX12_readCell_77 : decode mX12_readCell.2.1 77 = .ok (.putfield 79, 3) := by decide +kernel
theorem dX12_readCell_80 : decode mX12_readCell.2.1 80 = .ok (.iload_n 1, 1) := by decide +kernel
theorem dX12_readCell_81 : decode mX12_readCell.2.1 81 = .ok (.ifCond .eq 20, 3) := by decide +kernel
theorem dX12_readCell_84 : decode mX12_readCell.2.1 84 = .ok (.aload_n 0, 1) := by decide +kernel
theorem dX12_readCell_85 : decode mX12_readCell.2.1 85 = .ok (.aload_n 0, 1) := by decide +kernel
theorem dX12_readCell_86 : decode mX12_readCell.2.1 86 = .ok (.getfield 79, 3) := by decide +kernel
theorem dX12_readCell_89 : decode mX12_readCell.2.1 89 = .ok (.invokevirtual 189, 3) := by decide +kernel
theorem dX12_readCell_92 : decode mX12_readCell.2.1 92 = .ok (.ifCond .eq 9, 3) := by decide +kernel
theorem dX12_readCell_95 : decode mX12_readCell.2.1 95 = .ok (.aload_n 0, 1) := by decide +kernel
theorem dX12_readCell_96 : decode mX12_readCell.2.1 96 = .ok (.iconst 3, 1) := by decide +kernel
theorem dX12_readCell_97 : decode mX12_readCell.2.1 97 = .ok (.invokevirtual 72, 3) := by decide +kernel
theorem dX12_readCell_100 : decode mX12_readCell.2.1 100 = .ok (.ireturn, 1) := by decide +kernel
theorem dX12_readCell_101 : decode mX12_readCell.2.1 101 = .ok (.aload_n 0, 1) := by decide +kernel
theorem dX12_readCell_102 : decode mX12_readCell.2.1 102 = .ok (.invokevirtual 82, 3) := by decide +kernel
theorem dX12_readCell_105 : decode mX12_readCell.2.1 105 = .ok (.iconst 1, 1) := by decide +kernel
theorem dX12_readCell_106 : decode mX12_readCell.2.1 106 = .ok (.ireturn, 1) := by decide +kernel
set_option maxRecDepth 4000 in
theorem ev_X12_readCell {m : Mem} {G : Mem} {t : Int → Int} {kw : Int → Int} {n : Int} {lim : Int} {i : Int} {e : Int} (htm : TM G t kw n lim m i) (hdr : DrOk G) (hra : RdR G (m 217) (m 222)) (he : e = 0 ∨ e = 1) : Ev 0 4 mX12_readCell [vr 214, vi e] m (fun r m' => CeP G t kw n lim m m' e i r) := by
  refine Ev.of (L := [vr 214, vi e, un]) (by decide +kernel) rfl (Nat.le_of_ble_eq_true rfl) rfl (fun t ht => by cases ht; first | exact Or.inl rfl | exact Or.inr (Or.inl rfl) | exact Or.inr (Or.inr rfl)) (fun hcan => ?_)
  obtain ⟨hdn, hst, hdr3, hdr4, hdr5, hdr6, hdr7⟩ := id hdr
  obtain ⟨⟨hd0, hd1⟩, ⟨hd2, hd3⟩, ⟨hd4, hd5⟩, ⟨hd6, hd7⟩, ⟨hd8, hd9⟩, hdf, hdp, hdq⟩ := id hdn
  obtain ⟨⟨hs0, hs1⟩, ⟨hs2, hs3⟩, hsw, hsp, hsd, hsz⟩ := id hst
  have htm0 : TM G t kw n lim (wr m 214 24 1) i := htm.w (by decide) (by omega)
  refine go_aload_n dX12_readCell_0 rfl ?_
  refine go_iconst dX12_readCell_1 ?_
  refine go_putf_z (ki := 24) dX12_readCell_2 fw_12_178 ob_214 rfl rfl (by first | exact Or.inl rfl | exact Or.inr rfl | assumption | omega) ?_
  refine go_aload_n dX12_readCell_5 rfl ?_
  refine go_iconst dX12_readCell_6 ?_
  refine go_aload_n dX12_readCell_7 rfl ?_
  refine go_getf_p (b := 217) dX12_readCell_8 fl_12_101 ob_214 rfl pt_214_15 ?_
  refine go_iconst dX12_readCell_11 ?_
  refine go_iaload dX12_readCell_12 ar_217 (by omega) (by omega) (fun he_12 => ?_)
  rw [show ((wr m 214 24 1) 217 0 : Int) = (G 47 0) from by rw [wr_na (by omega)]; exact hra.1.1] at he_12 ⊢
  refine go_iconst dX12_readCell_13 ?_
  refine go_isub dX12_readCell_14 ?_
  refine go_callV_z (as := [vi 0, vi ((G 47 0) - 1)]) (S := []) (b := 214) (ev_X12_readNumber (m := (wr m 214 24 1)) (lo := 0) (hi := ((G 47 0) - 1)) (G := G) (t := t) (kw := kw) (n := n) (lim := lim) (i := i) htm0 (by first | assumption | omega | exact ⟨by omega, by omega⟩ | (constructor <;> omega)) (by first | assumption | omega | exact ⟨by omega, by omega⟩ | (constructor <;> omega))) rfl dX12_readCell_15 cv_12_181 rfl rfl ob_214 rfl (by decide) (Nat.le_of_ble_eq_true rfl) (fun r_15 m_15 hr_15 ho_15 => ?_)
  obtain ⟨hc0, hok15, hno15⟩ : (numF (G 4) (vN G) i 0 (G 47 0 - 1) = 0 ↔ r_15 = 1) ∧ (r_15 = 1 → OkT G t kw n lim (wr m 214 24 1) m_15 (i + 1) ∧ m_15 214 13 = vN G i) ∧ (r_15 ≠ 1 → NoT G (wr m 214 24 1) m_15 (numF (G 4) (vN G) i 0 (G 47 0 - 1)) i) := by
    rcases hr_15 with ⟨a, b, c, d⟩ | ⟨a, b, c⟩
    · exact ⟨⟨fun _ => b, fun _ => a⟩, fun _ => ⟨c, d⟩, fun z => absurd b z⟩
    · exact ⟨⟨fun z => absurd z a, fun z => by omega⟩, fun z => by omega, fun _ => c⟩
  clear hr_15
  refine go_if_ne (tgt := 23) dX12_readCell_18 (by decide) ⟨by omega, by omega⟩ (fun h_18 => ?_) (fun h_18 => ?_)
  · obtain ⟨ho15, hv15⟩ := hok15 (by omega)
    have ht15 := ho15.2.2
    have hkd := ht15.kd
    have hk1 := hkd.k1
    have hra15 : RdR G (m_15 217) (m_15 222) := hra.e (by rw [ho15.1.1 217 (by decide), wr_row (by decide)]) (by rw [ho15.1.1 222 (by decide), wr_row (by decide)])
    have h00 := hc0.mpr (by omega)
    have hn0 := numF_0 h00
    refine go_aload_n dX12_readCell_23 rfl ?_
    refine go_getf_i (ki := 13) dX12_readCell_24 fl_12_79 ob_214 rfl rfl (fun hf_24 => ?_)
    rw [show (m_15 214 13 : Int) = (vN G i) from hv15] at hf_24 ⊢
    refine go_istore_n (L' := [vr 214, vi e, vi (vN G i)]) dX12_readCell_27 (by decide) rfl rfl ?_
    refine go_aload_n dX12_readCell_28 rfl ?_
    refine go_getf_i (ki := 7) dX12_readCell_29 fl_12_30 ob_214 rfl rfl (fun hf_29 => ?_)
    refine go_iconst dX12_readCell_32 ?_
    refine go_icmp_eq (tgt := 42) dX12_readCell_33 (by decide) ⟨by omega, by omega⟩ ⟨by omega, by omega⟩ (fun h_33 => ?_) (fun h_33 => ?_)
    · have h3 := hkd.k3 (by omega)
      have hv3 : m_15 214 8 = vN G (i + 1) := h3.2
      refine go_aload_n dX12_readCell_42 rfl ?_
      refine go_getf_i (ki := 8) dX12_readCell_43 fl_12_47 ob_214 rfl rfl (fun hf_43 => ?_)
      rw [show (m_15 214 8 : Int) = (vN G (i + 1)) from hv3] at hf_43 ⊢
      refine go_iconst dX12_readCell_46 ?_
      refine go_aload_n dX12_readCell_47 rfl ?_
      refine go_getf_p (b := 217) dX12_readCell_48 fl_12_101 ob_214 rfl pt_214_15 ?_
      refine go_iconst dX12_readCell_51 ?_
      refine go_iaload dX12_readCell_52 ar_217 (by omega) (by omega) (fun he_52 => ?_)
      rw [show (m_15 217 1 : Int) = (G 47 1) from hra15.1.2.1] at he_52 ⊢
      refine go_iconst dX12_readCell_53 ?_
      refine go_isub dX12_readCell_54 ?_
      refine go_callSp_z (as := [vi (vN G (i + 1)), vi 0, vi ((G 47 1) - 1)]) (S := []) (ev_X12_isIn (m := m_15) (n := (vN G (i + 1))) (lo := 0) (hi := ((G 47 1) - 1)) (by first | assumption | omega | exact ⟨by omega, by omega⟩ | (constructor <;> omega)) (by first | assumption | omega | exact ⟨by omega, by omega⟩ | (constructor <;> omega)) (by first | assumption | omega | exact ⟨by omega, by omega⟩ | (constructor <;> omega))) rfl dX12_readCell_55 cs_12_75 rfl rfl (by decide) (Nat.le_of_ble_eq_true rfl) (fun r_55 hr_55 ho_55 => ?_)
      refine go_if_ne (tgt := 67) dX12_readCell_58 (by decide) ⟨by omega, by omega⟩ (fun h_58 => ?_) (fun h_58 => ?_)
      · have hnf : numF (G 4) (vN G) (i + 1) 0 (G 47 1 - 1) = 0 := by unfold numF; rw [if_pos h3.1, if_pos (by omega)]
        have hins : insC G 47 (vN G i) (vN G (i + 1)) := by unfold insC; omega
        refine go_aload_n dX12_readCell_67 rfl ?_
        refine go_bipush dX12_readCell_68 (by decide) ?_
        refine go_aload_n dX12_readCell_70 rfl ?_
        refine go_getf_i (ki := 8) dX12_readCell_71 fl_12_47 ob_214 rfl rfl (fun hf_71 => ?_)
        rw [show (m_15 214 8 : Int) = (vN G (i + 1)) from hv3] at hf_71 ⊢
        refine go_imul dX12_readCell_74 ?_
        refine go_iload_n dX12_readCell_75 rfl ?_
        refine go_iadd dX12_readCell_76 ?_
        refine go_putf_i (ki := 13) dX12_readCell_77 fw_12_79 ob_214 rfl rfl ⟨by omega, by omega⟩ ?_
        refine go_iload_n dX12_readCell_80 rfl ?_
        refine go_if_eq (tgt := 101) dX12_readCell_81 (by decide) ⟨by omega, by omega⟩ (fun h_81 => ?_) (fun h_81 => ?_)
        · refine go_aload_n dX12_readCell_101 rfl ?_
          refine go_callV_v (as := []) (S := []) (b := 214) (ev_X12_go (m := (wr m_15 214 13 ((9 * (vN G (i + 1))) + (vN G i)))) (G := G) (t := t) (kw := kw) (n := n) (lim := lim) (i := (i + 1 + 1)) ((ht15.nx (by omega)).w (by decide) (by omega))) rfl dX12_readCell_102 cv_12_82 rfl rfl ob_214 rfl (by decide) (Nat.le_of_ble_eq_true rfl) (fun m_102 hr_102 => ?_)
          refine go_iconst dX12_readCell_105 ?_
          exact go_ret (v := 1) rfl dX12_readCell_106 (okZ (by first | exact Or.inl rfl | exact Or.inr rfl | assumption | omega)) (Or.inl (by have hq : ceF G e i = (0, i + 2) := ceF_0 h00 (by first | (rw [if_neg (by omega)]; exact hnf) | (rw [if_pos (by omega)]; unfold frF; rw [if_neg (by omega), if_neg (hr_89.resolve_left (fun h => by omega)).2])); rw [hq]; rw [show i + 1 + 1 = i + 2 by omega] at hr_102; refine ⟨rfl, rfl, rfl, ⟨(ho15.1.w (by omega) (by omega)).tr hr_102.1.l, ?_, hr_102.2⟩, ?_⟩; (rw [hr_102.1.2 10 (by decide) (by decide) (by decide) (by decide) (by decide) (by decide), wr_ni (by decide)]; exact ho15.2.1); (rw [hr_102.1.2 13 (by decide) (by decide) (by decide) (by decide) (by decide) (by decide), wr_self])))
        · refine go_aload_n dX12_readCell_84 rfl ?_
          refine go_aload_n dX12_readCell_85 rfl ?_
          refine go_getf_i (ki := 13) dX12_readCell_86 fl_12_79 ob_214 rfl rfl (fun hf_86 => ?_)
          rw [show ((wr m_15 214 13 ((9 * (vN G (i + 1))) + (vN G i))) 214 13 : Int) = ((9 * (vN G (i + 1))) + (vN G i)) from by rw [wr_self]] at hf_86 ⊢
          refine go_callVp_z (as := [vi ((9 * (vN G (i + 1))) + (vN G i))]) (S := []) (b := 214) (ev_X12_isFilled (m := (wr m_15 214 13 ((9 * (vN G (i + 1))) + (vN G i)))) (c := ((9 * (vN G (i + 1))) + (vN G i))) (G := G) (x := (vN G i)) (y := (vN G (i + 1))) hdr (hra15.e (wr_row (by decide)) (wr_row (by decide))) rfl hins) rfl dX12_readCell_89 cv_12_189 rfl rfl ob_214 rfl (by decide) (Nat.le_of_ble_eq_true rfl) (fun r_89 hr_89 ho_89 => ?_)
          refine go_if_eq (tgt := 101) dX12_readCell_92 (by decide) ⟨by omega, by omega⟩ (fun h_92 => ?_) (fun h_92 => ?_)
          · refine go_aload_n dX12_readCell_101 rfl ?_
            refine go_callV_v (as := []) (S := []) (b := 214) (ev_X12_go (m := (wr m_15 214 13 ((9 * (vN G (i + 1))) + (vN G i)))) (G := G) (t := t) (kw := kw) (n := n) (lim := lim) (i := (i + 1 + 1)) ((ht15.nx (by omega)).w (by decide) (by omega))) rfl dX12_readCell_102 cv_12_82 rfl rfl ob_214 rfl (by decide) (Nat.le_of_ble_eq_true rfl) (fun m_102 hr_102 => ?_)
            refine go_iconst dX12_readCell_105 ?_
            exact go_ret (v := 1) rfl dX12_readCell_106 (okZ (by first | exact Or.inl rfl | exact Or.inr rfl | assumption | omega)) (Or.inl (by have hq : ceF G e i = (0, i + 2) := ceF_0 h00 (by first | (rw [if_neg (by omega)]; exact hnf) | (rw [if_pos (by omega)]; unfold frF; rw [if_neg (by omega), if_neg (hr_89.resolve_left (fun h => by omega)).2])); rw [hq]; rw [show i + 1 + 1 = i + 2 by omega] at hr_102; refine ⟨rfl, rfl, rfl, ⟨(ho15.1.w (by omega) (by omega)).tr hr_102.1.l, ?_, hr_102.2⟩, ?_⟩; (rw [hr_102.1.2 10 (by decide) (by decide) (by decide) (by decide) (by decide) (by decide), wr_ni (by decide)]; exact ho15.2.1); (rw [hr_102.1.2 13 (by decide) (by decide) (by decide) (by decide) (by decide) (by decide), wr_self])))
          · refine go_aload_n dX12_readCell_95 rfl ?_
            refine go_iconst dX12_readCell_96 ?_
            refine go_callV_z (as := [vi 3]) (S := []) (b := 214) (ev_X12_bad (m := (wr m_15 214 13 ((9 * (vN G (i + 1))) + (vN G i)))) (k := 3) (G := G) (t := t) (kw := kw) (n := n) (lim := lim) (i := (i + 1)) (ht15.w (by decide) (by omega)) (by first | assumption | omega | exact ⟨by omega, by omega⟩ | (constructor <;> omega))) rfl dX12_readCell_97 cv_12_72 rfl rfl ob_214 rfl (by decide) (Nat.le_of_ble_eq_true rfl) (fun r_97 m_97 hr_97 ho_97 => ?_)
            exact go_ret (v := r_97) rfl dX12_readCell_100 (okZ (by first | exact Or.inl rfl | exact Or.inr rfl | assumption | omega)) (Or.inr (by have hq : ceF G e i = (3, i + 1) := ceF_1 h00 (by rw [if_pos (by omega)]; unfold frF; rw [if_neg (by omega), if_pos (hr_89.resolve_right (fun h => by omega)).2]) (by decide); rw [hq]; exact ⟨(show (3 : Int) ≠ 0 by decide), hr_97.1, NoT.tr (n := wr m_15 214 13 (9 * vN G (i + 1) + vN G i)) (ho15.1.w (by omega) (by omega)) (NoT.b (by rw [hr_97.2, if_neg (by omega)]))⟩))
      · refine go_aload_n dX12_readCell_61 rfl ?_
        refine go_iconst dX12_readCell_62 ?_
        refine go_callV_z (as := [vi 2]) (S := []) (b := 214) (ev_X12_bad (m := m_15) (k := 2) (G := G) (t := t) (kw := kw) (n := n) (lim := lim) (i := (i + 1)) ht15 (by first | assumption | omega | exact ⟨by omega, by omega⟩ | (constructor <;> omega))) rfl dX12_readCell_63 cv_12_72 rfl rfl ob_214 rfl (by decide) (Nat.le_of_ble_eq_true rfl) (fun r_63 m_63 hr_63 ho_63 => ?_)
        exact go_ret (v := r_63) rfl dX12_readCell_66 (okZ (by first | exact Or.inl rfl | exact Or.inr rfl | assumption | omega)) (Or.inr (by have hq : ceF G e i = (2, i + 1) := ceF_1 h00 (f2_no (by unfold numF; rw [if_pos h3.1, if_neg (by omega)]) (by decide)) (by decide); rw [hq]; exact ⟨(show (2 : Int) ≠ 0 by decide), hr_63.1, NoT.tr ho15.1 (NoT.b (by rw [hr_63.2, if_neg (by omega)]))⟩))
    · refine go_aload_n dX12_readCell_36 rfl ?_
      refine go_iconst dX12_readCell_37 ?_
      refine go_callV_z (as := [vi 1]) (S := []) (b := 214) (ev_X12_bad (m := m_15) (k := 1) (G := G) (t := t) (kw := kw) (n := n) (lim := lim) (i := (i + 1)) ht15 (by first | assumption | omega | exact ⟨by omega, by omega⟩ | (constructor <;> omega))) rfl dX12_readCell_38 cv_12_72 rfl rfl ob_214 rfl (by decide) (Nat.le_of_ble_eq_true rfl) (fun r_38 m_38 hr_38 ho_38 => ?_)
      exact go_ret (v := r_38) rfl dX12_readCell_41 (okZ (by first | exact Or.inl rfl | exact Or.inr rfl | assumption | omega)) (Or.inr (by have hq : ceF G e i = (1, i + 1) := ceF_1 h00 (f2_no (by unfold numF; rw [if_neg (hkd.n3 (by omega))]) (by decide)) (by decide); rw [hq]; exact ⟨(show (1 : Int) ≠ 0 by decide), hr_38.1, NoT.tr ho15.1 (NoT.b (by rw [hr_38.2]; congr 2; split <;> rfl))⟩))
  · refine go_iconst dX12_readCell_21 ?_
    exact go_ret (v := 0) rfl dX12_readCell_22 (okZ (by first | exact Or.inl rfl | exact Or.inr rfl | assumption | omega)) (Or.inr ⟨by unfold ceF; rw [if_pos (by omega)]; show numF _ _ _ _ _ ≠ 0; omega, rfl, by unfold ceF; rw [if_pos (by omega)]; exact hno15 (by omega)⟩)
theorem dX12_put_0 : decode mX12_put.2.1 0 = .ok (.iload_n 2, 1) := by decide +kernel
theorem dX12_put_1 : decode mX12_put.2.1 1 = .ok (.ifCond .eq 13, 3) := by decide +kernel
theorem dX12_put_4 : decode mX12_put.2.1 4 = .ok (.aload_n 0, 1) := by decide +kernel
theorem dX12_put_5 : decode mX12_put.2.1 5 = .ok (.getfield 101, 3) := by decide +kernel
theorem dX12_put_8 : decode mX12_put.2.1 8 = .ok (.iload_n 1, 1) := by decide +kernel
theorem dX12_put_9 : decode mX12_put.2.1 9 = .ok (.aload_n 0, 1) := by decide +kernel
theorem dX12_put_10 : decode mX12_put.2.1 10 = .ok (.getfield 79, 3) := by decide +kernel
theorem dX12_put_13 : decode mX12_put.2.1 13 = .ok (.iastore, 1) := by decide +kernel
theorem dX12_put_14 : decode mX12_put.2.1 14 = .ok (.iload_n 2, 1) := by decide +kernel
theorem dX12_put_15 : decode mX12_put.2.1 15 = .ok (.ireturn, 1) := by decide +kernel
set_option maxRecDepth 4000 in
theorem ev_X12_put {m : Mem} {k : Int} {g : Int} (hk : 0 ≤ k ∧ k < 123) (hg : g = 0 ∨ g = 1) : Ev 0 1 mX12_put [vr 214, vi k, vi g] m (fun r m' => r = g ∧ m' = if g = 1 then wr m 217 k (m 214 13) else m) := by
  refine Ev.of (L := [vr 214, vi k, vi g]) (by decide +kernel) rfl (Nat.le_of_ble_eq_true rfl) rfl (fun t ht => by cases ht; first | exact Or.inl rfl | exact Or.inr (Or.inl rfl) | exact Or.inr (Or.inr rfl)) (fun hcan => ?_)
  refine go_iload_n dX12_put_0 rfl ?_
  refine go_if_eq (tgt := 14) dX12_put_1 (by decide) ⟨by omega, by omega⟩ (fun h_1 => ?_) (fun h_1 => ?_)
  · refine go_iload_n dX12_put_14 rfl ?_
    exact go_ret (v := g) rfl dX12_put_15 (okZ (by omega)) ⟨rfl, by first | rw [if_pos (by omega)] | rw [if_neg (by omega)]⟩
  · refine go_aload_n dX12_put_4 rfl ?_
    refine go_getf_p (b := 217) dX12_put_5 fl_12_101 ob_214 rfl pt_214_15 ?_
    refine go_iload_n dX12_put_8 rfl ?_
    refine go_aload_n dX12_put_9 rfl ?_
    refine go_getf_i (ki := 13) dX12_put_10 fl_12_79 ob_214 rfl rfl (fun hf_10 => ?_)
    refine go_iastore dX12_put_13 ar_217 (by omega) (by omega) ⟨by omega, by omega⟩ ?_
    refine go_iload_n dX12_put_14 rfl ?_
    exact go_ret (v := g) rfl dX12_put_15 (okZ (by omega)) ⟨rfl, by first | rw [if_pos (by omega)] | rw [if_neg (by omega)]⟩
theorem dX12_readFirst_0 : decode mX12_readFirst.2.1 0 = .ok (.aload_n 0, 1) := by decide +kernel
theorem dX12_readFirst_1 : decode mX12_readFirst.2.1 1 = .ok (.getfield 101, 3) := by decide +kernel
theorem dX12_readFirst_4 : decode mX12_readFirst.2.1 4 = .ok (.iload_n 1, 1) := by decide +kernel
theorem dX12_readFirst_5 : decode mX12_readFirst.2.1 5 = .ok (.iaload, 1) := by decide +kernel
theorem dX12_readFirst_6 : decode mX12_readFirst.2.1 6 = .ok (.iload_n 2, 1) := by decide +kernel
theorem dX12_readFirst_7 : decode mX12_readFirst.2.1 7 = .ok (.if_icmp .ne 9, 3) := by decide +kernel
theorem dX12_readFirst_10 : decode mX12_readFirst.2.1 10 = .ok (.aload_n 0, 1) := by decide +kernel
theorem dX12_readFirst_11 : decode mX12_readFirst.2.1 11 = .ok (.iconst 4, 1) := by decide +kernel
theorem dX12_readFirst_12 : decode mX12_readFirst.2.1 12 = .ok (.invokevirtual 72, 3) := by decide +kernel
theorem dX12_readFirst_15 : decode mX12_readFirst.2.1 15 = .ok (.ireturn, 1) := by decide +kernel
theorem dX12_readFirst_16 : decode mX12_readFirst.2.1 16 = .ok (.aload_n 0, 1) := by decide +kernel
theorem dX12_readFirst_17 : decode mX12_readFirst.2.1 17 = .ok (.invokevirtual 82, 3) := by decide +kernel
theorem dX12_readFirst_20 : decode mX12_readFirst.2.1 20 = .ok (.iconst 1, 1) := by decide +kernel
theorem dX12_readFirst_21 : decode mX12_readFirst.2.1 21 = .ok (.ireturn, 1) := by decide +kernel
set_option maxRecDepth 4000 in
theorem ev_X12_readFirst {m : Mem} {G : Mem} {t : Int → Int} {kw : Int → Int} {n : Int} {lim : Int} {i : Int} {k : Int} {mo : Int} (htm : TM G t kw n lim m i) (h2k : 2 ≤ G 4 i) (hk : 0 ≤ k ∧ k < 123) (hmo : InR mo) : Ev 0 3 mX12_readFirst [vr 214, vi k, vi mo] m (fun r m' => (m 217 k = mo ∧ r = 0 ∧ NoT G m m' 4 i) ∨ (m 217 k ≠ mo ∧ r = 1 ∧ OkT G t kw n lim m m' (i + 1))) := by
  refine Ev.of (L := [vr 214, vi k, vi mo]) (by decide +kernel) rfl (Nat.le_of_ble_eq_true rfl) rfl (fun t ht => by cases ht; first | exact Or.inl rfl | exact Or.inr (Or.inl rfl) | exact Or.inr (Or.inr rfl)) (fun hcan => ?_)
  refine go_aload_n dX12_readFirst_0 rfl ?_
  refine go_getf_p (b := 217) dX12_readFirst_1 fl_12_101 ob_214 rfl pt_214_15 ?_
  refine go_iload_n dX12_readFirst_4 rfl ?_
  refine go_iaload dX12_readFirst_5 ar_217 (by omega) (by omega) (fun he_5 => ?_)
  refine go_iload_n dX12_readFirst_6 rfl ?_
  refine go_icmp_ne (tgt := 16) dX12_readFirst_7 (by decide) ⟨by omega, by omega⟩ ⟨by omega, by omega⟩ (fun h_7 => ?_) (fun h_7 => ?_)
  · refine go_aload_n dX12_readFirst_16 rfl ?_
    refine go_callV_v (as := []) (S := []) (b := 214) (ev_X12_go (m := m) (G := G) (t := t) (kw := kw) (n := n) (lim := lim) (i := (i + 1)) (htm.nx (by omega))) rfl dX12_readFirst_17 cv_12_82 rfl rfl ob_214 rfl (by decide) (Nat.le_of_ble_eq_true rfl) (fun m_17 hr_17 => ?_)
    refine go_iconst dX12_readFirst_20 ?_
    exact go_ret (v := 1) rfl dX12_readFirst_21 (okZ (by first | exact Or.inl rfl | exact Or.inr rfl | assumption | omega)) (Or.inr ⟨by omega, rfl, OkT.gx hr_17.1 hr_17.2⟩)
  · refine go_aload_n dX12_readFirst_10 rfl ?_
    refine go_iconst dX12_readFirst_11 ?_
    refine go_callV_z (as := [vi 4]) (S := []) (b := 214) (ev_X12_bad (m := m) (k := 4) (G := G) (t := t) (kw := kw) (n := n) (lim := lim) (i := i) htm (by first | assumption | omega | exact ⟨by omega, by omega⟩ | (constructor <;> omega))) rfl dX12_readFirst_12 cv_12_72 rfl rfl ob_214 rfl (by decide) (Nat.le_of_ble_eq_true rfl) (fun r_12 m_12 hr_12 ho_12 => ?_)
    exact go_ret (v := r_12) rfl dX12_readFirst_15 (okZ (by first | exact Or.inl rfl | exact Or.inr rfl | assumption | omega)) (Or.inl ⟨by omega, hr_12.1, NoT.b (by rw [hr_12.2, if_neg (by omega)])⟩)
theorem dX12_readNew_0 : decode mX12_readNew.2.1 0 = .ok (.aload_n 0, 1) := by decide +kernel
theorem dX12_readNew_1 : decode mX12_readNew.2.1 1 = .ok (.invokevirtual 166, 3) := by decide +kernel
theorem dX12_readNew_4 : decode mX12_readNew.2.1 4 = .ok (.ifCond .ne 9, 3) := by decide +kernel
theorem dX12_readNew_7 : decode mX12_readNew.2.1 7 = .ok (.aload_n 0, 1) := by decide +kernel
theorem dX12_readNew_8 : decode mX12_readNew.2.1 8 = .ok (.iconst 1, 1) := by decide +kernel
theorem dX12_readNew_9 : decode mX12_readNew.2.1 9 = .ok (.invokevirtual 72, 3) := by decide +kernel
theorem dX12_readNew_12 : decode mX12_readNew.2.1 12 = .ok (.ireturn, 1) := by decide +kernel
theorem dX12_readNew_13 : decode mX12_readNew.2.1 13 = .ok (.aload_n 0, 1) := by decide +kernel
theorem dX12_readNew_14 : decode mX12_readNew.2.1 14 = .ok (.getfield 117, 3) := by decide +kernel
theorem dX12_readNew_17 : decode mX12_readNew.2.1 17 = .ok (.iconst 0, 1) := by decide +kernel
theorem dX12_readNew_18 : decode mX12_readNew.2.1 18 = .ok (.aload_n 0, 1) := by decide +kernel
theorem dX12_readNew_19 : decode mX12_readNew.2.1 19 = .ok (.getfield 101, 3) := by decide +kernel
theorem dX12_readNew_22 : decode mX12_readNew.2.1 22 = .ok (.iconst 2, 1) := by decide +kernel
theorem dX12_readNew_23 : decode mX12_readNew.2.1 23 = .ok (.iaload, 1) := by decide +kernel
theorem dX12_readNew_24 : decode mX12_readNew.2.1 24 = .ok (.aload_n 0, 1) := by decide +kernel
theorem dX12_readNew_25 : decode mX12_readNew.2.1 25 = .ok (.getfield 43, 3) := by decide +kernel
theorem dX12_readNew_28 : decode mX12_readNew.2.1 28 = .ok (.invokestatic 170, 3) := by decide +kernel
theorem dX12_readNew_31 : decode mX12_readNew.2.1 31 = .ok (.iconst (-1), 1) := by decide +kernel
theorem dX12_readNew_32 : decode mX12_readNew.2.1 32 = .ok (.if_icmp .ne 26, 3) := by decide +kernel
theorem dX12_readNew_35 : decode mX12_readNew.2.1 35 = .ok (.aload_n 0, 1) := by decide +kernel
theorem dX12_readNew_36 : decode mX12_readNew.2.1 36 = .ok (.getfield 117, 3) := by decide +kernel
theorem dX12_readNew_39 : decode mX12_readNew.2.1 39 = .ok (.bipush 6, 2) := by decide +kernel
theorem dX12_readNew_41 : decode mX12_readNew.2.1 41 = .ok (.aload_n 0, 1) := by decide +kernel
theorem dX12_readNew_42 : decode mX12_readNew.2.1 42 = .ok (.getfield 101, 3) := by decide +kernel
theorem dX12_readNew_45 : decode mX12_readNew.2.1 45 = .ok (.iconst 3, 1) := by decide +kernel
theorem dX12_readNew_46 : decode mX12_readNew.2.1 46 = .ok (.iaload, 1) := by decide +kernel
theorem dX12_readNew_47 : decode mX12_readNew.2.1 47 = .ok (.aload_n 0, 1) := by decide +kernel
theorem dX12_readNew_48 : decode mX12_readNew.2.1 48 = .ok (.getfield 43, 3) := by decide +kernel
theorem dX12_readNew_51 : decode mX12_readNew.2.1 51 = .ok (.invokestatic 170, 3) := by decide +kernel
theorem dX12_readNew_54 : decode mX12_readNew.2.1 54 = .ok (.iconst (-1), 1) := by decide +kernel
theorem dX12_readNew_55 : decode mX12_readNew.2.1 55 = .ok (.if_icmp .eq 7, 3) := by decide +kernel
theorem dX12_readNew_58 : decode mX12_readNew.2.1 58 = .ok (.iconst 1, 1) := by decide +kernel
theorem dX12_readNew_59 : decode mX12_readNew.2.1 59 = .ok (.goto 4, 3) := by decide +kernel
theorem dX12_readNew_62 : decode mX12_readNew.2.1 62 = .ok (.iconst 0, 1) := by decide +kernel
theorem dX12_readNew_63 : decode mX12_readNew.2.1 63 = .ok (.istore_n 2, 1) := by decide +kernel
theorem dX12_readNew_64 : decode mX12_readNew.2.1 64 = .ok (.iload_n 2, 1) := by decide +kernel
theorem dX12_readNew_65 : decode mX12_readNew.2.1 65 = .ok (.ifCond .ne 26, 3) := by decide +kernel
theorem dX12_readNew_68 : decode mX12_readNew.2.1 68 = .ok (.aload_n 0, 1) := by decide +kernel
theorem dX12_readNew_69 : decode mX12_readNew.2.1 69 = .ok (.getfield 117, 3) := by decide +kernel
theorem dX12_readNew_72 : decode mX12_readNew.2.1 72 = .ok (.bipush 11, 2) := by decide +kernel
theorem dX12_readNew_74 : decode mX12_readNew.2.1 74 = .ok (.aload_n 0, 1) := by decide +kernel
theorem dX12_readNew_75 : decode mX12_readNew.2.1 75 = .ok (.getfield 101, 3) := by decide +kernel
theorem dX12_readNew_78 : decode mX12_readNew.2.1 78 = .ok (.iconst 4, 1) := by decide +kernel
theorem dX12_readNew_79 : decode mX12_readNew.2.1 79 = .ok (.iaload, 1) := by decide +kernel
theorem dX12_readNew_80 : decode mX12_readNew.2.1 80 = .ok (.aload_n 0, 1) := by decide +kernel
theorem dX12_readNew_81 : decode mX12_readNew.2.1 81 = .ok (.getfield 43, 3) := by decide +kernel
theorem dX12_readNew_84 : decode mX12_readNew.2.1 84 = .ok (.invokestatic 170, 3) := by decide +kernel
theorem dX12_readNew_87 : decode mX12_readNew.2.1 87 = .ok (.iconst (-1), 1) := by decide +kernel
theorem dX12_readNew_88 : decode mX12_readNew.2.1 88 = .ok (.if_icmp .eq 9, 3) := by decide +kernel
theorem dX12_readNew_91 : decode mX12_readNew.2.1 91 = .ok (.aload_n 0, 1) := by decide +kernel
theorem dX12_readNew_92 : decode mX12_readNew.2.1 92 = .ok (.iconst 3, 1) := by decide +kernel
theorem dX12_readNew_93 : decode mX12_readNew.2.1 93 = .ok (.invokevirtual 72, 3) := by decide +kernel
theorem dX12_readNew_96 : decode mX12_readNew.2.1 96 = .ok (.ireturn, 1) := by decide +kernel
theorem dX12_readNew_97 : decode mX12_readNew.2.1 97 = .ok (.aload_n 0, 1) := by decide +kernel
theorem dX12_readNew_98 : decode mX12_readNew.2.1 98 = .ok (.getfield 117, 3) := by decide +kernel
theorem dX12_readNew_101 : decode mX12_readNew.2.1 101 = .ok (.iload_n 1, 1) := by decide +kernel
theorem dX12_readNew_102 : decode mX12_readNew.2.1 102 = .ok (.aload_n 0, 1) := by decide +kernel
theorem dX12_readNew_103 : decode mX12_readNew.2.1 103 = .ok (.getfield 43, 3) := by decide +kernel
theorem dX12_readNew_106 : decode mX12_readNew.2.1 106 = .ok (.lastore, 1) := by decide +kernel
theorem dX12_readNew_107 : decode mX12_readNew.2.1 107 = .ok (.aload_n 0, 1) := by decide +kernel
theorem dX12_readNew_108 : decode mX12_readNew.2.1 108 = .ok (.invokevirtual 82, 3) := by decide +kernel
theorem dX12_readNew_111 : decode mX12_readNew.2.1 111 = .ok (.iconst 1, 1) := by decide +kernel
theorem dX12_readNew_112 : decode mX12_readNew.2.1 112 = .ok (.ireturn, 1) := by decide +kernel
set_option maxRecDepth 4000 in
theorem ev_X12_readNew {m : Mem} {G : Mem} {t : Int → Int} {kw : Int → Int} {n : Int} {lim : Int} {i : Int} {slot : Int} (htm : TM G t kw n lim m i) (hdr : DrOk G) (hra : RdR G (m 217) (m 222)) (hsl : 0 ≤ slot ∧ slot < 16) : Ev 0 4 mX12_readNew [vr 214, vi slot] m (fun r m' => NeP G t kw n lim m m' slot i r) := by
  refine Ev.of (L := [vr 214, vi slot, un]) (by decide +kernel) rfl (Nat.le_of_ble_eq_true rfl) rfl (fun t ht => by cases ht; first | exact Or.inl rfl | exact Or.inr (Or.inl rfl) | exact Or.inr (Or.inr rfl)) (fun hcan => ?_)
  obtain ⟨hdn, hst, hdr3, hdr4, hdr5, hdr6, hdr7⟩ := id hdr
  obtain ⟨⟨hd0, hd1⟩, ⟨hd2, hd3⟩, ⟨hd4, hd5⟩, ⟨hd6, hd7⟩, ⟨hd8, hd9⟩, hdf, hdp, hdq⟩ := id hdn
  obtain ⟨⟨hs0, hs1⟩, ⟨hs2, hs3⟩, hsw, hsp, hsd, hsz⟩ := id hst
  have hkd := htm.kd
  refine go_aload_n dX12_readNew_0 rfl ?_
  refine go_callVp_z (as := []) (S := []) (b := 214) (ev_X12_isName (m := m) (G := G) (t := t) (kw := kw) (n := n) (lim := lim) (i := i) htm) rfl dX12_readNew_1 cv_12_166 rfl rfl ob_214 rfl (by decide) (Nat.le_of_ble_eq_true rfl) (fun r_1 hr_1 ho_1 => ?_)
  refine go_if_ne (tgt := 13) dX12_readNew_4 (by decide) ⟨by omega, by omega⟩ (fun h_4 => ?_) (fun h_4 => ?_)
  · have hK3 : G 4 i = 3 := by omega
    have hk7 : m 214 7 = 2 := by
      by_cases q : m 214 7 = 2
      · exact q
      · have := hkd.n2 q; omega
    have hwr := (hkd.k2 hk7).2.1
    refine go_aload_n dX12_readNew_13 rfl ?_
    refine go_getf_p (b := 222) dX12_readNew_14 fl_12_117 ob_214 rfl pt_214_20 ?_
    refine go_iconst dX12_readNew_17 ?_
    refine go_aload_n dX12_readNew_18 rfl ?_
    refine go_getf_p (b := 217) dX12_readNew_19 fl_12_101 ob_214 rfl pt_214_15 ?_
    refine go_iconst dX12_readNew_22 ?_
    refine go_iaload dX12_readNew_23 ar_217 (by omega) (by omega) (fun he_23 => ?_)
    rw [show (m 217 2 : Int) = (G 47 2) from hra.1.2.2.1] at he_23 ⊢
    refine go_aload_n dX12_readNew_24 rfl ?_
    refine go_getf_l (ki := 12) dX12_readNew_25 fl_12_43 ob_214 rfl rfl (fun hf_25 => ?_)
    refine go_callSp_i (as := [vr 222, vi 0, vi (G 47 2), vl (m 214 12)]) (S := []) (ev_X12_findIn (m := m) (a := 222) (b := 0) (c := (G 47 2)) (w := (m 214 12)) ar_222 (by first | assumption | omega | exact ⟨by omega, by omega⟩ | (constructor <;> omega)) hf_25) rfl dX12_readNew_28 cs_12_170 rfl rfl (by decide) (Nat.le_of_ble_eq_true rfl) (fun r_28 hr_28 ho_28 => ?_)
    rw [show fnd (fun k => decide (m 222 (0 + k) = m 214 12)) (G 47 2) = nameAt G 48 (G 6 i) (G 47 2) from fnd_congr (fun j a b => by
      have hw := (hra.2.1 j a b).2
      have hij := hw.inj hwr
      rw [Int.zero_add]
      by_cases q : G 48 j = G 6 i
      · rw [decide_eq_true q, decide_eq_true (hij.mp q)]
      · rw [decide_eq_false q, decide_eq_false (fun z => q (hij.mpr z))])] at hr_28
    refine go_iconst dX12_readNew_31 ?_
    refine go_icmp_ne (tgt := 58) dX12_readNew_32 (by decide) ⟨by omega, by omega⟩ ⟨by omega, by omega⟩ (fun h_32 => ?_) (fun h_32 => ?_)
    · refine go_iconst dX12_readNew_58 ?_
      refine go_goto (tgt := 63) dX12_readNew_59 (by decide) ?_
      refine go_istore_n (L' := [vr 214, vi slot, vi 1]) dX12_readNew_63 (by decide) rfl rfl ?_
      refine go_iload_n dX12_readNew_64 rfl ?_
      refine go_if_ne (tgt := 91) dX12_readNew_65 (by decide) ⟨by omega, by omega⟩ (fun h_65 => ?_) (fun h_65 => ?_)
      · refine go_aload_n dX12_readNew_91 rfl ?_
        refine go_iconst dX12_readNew_92 ?_
        refine go_callV_z (as := [vi 3]) (S := []) (b := 214) (ev_X12_bad (m := m) (k := 3) (G := G) (t := t) (kw := kw) (n := n) (lim := lim) (i := i) htm (by first | assumption | omega | exact ⟨by omega, by omega⟩ | (constructor <;> omega))) rfl dX12_readNew_93 cv_12_72 rfl rfl ob_214 rfl (by decide) (Nat.le_of_ble_eq_true rfl) (fun r_93 m_93 hr_93 ho_93 => ?_)
        exact go_ret (v := r_93) rfl dX12_readNew_96 (okZ (by first | exact Or.inl rfl | exact Or.inr rfl | assumption | omega)) (Or.inr (by have hkn : knC G 47 (G 6 i) := (by unfold knC; first | (right; right; show nameAt G 53 (G 6 i) (G 47 4) ≠ -1; omega) | (right; left; show nameAt G 51 (G 6 i) (G 47 3) ≠ -1; omega) | (left; show nameAt G 48 (G 6 i) (G 47 2) ≠ -1; omega)); have hq : nmF G i = 3 := (by unfold nmF; rw [if_pos hK3, if_pos hkn]); rw [hq]; exact ⟨by decide, hr_93.1, NoT.b (by rw [hr_93.2, if_neg (by omega)])⟩))
      · exfalso; omega
    · refine go_aload_n dX12_readNew_35 rfl ?_
      refine go_getf_p (b := 222) dX12_readNew_36 fl_12_117 ob_214 rfl pt_214_20 ?_
      refine go_bipush dX12_readNew_39 (by decide) ?_
      refine go_aload_n dX12_readNew_41 rfl ?_
      refine go_getf_p (b := 217) dX12_readNew_42 fl_12_101 ob_214 rfl pt_214_15 ?_
      refine go_iconst dX12_readNew_45 ?_
      refine go_iaload dX12_readNew_46 ar_217 (by omega) (by omega) (fun he_46 => ?_)
      rw [show (m 217 3 : Int) = (G 47 3) from hra.1.2.2.2.1] at he_46 ⊢
      refine go_aload_n dX12_readNew_47 rfl ?_
      refine go_getf_l (ki := 12) dX12_readNew_48 fl_12_43 ob_214 rfl rfl (fun hf_48 => ?_)
      refine go_callSp_i (as := [vr 222, vi 6, vi (G 47 3), vl (m 214 12)]) (S := []) (ev_X12_findIn (m := m) (a := 222) (b := 6) (c := (G 47 3)) (w := (m 214 12)) ar_222 (by first | assumption | omega | exact ⟨by omega, by omega⟩ | (constructor <;> omega)) hf_48) rfl dX12_readNew_51 cs_12_170 rfl rfl (by decide) (Nat.le_of_ble_eq_true rfl) (fun r_51 hr_51 ho_51 => ?_)
      rw [show fnd (fun k => decide (m 222 (6 + k) = m 214 12)) (G 47 3) = nameAt G 51 (G 6 i) (G 47 3) from fnd_congr (fun j a b => by
        have hw := (hra.2.2.1 j a b).2
        have hij := hw.inj hwr
        skip
        by_cases q : G 51 j = G 6 i
        · rw [decide_eq_true q, decide_eq_true (hij.mp q)]
        · rw [decide_eq_false q, decide_eq_false (fun z => q (hij.mpr z))])] at hr_51
      refine go_iconst dX12_readNew_54 ?_
      refine go_icmp_eq (tgt := 62) dX12_readNew_55 (by decide) ⟨by omega, by omega⟩ ⟨by omega, by omega⟩ (fun h_55 => ?_) (fun h_55 => ?_)
      · refine go_iconst dX12_readNew_62 ?_
        refine go_istore_n (L' := [vr 214, vi slot, vi 0]) dX12_readNew_63 (by decide) rfl rfl ?_
        refine go_iload_n dX12_readNew_64 rfl ?_
        refine go_if_ne (tgt := 91) dX12_readNew_65 (by decide) ⟨by omega, by omega⟩ (fun h_65 => ?_) (fun h_65 => ?_)
        · exfalso; omega
        · refine go_aload_n dX12_readNew_68 rfl ?_
          refine go_getf_p (b := 222) dX12_readNew_69 fl_12_117 ob_214 rfl pt_214_20 ?_
          refine go_bipush dX12_readNew_72 (by decide) ?_
          refine go_aload_n dX12_readNew_74 rfl ?_
          refine go_getf_p (b := 217) dX12_readNew_75 fl_12_101 ob_214 rfl pt_214_15 ?_
          refine go_iconst dX12_readNew_78 ?_
          refine go_iaload dX12_readNew_79 ar_217 (by omega) (by omega) (fun he_79 => ?_)
          rw [show (m 217 4 : Int) = (G 47 4) from hra.1.2.2.2.2] at he_79 ⊢
          refine go_aload_n dX12_readNew_80 rfl ?_
          refine go_getf_l (ki := 12) dX12_readNew_81 fl_12_43 ob_214 rfl rfl (fun hf_81 => ?_)
          refine go_callSp_i (as := [vr 222, vi 11, vi (G 47 4), vl (m 214 12)]) (S := []) (ev_X12_findIn (m := m) (a := 222) (b := 11) (c := (G 47 4)) (w := (m 214 12)) ar_222 (by first | assumption | omega | exact ⟨by omega, by omega⟩ | (constructor <;> omega)) hf_81) rfl dX12_readNew_84 cs_12_170 rfl rfl (by decide) (Nat.le_of_ble_eq_true rfl) (fun r_84 hr_84 ho_84 => ?_)
          rw [show fnd (fun k => decide (m 222 (11 + k) = m 214 12)) (G 47 4) = nameAt G 53 (G 6 i) (G 47 4) from fnd_congr (fun j a b => by
            have hw := (hra.2.2.2.1 j a b).2
            have hij := hw.inj hwr
            skip
            by_cases q : G 53 j = G 6 i
            · rw [decide_eq_true q, decide_eq_true (hij.mp q)]
            · rw [decide_eq_false q, decide_eq_false (fun z => q (hij.mpr z))])] at hr_84
          refine go_iconst dX12_readNew_87 ?_
          refine go_icmp_eq (tgt := 97) dX12_readNew_88 (by decide) ⟨by omega, by omega⟩ ⟨by omega, by omega⟩ (fun h_88 => ?_) (fun h_88 => ?_)
          · refine go_aload_n dX12_readNew_97 rfl ?_
            refine go_getf_p (b := 222) dX12_readNew_98 fl_12_117 ob_214 rfl pt_214_20 ?_
            refine go_iload_n dX12_readNew_101 rfl ?_
            refine go_aload_n dX12_readNew_102 rfl ?_
            refine go_getf_l (ki := 12) dX12_readNew_103 fl_12_43 ob_214 rfl rfl (fun hf_103 => ?_)
            refine go_lastore dX12_readNew_106 ar_222 (by omega) (by omega) ⟨by omega, by omega⟩ ?_
            refine go_aload_n dX12_readNew_107 rfl ?_
            refine go_callV_v (as := []) (S := []) (b := 214) (ev_X12_go (m := (wr m 222 slot (m 214 12))) (G := G) (t := t) (kw := kw) (n := n) (lim := lim) (i := (i + 1)) ((htm.nx (by omega)).w (by decide) (by omega))) rfl dX12_readNew_108 cv_12_82 rfl rfl ob_214 rfl (by decide) (Nat.le_of_ble_eq_true rfl) (fun m_108 hr_108 => ?_)
            refine go_iconst dX12_readNew_111 ?_
            exact go_ret (v := 1) rfl dX12_readNew_112 (okZ (by first | exact Or.inl rfl | exact Or.inr rfl | assumption | omega)) (Or.inl (by have hkn : ¬ knC G 47 (G 6 i) := (by unfold knC; show ¬ (nameAt G 48 (G 6 i) (G 47 2) ≠ -1 ∨ nameAt G 51 (G 6 i) (G 47 3) ≠ -1 ∨ nameAt G 53 (G 6 i) (G 47 4) ≠ -1); omega); exact ⟨by unfold nmF; rw [if_pos hK3, if_neg hkn], rfl, _, hwr, OkT.gx hr_108.1 hr_108.2⟩))
          · refine go_aload_n dX12_readNew_91 rfl ?_
            refine go_iconst dX12_readNew_92 ?_
            refine go_callV_z (as := [vi 3]) (S := []) (b := 214) (ev_X12_bad (m := m) (k := 3) (G := G) (t := t) (kw := kw) (n := n) (lim := lim) (i := i) htm (by first | assumption | omega | exact ⟨by omega, by omega⟩ | (constructor <;> omega))) rfl dX12_readNew_93 cv_12_72 rfl rfl ob_214 rfl (by decide) (Nat.le_of_ble_eq_true rfl) (fun r_93 m_93 hr_93 ho_93 => ?_)
            exact go_ret (v := r_93) rfl dX12_readNew_96 (okZ (by first | exact Or.inl rfl | exact Or.inr rfl | assumption | omega)) (Or.inr (by have hkn : knC G 47 (G 6 i) := (by unfold knC; first | (right; right; show nameAt G 53 (G 6 i) (G 47 4) ≠ -1; omega) | (right; left; show nameAt G 51 (G 6 i) (G 47 3) ≠ -1; omega) | (left; show nameAt G 48 (G 6 i) (G 47 2) ≠ -1; omega)); have hq : nmF G i = 3 := (by unfold nmF; rw [if_pos hK3, if_pos hkn]); rw [hq]; exact ⟨by decide, hr_93.1, NoT.b (by rw [hr_93.2, if_neg (by omega)])⟩))
      · refine go_iconst dX12_readNew_58 ?_
        refine go_goto (tgt := 63) dX12_readNew_59 (by decide) ?_
        refine go_istore_n (L' := [vr 214, vi slot, vi 1]) dX12_readNew_63 (by decide) rfl rfl ?_
        refine go_iload_n dX12_readNew_64 rfl ?_
        refine go_if_ne (tgt := 91) dX12_readNew_65 (by decide) ⟨by omega, by omega⟩ (fun h_65 => ?_) (fun h_65 => ?_)
        · refine go_aload_n dX12_readNew_91 rfl ?_
          refine go_iconst dX12_readNew_92 ?_
          refine go_callV_z (as := [vi 3]) (S := []) (b := 214) (ev_X12_bad (m := m) (k := 3) (G := G) (t := t) (kw := kw) (n := n) (lim := lim) (i := i) htm (by first | assumption | omega | exact ⟨by omega, by omega⟩ | (constructor <;> omega))) rfl dX12_readNew_93 cv_12_72 rfl rfl ob_214 rfl (by decide) (Nat.le_of_ble_eq_true rfl) (fun r_93 m_93 hr_93 ho_93 => ?_)
          exact go_ret (v := r_93) rfl dX12_readNew_96 (okZ (by first | exact Or.inl rfl | exact Or.inr rfl | assumption | omega)) (Or.inr (by have hkn : knC G 47 (G 6 i) := (by unfold knC; first | (right; right; show nameAt G 53 (G 6 i) (G 47 4) ≠ -1; omega) | (right; left; show nameAt G 51 (G 6 i) (G 47 3) ≠ -1; omega) | (left; show nameAt G 48 (G 6 i) (G 47 2) ≠ -1; omega)); have hq : nmF G i = 3 := (by unfold nmF; rw [if_pos hK3, if_pos hkn]); rw [hq]; exact ⟨by decide, hr_93.1, NoT.b (by rw [hr_93.2, if_neg (by omega)])⟩))
        · exfalso; omega
  · refine go_aload_n dX12_readNew_7 rfl ?_
    refine go_iconst dX12_readNew_8 ?_
    refine go_callV_z (as := [vi 1]) (S := []) (b := 214) (ev_X12_bad (m := m) (k := 1) (G := G) (t := t) (kw := kw) (n := n) (lim := lim) (i := i) htm (by first | assumption | omega | exact ⟨by omega, by omega⟩ | (constructor <;> omega))) rfl dX12_readNew_9 cv_12_72 rfl rfl ob_214 rfl (by decide) (Nat.le_of_ble_eq_true rfl) (fun r_9 m_9 hr_9 ho_9 => ?_)
    exact go_ret (v := r_9) rfl dX12_readNew_12 (okZ (by first | exact Or.inl rfl | exact Or.inr rfl | assumption | omega)) (Or.inr ⟨by unfold nmF; rw [if_neg (by omega)]; decide, hr_9.1, by unfold nmF; rw [if_neg (by omega)]; exact NoT.b (by rw [hr_9.2]; congr 2; split <;> rfl)⟩)
