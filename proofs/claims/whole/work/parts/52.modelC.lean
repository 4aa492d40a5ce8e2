/-! ===== the reference: DOWNS are read, and all is so as they tell ===== -/
def brG (D : Mem) (d st : Nat) : Nat → Mem
  | 0 => D
  | p + 1 => bring (brG D d st p) d st (p : Int)
theorem brG_N (D : Mem) (n : Nat) : brG D 47 57 n = brN D n := by
  induction n with
  | zero => rfl
  | succ n ih => show bring (brG D 47 57 n) 47 57 (n : Int) = bring (brN D n) 47 57 (n : Int); rw [ih]
theorem brG_row {D : Mem} {d st b : Nat} (h : b ≠ st + 6) (n : Nat) : brG D d st n b = D b := by
  induction n with
  | zero => rfl
  | succ n ih => show bring (brG D d st n) d st (n : Int) b = _; unfold bring; rw [wr_row h]; exact ih
theorem brG_ge {D : Mem} {d st : Nat} {p : Int} (n : Nat) (h : (n : Int) ≤ p) : brG D d st n (st + 6) p = D (st + 6) p := by
  induction n with
  | zero => rfl
  | succ n ih => show bring (brG D d st n) d st (n : Int) (st + 6) p = _; unfold bring; rw [wr_ni (by omega)]; exact ih (by omega)
def zf (m : Mem) (k : Int) : Mem := fun b j => if b = 216 ∧ 123 ≤ j ∧ j < k then 0 else m b j
theorem zf_0 (m : Mem) : zf m 123 = m := by funext b j; unfold zf; rw [if_neg (by omega)]
theorem zf_s {m : Mem} {k : Int} (h : 123 ≤ k) : wr (zf m k) 216 k 0 = zf m (k + 1) := by
  funext b j; unfold wr zf
  by_cases h1 : b = 216 ∧ j = k
  · rw [if_pos h1, if_pos (by omega)]
  · rw [if_neg h1]
    by_cases h2 : b = 216 ∧ 123 ≤ j ∧ j < k
    · rw [if_pos h2, if_pos (by omega)]
    · rw [if_neg h2, if_neg (by omega)]
theorem zf_lo {m : Mem} {k j : Int} (h : j < 123) : zf m k 216 j = m 216 j := by unfold zf; rw [if_neg (by omega)]
theorem zf_hi {m : Mem} {k j : Int} (h : 123 ≤ j) (h1 : j < k) : zf m k 216 j = 0 := by unfold zf; rw [if_pos ⟨rfl, h, h1⟩]
theorem zf_row {m : Mem} {k : Int} {b : Nat} (h : b ≠ 216) : zf m k b = m b := by funext j; unfold zf; rw [if_neg (fun q => h q.1)]
/-- DOWNS as they were read, in the reference's row, told by a ghost -/
def St0 (G : Mem) (d st : Nat) (N : Int → Int) : Prop := BgD G d N ∧ (G st 0 = 0 ∧ G st 1 = 0) ∧
  (∀ p : Int, 0 ≤ p → p < G d 3 → (N (17 + p) = 9 * G (st + 3) p + G (st + 2) p ∧ N (22 + p) = G (st + 4) p ∧ N (27 + p) = G (st + 5) p ∧ G (st + 6) p = 0 ∧ G (st + 7) p = 0) ∧ 0 ≤ G (st + 2) p ∧ G (st + 2) p ≤ 8 ∧ 0 ≤ G (st + 3) p ∧ G (st + 3) p ≤ 8) ∧
  ∀ c : Int, 0 ≤ c → c < 81 → N (42 + c) = G (st + 1) c
def StI (G : Mem) (d st : Nat) (N0 N : Int → Int) (k : Int) : Prop := (∀ j : Int, j < 123 → N j = N0 j) ∧ (N 123 = 0 ∧ N 124 = 0 ∧ N 125 = 0) ∧
  (∀ p : Int, 0 ≤ p → p < k → N (126 + p) = 9 * G (st + 3) p + G (st + 2) p ∧ N (131 + p) = G (st + 4) p ∧ N (136 + p) = G (st + 5) p ∧ N (141 + p) = brG G d st k.toNat (st + 6) p ∧ N (146 + p) = 0) ∧
  (∀ p : Int, k ≤ p → p < 5 → N (136 + p) = 0 ∧ N (141 + p) = 0 ∧ N (146 + p) = 0) ∧ (∀ c : Int, 0 ≤ c → c < 81 → N (151 + c) = G (st + 1) c) ∧ ∀ j : Int, 232 ≤ j → j < 474 → N j = 0
theorem StI.fin {G : Mem} {d st : Nat} {N0 N : Int → Int} (h : StI G d st N0 N (G d 3)) (h0 : St0 G d st N0) (hdn : DnOk G d) (hs : d + 10 ≤ st) : Bg (brG G d st (G d 3).toNat) d st N := by
  obtain ⟨a, ⟨b1, b2, b3⟩, c, e, f, -⟩ := h
  obtain ⟨g0, ⟨g1, g2⟩, g3, -⟩ := h0
  have r : ∀ b : Nat, b ≠ st + 6 → brG G d st (G d 3).toNat b = G b := fun b hb => brG_row hb _
  refine ⟨g0.congr hdn (fun k hk => r _ (by omega)) (fun j hj => a j hj), ?_⟩
  unfold BgS
  rw [r st (by omega), r d (by omega), r (st + 1) (by omega), r (st + 2) (by omega), r (st + 3) (by omega), r (st + 4) (by omega), r (st + 5) (by omega), r (st + 7) (by omega)]
  have hz : sumI (G (st + 7)) (G d 3) = 0 := by
    rw [sumI_congr (f' := fun _ => 0) (fun j x y => (g3 j x y).1.2.2.2.2)]
    have := sumI_bnd (f := fun _ => (0 : Int)) (lo := 0) (hi := 0) (n := G d 3) hdn.2.2.2.1.1 (fun _ _ _ => by omega)
    omega
  refine ⟨⟨by omega, by omega, by omega⟩, fun p h0 h1 => ?_, fun p h0 h1 => (e p h0 h1).1, f⟩
  have := c p h0 h1
  have := g3 p h0 h1
  exact ⟨by omega, by omega, by omega, by omega, by omega⟩
def NmR (G : Mem) (d : Nat) (M : Int → Int) : Prop := (∀ f : Int, 0 ≤ f → f < G d 2 → Wr (G (d + 1) f) (M f)) ∧ (∀ p : Int, 0 ≤ p → p < G d 3 → Wr (G (d + 4) p) (M (6 + p))) ∧ ∀ q : Int, 0 ≤ q → q < G d 4 → Wr (G (d + 6) q) (M (11 + q))
def Rd0 (B : Mem) : Prop := (B 47 0 = 6 ∧ B 47 1 = 6 ∧ B 47 2 = 0 ∧ B 47 3 = 0 ∧ B 47 4 = 0) ∧ (B 45 2 = 0 ∧ B 45 3 = 0) ∧ ∀ c : Int, 0 ≤ c → c < 81 → B 58 c = 0
theorem Rd0.r {B : Mem} {N M : Int → Int} (h : Rd0 B) (h0 : N 0 = 6) (h1 : N 1 = 6) (hz : ∀ j : Int, 2 ≤ j → j < 123 → N j = 0) : RdR B N M := by
  obtain ⟨⟨a0, a1, a2, a3, a4⟩, -, hc⟩ := h
  refine ⟨⟨by omega, by omega, by rw [hz 2 (by decide) (by decide)]; omega, by rw [hz 3 (by decide) (by decide)]; omega, by rw [hz 4 (by decide) (by decide)]; omega⟩, fun f h0 h1 => by omega, fun f h0 h1 => by omega, fun f h0 h1 => by omega, fun c c0 c1 => by rw [hz _ (by omega) (by omega), hc c c0 c1]⟩
/-- rows and numbers that downs may change -/
def Dx (m m' : Mem) : Prop := (∀ b : Nat, b ≠ 214 → b ≠ 216 → b ≠ 217 → b ≠ 221 → b ≠ 222 → m' b = m b) ∧ (m' 214 0 = 0 ∧ m' 214 2 = 0) ∧ ∀ j : Int, (j = 1 ∨ (13 < j ∧ j ≠ 23 ∧ j ≠ 24 ∧ j ≠ 25)) → m' 214 j = m 214 j
def DwM (m B : Mem) (r : Int) (m' : Mem) : Prop := Dx m m' ∧ ∃ k : Nat, (∀ j : Nat, j < k → okSt B j) ∧
  ((B 4 ((dl B k).2 - 1) = 0 ∧ r = k ∧ m' 214 10 = 0 ∧ m' 214 25 = 0 ∧ Bg (brN (dl B k).1 ((dl B k).1 47 3).toNat) 47 57 (m' 216) ∧ NmR (dl B k).1 47 (m' 221) ∧ ∀ j : Int, 232 ≤ j → j < 474 → m' 216 j = 0) ∨
   ((m' 216 = m 216 ∧ m' 221 = m 221 ∧ m' 214 25 = m 214 25) ∧ B 4 ((dl B k).2 - 1) ≠ 0 ∧ r = -1 - B 5 (lnF (dl B k).1 (dl B k).2).2 ∧ (((lnF (dl B k).1 (dl B k).2).1 ≠ 0 ∧ m' 214 10 = (lnF (dl B k).1 (dl B k).2).1) ∨ ((lnF (dl B k).1 (dl B k).2).1 = 0 ∧ B 4 (lnF (dl B k).1 (dl B k).2).2 ≠ 59 ∧ m' 214 10 = 1))))
theorem RdR.st {G : Mem} {N M : Int → Int} (h : RdR G N M) (hdr : DrOk G) : St0 G 47 57 N ∧ NmR G 47 M := by
  obtain ⟨⟨a0, a1, a2, a3, a4⟩, hf, hp, hq, hc⟩ := h
  obtain ⟨hdn, hst, -, z63, z64, z0, z1⟩ := hdr
  obtain ⟨⟨d0, d1⟩, ⟨d2, d3⟩, -⟩ := id hdn
  obtain ⟨-, -, -, hsp, -⟩ := id hst
  refine ⟨⟨⟨⟨a0, a1, a2, a3, a4⟩, fun f h0 h1 => (hf f h0 h1).1, fun p h0 h1 => (hp p h0 h1).1.2.2.1, fun q h0 h1 => (hq q h0 h1).1⟩, ⟨z0, z1⟩, fun p h0 h1 => ?_, hc⟩, fun f h0 h1 => (hf f h0 h1).2, fun p h0 h1 => (hp p h0 h1).2, fun q h0 h1 => (hq q h0 h1).2⟩
  have x1 := (hp p h0 h1).1
  have x2 := hsp p h0 h1
  refine ⟨⟨x1.1, x1.2.1, ?_, z63 p, z64 p⟩, x2.1, by omega, x2.2.2.1, by omega⟩
  rw [x1.2.2.1]; exact x1.2.2.2.symm
def Px2 (m m' : Mem) : Prop := (∀ b : Nat, b ≠ 214 → b ≠ 217 → b ≠ 222 → m' b = m b) ∧ (m' 214 0 = 0 ∧ m' 214 2 = 0) ∧ ∀ j : Int, (j = 1 ∨ (13 < j ∧ j ≠ 23 ∧ j ≠ 24)) → m' 214 j = m 214 j
theorem Px2.p {m n o : Mem} (h : Px2 m n) (h' : Px n o) : Px2 m o := ⟨fun b h1 h2 h3 => (h'.1 b h1 h2 h3).trans (h.1 b h1 h2 h3), ⟨(h'.2 0 (by omega)).trans h.2.1.1, (h'.2 2 (by omega)).trans h.2.1.2⟩, fun j hj => (h'.2 j (by omega)).trans (h.2.2 j hj)⟩
theorem dl_tm {B m : Mem} {t kw : Int → Int} {n lim i : Int} (h : TM B t kw n lim m i) (k : Nat) : TM (dl B k).1 t kw n lim m i := h.c (by rw [dl_out k (by omega)]) (dl_out k (by omega)) (dl_out k (by omega)) (dl_out k (by omega))
theorem dl_mt {B m : Mem} {t kw : Int → Int} {n lim i : Int} {k : Nat} (h : TM (dl B k).1 t kw n lim m i) : TM B t kw n lim m i := h.c (by rw [dl_out k (by omega)]) (dl_out k (by omega)).symm (dl_out k (by omega)).symm (dl_out k (by omega)).symm
def zr217 (m : Mem) (k : Int) : Mem := fun b j => if b = 217 ∧ 0 ≤ j ∧ j < k then 0 else m b j
theorem fill_row {m : Mem} {a b : Nat} {n x : Int} (h : b ≠ a) : fill m a n x b = m b := by funext j; unfold fill; rw [if_neg (fun q => h q.1)]
theorem fill_in {m : Mem} {a : Nat} {n x j : Int} (h0 : 0 ≤ j) (h1 : j < n) : fill m a n x a j = x := by unfold fill; rw [if_pos ⟨rfl, h0, h1⟩]

set_option maxRecDepth 4000 in
theorem ev_X12_comesUpP {m : Mem} {G : Mem} {d : Nat} {st : Nat} {p : Int} (hbd : BgD G d (m 216)) (hdn : DnOk G d) (hp : 0 ≤ p ∧ p < 5) (hat : m 216 (126 + p) = 9 * G (st + 3) p + G (st + 2) p) (hup : m 216 (131 + p) = G (st + 4) p) (hca : m 216 (141 + p) = G (st + 6) p) (hxy : 0 ≤ G (st + 2) p ∧ G (st + 2) p ≤ 8 ∧ 0 ≤ G (st + 3) p ∧ G (st + 3) p ≤ 8) : Ev 0 1 mX12_comesUp [vr 214, vi p] m (fun r m' => m' = wr m 216 (141 + p) (comeN (G (st + 6) p) (upP G d st p) (G d 4).toNat)) := by
  refine Ev.of (L := [vr 214, vi p, un]) (by decide +kernel) rfl (Nat.le_of_ble_eq_true rfl) rfl (fun t ht => by cases ht) (fun hcan => ?_)
  obtain ⟨⟨hd0, hd1⟩, ⟨hd2, hd3⟩, ⟨hd4, hd5⟩, ⟨hd6, hd7⟩, ⟨hd8, hd9⟩, hdf, hdp, hdq⟩ := id hdn
  refine go_iconst dX12_comesUp_0 ?_
  refine go_istore_n (L' := [vr 214, vi p, vi 0]) dX12_comesUp_1 (by decide) rfl rfl ?_
  have lp_2 : ∀ (n_2 : Nat) (m1 : Mem) (q : Int) , (0 ≤ q) → (q ≤ G d 4) → (m1 = (wr m 216 (141 + p) (comeN (G (st + 6) p) (upP G d st p) q.toNat))) → (G d 4 - q).toNat < n_2 → Go 0 1 mX12_comesUp (fun r m' => m' = wr m 216 (141 + p) (comeN (G (st + 6) p) (upP G d st p) (G d 4).toNat)) 2 [vr 214, vi p, vi q] [] m1 := by
    intro n_2
    induction n_2 with
    | zero => intro m1 q hq0 hq1 hm hmu; exact absurd hmu (Nat.not_lt_zero _)
    | succ n_2 ih_2 =>
      intro m1 q hq0 hq1 hm hmu
      subst hm
      refine go_iload_n dX12_comesUp_2 rfl ?_
      refine go_aload_n dX12_comesUp_3 rfl ?_
      refine go_getf_p (b := 216) dX12_comesUp_4 fl_12_98 ob_214 rfl pt_214_14 ?_
      refine go_iconst dX12_comesUp_7 ?_
      refine go_iaload dX12_comesUp_8 ar_216 (by omega) (by omega) (fun he_8 => ?_)
      rw [show ((wr m 216 (141 + p) (comeN (G (st + 6) p) (upP G d st p) q.toNat)) 216 4 : Int) = (G d 4) from by rw [wr_ni (by omega)]; exact hbd.n4] at he_8 ⊢
      refine go_icmp_ge (tgt := 77) dX12_comesUp_9 (by decide) ⟨by omega, by omega⟩ ⟨by omega, by omega⟩ (fun h_9 => ?_) (fun h_9 => ?_)
      · exact go_ret (v := 0) rfl dX12_comesUp_77 rfl (by rw [show q = G d 4 by omega])
      · have hqq := hdq q hq0 (by omega)
        refine go_aload_n dX12_comesUp_12 rfl ?_
        refine go_getf_p (b := 216) dX12_comesUp_13 fl_12_98 ob_214 rfl pt_214_14 ?_
        refine go_bipush dX12_comesUp_16 (by decide) ?_
        refine go_iload_n dX12_comesUp_18 rfl ?_
        refine go_iadd dX12_comesUp_19 ?_
        refine go_iaload dX12_comesUp_20 ar_216 (by omega) (by omega) (fun he_20 => ?_)
        rw [show ((wr m 216 (141 + p) (comeN (G (st + 6) p) (upP G d st p) q.toNat)) 216 (32 + q) : Int) = (9 * G (d + 8) q + G (d + 7) q) from by rw [wr_ni (by omega)]; exact (hbd.sp (q := q) (by omega) (by omega))] at he_20 ⊢
        refine go_aload_n dX12_comesUp_21 rfl ?_
        refine go_getf_p (b := 216) dX12_comesUp_22 fl_12_98 ob_214 rfl pt_214_14 ?_
        refine go_bipush dX12_comesUp_25 (by decide) ?_
        refine go_iload_n dX12_comesUp_27 rfl ?_
        refine go_iadd dX12_comesUp_28 ?_
        refine go_iaload dX12_comesUp_29 ar_216 (by omega) (by omega) (fun he_29 => ?_)
        rw [show ((wr m 216 (141 + p) (comeN (G (st + 6) p) (upP G d st p) q.toNat)) 216 (126 + p) : Int) = (9 * G (st + 3) p + G (st + 2) p) from by rw [wr_ni (by omega)]; exact hat] at he_29 ⊢
        refine go_icmp_ne (tgt := 71) dX12_comesUp_30 (by decide) ⟨by omega, by omega⟩ ⟨by omega, by omega⟩ (fun h_30 => ?_) (fun h_30 => ?_)
        · refine go_iinc (L' := [vr 214, vi p, vi (q + 1)]) dX12_comesUp_71 rfl (by decide) rfl rfl ?_
          refine go_goto (tgt := 2) dX12_comesUp_74 (by decide) ?_
          exact ih_2 (wr m 216 (141 + p) (comeN (G (st + 6) p) (upP G d st p) q.toNat)) (q + 1) (by first | assumption | omega | rfl) (by first | assumption | omega | rfl) (by first | (rw [comeN_t hq0 (by unfold upP; exact decide_eq_true (by omega))]; exact wr_wr) | (rw [comeN_f hq0 (by unfold upP; exact decide_eq_false (by omega))])) (by omega)
        · refine go_aload_n dX12_comesUp_33 rfl ?_
          refine go_getf_p (b := 216) dX12_comesUp_34 fl_12_98 ob_214 rfl pt_214_14 ?_
          refine go_bipush dX12_comesUp_37 (by decide) ?_
          refine go_iload_n dX12_comesUp_39 rfl ?_
          refine go_iadd dX12_comesUp_40 ?_
          refine go_iaload dX12_comesUp_41 ar_216 (by omega) (by omega) (fun he_41 => ?_)
          rw [show ((wr m 216 (141 + p) (comeN (G (st + 6) p) (upP G d st p) q.toNat)) 216 (37 + q) : Int) = (G (d + 9) q) from by rw [wr_ni (by omega)]; exact (hbd.su (q := q) (by omega) (by omega))] at he_41 ⊢
          refine go_aload_n dX12_comesUp_42 rfl ?_
          refine go_getf_p (b := 216) dX12_comesUp_43 fl_12_98 ob_214 rfl pt_214_14 ?_
          refine go_sipush dX12_comesUp_46 (by decide) ?_
          refine go_iload_n dX12_comesUp_49 rfl ?_
          refine go_iadd dX12_comesUp_50 ?_
          refine go_iaload dX12_comesUp_51 ar_216 (by omega) (by omega) (fun he_51 => ?_)
          rw [show ((wr m 216 (141 + p) (comeN (G (st + 6) p) (upP G d st p) q.toNat)) 216 (131 + p) : Int) = (G (st + 4) p) from by rw [wr_ni (by omega)]; exact hup] at he_51 ⊢
          refine go_icmp_ne (tgt := 71) dX12_comesUp_52 (by decide) ⟨by omega, by omega⟩ ⟨by omega, by omega⟩ (fun h_52 => ?_) (fun h_52 => ?_)
          · refine go_iinc (L' := [vr 214, vi p, vi (q + 1)]) dX12_comesUp_71 rfl (by decide) rfl rfl ?_
            refine go_goto (tgt := 2) dX12_comesUp_74 (by decide) ?_
            exact ih_2 (wr m 216 (141 + p) (comeN (G (st + 6) p) (upP G d st p) q.toNat)) (q + 1) (by first | assumption | omega | rfl) (by first | assumption | omega | rfl) (by first | (rw [comeN_t hq0 (by unfold upP; exact decide_eq_true (by omega))]; exact wr_wr) | (rw [comeN_f hq0 (by unfold upP; exact decide_eq_false (by omega))])) (by omega)
          · refine go_aload_n dX12_comesUp_55 rfl ?_
            refine go_getf_p (b := 216) dX12_comesUp_56 fl_12_98 ob_214 rfl pt_214_14 ?_
            refine go_sipush dX12_comesUp_59 (by decide) ?_
            refine go_iload_n dX12_comesUp_62 rfl ?_
            refine go_iadd dX12_comesUp_63 ?_
            refine go_dup2_ir dX12_comesUp_64 ?_
            refine go_iaload dX12_comesUp_65 ar_216 (by omega) (by omega) (fun he_65 => ?_)
            rw [show ((wr m 216 (141 + p) (comeN (G (st + 6) p) (upP G d st p) q.toNat)) 216 (141 + p) : Int) = (comeN (G (st + 6) p) (upP G d st p) q.toNat) from by rw [wr_self]] at he_65 ⊢
            refine go_iconst dX12_comesUp_66 ?_
            refine go_iload_n dX12_comesUp_67 rfl ?_
            refine go_ishl dX12_comesUp_68 ?_
            refine go_ior dX12_comesUp_69 ?_
            refine go_iastore dX12_comesUp_70 ar_216 (by omega) (by omega) (ior_R _ _) ?_
            refine go_iinc (L' := [vr 214, vi p, vi (q + 1)]) dX12_comesUp_71 rfl (by decide) rfl rfl ?_
            refine go_goto (tgt := 2) dX12_comesUp_74 (by decide) ?_
            exact ih_2 (wr (wr m 216 (141 + p) (comeN (G (st + 6) p) (upP G d st p) q.toNat)) 216 (141 + p) (ior (comeN (G (st + 6) p) (upP G d st p) q.toNat) (ishl 1 q))) (q + 1) (by first | assumption | omega | rfl) (by first | assumption | omega | rfl) (by first | (rw [comeN_t hq0 (by unfold upP; exact decide_eq_true (by omega))]; exact wr_wr) | (rw [comeN_f hq0 (by unfold upP; exact decide_eq_false (by omega))])) (by omega)
  exact lp_2 _ m 0 (by first | assumption | omega | rfl) (by first | assumption | omega | rfl) (by rw [show comeN (G (st + 6) p) (upP G d st p) (0 : Int).toNat = m 216 (141 + p) from hca.symm]; exact wr_id.symm) (Nat.lt_succ_self _)
theorem dX12_startSo_0 : decode mX12_startSo.2.1 0 = .ok (.bipush 123, 2) := by decide +kernel
theorem dX12_startSo_2 : decode mX12_startSo.2.1 2 = .ok (.istore_n 1, 1) := by decide +kernel
theorem dX12_startSo_3 : decode mX12_startSo.2.1 3 = .ok (.iload_n 1, 1) := by decide +kernel
theorem dX12_startSo_4 : decode mX12_startSo.2.1 4 = .ok (.sipush 474, 3) := by decide +kernel
theorem dX12_startSo_7 : decode mX12_startSo.2.1 7 = .ok (.if_icmp .ge 16, 3) := by decide +kernel
theorem dX12_startSo_10 : decode mX12_startSo.2.1 10 = .ok (.aload_n 0, 1) := by decide +kernel
theorem dX12_startSo_11 : decode mX12_startSo.2.1 11 = .ok (.getfield 98, 3) := by decide +kernel
theorem dX12_startSo_14 : decode mX12_startSo.2.1 14 = .ok (.iload_n 1, 1) := by decide +kernel
theorem dX12_startSo_15 : decode mX12_startSo.2.1 15 = .ok (.iconst 0, 1) := by decide +kernel
theorem dX12_startSo_16 : decode mX12_startSo.2.1 16 = .ok (.iastore, 1) := by decide +kernel
theorem dX12_startSo_17 : decode mX12_startSo.2.1 17 = .ok (.iinc 1 1, 3) := by decide +kernel
theorem dX12_startSo_20 : decode mX12_startSo.2.1 20 = .ok (.goto (-17), 3) := by decide +kernel
theorem dX12_startSo_23 : decode mX12_startSo.2.1 23 = .ok (.iconst 0, 1) := by decide +kernel
theorem dX12_startSo_24 : decode mX12_startSo.2.1 24 = .ok (.istore_n 1, 1) := by decide +kernel
theorem dX12_startSo_25 : decode mX12_startSo.2.1 25 = .ok (.iload_n 1, 1) := by decide +kernel
theorem dX12_startSo_26 : decode mX12_startSo.2.1 26 = .ok (.bipush 81, 2) := by decide +kernel
theorem dX12_startSo_28 : decode mX12_startSo.2.1 28 = .ok (.if_icmp .ge 28, 3) := by decide +kernel
theorem dX12_startSo_31 : decode mX12_startSo.2.1 31 = .ok (.aload_n 0, 1) := by decide +kernel
theorem dX12_startSo_32 : decode mX12_startSo.2.1 32 = .ok (.getfield 98, 3) := by decide +kernel
theorem dX12_startSo_35 : decode mX12_startSo.2.1 35 = .ok (.sipush 151, 3) := by decide +kernel
theorem dX12_startSo_38 : decode mX12_startSo.2.1 38 = .ok (.iload_n 1, 1) := by decide +kernel
theorem dX12_startSo_39 : decode mX12_startSo.2.1 39 = .ok (.iadd, 1) := by decide +kernel
theorem dX12_startSo_40 : decode mX12_startSo.2.1 40 = .ok (.aload_n 0, 1) := by decide +kernel
theorem dX12_startSo_41 : decode mX12_startSo.2.1 41 = .ok (.getfield 98, 3) := by decide +kernel
theorem dX12_startSo_44 : decode mX12_startSo.2.1 44 = .ok (.bipush 42, 2) := by decide +kernel
theorem dX12_startSo_46 : decode mX12_startSo.2.1 46 = .ok (.iload_n 1, 1) := by decide +kernel
theorem dX12_startSo_47 : decode mX12_startSo.2.1 47 = .ok (.iadd, 1) := by decide +kernel
theorem dX12_startSo_48 : decode mX12_startSo.2.1 48 = .ok (.iaload, 1) := by decide +kernel
theorem dX12_startSo_49 : decode mX12_startSo.2.1 49 = .ok (.iastore, 1) := by decide +kernel
theorem dX12_startSo_50 : decode mX12_startSo.2.1 50 = .ok (.iinc 1 1, 3) := by decide +kernel
theorem dX12_startSo_53 : decode mX12_startSo.2.1 53 = .ok (.goto (-28), 3) := by decide +kernel
theorem dX12_startSo_56 : decode mX12_startSo.2.1 56 = .ok (.iconst 0, 1) := by decide +kernel
theorem dX12_startSo_57 : decode mX12_startSo.2.1 57 = .ok (.istore_n 1, 1) := by decide +kernel
theorem dX12_startSo_58 : decode mX12_startSo.2.1 58 = .ok (.iload_n 1, 1) := by decide +kernel
theorem dX12_startSo_59 : decode mX12_startSo.2.1 59 = .ok (.aload_n 0, 1) := by decide +kernel
theorem dX12_startSo_60 : decode mX12_startSo.2.1 60 = .ok (.getfield 98, 3) := by decide +kernel
theorem dX12_startSo_63 : decode mX12_startSo.2.1 63 = .ok (.iconst 3, 1) := by decide +kernel
theorem dX12_startSo_64 : decode mX12_startSo.2.1 64 = .ok (.iaload, 1) := by decide +kernel
theorem dX12_startSo_65 : decode mX12_startSo.2.1 65 = .ok (.if_icmp .ge 70, 3) := by decide +kernel
theorem dX12_startSo_68 : decode mX12_startSo.2.1 68 = .ok (.aload_n 0, 1) := by decide +kernel
theorem dX12_startSo_69 : decode mX12_startSo.2.1 69 = .ok (.getfield 98, 3) := by decide +kernel
theorem dX12_startSo_72 : decode mX12_startSo.2.1 72 = .ok (.bipush 126, 2) := by decide +kernel
theorem dX12_startSo_74 : decode mX12_startSo.2.1 74 = .ok (.iload_n 1, 1) := by decide +kernel
theorem dX12_startSo_75 : decode mX12_startSo.2.1 75 = .ok (.iadd, 1) := by decide +kernel
theorem dX12_startSo_76 : decode mX12_startSo.2.1 76 = .ok (.aload_n 0, 1) := by decide +kernel
theorem dX12_startSo_77 : decode mX12_startSo.2.1 77 = .ok (.getfield 98, 3) := by decide +kernel
theorem dX12_startSo_80 : decode mX12_startSo.2.1 80 = .ok (.bipush 17, 2) := by decide +kernel
theorem dX12_startSo_82 : decode mX12_startSo.2.1 82 = .ok (.iload_n 1, 1) := by decide +kernel
theorem dX12_startSo_83 : decode mX12_startSo.2.1 83 = .ok (.iadd, 1) := by decide +kernel
theorem dX12_startSo_84 : decode mX12_startSo.2.1 84 = .ok (.iaload, 1) := by decide +kernel
theorem dX12_startSo_85 : decode mX12_startSo.2.1 85 = .ok (.iastore, 1) := by decide +kernel
theorem dX12_startSo_86 : decode mX12_startSo.2.1 86 = .ok (.aload_n 0, 1) := by decide +kernel
theorem dX12_startSo_87 : decode mX12_startSo.2.1 87 = .ok (.getfield 98, 3) := by decide +kernel
theorem dX12_startSo_90 : decode mX12_startSo.2.1 90 = .ok (.sipush 131, 3) := by decide +kernel
theorem dX12_startSo_93 : decode mX12_startSo.2.1 93 = .ok (.iload_n 1, 1) := by decide +kernel
theorem dX12_startSo_94 : decode mX12_startSo.2.1 94 = .ok (.iadd, 1) := by decide +kernel
theorem dX12_startSo_95 : decode mX12_startSo.2.1 95 = .ok (.aload_n 0, 1) := by decide +kernel
theorem dX12_startSo_96 : decode mX12_startSo.2.1 96 = .ok (.getfield 98, 3) := by decide +kernel
theorem dX12_startSo_99 : decode mX12_startSo.2.1 99 = .ok (.bipush 22, 2) := by decide +kernel
theorem dX12_startSo_101 : decode mX12_startSo.2.1 101 = .ok (.iload_n 1, 1) := by decide +kernel
theorem dX12_startSo_102 : decode mX12_startSo.2.1 102 = .ok (.iadd, 1) := by decide +kernel
theorem dX12_startSo_103 : decode mX12_startSo.2.1 103 = .ok (.iaload, 1) := by decide +kernel
theorem dX12_startSo_104 : decode mX12_startSo.2.1 104 = .ok (.iastore, 1) := by decide +kernel
theorem dX12_startSo_105 : decode mX12_startSo.2.1 105 = .ok (.aload_n 0, 1) := by decide +kernel
theorem dX12_startSo_106 : decode mX12_startSo.2.1 106 = .ok (.getfield 98, 3) := by decide +kernel
theorem dX12_startSo_109 : decode mX12_startSo.2.1 109 = .ok (.sipush 136, 3) := by decide +kernel
theorem dX12_startSo_112 : decode mX12_startSo.2.1 112 = .ok (.iload_n 1, 1) := by decide +kernel
theorem dX12_startSo_113 : decode mX12_startSo.2.1 113 = .ok (.iadd, 1) := by decide +kernel
theorem dX12_startSo_114 : decode mX12_startSo.2.1 114 = .ok (.aload_n 0, 1) := by decide +kernel
theorem dX12_startSo_115 : decode mX12_startSo.2.1 115 = .ok (.getfield 98, 3) := by decide +kernel
theorem dX12_startSo_118 : decode mX12_startSo.2.1 118 = .ok (.bipush 27, 2) := by decide +kernel
theorem dX12_startSo_120 : decode mX12_startSo.2.1 120 = .ok (.iload_n 1, 1) := by decide +kernel
theorem dX12_startSo_121 : decode mX12_startSo.2.1 121 = .ok (.iadd, 1) := by decide +kernel
theorem dX12_startSo_122 : decode mX12_startSo.2.1 122 = .ok (.iaload, 1) := by decide +kernel
theorem dX12_startSo_123 : decode mX12_startSo.2.1 123 = .ok (.iastore, 1) := by decide +kernel
theorem dX12_startSo_124 : decode mX12_startSo.2.1 124 = .ok (.aload_n 0, 1) := by decide +kernel
theorem dX12_startSo_125 : decode mX12_startSo.2.1 125 = .ok (.iload_n 1, 1) := by decide +kernel
theorem dX12_startSo_126 : decode mX12_startSo.2.1 126 = .ok (.invokevirtual 163, 3) := by decide +kernel
theorem dX12_startSo_129 : decode mX12_startSo.2.1 129 = .ok (.iinc 1 1, 3) := by decide +kernel
theorem dX12_startSo_132 : decode mX12_startSo.2.1 132 = .ok (.goto (-74), 3) := by decide +kernel
theorem dX12_startSo_135 : decode mX12_startSo.2.1 135 = .ok (.return_, 1) := by decide +kernel
set_option maxRecDepth 4000 in
theorem ev_X12_startSo {m : Mem} {G : Mem} {d : Nat} {st : Nat} (h0 : St0 G d st (m 216)) (hdn : DnOk G d) (hsep : d + 10 ≤ st) : Ev 0 2 mX12_startSo [vr 214] m (fun r m' => (∀ b : Nat, b ≠ 216 → m' b = m b) ∧ StI G d st (m 216) (m' 216) (G d 3)) := by
  refine Ev.of (L := [vr 214, un]) (by decide +kernel) rfl (Nat.le_of_ble_eq_true rfl) rfl (fun t ht => by cases ht) (fun hcan => ?_)
  obtain ⟨⟨hd0, hd1⟩, ⟨hd2, hd3⟩, ⟨hd4, hd5⟩, ⟨hd6, hd7⟩, ⟨hd8, hd9⟩, hdf, hdp, hdq⟩ := id hdn
  obtain ⟨g0, ⟨g1, g2⟩, g3, g4⟩ := id h0
  refine go_bipush dX12_startSo_0 (by decide) ?_
  refine go_istore_n (L' := [vr 214, vi 123]) dX12_startSo_2 (by decide) rfl rfl ?_
  have lp_3 : ∀ (n_3 : Nat) (m1 : Mem) (k : Int) , (123 ≤ k) → (k ≤ 474) → (m1 = zf m k) → (474 - k).toNat < n_3 → Go 0 2 mX12_startSo (fun r m' => (∀ b : Nat, b ≠ 216 → m' b = m b) ∧ StI G d st (m 216) (m' 216) (G d 3)) 3 [vr 214, vi k] [] m1 := by
    intro n_3
    induction n_3 with
    | zero => intro m1 k hk0 hk1 hm hmu; exact absurd hmu (Nat.not_lt_zero _)
    | succ n_3 ih_3 =>
      intro m1 k hk0 hk1 hm hmu
      refine go_iload_n dX12_startSo_3 rfl ?_
      refine go_sipush dX12_startSo_4 (by decide) ?_
      refine go_icmp_ge (tgt := 23) dX12_startSo_7 (by decide) ⟨by omega, by omega⟩ ⟨by omega, by omega⟩ (fun h_7 => ?_) (fun h_7 => ?_)
      · refine go_iconst dX12_startSo_23 ?_
        refine go_istore_n (L' := [vr 214, vi 0]) dX12_startSo_24 (by decide) rfl rfl ?_
        have lp_25 : ∀ (n_25 : Nat) (m2 : Mem) (c : Int) , (0 ≤ c) → (c ≤ 81) → (m2 = mov (zf m 474) 216 216 42 151 c) → (81 - c).toNat < n_25 → Go 0 2 mX12_startSo (fun r m' => (∀ b : Nat, b ≠ 216 → m' b = m b) ∧ StI G d st (m 216) (m' 216) (G d 3)) 25 [vr 214, vi c] [] m2 := by
          intro n_25
          induction n_25 with
          | zero => intro m2 c hc0 hc1 hm2 hmu; exact absurd hmu (Nat.not_lt_zero _)
          | succ n_25 ih_25 =>
            intro m2 c hc0 hc1 hm2 hmu
            have ec : m2 216 (42 + c) = (zf m 474) 216 (42 + c) := by rw [hm2, mov_out (by omega)]
            refine go_iload_n dX12_startSo_25 rfl ?_
            refine go_bipush dX12_startSo_26 (by decide) ?_
            refine go_icmp_ge (tgt := 56) dX12_startSo_28 (by decide) ⟨by omega, by omega⟩ ⟨by omega, by omega⟩ (fun h_28 => ?_) (fun h_28 => ?_)
            · refine go_iconst dX12_startSo_56 ?_
              refine go_istore_n (L' := [vr 214, vi 0]) dX12_startSo_57 (by decide) rfl rfl ?_
              have lp_58 : ∀ (n_58 : Nat) (m3 : Mem) (k : Int) , (0 ≤ k) → (k ≤ G d 3) → (StI G d st (m 216) (m3 216) k) → (∀ b : Nat, b ≠ 216 → m3 b = m b) → (G d 3 - k).toNat < n_58 → Go 0 2 mX12_startSo (fun r m' => (∀ b : Nat, b ≠ 216 → m' b = m b) ∧ StI G d st (m 216) (m' 216) (G d 3)) 58 [vr 214, vi k] [] m3 := by
                intro n_58
                induction n_58 with
                | zero => intro m3 k hp0 hp1 hI hfr hmu; exact absurd hmu (Nat.not_lt_zero _)
                | succ n_58 ih_58 =>
                  intro m3 k hp0 hp1 hI hfr hmu
                  obtain ⟨i1, i2, i3, i4, i5, i6⟩ := id hI
                  have e3 : m3 216 3 = G d 3 := by rw [i1 3 (by omega)]; exact g0.n3
                  refine go_iload_n dX12_startSo_58 rfl ?_
                  refine go_aload_n dX12_startSo_59 rfl ?_
                  refine go_getf_p (b := 216) dX12_startSo_60 fl_12_98 ob_214 rfl pt_214_14 ?_
                  refine go_iconst dX12_startSo_63 ?_
                  refine go_iaload dX12_startSo_64 ar_216 (by omega) (by omega) (fun he_64 => ?_)
                  rw [show (m3 216 3 : Int) = (G d 3) from e3] at he_64 ⊢
                  refine go_icmp_ge (tgt := 135) dX12_startSo_65 (by decide) ⟨by omega, by omega⟩ ⟨by omega, by omega⟩ (fun h_65 => ?_) (fun h_65 => ?_)
                  · exact go_ret (v := 0) rfl dX12_startSo_135 rfl (by rw [show G d 3 = k by omega]; exact ⟨hfr, hI⟩)
                  · have g3k := g3 k hp0 (by omega)
                    have e17 : m3 216 (17 + k) = m 216 (17 + k) := i1 _ (by omega)
                    have e22 : m3 216 (22 + k) = m 216 (22 + k) := i1 _ (by omega)
                    have e27 : m3 216 (27 + k) = m 216 (27 + k) := i1 _ (by omega)
                    refine go_aload_n dX12_startSo_68 rfl ?_
                    refine go_getf_p (b := 216) dX12_startSo_69 fl_12_98 ob_214 rfl pt_214_14 ?_
                    refine go_bipush dX12_startSo_72 (by decide) ?_
                    refine go_iload_n dX12_startSo_74 rfl ?_
                    refine go_iadd dX12_startSo_75 ?_
                    refine go_aload_n dX12_startSo_76 rfl ?_
                    refine go_getf_p (b := 216) dX12_startSo_77 fl_12_98 ob_214 rfl pt_214_14 ?_
                    refine go_bipush dX12_startSo_80 (by decide) ?_
                    refine go_iload_n dX12_startSo_82 rfl ?_
                    refine go_iadd dX12_startSo_83 ?_
                    refine go_iaload dX12_startSo_84 ar_216 (by omega) (by omega) (fun he_84 => ?_)
                    rw [show (m3 216 (17 + k) : Int) = (m 216 (17 + k)) from e17] at he_84 ⊢
                    refine go_iastore dX12_startSo_85 ar_216 (by omega) (by omega) ⟨by omega, by omega⟩ ?_
                    refine go_aload_n dX12_startSo_86 rfl ?_
                    refine go_getf_p (b := 216) dX12_startSo_87 fl_12_98 ob_214 rfl pt_214_14 ?_
                    refine go_sipush dX12_startSo_90 (by decide) ?_
                    refine go_iload_n dX12_startSo_93 rfl ?_
                    refine go_iadd dX12_startSo_94 ?_
                    refine go_aload_n dX12_startSo_95 rfl ?_
                    refine go_getf_p (b := 216) dX12_startSo_96 fl_12_98 ob_214 rfl pt_214_14 ?_
                    refine go_bipush dX12_startSo_99 (by decide) ?_
                    refine go_iload_n dX12_startSo_101 rfl ?_
                    refine go_iadd dX12_startSo_102 ?_
                    refine go_iaload dX12_startSo_103 ar_216 (by omega) (by omega) (fun he_103 => ?_)
                    rw [show ((wr m3 216 (126 + k) (m 216 (17 + k))) 216 (22 + k) : Int) = (m 216 (22 + k)) from by rw [wr_ni (by omega)]; exact e22] at he_103 ⊢
                    refine go_iastore dX12_startSo_104 ar_216 (by omega) (by omega) ⟨by omega, by omega⟩ ?_
                    refine go_aload_n dX12_startSo_105 rfl ?_
                    refine go_getf_p (b := 216) dX12_startSo_106 fl_12_98 ob_214 rfl pt_214_14 ?_
                    refine go_sipush dX12_startSo_109 (by decide) ?_
                    refine go_iload_n dX12_startSo_112 rfl ?_
                    refine go_iadd dX12_startSo_113 ?_
                    refine go_aload_n dX12_startSo_114 rfl ?_
                    refine go_getf_p (b := 216) dX12_startSo_115 fl_12_98 ob_214 rfl pt_214_14 ?_
                    refine go_bipush dX12_startSo_118 (by decide) ?_
                    refine go_iload_n dX12_startSo_120 rfl ?_
                    refine go_iadd dX12_startSo_121 ?_
                    refine go_iaload dX12_startSo_122 ar_216 (by omega) (by omega) (fun he_122 => ?_)
                    rw [show ((wr (wr m3 216 (126 + k) (m 216 (17 + k))) 216 (131 + k) (m 216 (22 + k))) 216 (27 + k) : Int) = (m 216 (27 + k)) from by rw [wr_ni (by omega), wr_ni (by omega)]; exact e27] at he_122 ⊢
                    refine go_iastore dX12_startSo_123 ar_216 (by omega) (by omega) ⟨by omega, by omega⟩ ?_
                    refine go_aload_n dX12_startSo_124 rfl ?_
                    refine go_iload_n dX12_startSo_125 rfl ?_
                    refine go_callV_v (as := [vi k]) (S := []) (b := 214) (ev_X12_comesUpP (m := (wr (wr (wr m3 216 (126 + k) (m 216 (17 + k))) 216 (131 + k) (m 216 (22 + k))) 216 (136 + k) (m 216 (27 + k)))) (p := k) (G := (brG G d st k.toNat)) (d := d) (st := st) (g0.congr hdn (fun j hj => brG_row (by omega) _) (fun j hj => by rw [wr_ni (by omega), wr_ni (by omega), wr_ni (by omega)]; exact i1 j hj)) (hdn.congr (fun j hj => brG_row (by omega) _)) (by omega) (by rw [wr_ni (by omega), wr_ni (by omega), wr_self, brG_row (by omega), brG_row (by omega)]; exact g3k.1.1) (by rw [wr_ni (by omega), wr_self, brG_row (by omega)]; exact g3k.1.2.1) (by rw [wr_ni (by omega), wr_ni (by omega), wr_ni (by omega), (i4 k (by omega) (by omega)).2.1, brG_ge _ (by omega)]; exact g3k.1.2.2.2.1.symm) (by rw [brG_row (by omega), brG_row (by omega)]; exact g3k.2)) rfl dX12_startSo_126 cv_12_163 rfl rfl ob_214 rfl (by decide) (Nat.le_of_ble_eq_true rfl) (fun m_126 hr_126 => ?_)
                    refine go_iinc (L' := [vr 214, vi (k + 1)]) dX12_startSo_129 rfl (by decide) rfl rfl ?_
                    refine go_goto (tgt := 58) dX12_startSo_132 (by decide) ?_
                    exact ih_58 m_126 (k + 1) (by first | assumption | omega | rfl) (by first | assumption | omega | rfl) (by
                          rw [hr_126]
                          have r6 : ∀ p : Int, brG G d st (k + 1).toNat (st + 6) p = if p = k then comeN (brG G d st k.toNat (st + 6) k) (upP (brG G d st k.toNat) d st k) (brG G d st k.toNat d 4).toNat else brG G d st k.toNat (st + 6) p := fun p => by
                            rw [show (k + 1).toNat = k.toNat + 1 by omega]
                            show bring (brG G d st k.toNat) d st (k.toNat : Int) (st + 6) p = _
                            rw [Int.toNat_of_nonneg hp0]; unfold bring; rw [wr_rowat]
                          refine ⟨fun j hj => by rw [wr_ni (by omega), wr_ni (by omega), wr_ni (by omega), wr_ni (by omega)]; exact i1 j hj, ⟨by rw [wr_ni (by omega), wr_ni (by omega), wr_ni (by omega), wr_ni (by omega)]; exact i2.1, by rw [wr_ni (by omega), wr_ni (by omega), wr_ni (by omega), wr_ni (by omega)]; exact i2.2.1, by rw [wr_ni (by omega), wr_ni (by omega), wr_ni (by omega), wr_ni (by omega)]; exact i2.2.2⟩, fun p a b => ?_, fun p a b => ?_, fun c a b => ?_, fun j a b => ?_⟩
                          · rw [r6 p]
                            by_cases e : p = k
                            · subst e
                              rw [if_pos rfl]
                              refine ⟨?_, ?_, ?_, wr_self _ _ _ _, ?_⟩
                              · rw [wr_ni (by omega), wr_ni (by omega), wr_ni (by omega), wr_self]; exact g3k.1.1
                              · rw [wr_ni (by omega), wr_ni (by omega), wr_self]; exact g3k.1.2.1
                              · rw [wr_ni (by omega), wr_self]; exact g3k.1.2.2.1
                              · rw [wr_ni (by omega), wr_ni (by omega), wr_ni (by omega), wr_ni (by omega)]; exact (i4 p (by omega) (by omega)).2.2
                            · rw [if_neg e]
                              have := i3 p a (by omega)
                              refine ⟨?_, ?_, ?_, ?_, ?_⟩
                              · rw [wr_ni (by omega), wr_ni (by omega), wr_ni (by omega), wr_ni (by omega)]; exact this.1
                              · rw [wr_ni (by omega), wr_ni (by omega), wr_ni (by omega), wr_ni (by omega)]; exact this.2.1
                              · rw [wr_ni (by omega), wr_ni (by omega), wr_ni (by omega), wr_ni (by omega)]; exact this.2.2.1
                              · rw [wr_ni (by omega), wr_ni (by omega), wr_ni (by omega), wr_ni (by omega)]; exact this.2.2.2.1
                              · rw [wr_ni (by omega), wr_ni (by omega), wr_ni (by omega), wr_ni (by omega)]; exact this.2.2.2.2
                          · have := i4 p (by omega) b
                            refine ⟨?_, ?_, ?_⟩
                            · rw [wr_ni (by omega), wr_ni (by omega), wr_ni (by omega), wr_ni (by omega)]; exact this.1
                            · rw [wr_ni (by omega), wr_ni (by omega), wr_ni (by omega), wr_ni (by omega)]; exact this.2.1
                            · rw [wr_ni (by omega), wr_ni (by omega), wr_ni (by omega), wr_ni (by omega)]; exact this.2.2
                          · rw [wr_ni (by omega), wr_ni (by omega), wr_ni (by omega), wr_ni (by omega)]; exact i5 c a b
                          · rw [wr_ni (by omega), wr_ni (by omega), wr_ni (by omega), wr_ni (by omega)]; exact i6 j a b) (fun b h => by rw [hr_126, wr_row h, wr_row h, wr_row h, wr_row h]; exact hfr b h) (by omega)
              exact lp_58 _ m2 0 (by first | assumption | omega | rfl) (by first | assumption | omega | rfl) (by
                    rw [hm2, show c = 81 by omega]
                    refine ⟨fun j hj => by rw [mov_out (by omega), zf_lo hj], ⟨by rw [mov_out (by omega), zf_hi (by omega) (by omega)], by rw [mov_out (by omega), zf_hi (by omega) (by omega)], by rw [mov_out (by omega), zf_hi (by omega) (by omega)]⟩, fun p a b => by omega, fun p a b => ⟨by rw [mov_out (by omega), zf_hi (by omega) (by omega)], by rw [mov_out (by omega), zf_hi (by omega) (by omega)], by rw [mov_out (by omega), zf_hi (by omega) (by omega)]⟩, fun c a b => ?_, fun j a b => by rw [mov_out (by omega), zf_hi (by omega) (by omega)]⟩
                    rw [mov_in (by omega) (by omega), show 42 + (151 + c - 151) = 42 + c by omega, zf_lo (by omega)]; exact g4 c a b) (fun b h => by rw [hm2, mov_row h, zf_row h]) (Nat.lt_succ_self _)
            · refine go_aload_n dX12_startSo_31 rfl ?_
              refine go_getf_p (b := 216) dX12_startSo_32 fl_12_98 ob_214 rfl pt_214_14 ?_
              refine go_sipush dX12_startSo_35 (by decide) ?_
              refine go_iload_n dX12_startSo_38 rfl ?_
              refine go_iadd dX12_startSo_39 ?_
              refine go_aload_n dX12_startSo_40 rfl ?_
              refine go_getf_p (b := 216) dX12_startSo_41 fl_12_98 ob_214 rfl pt_214_14 ?_
              refine go_bipush dX12_startSo_44 (by decide) ?_
              refine go_iload_n dX12_startSo_46 rfl ?_
              refine go_iadd dX12_startSo_47 ?_
              refine go_iaload dX12_startSo_48 ar_216 (by omega) (by omega) (fun he_48 => ?_)
              rw [show (m2 216 (42 + c) : Int) = ((zf m 474) 216 (42 + c)) from ec] at he_48 ⊢
              refine go_iastore dX12_startSo_49 ar_216 (by omega) (by omega) ⟨by omega, by omega⟩ ?_
              refine go_iinc (L' := [vr 214, vi (c + 1)]) dX12_startSo_50 rfl (by decide) rfl rfl ?_
              refine go_goto (tgt := 25) dX12_startSo_53 (by decide) ?_
              exact ih_25 (wr m2 216 (151 + c) ((zf m 474) 216 (42 + c))) (c + 1) (by first | assumption | omega | rfl) (by first | assumption | omega | rfl) (by rw [hm2]; exact mov_s hc0) (by omega)
        exact lp_25 _ m1 0 (by first | assumption | omega | rfl) (by first | assumption | omega | rfl) (by rw [hm, show k = 474 by omega]; exact (mov_0 _ _ _ _ _).symm) (Nat.lt_succ_self _)
      · refine go_aload_n dX12_startSo_10 rfl ?_
        refine go_getf_p (b := 216) dX12_startSo_11 fl_12_98 ob_214 rfl pt_214_14 ?_
        refine go_iload_n dX12_startSo_14 rfl ?_
        refine go_iconst dX12_startSo_15 ?_
        refine go_iastore dX12_startSo_16 ar_216 (by omega) (by omega) ⟨by omega, by omega⟩ ?_
        refine go_iinc (L' := [vr 214, vi (k + 1)]) dX12_startSo_17 rfl (by decide) rfl rfl ?_
        refine go_goto (tgt := 3) dX12_startSo_20 (by decide) ?_
        exact ih_3 (wr m1 216 k 0) (k + 1) (by first | assumption | omega | rfl) (by first | assumption | omega | rfl) (by rw [hm]; exact zf_s hk0) (by omega)
  exact lp_3 _ m 123 (by first | assumption | omega | rfl) (by first | assumption | omega | rfl) (zf_0 m).symm (Nat.lt_succ_self _)
theorem dX12_downs_0 : decode mX12_downs.2.1 0 = .ok (.aload_n 0, 1) := by decide +kernel
theorem dX12_downs_1 : decode mX12_downs.2.1 1 = .ok (.sipush 900, 3) := by decide +kernel
theorem dX12_downs_4 : decode mX12_downs.2.1 4 = .ok (.invokevirtual 220, 3) := by decide +kernel
theorem dX12_downs_7 : decode mX12_downs.2.1 7 = .ok (.iconst 0, 1) := by decide +kernel
theorem dX12_downs_8 : decode mX12_downs.2.1 8 = .ok (.istore_n 1, 1) := by decide +kernel
theorem dX12_downs_9 : decode mX12_downs.2.1 9 = .ok (.iload_n 1, 1) := by decide +kernel
theorem dX12_downs_10 : decode mX12_downs.2.1 10 = .ok (.bipush 123, 2) := by decide +kernel
theorem dX12_downs_12 : decode mX12_downs.2.1 12 = .ok (.if_icmp .ge 16, 3) := by decide +kernel
theorem dX12_downs_15 : decode mX12_downs.2.1 15 = .ok (.aload_n 0, 1) := by decide +kernel
theorem dX12_downs_16 : decode mX12_downs.2.1 16 = .ok (.getfield 101, 3) := by decide +kernel
theorem dX12_downs_19 : decode mX12_downs.2.1 19 = .ok (.iload_n 1, 1) := by decide +kernel
theorem dX12_downs_20 : decode mX12_downs.2.1 20 = .ok (.iconst 0, 1) := by decide +kernel
theorem dX12_downs_21 : decode mX12_downs.2.1 21 = .ok (.iastore, 1) := by decide +kernel
theorem dX12_downs_22 : decode mX12_downs.2.1 22 = .ok (.iinc 1 1, 3) := by decide +kernel
theorem dX12_downs_25 : decode mX12_downs.2.1 25 = .ok (.goto (-16), 3) := by decide +kernel
theorem dX12_downs_28 : decode mX12_downs.2.1 28 = .ok (.aload_n 0, 1) := by decide +kernel
theorem dX12_downs_29 : decode mX12_downs.2.1 29 = .ok (.iconst 0, 1) := by decide +kernel
theorem dX12_downs_30 : decode mX12_downs.2.1 30 = .ok (.putfield 174, 3) := by decide +kernel
theorem dX12_downs_33 : decode mX12_downs.2.1 33 = .ok (.aload_n 0, 1) := by decide +kernel
theorem dX12_downs_34 : decode mX12_downs.2.1 34 = .ok (.iconst 0, 1) := by decide +kernel
theorem dX12_downs_35 : decode mX12_downs.2.1 35 = .ok (.putfield 178, 3) := by decide +kernel
theorem dX12_downs_38 : decode mX12_downs.2.1 38 = .ok (.aload_n 0, 1) := by decide +kernel
theorem dX12_downs_39 : decode mX12_downs.2.1 39 = .ok (.getfield 101, 3) := by decide +kernel
theorem dX12_downs_42 : decode mX12_downs.2.1 42 = .ok (.iconst 0, 1) := by decide +kernel
theorem dX12_downs_43 : decode mX12_downs.2.1 43 = .ok (.bipush 6, 2) := by decide +kernel
theorem dX12_downs_45 : decode mX12_downs.2.1 45 = .ok (.iastore, 1) := by decide +kernel
theorem dX12_downs_46 : decode mX12_downs.2.1 46 = .ok (.aload_n 0, 1) := by decide +kernel
theorem dX12_downs_47 : decode mX12_downs.2.1 47 = .ok (.getfield 101, 3) := by decide +kernel
theorem dX12_downs_50 : decode mX12_downs.2.1 50 = .ok (.iconst 1, 1) := by decide +kernel
theorem dX12_downs_51 : decode mX12_downs.2.1 51 = .ok (.bipush 6, 2) := by decide +kernel
theorem dX12_downs_53 : decode mX12_downs.2.1 53 = .ok (.iastore, 1) := by decide +kernel
theorem dX12_downs_54 : decode mX12_downs.2.1 54 = .ok (.iconst 0, 1) := by decide +kernel
theorem dX12_downs_55 : decode mX12_downs.2.1 55 = .ok (.istore_n 1, 1) := by decide +kernel
theorem dX12_downs_56 : decode mX12_downs.2.1 56 = .ok (.aload_n 0, 1) := by decide +kernel
theorem dX12_downs_57 : decode mX12_downs.2.1 57 = .ok (.getfield 30, 3) := by decide +kernel
theorem dX12_downs_60 : decode mX12_downs.2.1 60 = .ok (.ifCond .eq 30, 3) := by decide +kernel
theorem dX12_downs_63 : decode mX12_downs.2.1 63 = .ok (.aload_n 0, 1) := by decide +kernel
theorem dX12_downs_64 : decode mX12_downs.2.1 64 = .ok (.invokevirtual 223, 3) := by decide +kernel
theorem dX12_downs_67 : decode mX12_downs.2.1 67 = .ok (.ifCond .eq 10, 3) := by decide +kernel
theorem dX12_downs_70 : decode mX12_downs.2.1 70 = .ok (.aload_n 0, 1) := by decide +kernel
theorem dX12_downs_71 : decode mX12_downs.2.1 71 = .ok (.invokevirtual 226, 3) := by decide +kernel
theorem dX12_downs_74 : decode mX12_downs.2.1 74 = .ok (.ifCond .ne 10, 3) := by decide +kernel
theorem dX12_downs_77 : decode mX12_downs.2.1 77 = .ok (.iconst (-1), 1) := by decide +kernel
theorem dX12_downs_78 : decode mX12_downs.2.1 78 = .ok (.aload_n 0, 1) := by decide +kernel
theorem dX12_downs_79 : decode mX12_downs.2.1 79 = .ok (.getfield 69, 3) := by decide +kernel
theorem dX12_downs_82 : decode mX12_downs.2.1 82 = .ok (.isub, 1) := by decide +kernel
theorem dX12_downs_83 : decode mX12_downs.2.1 83 = .ok (.ireturn, 1) := by decide +kernel
theorem dX12_downs_84 : decode mX12_downs.2.1 84 = .ok (.iinc 1 1, 3) := by decide +kernel
theorem dX12_downs_87 : decode mX12_downs.2.1 87 = .ok (.goto (-31), 3) := by decide +kernel
theorem dX12_downs_90 : decode mX12_downs.2.1 90 = .ok (.iconst 0, 1) := by decide +kernel
theorem dX12_downs_91 : decode mX12_downs.2.1 91 = .ok (.istore_n 2, 1) := by decide +kernel
theorem dX12_downs_92 : decode mX12_downs.2.1 92 = .ok (.iload_n 2, 1) := by decide +kernel
theorem dX12_downs_93 : decode mX12_downs.2.1 93 = .ok (.bipush 123, 2) := by decide +kernel
theorem dX12_downs_95 : decode mX12_downs.2.1 95 = .ok (.if_icmp .ge 21, 3) := by decide +kernel
theorem dX12_downs_98 : decode mX12_downs.2.1 98 = .ok (.aload_n 0, 1) := by decide +kernel
theorem dX12_downs_99 : decode mX12_downs.2.1 99 = .ok (.getfield 98, 3) := by decide +kernel
theorem dX12_downs_102 : decode mX12_downs.2.1 102 = .ok (.iload_n 2, 1) := by decide +kernel
theorem dX12_downs_103 : decode mX12_downs.2.1 103 = .ok (.aload_n 0, 1) := by decide +kernel
theorem dX12_downs_104 : decode mX12_downs.2.1 104 = .ok (.getfield 101, 3) := by decide +kernel
theorem dX12_downs_107 : decode mX12_downs.2.1 107 = .ok (.iload_n 2, 1) := by decide +kernel
theorem dX12_downs_108 : decode mX12_downs.2.1 108 = .ok (.iaload, 1) := by decide +kernel
theorem dX12_downs_109 : decode mX12_downs.2.1 109 = .ok (.iastore, 1) := by decide +kernel
theorem dX12_downs_110 : decode mX12_downs.2.1 110 = .ok (.iinc 2 1, 3) := by decide +kernel
theorem dX12_downs_113 : decode mX12_downs.2.1 113 = .ok (.goto (-21), 3) := by decide +kernel
theorem dX12_downs_116 : decode mX12_downs.2.1 116 = .ok (.iconst 0, 1) := by decide +kernel
theorem dX12_downs_117 : decode mX12_downs.2.1 117 = .ok (.istore_n 2, 1) := by decide +kernel
theorem dX12_downs_118 : decode mX12_downs.2.1 118 = .ok (.iload_n 2, 1) := by decide +kernel
theorem dX12_downs_119 : decode mX12_downs.2.1 119 = .ok (.bipush 16, 2) := by decide +kernel
theorem dX12_downs_121 : decode mX12_downs.2.1 121 = .ok (.if_icmp .ge 21, 3) := by decide +kernel
theorem dX12_downs_124 : decode mX12_downs.2.1 124 = .ok (.aload_n 0, 1) := by decide +kernel
theorem dX12_downs_125 : decode mX12_downs.2.1 125 = .ok (.getfield 113, 3) := by decide +kernel
theorem dX12_downs_128 : decode mX12_downs.2.1 128 = .ok (.iload_n 2, 1) := by decide +kernel
theorem dX12_downs_129 : decode mX12_downs.2.1 129 = .ok (.aload_n 0, 1) := by decide +kernel
theorem dX12_downs_130 : decode mX12_downs.2.1 130 = .ok (.getfield 117, 3) := by decide +kernel
theorem dX12_downs_133 : decode mX12_downs.2.1 133 = .ok (.iload_n 2, 1) := by decide +kernel
theorem dX12_downs_134 : decode mX12_downs.2.1 134 = .ok (.laload, 1) := by decide +kernel
theorem dX12_downs_135 : decode mX12_downs.2.1 135 = .ok (.lastore, 1) := by decide +kernel
theorem dX12_downs_136 : decode mX12_downs.2.1 136 = .ok (.iinc 2 1, 3) := by decide +kernel
theorem dX12_downs_139 : decode mX12_downs.2.1 139 = .ok (.goto (-21), 3) := by decide +kernel
theorem dX12_downs_142 : decode mX12_downs.2.1 142 = .ok (.aload_n 0, 1) := by decide +kernel
theorem dX12_downs_143 : decode mX12_downs.2.1 143 = .ok (.invokevirtual 160, 3) := by decide +kernel
theorem dX12_downs_146 : decode mX12_downs.2.1 146 = .ok (.aload_n 0, 1) := by decide +kernel
theorem dX12_downs_147 : decode mX12_downs.2.1 147 = .ok (.iconst 0, 1) := by decide +kernel
theorem dX12_downs_148 : decode mX12_downs.2.1 148 = .ok (.putfield 229, 3) := by decide +kernel
theorem dX12_downs_151 : decode mX12_downs.2.1 151 = .ok (.iload_n 1, 1) := by decide +kernel
theorem dX12_downs_152 : decode mX12_downs.2.1 152 = .ok (.ireturn, 1) := by decide +kernel
set_option maxRecDepth 4000 in
theorem ev_X12_downs {m : Mem} {B : Mem} {t : Int → Int} {kw : Int → Int} {n : Int} (hte : TE B t kw n 900) (hsz : m 214 2 = n) (ht : ∀ j : Int, 0 ≤ j → j < n → m 215 j = t j) (hdr0 : DrOk B) (hr0 : Rd0 B) : Ev 0 7 mX12_downs [vr 214] m (fun r m' => DwM m B r m') := by
  refine Ev.of (L := [vr 214, un, un]) (by decide +kernel) rfl (Nat.le_of_ble_eq_true rfl) rfl (fun t ht => by cases ht; first | exact Or.inl rfl | exact Or.inr (Or.inl rfl) | exact Or.inr (Or.inr rfl)) (fun hcan => ?_)
  have hT1 := hte.1.1
  refine go_aload_n dX12_downs_0 rfl ?_
  refine go_sipush dX12_downs_1 (by decide) ?_
  refine go_callV_v (as := [vi 900]) (S := []) (b := 214) (ev_X12_begin (m := m) (lim := 900) (G := B) (t := t) (kw := kw) (n := n) hte hsz ht) rfl dX12_downs_4 cv_12_220 rfl rfl ob_214 rfl (by decide) (Nat.le_of_ble_eq_true rfl) (fun m_4 hr_4 => ?_)
  refine go_iconst dX12_downs_7 ?_
  refine go_istore_n (L' := [vr 214, vi 0, un]) dX12_downs_8 (by decide) rfl rfl ?_
  have lp_9 : ∀ (n_9 : Nat) (m0 : Mem) (i : Int) , (0 ≤ i) → (i ≤ 123) → (m0 = fill m_4 217 i 0) → (123 - i).toNat < n_9 → Go 0 7 mX12_downs (fun r m' => DwM m B r m') 9 [vr 214, vi i, un] [] m0 := by
    intro n_9
    induction n_9 with
    | zero => intro m0 i hi0 hi1 hm hmu; exact absurd hmu (Nat.not_lt_zero _)
    | succ n_9 ih_9 =>
      intro m0 i hi0 hi1 hm hmu
      refine go_iload_n dX12_downs_9 rfl ?_
      refine go_bipush dX12_downs_10 (by decide) ?_
      refine go_icmp_ge (tgt := 28) dX12_downs_12 (by decide) ⟨by omega, by omega⟩ ⟨by omega, by omega⟩ (fun h_12 => ?_) (fun h_12 => ?_)
      · have hm9 : m0 = fill m_4 217 123 0 := by rw [hm, show i = 123 by omega]
        refine go_aload_n dX12_downs_28 rfl ?_
        refine go_iconst dX12_downs_29 ?_
        refine go_putf_z (ki := 23) dX12_downs_30 fw_12_174 ob_214 rfl rfl (by first | exact Or.inl rfl | exact Or.inr rfl | assumption | omega) ?_
        refine go_aload_n dX12_downs_33 rfl ?_
        refine go_iconst dX12_downs_34 ?_
        refine go_putf_z (ki := 24) dX12_downs_35 fw_12_178 ob_214 rfl rfl (by first | exact Or.inl rfl | exact Or.inr rfl | assumption | omega) ?_
        refine go_aload_n dX12_downs_38 rfl ?_
        refine go_getf_p (b := 217) dX12_downs_39 fl_12_101 ob_214 rfl pt_214_15 ?_
        refine go_iconst dX12_downs_42 ?_
        refine go_bipush dX12_downs_43 (by decide) ?_
        refine go_iastore dX12_downs_45 ar_217 (by omega) (by omega) ⟨by omega, by omega⟩ ?_
        refine go_aload_n dX12_downs_46 rfl ?_
        refine go_getf_p (b := 217) dX12_downs_47 fl_12_101 ob_214 rfl pt_214_15 ?_
        refine go_iconst dX12_downs_50 ?_
        refine go_bipush dX12_downs_51 (by decide) ?_
        refine go_iastore dX12_downs_53 ar_217 (by omega) (by omega) ⟨by omega, by omega⟩ ?_
        refine go_iconst dX12_downs_54 ?_
        refine go_istore_n (L' := [vr 214, vi 0, un]) dX12_downs_55 (by decide) rfl rfl ?_
        have lp_56 : ∀ (n_56 : Nat) (m1 : Mem) (ln : Int) (k : Nat), (ln = (k : Int)) → (∀ j : Nat, j < k → okSt B j) → (TM B t kw n 900 m1 ((dl B k).2 - 1)) → (DrOk (dl B k).1) → (RdA (dl B k).1 m1) → (Px2 m m1) → (m1 214 10 = 0) → ((k : Int) ≤ (dl B k).2) → (B 1 11 - (dl B k).2 + 1).toNat < n_56 → Go 0 7 mX12_downs (fun r m' => DwM m B r m') 56 [vr 214, vi ln, un] [] m1 := by
          intro n_56
          induction n_56 with
          | zero => intro m1 ln k hln hok htm hdr hra hpx hfl hle hmu; exact absurd hmu (Nat.not_lt_zero _)
          | succ n_56 ih_56 =>
            intro m1 ln k hln hok htm hdr hra hpx hfl hle hmu
            have hkd := htm.kd
            have hk0 := hkd.k0
            have hii := htm.2.2.1
            refine go_aload_n dX12_downs_56 rfl ?_
            refine go_getf_i (ki := 7) dX12_downs_57 fl_12_30 ob_214 rfl rfl (fun hf_57 => ?_)
            refine go_if_eq (tgt := 90) dX12_downs_60 (by decide) ⟨by omega, by omega⟩ (fun h_60 => ?_) (fun h_60 => ?_)
            · have hst0 := hra.1.st hdr
              refine go_iconst dX12_downs_90 ?_
              refine go_istore_n (L' := [vr 214, vi ln, vi 0]) dX12_downs_91 (by decide) rfl rfl ?_
              have lp_92 : ∀ (n_92 : Nat) (m2 : Mem) (i : Int) , (0 ≤ i) → (i ≤ 123) → (m2 = mov m1 217 216 0 0 i) → (123 - i).toNat < n_92 → Go 0 7 mX12_downs (fun r m' => DwM m B r m') 92 [vr 214, vi ln, vi i] [] m2 := by
                intro n_92
                induction n_92 with
                | zero => intro m2 i hi0 hi1 hm2 hmu; exact absurd hmu (Nat.not_lt_zero _)
                | succ n_92 ih_92 =>
                  intro m2 i hi0 hi1 hm2 hmu
                  have e1 : m2 217 i = m1 217 i := by rw [hm2, mov_row (by decide)]
                  refine go_iload_n dX12_downs_92 rfl ?_
                  refine go_bipush dX12_downs_93 (by decide) ?_
                  refine go_icmp_ge (tgt := 116) dX12_downs_95 (by decide) ⟨by omega, by omega⟩ ⟨by omega, by omega⟩ (fun h_95 => ?_) (fun h_95 => ?_)
                  · refine go_iconst dX12_downs_116 ?_
                    refine go_istore_n (L' := [vr 214, vi ln, vi 0]) dX12_downs_117 (by decide) rfl rfl ?_
                    have lp_118 : ∀ (n_118 : Nat) (m3 : Mem) (i : Int) , (0 ≤ i) → (i ≤ 16) → (m3 = mov (mov m1 217 216 0 0 123) 222 221 0 0 i) → (16 - i).toNat < n_118 → Go 0 7 mX12_downs (fun r m' => DwM m B r m') 118 [vr 214, vi ln, vi i] [] m3 := by
                      intro n_118
                      induction n_118 with
                      | zero => intro m3 i hi0 hi1 hm3 hmu; exact absurd hmu (Nat.not_lt_zero _)
                      | succ n_118 ih_118 =>
                        intro m3 i hi0 hi1 hm3 hmu
                        have e1 : m3 222 i = (mov m1 217 216 0 0 123) 222 i := by rw [hm3, mov_row (by decide)]
                        refine go_iload_n dX12_downs_118 rfl ?_
                        refine go_bipush dX12_downs_119 (by decide) ?_
                        refine go_icmp_ge (tgt := 142) dX12_downs_121 (by decide) ⟨by omega, by omega⟩ ⟨by omega, by omega⟩ (fun h_121 => ?_) (fun h_121 => ?_)
                        · have hm4 : m3 = mov (mov m1 217 216 0 0 123) 222 221 0 0 16 := by rw [hm3, show i = 16 by omega]
                          have e216 : ∀ j : Int, 0 ≤ j → j < 123 → m3 216 j = m1 217 j := fun j a b => by rw [hm4, mov_row (by decide), mov_in a (by omega), show 0 + (j - 0) = j by omega]
                          have e221 : ∀ j : Int, 0 ≤ j → j < 16 → m3 221 j = m1 222 j := fun j a b => by rw [hm4, mov_in a (by omega), show 0 + (j - 0) = j by omega, mov_row (by decide)]
                          have hS0 : St0 (dl B k).1 47 57 (m3 216) := by
                            obtain ⟨a, b, c, d⟩ := hst0.1
                            have hD := hdr.1
                            obtain ⟨-, -, ⟨d4, d5⟩, ⟨d6, d7⟩, ⟨d8, d9⟩, -⟩ := id hD
                            obtain ⟨⟨a0, a1, a2, a3, a4⟩, af, ap, aq⟩ := a
                            refine ⟨⟨⟨by rw [e216 _ (by omega) (by omega)]; exact a0, by rw [e216 _ (by omega) (by omega)]; exact a1, by rw [e216 _ (by omega) (by omega)]; exact a2, by rw [e216 _ (by omega) (by omega)]; exact a3, by rw [e216 _ (by omega) (by omega)]; exact a4⟩, fun f h0 h1 => by rw [e216 _ (by omega) (by omega), e216 _ (by omega) (by omega)]; exact af f h0 h1, fun f h0 h1 => by rw [e216 _ (by omega) (by omega)]; exact ap f h0 h1, fun f h0 h1 => by rw [e216 _ (by omega) (by omega), e216 _ (by omega) (by omega)]; exact aq f h0 h1⟩, b, fun p h0 h1 => by rw [e216 _ (by omega) (by omega), e216 _ (by omega) (by omega), e216 _ (by omega) (by omega)]; exact c p h0 h1, fun p h0 h1 => by rw [e216 _ (by omega) (by omega)]; exact d p h0 h1⟩
                          refine go_aload_n dX12_downs_142 rfl ?_
                          refine go_callV_v (as := []) (S := []) (b := 214) (ev_X12_startSo (m := m3) (G := (dl B k).1) (d := 47) (st := 57) hS0 hdr.1 (by decide)) rfl dX12_downs_143 cv_12_160 rfl rfl ob_214 rfl (by decide) (Nat.le_of_ble_eq_true rfl) (fun m_143 hr_143 => ?_)
                          refine go_aload_n dX12_downs_146 rfl ?_
                          refine go_iconst dX12_downs_147 ?_
                          refine go_putf_i (ki := 25) dX12_downs_148 fw_12_229 ob_214 rfl rfl ⟨by omega, by omega⟩ ?_
                          refine go_iload_n dX12_downs_151 rfl ?_
                          refine go_ret (v := ln) rfl dX12_downs_152 (okI ⟨by omega, by omega⟩) ?_
                          have hD := hdr.1
                          obtain ⟨-, -, ⟨d4, d5⟩, ⟨d6, d7⟩, ⟨d8, d9⟩, -⟩ := id hD
                          refine ⟨⟨fun b h1 h2 h3 h4 h5 => ?_, ⟨?_, ?_⟩, fun j hj => ?_⟩, k, hok, Or.inl ⟨hk0.mp (by omega), hln, ?_, wr_self _ _ _ _, ?_, ?_, ?_⟩⟩
                          · rw [wr_row h1, hr_143.1 b h2, hm4, mov_row h4, mov_row h2]; exact hpx.1 b h1 h3 h5
                          · rw [wr_ni (by decide), hr_143.1 214 (by decide), hm4, mov_row (by decide), mov_row (by decide)]; exact hpx.2.1.1
                          · rw [wr_ni (by decide), hr_143.1 214 (by decide), hm4, mov_row (by decide), mov_row (by decide)]; exact hpx.2.1.2
                          · rw [wr_ni (by omega), hr_143.1 214 (by decide), hm4, mov_row (by decide), mov_row (by decide)]; exact hpx.2.2 j (by omega)
                          · rw [wr_ni (by decide), hr_143.1 214 (by decide), hm4, mov_row (by decide), mov_row (by decide)]; exact hfl
                          · rw [wr_row (by decide), ← brG_N]; exact hr_143.2.fin hS0 hD (by decide)
                          · rw [wr_row (by decide), hr_143.1 221 (by decide)]
                            exact ⟨fun f a b => by rw [e221 f a (by omega)]; exact hst0.2.1 f a b, fun f a b => by rw [e221 (6 + f) (by omega) (by omega)]; exact hst0.2.2.1 f a b, fun f a b => by rw [e221 (11 + f) (by omega) (by omega)]; exact hst0.2.2.2 f a b⟩
                          · rw [wr_row (by decide)]; exact hr_143.2.2.2.2.2.2
                        · refine go_aload_n dX12_downs_124 rfl ?_
                          refine go_getf_p (b := 221) dX12_downs_125 fl_12_113 ob_214 rfl pt_214_19 ?_
                          refine go_iload_n dX12_downs_128 rfl ?_
                          refine go_aload_n dX12_downs_129 rfl ?_
                          refine go_getf_p (b := 222) dX12_downs_130 fl_12_117 ob_214 rfl pt_214_20 ?_
                          refine go_iload_n dX12_downs_133 rfl ?_
                          refine go_laload dX12_downs_134 ar_222 (by omega) (by omega) (fun he_134 => ?_)
                          rw [show (m3 222 i : Int) = ((mov m1 217 216 0 0 123) 222 i) from e1] at he_134 ⊢
                          refine go_lastore dX12_downs_135 ar_221 (by omega) (by omega) ⟨by omega, by omega⟩ ?_
                          refine go_iinc (L' := [vr 214, vi ln, vi (i + 1)]) dX12_downs_136 rfl (by decide) rfl rfl ?_
                          refine go_goto (tgt := 118) dX12_downs_139 (by decide) ?_
                          exact ih_118 (wr m3 221 i ((mov m1 217 216 0 0 123) 222 i)) (i + 1) (by first | assumption | omega | rfl) (by first | assumption | omega | rfl) (by have h := mov_s (m := mov m1 217 216 0 0 123) (a := 222) (b := 221) (o := 0) (p := 0) hi0; rw [Int.zero_add] at h; rw [hm3]; exact h) (by omega)
                    exact lp_118 _ m2 0 (by first | assumption | omega | rfl) (by first | assumption | omega | rfl) (by rw [hm2, show i = 123 by omega]; exact (mov_0 _ _ _ _ _).symm) (Nat.lt_succ_self _)
                  · refine go_aload_n dX12_downs_98 rfl ?_
                    refine go_getf_p (b := 216) dX12_downs_99 fl_12_98 ob_214 rfl pt_214_14 ?_
                    refine go_iload_n dX12_downs_102 rfl ?_
                    refine go_aload_n dX12_downs_103 rfl ?_
                    refine go_getf_p (b := 217) dX12_downs_104 fl_12_101 ob_214 rfl pt_214_15 ?_
                    refine go_iload_n dX12_downs_107 rfl ?_
                    refine go_iaload dX12_downs_108 ar_217 (by omega) (by omega) (fun he_108 => ?_)
                    rw [show (m2 217 i : Int) = (m1 217 i) from e1] at he_108 ⊢
                    refine go_iastore dX12_downs_109 ar_216 (by omega) (by omega) ⟨by omega, by omega⟩ ?_
                    refine go_iinc (L' := [vr 214, vi ln, vi (i + 1)]) dX12_downs_110 rfl (by decide) rfl rfl ?_
                    refine go_goto (tgt := 92) dX12_downs_113 (by decide) ?_
                    exact ih_92 (wr m2 216 i (m1 217 i)) (i + 1) (by first | assumption | omega | rfl) (by first | assumption | omega | rfl) (by have h := mov_s (m := m1) (a := 217) (b := 216) (o := 0) (p := 0) hi0; rw [Int.zero_add] at h; rw [hm2]; exact h) (by omega)
              exact lp_92 _ m1 0 (by first | assumption | omega | rfl) (by first | assumption | omega | rfl) (mov_0 _ _ _ _ _).symm (Nat.lt_succ_self _)
            · refine go_aload_n dX12_downs_63 rfl ?_
              refine go_callV_z (as := []) (S := []) (b := 214) (ev_X12_readLine (m := m1) (G := (dl B k).1) (t := t) (kw := kw) (n := n) (lim := 900) (i := ((dl B k).2 - 1)) (dl_tm htm k) hdr hra) rfl dX12_downs_64 cv_12_223 rfl rfl ob_214 rfl (by decide) (Nat.le_of_ble_eq_true rfl) (fun r_64 m_64 hr_64 ho_64 => ?_)
              rw [show (dl B k).2 - 1 + 1 = (dl B k).2 by omega] at hr_64
              rcases hr_64 with ⟨f_64, e_64, p_64, l_64, t_64, a_64⟩ | ⟨f_64, e_64, no_64⟩
              · refine go_if_eq (tgt := 77) dX12_downs_67 (by decide) ⟨by omega, by omega⟩ (fun h_67 => ?_) (fun h_67 => ?_)
                · exfalso; omega
                · have hlx := lnX_ok hdr f_64
                  have hp64 := hpx.p p_64
                  refine go_aload_n dX12_downs_70 rfl ?_
                  refine go_callV_z (as := []) (S := []) (b := 214) (ev_X12_readEnd (m := m_64) (G := B) (t := t) (kw := kw) (n := n) (lim := 900) (i := (lnF (dl B k).1 (dl B k).2).2) (dl_mt t_64)) rfl dX12_downs_71 cv_12_226 rfl rfl ob_214 rfl (by decide) (Nat.le_of_ble_eq_true rfl) (fun r_71 m_71 hr_71 ho_71 => ?_)
                  rcases hr_71 with ⟨f_71, e_71, ok_71⟩ | ⟨f_71, e_71, no_71⟩
                  · refine go_if_ne (tgt := 84) dX12_downs_74 (by decide) ⟨by omega, by omega⟩ (fun h_74 => ?_) (fun h_74 => ?_)
                    · have hp71 := hp64.p ok_71.1.p
                      refine go_iinc (L' := [vr 214, vi (ln + 1), un]) dX12_downs_84 rfl (by decide) rfl rfl ?_
                      refine go_goto (tgt := 56) dX12_downs_87 (by decide) ?_
                      exact ih_56 m_71 (ln + 1) (k + 1) (by omega) (fun j hj => by by_cases q : j < k; exact hok j q; (have e : j = k := (by omega); rw [e]; exact ⟨fun z => by have := hk0.mpr z; omega, f_64, f_71⟩)) (by have z := ok_71.2.2; show TM B t kw n 900 m_71 ((lnF (dl B k).1 (dl B k).2).2 + 2 - 1); rw [show (lnF (dl B k).1 (dl B k).2).2 + 2 - 1 = (lnF (dl B k).1 (dl B k).2).2 + 1 by omega]; exact z) hlx.1 (by show RdA (lnX (dl B k).1 (dl B k).2) m_71; obtain ⟨a, b, c⟩ := a_64; exact ⟨a.l ok_71.1, by rw [ok_71.1.2 23 (by omega)]; exact b, by rw [ok_71.1.2 24 (by omega)]; exact c⟩) hp71 (by rw [ok_71.2.1, l_64]; exact hfl) (by show ((k + 1 : Nat) : Int) ≤ (lnF (dl B k).1 (dl B k).2).2 + 2; have := hlx.2.1; omega) (by show (B 1 11 - ((lnF (dl B k).1 (dl B k).2).2 + 2) + 1).toNat < n_56; have := hlx.2.1; omega)
                    · exfalso; omega
                  · refine go_if_ne (tgt := 84) dX12_downs_74 (by decide) ⟨by omega, by omega⟩ (fun h_74 => ?_) (fun h_74 => ?_)
                    · exfalso; omega
                    · refine go_iconst dX12_downs_77 ?_
                      refine go_aload_n dX12_downs_78 rfl ?_
                      refine go_getf_i (ki := 11) dX12_downs_79 fl_12_69 ob_214 rfl rfl (fun hf_79 => ?_)
                      rw [show (m_71 214 11 : Int) = (B 5 (lnF (dl B k).1 (dl B k).2).2) from no_71.2.2] at hf_79 ⊢
                      refine go_isub dX12_downs_82 ?_
                      refine go_ret (v := ((-1) - (B 5 (lnF (dl B k).1 (dl B k).2).2))) rfl dX12_downs_83 (okI ⟨by omega, by omega⟩) ?_
                      have hne : B 4 ((dl B k).2 - 1) ≠ 0 := fun z => by have := hk0.mpr z; omega
                      first
                      | (refine ⟨?_, k, hok, Or.inr ⟨⟨?_, ?_, ?_⟩, hne, rfl, Or.inl ⟨f_64, no_64.2.1⟩⟩⟩
                         · have q := hpx.p no_64.1
                           exact ⟨fun b h1 _ h3 _ h5 => q.1 b h1 h3 h5, q.2.1, fun j hj => q.2.2 j (by omega)⟩
                         · have q := hpx.p no_64.1
                           exact q.1 216 (by decide) (by decide) (by decide)
                         · have q := hpx.p no_64.1
                           exact q.1 221 (by decide) (by decide) (by decide)
                         · have q := hpx.p no_64.1
                           exact q.2.2 25 (by omega))
                      | (refine ⟨?_, k, hok, Or.inr ⟨⟨?_, ?_, ?_⟩, hne, rfl, Or.inr ⟨f_64, f_71, no_71.2.1⟩⟩⟩
                         · have q := hp64.p no_71.1.p
                           exact ⟨fun b h1 _ h3 _ h5 => q.1 b h1 h3 h5, q.2.1, fun j hj => q.2.2 j (by omega)⟩
                         · have q := hp64.p no_71.1.p
                           exact q.1 216 (by decide) (by decide) (by decide)
                         · have q := hp64.p no_71.1.p
                           exact q.1 221 (by decide) (by decide) (by decide)
                         · have q := hp64.p no_71.1.p
                           exact q.2.2 25 (by omega))
              · refine go_if_eq (tgt := 77) dX12_downs_67 (by decide) ⟨by omega, by omega⟩ (fun h_67 => ?_) (fun h_67 => ?_)
                · refine go_iconst dX12_downs_77 ?_
                  refine go_aload_n dX12_downs_78 rfl ?_
                  refine go_getf_i (ki := 11) dX12_downs_79 fl_12_69 ob_214 rfl rfl (fun hf_79 => ?_)
                  rw [show (m_64 214 11 : Int) = (B 5 (lnF (dl B k).1 (dl B k).2).2) from by rw [no_64.2.2, dl_out k (by omega)]] at hf_79 ⊢
                  refine go_isub dX12_downs_82 ?_
                  refine go_ret (v := ((-1) - (B 5 (lnF (dl B k).1 (dl B k).2).2))) rfl dX12_downs_83 (okI ⟨by omega, by omega⟩) ?_
                  have hne : B 4 ((dl B k).2 - 1) ≠ 0 := fun z => by have := hk0.mpr z; omega
                  first
                  | (refine ⟨?_, k, hok, Or.inr ⟨⟨?_, ?_, ?_⟩, hne, rfl, Or.inl ⟨f_64, no_64.2.1⟩⟩⟩
                     · have q := hpx.p no_64.1
                       exact ⟨fun b h1 _ h3 _ h5 => q.1 b h1 h3 h5, q.2.1, fun j hj => q.2.2 j (by omega)⟩
                     · have q := hpx.p no_64.1
                       exact q.1 216 (by decide) (by decide) (by decide)
                     · have q := hpx.p no_64.1
                       exact q.1 221 (by decide) (by decide) (by decide)
                     · have q := hpx.p no_64.1
                       exact q.2.2 25 (by omega))
                  | (refine ⟨?_, k, hok, Or.inr ⟨⟨?_, ?_, ?_⟩, hne, rfl, Or.inr ⟨f_64, f_71, no_71.2.1⟩⟩⟩
                     · have q := hp64.p no_71.1.p
                       exact ⟨fun b h1 _ h3 _ h5 => q.1 b h1 h3 h5, q.2.1, fun j hj => q.2.2 j (by omega)⟩
                     · have q := hp64.p no_71.1.p
                       exact q.1 216 (by decide) (by decide) (by decide)
                     · have q := hp64.p no_71.1.p
                       exact q.1 221 (by decide) (by decide) (by decide)
                     · have q := hp64.p no_71.1.p
                       exact q.2.2 25 (by omega))
                · exfalso; omega
        exact lp_56 _ (wr (wr (wr (wr m0 214 23 0) 214 24 0) 217 0 6) 217 1 6) 0 0 rfl (fun j hj => absurd hj (Nat.not_lt_zero _)) (by rw [hm9, show (dl B 0).2 - 1 = 0 from rfl]; have z : TM B t kw n 900 (fill m_4 217 123 0) 0 := (by obtain ⟨a, b, c, d, e, f⟩ := hr_4.1; exact ⟨a, ⟨by rw [fill_row (by decide)]; exact b.1, by rw [fill_row (by decide)]; exact b.2.1, fun j x y => by rw [fill_row (by decide)]; exact b.2.2 j x y⟩, c, by rw [fill_row (by decide)]; exact d, by rw [fill_row (by decide)]; exact e, by unfold TKd at *; rw [fill_row (by decide)]; exact f⟩); exact (((z.w (by decide) (by omega)).w (by decide) (by omega)).w (by decide) (by omega)).w (by decide) (by omega)) hdr0 (by rw [hm9]; refine ⟨hr0.r ?_ ?_ ?_, ?_, ?_⟩; (rw [wr_ni (by decide), wr_self]); (rw [wr_self]); (exact fun j a b => by rw [wr_ni (by omega), wr_ni (by omega), wr_na (by decide), wr_na (by decide), fill_in (by omega) b]); (rw [wr_na (by decide), wr_na (by decide), wr_ni (by decide), wr_self]; exact hr0.2.1.1.symm); (rw [wr_na (by decide), wr_na (by decide), wr_self]; exact hr0.2.1.2.symm)) (by rw [hm9]; obtain ⟨-, b, ⟨c0, c1, c2⟩, e⟩ := hr_4; refine ⟨fun x h1 h2 h3 => ?_, ⟨?_, ?_⟩, fun j hj => ?_⟩; (rw [wr_row h2, wr_row h2, wr_row h1, wr_row h1, fill_row h2]; exact b x h1); (rw [wr_na (by decide), wr_na (by decide), wr_ni (by decide), wr_ni (by decide), fill_row (by decide)]; exact c0); (rw [wr_na (by decide), wr_na (by decide), wr_ni (by decide), wr_ni (by decide), fill_row (by decide)]; exact c1); (rw [wr_na (by decide), wr_na (by decide), wr_ni (by omega), wr_ni (by omega), fill_row (by decide)]; exact e j (by omega))) (by rw [hm9, wr_na (by decide), wr_na (by decide), wr_ni (by decide), wr_ni (by decide), fill_row (by decide)]; exact hr_4.2.2.1.2.2) (by show (0 : Int) ≤ 1; decide) (Nat.lt_succ_self _)
      · refine go_aload_n dX12_downs_15 rfl ?_
        refine go_getf_p (b := 217) dX12_downs_16 fl_12_101 ob_214 rfl pt_214_15 ?_
        refine go_iload_n dX12_downs_19 rfl ?_
        refine go_iconst dX12_downs_20 ?_
        refine go_iastore dX12_downs_21 ar_217 (by omega) (by omega) ⟨by omega, by omega⟩ ?_
        refine go_iinc (L' := [vr 214, vi (i + 1), un]) dX12_downs_22 rfl (by decide) rfl rfl ?_
        refine go_goto (tgt := 9) dX12_downs_25 (by decide) ?_
        exact ih_9 (wr m0 217 i 0) (i + 1) (by first | assumption | omega | rfl) (by first | assumption | omega | rfl) (by rw [hm]; exact fill_s hi0) (by omega)
  exact lp_9 _ m_4 0 (by first | assumption | omega | rfl) (by first | assumption | omega | rfl) (fill_0 m_4 217 0).symm (Nat.lt_succ_self _)
