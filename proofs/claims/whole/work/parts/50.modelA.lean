/-! ===== the reference reads lines of DOWNS ===== -/
def LnM (G : Mem) (t kw : Int → Int) (n lim : Int) (m m' : Mem) (F : Int × Int) (X : Mem) (r : Int) : Prop := (F.1 = 0 ∧ r = 1 ∧ Px m m' ∧ m' 214 10 = m 214 10 ∧ TM G t kw n lim m' F.2 ∧ RdA X m') ∨ (F.1 ≠ 0 ∧ r = 0 ∧ NoP G m m' F.1 F.2)
theorem RdR.nm {G : Mem} {N M : Int → Int} {s w : Int} (h : RdR G N M) (hdn : DnOk G 47) (hs : (s = G 47 2 ∧ s < 6) ∨ (s = 6 + G 47 3 ∧ G 47 3 < 5) ∨ s = 11 + G 47 4) : RdR G N (fun j => if j = s then w else M j) := by
  obtain ⟨a, hf, hp, hq, hc⟩ := h
  obtain ⟨-, -, ⟨d4, d5⟩, ⟨d6, d7⟩, ⟨d8, d9⟩, -, -, -⟩ := id hdn
  refine ⟨a, fun f h0 h1 => ⟨(hf f h0 h1).1, ?_⟩, fun p h0 h1 => ⟨(hp p h0 h1).1, ?_⟩, fun q h0 h1 => ⟨(hq q h0 h1).1, ?_⟩, hc⟩
  · show Wr _ (if f = s then w else M f)
    rw [if_neg (by omega)]; exact (hf f h0 h1).2
  · show Wr _ (if 6 + p = s then w else M (6 + p))
    rw [if_neg (by omega)]; exact (hp p h0 h1).2
  · show Wr _ (if 11 + q = s then w else M (11 + q))
    rw [if_neg (by omega)]; exact (hq q h0 h1).2
theorem RdR.sz {G : Mem} {N M N' : Int → Int} {i : Int} (h : RdR G N M) (hdn : DnOk G 47) (hN : ∀ j : Int, N' j = if j = 1 then vN G (i + 1) else if j = 0 then vN G i else N j) : RdR (szX G i) N' M := by
  obtain ⟨⟨a0, a1, a2, a3, a4⟩, hf, hp, hq, hc⟩ := h
  obtain ⟨-, -, ⟨d4, d5⟩, ⟨d6, d7⟩, ⟨d8, d9⟩, -, -, -⟩ := id hdn
  unfold RdR szX
  simp (disch := decide) only [wr_row, wr_rowat, hN, ↓reduceIte]
  refine ⟨⟨by first | trivial | omega, by first | trivial | omega, by first | trivial | omega, by first | trivial | omega, by first | trivial | omega⟩, fun f h0 h1 => ?_, fun p h0 h1 => ?_, fun q h0 h1 => ?_, fun c h0 h1 => ?_⟩
  · have h1 : f < G 47 2 := by first | exact h1 | simpa using h1
    have := hf f h0 h1
    exact ⟨by omega, this.2⟩
  · have h1 : p < G 47 3 := by first | exact h1 | simpa using h1
    have := hp p h0 h1
    exact ⟨by omega, this.2⟩
  · have h1 : q < G 47 4 := by first | exact h1 | simpa using h1
    have := hq q h0 h1
    exact ⟨by omega, this.2⟩
  · have := hc c h0 h1
    omega
theorem RdR.wl {G : Mem} {N M N' : Int → Int} {i : Int} (h : RdR G N M) (hdn : DnOk G 47) (hN : ∀ j : Int, N' j = if j = 42 + (9 * vN G (i + 1) + vN G i) then vN G (i + 2) else N j) (h0 : 0 ≤ vN G i) (h1 : 0 ≤ vN G (i + 1)) : RdR (wlX G i) N' M := by
  obtain ⟨⟨a0, a1, a2, a3, a4⟩, hf, hp, hq, hc⟩ := h
  obtain ⟨-, -, ⟨d4, d5⟩, ⟨d6, d7⟩, ⟨d8, d9⟩, -, -, -⟩ := id hdn
  unfold RdR wlX
  simp (disch := decide) only [wr_row, wr_rowat, hN, ↓reduceIte]
  refine ⟨⟨by omega, by omega, by omega, by omega, by omega⟩, fun f k0 k1 => ?_, fun p k0 k1 => ?_, fun q k0 k1 => ?_, fun c k0 k1 => ?_⟩
  · have := hf f k0 k1
    exact ⟨by omega, this.2⟩
  · have := hp p k0 k1
    exact ⟨by omega, this.2⟩
  · have := hq q k0 k1
    exact ⟨by omega, this.2⟩
  · have := hc c k0 k1
    omega
theorem RdR.fg {G : Mem} {N M N' M' : Int → Int} {i w : Int} (h : RdR G N M) (hdn : DnOk G 47) (hw : Wr (G 6 i) w) (hl : G 47 2 < 6) (hN : ∀ j : Int, N' j = if j = 2 then G 47 2 + 1 else if j = 11 + G 47 2 then vN G (i + 2) else if j = 5 + G 47 2 then vN G (i + 1) else N j) (hM : ∀ j : Int, M' j = if j = G 47 2 then w else M j) : RdR (fgX G i) N' M' := by
  obtain ⟨⟨a0, a1, a2, a3, a4⟩, hf, hp, hq, hc⟩ := h
  obtain ⟨-, -, ⟨d4, d5⟩, ⟨d6, d7⟩, ⟨d8, d9⟩, -, -, -⟩ := id hdn
  unfold RdR fgX
  simp (disch := decide) only [wr_row, wr_rowat, hN, hM, ↓reduceIte]
  refine ⟨⟨by first | trivial | omega, by first | trivial | omega, by first | trivial | omega, by first | trivial | omega, by first | trivial | omega⟩, fun f k0 k1 => ?_, fun p k0 k1 => ?_, fun q k0 k1 => ?_, fun c k0 k1 => ?_⟩
  · have key : f = G 47 2 ∨ f < G 47 2 := by omega
    rcases key with e | e
    · exact ⟨by omega, by rw [if_pos e, if_pos e]; exact hw⟩
    · have := hf f k0 e
      exact ⟨by omega, by rw [if_neg (by omega), if_neg (by omega)]; exact this.2⟩
  · have k1 : p < G 47 3 := by omega
    have := hp p k0 k1
    exact ⟨by omega, by rw [if_neg (by omega)]; exact this.2⟩
  · have k1 : q < G 47 4 := by omega
    have := hq q k0 k1
    exact ⟨by omega, by rw [if_neg (by omega)]; exact this.2⟩
  · have := hc c k0 k1
    omega
theorem RdR.ps {G : Mem} {N M N' M' : Int → Int} {i w : Int} (h : RdR G N M) (hdn : DnOk G 47) (hw : Wr (G 6 i) w) (hl : G 47 3 < 5) (hN : ∀ j : Int, N' j = if j = 3 then G 47 3 + 1 else if j = 27 + G 47 3 then vN G (i + 4) else if j = 22 + G 47 3 then vN G (i + 3) else if j = 17 + G 47 3 then 9 * vN G (i + 2) + vN G (i + 1) else N j) (hM : ∀ j : Int, M' j = if j = 6 + G 47 3 then w else M j) : RdR (psX G i) N' M' := by
  obtain ⟨⟨a0, a1, a2, a3, a4⟩, hf, hp, hq, hc⟩ := h
  obtain ⟨-, -, ⟨d4, d5⟩, ⟨d6, d7⟩, ⟨d8, d9⟩, -, -, -⟩ := id hdn
  unfold RdR psX
  simp (disch := decide) only [wr_row, wr_rowat, hN, hM, ↓reduceIte]
  refine ⟨⟨by first | trivial | omega, by first | trivial | omega, by first | trivial | omega, by first | trivial | omega, by first | trivial | omega⟩, fun f k0 k1 => ?_, fun p k0 k1 => ?_, fun q k0 k1 => ?_, fun c k0 k1 => ?_⟩
  · have k1 : f < G 47 2 := by omega
    have := hf f k0 k1
    exact ⟨by omega, by rw [if_neg (by omega)]; exact this.2⟩
  · have key : p = G 47 3 ∨ p < G 47 3 := by omega
    rcases key with e | e
    · exact ⟨by omega, by rw [if_pos e, if_pos (by omega)]; exact hw⟩
    · have := hp p k0 e
      exact ⟨by omega, by rw [if_neg (by omega), if_neg (by omega)]; exact this.2⟩
  · have k1 : q < G 47 4 := by omega
    have := hq q k0 k1
    exact ⟨by omega, by rw [if_neg (by omega)]; exact this.2⟩
  · have := hc c k0 k1
    omega
theorem RdR.pt {G : Mem} {N M N' M' : Int → Int} {i w : Int} (h : RdR G N M) (hdn : DnOk G 47) (hw : Wr (G 6 i) w) (hl : G 47 4 < 5) (hN : ∀ j : Int, N' j = if j = 4 then G 47 4 + 1 else if j = 37 + G 47 4 then vN G (i + 3) else if j = 32 + G 47 4 then 9 * vN G (i + 2) + vN G (i + 1) else N j) (hM : ∀ j : Int, M' j = if j = 11 + G 47 4 then w else M j) : RdR (ptX G i) N' M' := by
  obtain ⟨⟨a0, a1, a2, a3, a4⟩, hf, hp, hq, hc⟩ := h
  obtain ⟨-, -, ⟨d4, d5⟩, ⟨d6, d7⟩, ⟨d8, d9⟩, -, -, -⟩ := id hdn
  unfold RdR ptX
  simp (disch := decide) only [wr_row, wr_rowat, hN, hM, ↓reduceIte]
  refine ⟨⟨by first | trivial | omega, by first | trivial | omega, by first | trivial | omega, by first | trivial | omega, by first | trivial | omega⟩, fun f k0 k1 => ?_, fun p k0 k1 => ?_, fun q k0 k1 => ?_, fun c k0 k1 => ?_⟩
  · have k1 : f < G 47 2 := by omega
    have := hf f k0 k1
    exact ⟨by omega, by rw [if_neg (by omega)]; exact this.2⟩
  · have k1 : p < G 47 3 := by omega
    have := hp p k0 k1
    exact ⟨by omega, by rw [if_neg (by omega)]; exact this.2⟩
  · have key : q = G 47 4 ∨ q < G 47 4 := by omega
    rcases key with e | e
    · exact ⟨by omega, by rw [if_pos e, if_pos (by omega)]; exact hw⟩
    · have := hq q k0 e
      exact ⟨by omega, by rw [if_neg (by omega), if_neg (by omega)]; exact this.2⟩
  · have := hc c k0 k1
    omega
theorem RdR.w {G m : Mem} {j x : Int} (h : RdR G (m 217) (m 222)) : RdR G (wr m 214 j x 217) (wr m 214 j x 222) := by rw [wr_row (by decide), wr_row (by decide)]; exact h
theorem RdR.l {G m m' : Mem} (h : RdR G (m 217) (m 222)) (hl : Lx m m') : RdR G (m' 217) (m' 222) := by rw [hl.1 217 (by decide), hl.1 222 (by decide)]; exact h

theorem dX12_readDowns_0 : decode mX12_readDowns.2.1 0 = .ok (.aload_n 0, 1) := by decide +kernel
theorem dX12_readDowns_1 : decode mX12_readDowns.2.1 1 = .ok (.getfield 174, 3) := by decide +kernel
theorem dX12_readDowns_4 : decode mX12_readDowns.2.1 4 = .ok (.ifCond .ne 10, 3) := by decide +kernel
theorem dX12_readDowns_7 : decode mX12_readDowns.2.1 7 = .ok (.aload_n 0, 1) := by decide +kernel
theorem dX12_readDowns_8 : decode mX12_readDowns.2.1 8 = .ok (.getfield 178, 3) := by decide +kernel
theorem dX12_readDowns_11 : decode mX12_readDowns.2.1 11 = .ok (.ifCond .eq 9, 3) := by decide +kernel
theorem dX12_readDowns_14 : decode mX12_readDowns.2.1 14 = .ok (.aload_n 0, 1) := by decide +kernel
theorem dX12_readDowns_15 : decode mX12_readDowns.2.1 15 = .ok (.iconst 3, 1) := by decide +kernel
theorem dX12_readDowns_16 : decode mX12_readDowns.2.1 16 = .ok (.invokevirtual 72, 3) := by decide +kernel
theorem dX12_readDowns_19 : decode mX12_readDowns.2.1 19 = .ok (.ireturn, 1) := by decide +kernel
theorem dX12_readDowns_20 : decode mX12_readDowns.2.1 20 = .ok (.aload_n 0, 1) := by decide +kernel
theorem dX12_readDowns_21 : decode mX12_readDowns.2.1 21 = .ok (.iconst 1, 1) := by decide +kernel
theorem dX12_readDowns_22 : decode mX12_readDowns.2.1 22 = .ok (.putfield 174, 3) := by decide +kernel
theorem dX12_readDowns_25 : decode mX12_readDowns.2.1 25 = .ok (.aload_n 0, 1) := by decide +kernel
theorem dX12_readDowns_26 : decode mX12_readDowns.2.1 26 = .ok (.invokevirtual 82, 3) := by decide +kernel
theorem dX12_readDowns_29 : decode mX12_readDowns.2.1 29 = .ok (.aload_n 0, 1) := by decide +kernel
theorem dX12_readDowns_30 : decode mX12_readDowns.2.1 30 = .ok (.iconst 0, 1) := by decide +kernel
theorem dX12_readDowns_31 : decode mX12_readDowns.2.1 31 = .ok (.aload_n 0, 1) := by decide +kernel
theorem dX12_readDowns_32 : decode mX12_readDowns.2.1 32 = .ok (.iconst 2, 1) := by decide +kernel
theorem dX12_readDowns_33 : decode mX12_readDowns.2.1 33 = .ok (.bipush 9, 2) := by decide +kernel
theorem dX12_readDowns_35 : decode mX12_readDowns.2.1 35 = .ok (.invokevirtual 181, 3) := by decide +kernel
theorem dX12_readDowns_38 : decode mX12_readDowns.2.1 38 = .ok (.invokevirtual 185, 3) := by decide +kernel
theorem dX12_readDowns_41 : decode mX12_readDowns.2.1 41 = .ok (.ifCond .eq 22, 3) := by decide +kernel
theorem dX12_readDowns_44 : decode mX12_readDowns.2.1 44 = .ok (.aload_n 0, 1) := by decide +kernel
theorem dX12_readDowns_45 : decode mX12_readDowns.2.1 45 = .ok (.iconst 1, 1) := by decide +kernel
theorem dX12_readDowns_46 : decode mX12_readDowns.2.1 46 = .ok (.aload_n 0, 1) := by decide +kernel
theorem dX12_readDowns_47 : decode mX12_readDowns.2.1 47 = .ok (.iconst 2, 1) := by decide +kernel
theorem dX12_readDowns_48 : decode mX12_readDowns.2.1 48 = .ok (.bipush 9, 2) := by decide +kernel
theorem dX12_readDowns_50 : decode mX12_readDowns.2.1 50 = .ok (.invokevirtual 181, 3) := by decide +kernel
theorem dX12_readDowns_53 : decode mX12_readDowns.2.1 53 = .ok (.invokevirtual 185, 3) := by decide +kernel
theorem dX12_readDowns_56 : decode mX12_readDowns.2.1 56 = .ok (.ifCond .eq 7, 3) := by decide +kernel
theorem dX12_readDowns_59 : decode mX12_readDowns.2.1 59 = .ok (.iconst 1, 1) := by decide +kernel
theorem dX12_readDowns_60 : decode mX12_readDowns.2.1 60 = .ok (.goto 4, 3) := by decide +kernel
theorem dX12_readDowns_63 : decode mX12_readDowns.2.1 63 = .ok (.iconst 0, 1) := by decide +kernel
theorem dX12_readDowns_64 : decode mX12_readDowns.2.1 64 = .ok (.ireturn, 1) := by decide +kernel
set_option maxRecDepth 4000 in
theorem ev_X12_readDowns {m : Mem} {G : Mem} {t : Int → Int} {kw : Int → Int} {n : Int} {lim : Int} {i : Int} (htm : TM G t kw n lim m i) (h2 : 2 ≤ G 4 i) (hdr : DrOk G) (hra : RdA G m) : Ev 0 4 mX12_readDowns [vr 214] m (fun r m' => LnM G t kw n lim m m' (szF G (i + 1)) (szX G (i + 1)) r) := by
  refine Ev.of (L := [vr 214]) (by decide +kernel) rfl (Nat.le_of_ble_eq_true rfl) rfl (fun t ht => by cases ht; first | exact Or.inl rfl | exact Or.inr (Or.inl rfl) | exact Or.inr (Or.inr rfl)) (fun hcan => ?_)
  obtain ⟨hdn, hst, hdr3, hdr4, hdr5, hdr6, hdr7⟩ := id hdr
  obtain ⟨⟨hd0, hd1⟩, ⟨hd2, hd3⟩, ⟨hd4, hd5⟩, ⟨hd6, hd7⟩, ⟨hd8, hd9⟩, hdf, hdp, hdq⟩ := id hdn
  obtain ⟨⟨hs0, hs1⟩, ⟨hs2, hs3⟩, hsw, hsp, hsd, hsz⟩ := id hst
  have hkd := htm.kd
  refine go_aload_n dX12_readDowns_0 rfl ?_
  refine go_getf_z (ki := 23) dX12_readDowns_1 fl_12_174 ob_214 rfl rfl (fun hf_1 => ?_)
  rw [show (m 214 23 : Int) = (G 45 2) from hra.2.1] at hf_1 ⊢
  refine go_if_ne (tgt := 14) dX12_readDowns_4 (by decide) ⟨by omega, by omega⟩ (fun h_4 => ?_) (fun h_4 => ?_)
  · refine go_aload_n dX12_readDowns_14 rfl ?_
    refine go_iconst dX12_readDowns_15 ?_
    refine go_callV_z (as := [vi 3]) (S := []) (b := 214) (ev_X12_bad (m := m) (k := 3) (G := G) (t := t) (kw := kw) (n := n) (lim := lim) (i := i) htm (by first | assumption | omega | exact ⟨by omega, by omega⟩ | (constructor <;> omega))) rfl dX12_readDowns_16 cv_12_72 rfl rfl ob_214 rfl (by decide) (Nat.le_of_ble_eq_true rfl) (fun r_16 m_16 hr_16 ho_16 => ?_)
    exact go_ret (v := r_16) rfl dX12_readDowns_19 (okZ (by first | exact Or.inl rfl | exact Or.inr rfl | assumption | omega)) (Or.inr (by have hq : szF G (i + 1) = (3, i + 1 - 1) := (by unfold szF; rw [if_pos (by omega)]); rw [hq, show i + 1 - 1 = i by omega]; exact ⟨(show (3 : Int) ≠ 0 by decide), hr_16.1, (NoT.b (by rw [hr_16.2, if_neg (by omega)])).p⟩))
  · refine go_aload_n dX12_readDowns_7 rfl ?_
    refine go_getf_z (ki := 24) dX12_readDowns_8 fl_12_178 ob_214 rfl rfl (fun hf_8 => ?_)
    rw [show (m 214 24 : Int) = (G 45 3) from hra.2.2] at hf_8 ⊢
    refine go_if_eq (tgt := 20) dX12_readDowns_11 (by decide) ⟨by omega, by omega⟩ (fun h_11 => ?_) (fun h_11 => ?_)
    · refine go_aload_n dX12_readDowns_20 rfl ?_
      refine go_iconst dX12_readDowns_21 ?_
      refine go_putf_z (ki := 23) dX12_readDowns_22 fw_12_174 ob_214 rfl rfl (by first | exact Or.inl rfl | exact Or.inr rfl | assumption | omega) ?_
      refine go_aload_n dX12_readDowns_25 rfl ?_
      refine go_callV_v (as := []) (S := []) (b := 214) (ev_X12_go (m := (wr m 214 23 1)) (G := G) (t := t) (kw := kw) (n := n) (lim := lim) (i := (i + 1)) ((htm.nx (by omega)).w (by decide) (by omega))) rfl dX12_readDowns_26 cv_12_82 rfl rfl ob_214 rfl (by decide) (Nat.le_of_ble_eq_true rfl) (fun m_26 hr_26 => ?_)
      refine go_aload_n dX12_readDowns_29 rfl ?_
      refine go_iconst dX12_readDowns_30 ?_
      refine go_aload_n dX12_readDowns_31 rfl ?_
      refine go_iconst dX12_readDowns_32 ?_
      refine go_bipush dX12_readDowns_33 (by decide) ?_
      refine go_callV_z (as := [vi 2, vi 9]) (S := [vi 0, vr 214]) (b := 214) (ev_X12_readNumber (m := m_26) (lo := 2) (hi := 9) (G := G) (t := t) (kw := kw) (n := n) (lim := lim) (i := (i + 1)) hr_26.2 (by first | assumption | omega | exact ⟨by omega, by omega⟩ | (constructor <;> omega)) (by first | assumption | omega | exact ⟨by omega, by omega⟩ | (constructor <;> omega))) rfl dX12_readDowns_35 cv_12_181 rfl rfl ob_214 rfl (by decide) (Nat.le_of_ble_eq_true rfl) (fun r_35 m_35 hr_35 ho_35 => ?_)
      rcases hr_35 with ⟨f_35, e_35, ok_35, v_35⟩ | ⟨f_35, e_35, no_35⟩
      · refine go_callV_z (as := [vi 0, vi r_35]) (S := []) (b := 214) (ev_X12_put (m := m_35) (k := 0) (g := r_35) (by first | assumption | omega | exact ⟨by omega, by omega⟩ | (constructor <;> omega)) (by first | assumption | omega | exact ⟨by omega, by omega⟩ | (constructor <;> omega))) rfl dX12_readDowns_38 cv_12_185 rfl rfl ob_214 rfl (by decide) (Nat.le_of_ble_eq_true rfl) (fun r_38 m_38 hr_38 ho_38 => ?_)
        obtain ⟨e_38, hm_38⟩ := hr_38
        first | rw [if_pos e_35] at hm_38 | rw [if_neg (by omega)] at hm_38
        refine go_if_eq (tgt := 63) dX12_readDowns_41 (by decide) ⟨by omega, by omega⟩ (fun h_41 => ?_) (fun h_41 => ?_)
        · exfalso; omega
        · refine go_aload_n dX12_readDowns_44 rfl ?_
          refine go_iconst dX12_readDowns_45 ?_
          refine go_aload_n dX12_readDowns_46 rfl ?_
          refine go_iconst dX12_readDowns_47 ?_
          refine go_bipush dX12_readDowns_48 (by decide) ?_
          refine go_callV_z (as := [vi 2, vi 9]) (S := [vi 1, vr 214]) (b := 214) (ev_X12_readNumber (m := m_38) (lo := 2) (hi := 9) (G := G) (t := t) (kw := kw) (n := n) (lim := lim) (i := (i + 1 + 1)) (by rw [hm_38]; exact ok_35.2.2.w (by decide) (by omega)) (by first | assumption | omega | exact ⟨by omega, by omega⟩ | (constructor <;> omega)) (by first | assumption | omega | exact ⟨by omega, by omega⟩ | (constructor <;> omega))) rfl dX12_readDowns_50 cv_12_181 rfl rfl ob_214 rfl (by decide) (Nat.le_of_ble_eq_true rfl) (fun r_50 m_50 hr_50 ho_50 => ?_)
          rcases hr_50 with ⟨f_50, e_50, ok_50, v_50⟩ | ⟨f_50, e_50, no_50⟩
          · refine go_callV_z (as := [vi 1, vi r_50]) (S := []) (b := 214) (ev_X12_put (m := m_50) (k := 1) (g := r_50) (by first | assumption | omega | exact ⟨by omega, by omega⟩ | (constructor <;> omega)) (by first | assumption | omega | exact ⟨by omega, by omega⟩ | (constructor <;> omega))) rfl dX12_readDowns_53 cv_12_185 rfl rfl ob_214 rfl (by decide) (Nat.le_of_ble_eq_true rfl) (fun r_53 m_53 hr_53 ho_53 => ?_)
            obtain ⟨e_53, hm_53⟩ := hr_53
            first | rw [if_pos e_50] at hm_53 | rw [if_neg (by omega)] at hm_53
            refine go_if_eq (tgt := 63) dX12_readDowns_56 (by decide) ⟨by omega, by omega⟩ (fun h_56 => ?_) (fun h_56 => ?_)
            · exfalso; omega
            · refine go_iconst dX12_readDowns_59 ?_
              refine go_goto (tgt := 64) dX12_readDowns_60 (by decide) ?_
              refine go_ret (v := 1) rfl dX12_readDowns_64 (okZ (by first | exact Or.inl rfl | exact Or.inr rfl | assumption | omega)) ?_
              have hz : ¬ (G 45 2 ≠ 0 ∨ G 45 3 ≠ 0) := by omega
              have p26 : Px m m_26 := (Px.rf.w (by omega)).tr hr_26.1.l.p
              first
              | (have hq : szF G (i + 1) = (numF (G 4) (vN G) (i + 1) 2 9, i + 1) := by unfold szF; rw [if_neg hz, if_pos f_35]
                 refine Or.inr ?_
                 rw [hq]
                 refine ⟨f_35, rfl, NoP.tr p26 ?_⟩
                 rw [hm_38]; exact no_35.p)
              | (have hq : szF G (i + 1) = (numF (G 4) (vN G) (i + 1 + 1) 2 9, i + 1 + 1) := by unfold szF; rw [if_neg hz, if_neg (by omega), if_pos f_50]
                 refine Or.inr ?_
                 rw [hq]
                 have k38 : Px m m_38 := p26.tr (ok_35.1.p.tr (by rw [hm_38]; exact Px.rf.w (by omega)))
                 refine ⟨f_50, rfl, NoP.tr k38 ?_⟩
                 rw [hm_53]; exact no_50.p)
              | (have hq : szF G (i + 1) = (0, i + 1 + 2) := by unfold szF; rw [if_neg hz, if_neg (by omega), if_neg (by omega)]
                 refine Or.inl ?_
                 rw [hq]
                 have k38 : Px m m_38 := p26.tr (ok_35.1.p.tr (by rw [hm_38]; exact Px.rf.w (by omega)))
                 have k53 : Px m m_53 := k38.tr (ok_50.1.p.tr (by rw [hm_53]; exact Px.rf.w (by omega)))
                 refine ⟨rfl, rfl, k53, ?_, ?_, ?_, ?_, ?_⟩
                 · rw [hm_53, wr_na (by decide), ok_50.2.1, hm_38, wr_na (by decide), ok_35.2.1, hr_26.1.2 10 (by decide) (by decide) (by decide) (by decide) (by decide) (by decide), wr_ni (by decide)]
                 · rw [hm_53]; have z := ok_50.2.2; rw [show i + 1 + 1 + 1 = i + 1 + 2 by omega] at z; exact z.w (by decide) (by omega)
                 · have r1 : RdR G (m_26 217) (m_26 222) := (RdR.w hra.1).l hr_26.1.l
                   have e22 : m_53 222 = m_26 222 := by rw [hm_53, wr_row (by decide), ok_50.1.1 222 (by decide), hm_38, wr_row (by decide), ok_35.1.1 222 (by decide)]
                   rw [e22]
                   refine r1.sz hdn (fun j => ?_)
                   rw [hm_53, wr_rowat, v_50, ok_50.1.1 217 (by decide), hm_38, wr_rowat, v_35, ok_35.1.1 217 (by decide)]
                 · rw [hm_53, wr_na (by decide), ok_50.1.2 23 (by omega), hm_38, wr_na (by decide), ok_35.1.2 23 (by omega), hr_26.1.2 23 (by decide) (by decide) (by decide) (by decide) (by decide) (by decide), wr_self]; unfold szX; rw [wr_na (by decide), wr_na (by decide), wr_self]
                 · rw [hm_53, wr_na (by decide), ok_50.1.2 24 (by omega), hm_38, wr_na (by decide), ok_35.1.2 24 (by omega), hr_26.1.2 24 (by decide) (by decide) (by decide) (by decide) (by decide) (by decide), wr_ni (by decide), hra.2.2]; unfold szX; rw [wr_na (by decide), wr_na (by decide), wr_ni (by decide)])
          · refine go_callV_z (as := [vi 1, vi r_50]) (S := []) (b := 214) (ev_X12_put (m := m_50) (k := 1) (g := r_50) (by first | assumption | omega | exact ⟨by omega, by omega⟩ | (constructor <;> omega)) (by first | assumption | omega | exact ⟨by omega, by omega⟩ | (constructor <;> omega))) rfl dX12_readDowns_53 cv_12_185 rfl rfl ob_214 rfl (by decide) (Nat.le_of_ble_eq_true rfl) (fun r_53 m_53 hr_53 ho_53 => ?_)
            obtain ⟨e_53, hm_53⟩ := hr_53
            first | rw [if_pos e_50] at hm_53 | rw [if_neg (by omega)] at hm_53
            refine go_if_eq (tgt := 63) dX12_readDowns_56 (by decide) ⟨by omega, by omega⟩ (fun h_56 => ?_) (fun h_56 => ?_)
            · refine go_iconst dX12_readDowns_63 ?_
              refine go_ret (v := 0) rfl dX12_readDowns_64 (okZ (by first | exact Or.inl rfl | exact Or.inr rfl | assumption | omega)) ?_
              have hz : ¬ (G 45 2 ≠ 0 ∨ G 45 3 ≠ 0) := by omega
              have p26 : Px m m_26 := (Px.rf.w (by omega)).tr hr_26.1.l.p
              first
              | (have hq : szF G (i + 1) = (numF (G 4) (vN G) (i + 1) 2 9, i + 1) := by unfold szF; rw [if_neg hz, if_pos f_35]
                 refine Or.inr ?_
                 rw [hq]
                 refine ⟨f_35, rfl, NoP.tr p26 ?_⟩
                 rw [hm_38]; exact no_35.p)
              | (have hq : szF G (i + 1) = (numF (G 4) (vN G) (i + 1 + 1) 2 9, i + 1 + 1) := by unfold szF; rw [if_neg hz, if_neg (by omega), if_pos f_50]
                 refine Or.inr ?_
                 rw [hq]
                 have k38 : Px m m_38 := p26.tr (ok_35.1.p.tr (by rw [hm_38]; exact Px.rf.w (by omega)))
                 refine ⟨f_50, rfl, NoP.tr k38 ?_⟩
                 rw [hm_53]; exact no_50.p)
              | (have hq : szF G (i + 1) = (0, i + 1 + 2) := by unfold szF; rw [if_neg hz, if_neg (by omega), if_neg (by omega)]
                 refine Or.inl ?_
                 rw [hq]
                 have k38 : Px m m_38 := p26.tr (ok_35.1.p.tr (by rw [hm_38]; exact Px.rf.w (by omega)))
                 have k53 : Px m m_53 := k38.tr (ok_50.1.p.tr (by rw [hm_53]; exact Px.rf.w (by omega)))
                 refine ⟨rfl, rfl, k53, ?_, ?_, ?_, ?_, ?_⟩
                 · rw [hm_53, wr_na (by decide), ok_50.2.1, hm_38, wr_na (by decide), ok_35.2.1, hr_26.1.2 10 (by decide) (by decide) (by decide) (by decide) (by decide) (by decide), wr_ni (by decide)]
                 · rw [hm_53]; have z := ok_50.2.2; rw [show i + 1 + 1 + 1 = i + 1 + 2 by omega] at z; exact z.w (by decide) (by omega)
                 · have r1 : RdR G (m_26 217) (m_26 222) := (RdR.w hra.1).l hr_26.1.l
                   have e22 : m_53 222 = m_26 222 := by rw [hm_53, wr_row (by decide), ok_50.1.1 222 (by decide), hm_38, wr_row (by decide), ok_35.1.1 222 (by decide)]
                   rw [e22]
                   refine r1.sz hdn (fun j => ?_)
                   rw [hm_53, wr_rowat, v_50, ok_50.1.1 217 (by decide), hm_38, wr_rowat, v_35, ok_35.1.1 217 (by decide)]
                 · rw [hm_53, wr_na (by decide), ok_50.1.2 23 (by omega), hm_38, wr_na (by decide), ok_35.1.2 23 (by omega), hr_26.1.2 23 (by decide) (by decide) (by decide) (by decide) (by decide) (by decide), wr_self]; unfold szX; rw [wr_na (by decide), wr_na (by decide), wr_self]
                 · rw [hm_53, wr_na (by decide), ok_50.1.2 24 (by omega), hm_38, wr_na (by decide), ok_35.1.2 24 (by omega), hr_26.1.2 24 (by decide) (by decide) (by decide) (by decide) (by decide) (by decide), wr_ni (by decide), hra.2.2]; unfold szX; rw [wr_na (by decide), wr_na (by decide), wr_ni (by decide)])
            · exfalso; omega
      · refine go_callV_z (as := [vi 0, vi r_35]) (S := []) (b := 214) (ev_X12_put (m := m_35) (k := 0) (g := r_35) (by first | assumption | omega | exact ⟨by omega, by omega⟩ | (constructor <;> omega)) (by first | assumption | omega | exact ⟨by omega, by omega⟩ | (constructor <;> omega))) rfl dX12_readDowns_38 cv_12_185 rfl rfl ob_214 rfl (by decide) (Nat.le_of_ble_eq_true rfl) (fun r_38 m_38 hr_38 ho_38 => ?_)
        obtain ⟨e_38, hm_38⟩ := hr_38
        first | rw [if_pos e_35] at hm_38 | rw [if_neg (by omega)] at hm_38
        refine go_if_eq (tgt := 63) dX12_readDowns_41 (by decide) ⟨by omega, by omega⟩ (fun h_41 => ?_) (fun h_41 => ?_)
        · refine go_iconst dX12_readDowns_63 ?_
          refine go_ret (v := 0) rfl dX12_readDowns_64 (okZ (by first | exact Or.inl rfl | exact Or.inr rfl | assumption | omega)) ?_
          have hz : ¬ (G 45 2 ≠ 0 ∨ G 45 3 ≠ 0) := by omega
          have p26 : Px m m_26 := (Px.rf.w (by omega)).tr hr_26.1.l.p
          first
          | (have hq : szF G (i + 1) = (numF (G 4) (vN G) (i + 1) 2 9, i + 1) := by unfold szF; rw [if_neg hz, if_pos f_35]
             refine Or.inr ?_
             rw [hq]
             refine ⟨f_35, rfl, NoP.tr p26 ?_⟩
             rw [hm_38]; exact no_35.p)
          | (have hq : szF G (i + 1) = (numF (G 4) (vN G) (i + 1 + 1) 2 9, i + 1 + 1) := by unfold szF; rw [if_neg hz, if_neg (by omega), if_pos f_50]
             refine Or.inr ?_
             rw [hq]
             have k38 : Px m m_38 := p26.tr (ok_35.1.p.tr (by rw [hm_38]; exact Px.rf.w (by omega)))
             refine ⟨f_50, rfl, NoP.tr k38 ?_⟩
             rw [hm_53]; exact no_50.p)
          | (have hq : szF G (i + 1) = (0, i + 1 + 2) := by unfold szF; rw [if_neg hz, if_neg (by omega), if_neg (by omega)]
             refine Or.inl ?_
             rw [hq]
             have k38 : Px m m_38 := p26.tr (ok_35.1.p.tr (by rw [hm_38]; exact Px.rf.w (by omega)))
             have k53 : Px m m_53 := k38.tr (ok_50.1.p.tr (by rw [hm_53]; exact Px.rf.w (by omega)))
             refine ⟨rfl, rfl, k53, ?_, ?_, ?_, ?_, ?_⟩
             · rw [hm_53, wr_na (by decide), ok_50.2.1, hm_38, wr_na (by decide), ok_35.2.1, hr_26.1.2 10 (by decide) (by decide) (by decide) (by decide) (by decide) (by decide), wr_ni (by decide)]
             · rw [hm_53]; have z := ok_50.2.2; rw [show i + 1 + 1 + 1 = i + 1 + 2 by omega] at z; exact z.w (by decide) (by omega)
             · have r1 : RdR G (m_26 217) (m_26 222) := (RdR.w hra.1).l hr_26.1.l
               have e22 : m_53 222 = m_26 222 := by rw [hm_53, wr_row (by decide), ok_50.1.1 222 (by decide), hm_38, wr_row (by decide), ok_35.1.1 222 (by decide)]
               rw [e22]
               refine r1.sz hdn (fun j => ?_)
               rw [hm_53, wr_rowat, v_50, ok_50.1.1 217 (by decide), hm_38, wr_rowat, v_35, ok_35.1.1 217 (by decide)]
             · rw [hm_53, wr_na (by decide), ok_50.1.2 23 (by omega), hm_38, wr_na (by decide), ok_35.1.2 23 (by omega), hr_26.1.2 23 (by decide) (by decide) (by decide) (by decide) (by decide) (by decide), wr_self]; unfold szX; rw [wr_na (by decide), wr_na (by decide), wr_self]
             · rw [hm_53, wr_na (by decide), ok_50.1.2 24 (by omega), hm_38, wr_na (by decide), ok_35.1.2 24 (by omega), hr_26.1.2 24 (by decide) (by decide) (by decide) (by decide) (by decide) (by decide), wr_ni (by decide), hra.2.2]; unfold szX; rw [wr_na (by decide), wr_na (by decide), wr_ni (by decide)])
        · exfalso; omega
    · refine go_aload_n dX12_readDowns_14 rfl ?_
      refine go_iconst dX12_readDowns_15 ?_
      refine go_callV_z (as := [vi 3]) (S := []) (b := 214) (ev_X12_bad (m := m) (k := 3) (G := G) (t := t) (kw := kw) (n := n) (lim := lim) (i := i) htm (by first | assumption | omega | exact ⟨by omega, by omega⟩ | (constructor <;> omega))) rfl dX12_readDowns_16 cv_12_72 rfl rfl ob_214 rfl (by decide) (Nat.le_of_ble_eq_true rfl) (fun r_16 m_16 hr_16 ho_16 => ?_)
      exact go_ret (v := r_16) rfl dX12_readDowns_19 (okZ (by first | exact Or.inl rfl | exact Or.inr rfl | assumption | omega)) (Or.inr (by have hq : szF G (i + 1) = (3, i + 1 - 1) := (by unfold szF; rw [if_pos (by omega)]); rw [hq, show i + 1 - 1 = i by omega]; exact ⟨(show (3 : Int) ≠ 0 by decide), hr_16.1, (NoT.b (by rw [hr_16.2, if_neg (by omega)])).p⟩))
theorem dX12_readWall_0 : decode mX12_readWall.2.1 0 = .ok (.aload_n 0, 1) := by decide +kernel
theorem dX12_readWall_1 : decode mX12_readWall.2.1 1 = .ok (.invokevirtual 82, 3) := by decide +kernel
theorem dX12_readWall_4 : decode mX12_readWall.2.1 4 = .ok (.aload_n 0, 1) := by decide +kernel
theorem dX12_readWall_5 : decode mX12_readWall.2.1 5 = .ok (.iconst 1, 1) := by decide +kernel
theorem dX12_readWall_6 : decode mX12_readWall.2.1 6 = .ok (.invokevirtual 192, 3) := by decide +kernel
theorem dX12_readWall_9 : decode mX12_readWall.2.1 9 = .ok (.ifCond .ne 5, 3) := by decide +kernel
theorem dX12_readWall_12 : decode mX12_readWall.2.1 12 = .ok (.iconst 0, 1) := by decide +kernel
theorem dX12_readWall_13 : decode mX12_readWall.2.1 13 = .ok (.ireturn, 1) := by decide +kernel
theorem dX12_readWall_14 : decode mX12_readWall.2.1 14 = .ok (.aload_n 0, 1) := by decide +kernel
theorem dX12_readWall_15 : decode mX12_readWall.2.1 15 = .ok (.getfield 79, 3) := by decide +kernel
theorem dX12_readWall_18 : decode mX12_readWall.2.1 18 = .ok (.istore_n 1, 1) := by decide +kernel
theorem dX12_readWall_19 : decode mX12_readWall.2.1 19 = .ok (.aload_n 0, 1) := by decide +kernel
theorem dX12_readWall_20 : decode mX12_readWall.2.1 20 = .ok (.bipush 42, 2) := by decide +kernel
theorem dX12_readWall_22 : decode mX12_readWall.2.1 22 = .ok (.iload_n 1, 1) := by decide +kernel
theorem dX12_readWall_23 : decode mX12_readWall.2.1 23 = .ok (.iadd, 1) := by decide +kernel
theorem dX12_readWall_24 : decode mX12_readWall.2.1 24 = .ok (.aload_n 0, 1) := by decide +kernel
theorem dX12_readWall_25 : decode mX12_readWall.2.1 25 = .ok (.iconst 1, 1) := by decide +kernel
theorem dX12_readWall_26 : decode mX12_readWall.2.1 26 = .ok (.bipush 9, 2) := by decide +kernel
theorem dX12_readWall_28 : decode mX12_readWall.2.1 28 = .ok (.invokevirtual 181, 3) := by decide +kernel
theorem dX12_readWall_31 : decode mX12_readWall.2.1 31 = .ok (.invokevirtual 185, 3) := by decide +kernel
theorem dX12_readWall_34 : decode mX12_readWall.2.1 34 = .ok (.ireturn, 1) := by decide +kernel
set_option maxRecDepth 4000 in
theorem ev_X12_readWall {m : Mem} {G : Mem} {t : Int → Int} {kw : Int → Int} {n : Int} {lim : Int} {i : Int} (htm : TM G t kw n lim m i) (h2 : 2 ≤ G 4 i) (hdr : DrOk G) (hra : RdA G m) : Ev 0 5 mX12_readWall [vr 214] m (fun r m' => LnM G t kw n lim m m' (wlF G (i + 1)) (wlX G (i + 1)) r) := by
  refine Ev.of (L := [vr 214, un]) (by decide +kernel) rfl (Nat.le_of_ble_eq_true rfl) rfl (fun t ht => by cases ht; first | exact Or.inl rfl | exact Or.inr (Or.inl rfl) | exact Or.inr (Or.inr rfl)) (fun hcan => ?_)
  obtain ⟨hdn, hst, hdr3, hdr4, hdr5, hdr6, hdr7⟩ := id hdr
  obtain ⟨⟨hd0, hd1⟩, ⟨hd2, hd3⟩, ⟨hd4, hd5⟩, ⟨hd6, hd7⟩, ⟨hd8, hd9⟩, hdf, hdp, hdq⟩ := id hdn
  obtain ⟨⟨hs0, hs1⟩, ⟨hs2, hs3⟩, hsw, hsp, hsd, hsz⟩ := id hst
  have hkd := htm.kd
  refine go_aload_n dX12_readWall_0 rfl ?_
  refine go_callV_v (as := []) (S := []) (b := 214) (ev_X12_go (m := m) (G := G) (t := t) (kw := kw) (n := n) (lim := lim) (i := (i + 1)) (htm.nx (by omega))) rfl dX12_readWall_1 cv_12_82 rfl rfl ob_214 rfl (by decide) (Nat.le_of_ble_eq_true rfl) (fun m_1 hr_1 => ?_)
  refine go_aload_n dX12_readWall_4 rfl ?_
  refine go_iconst dX12_readWall_5 ?_
  refine go_callV_z (as := [vi 1]) (S := []) (b := 214) (ev_X12_readCell (m := m_1) (e := 1) (G := G) (t := t) (kw := kw) (n := n) (lim := lim) (i := (i + 1)) hr_1.2 hdr (hra.1.l hr_1.1.l) (by first | assumption | omega | exact ⟨by omega, by omega⟩ | (constructor <;> omega))) rfl dX12_readWall_6 cv_12_192 rfl rfl ob_214 rfl (by decide) (Nat.le_of_ble_eq_true rfl) (fun r_6 m_6 hr_6 ho_6 => ?_)
  rcases hr_6 with ⟨f_6, e_6, q_6, ok_6, v_6⟩ | ⟨f_6, e_6, no_6⟩
  · refine go_if_ne (tgt := 14) dX12_readWall_9 (by decide) ⟨by omega, by omega⟩ (fun h_9 => ?_) (fun h_9 => ?_)
    · have hce : numF (G 4) (vN G) (i + 1) 0 (G 47 0 - 1) = 0 ∧ frF G (vN G (i + 1)) (i + 1 + 1) = 0 := by
        unfold ceF at f_6
        by_cases z : numF (G 4) (vN G) (i + 1) 0 (G 47 0 - 1) = 0
        · refine ⟨z, ?_⟩
          rw [if_neg (by omega), if_pos rfl] at f_6
          by_cases y : frF G (vN G (i + 1)) (i + 1 + 1) = 0
          · exact y
          · rw [if_pos y] at f_6; exact absurd f_6 y
        · rw [if_pos z] at f_6; exact absurd f_6 z
      have hn6 := numF_0 hce.1
      have hf6 := frF_0 hce.2
      refine go_aload_n dX12_readWall_14 rfl ?_
      refine go_getf_i (ki := 13) dX12_readWall_15 fl_12_79 ob_214 rfl rfl (fun hf_15 => ?_)
      rw [show (m_6 214 13 : Int) = (9 * vN G (i + 1 + 1) + vN G (i + 1)) from v_6] at hf_15 ⊢
      refine go_istore_n (L' := [vr 214, vi (9 * vN G (i + 1 + 1) + vN G (i + 1))]) dX12_readWall_18 (by decide) rfl rfl ?_
      refine go_aload_n dX12_readWall_19 rfl ?_
      refine go_bipush dX12_readWall_20 (by decide) ?_
      refine go_iload_n dX12_readWall_22 rfl ?_
      refine go_iadd dX12_readWall_23 ?_
      refine go_aload_n dX12_readWall_24 rfl ?_
      refine go_iconst dX12_readWall_25 ?_
      refine go_bipush dX12_readWall_26 (by decide) ?_
      refine go_callV_z (as := [vi 1, vi 9]) (S := [vi (42 + (9 * vN G (i + 1 + 1) + vN G (i + 1))), vr 214]) (b := 214) (ev_X12_readNumber (m := m_6) (lo := 1) (hi := 9) (G := G) (t := t) (kw := kw) (n := n) (lim := lim) (i := (i + 1 + 2)) ok_6.2.2 (by first | assumption | omega | exact ⟨by omega, by omega⟩ | (constructor <;> omega)) (by first | assumption | omega | exact ⟨by omega, by omega⟩ | (constructor <;> omega))) rfl dX12_readWall_28 cv_12_181 rfl rfl ob_214 rfl (by decide) (Nat.le_of_ble_eq_true rfl) (fun r_28 m_28 hr_28 ho_28 => ?_)
      rcases hr_28 with ⟨f_28, e_28, ok_28, v_28⟩ | ⟨f_28, e_28, no_28⟩
      · refine go_callV_z (as := [vi (42 + (9 * vN G (i + 1 + 1) + vN G (i + 1))), vi r_28]) (S := []) (b := 214) (ev_X12_put (m := m_28) (k := (42 + (9 * vN G (i + 1 + 1) + vN G (i + 1)))) (g := r_28) (by omega) (by first | assumption | omega | exact ⟨by omega, by omega⟩ | (constructor <;> omega))) rfl dX12_readWall_31 cv_12_185 rfl rfl ob_214 rfl (by decide) (Nat.le_of_ble_eq_true rfl) (fun r_31 m_31 hr_31 ho_31 => ?_)
        obtain ⟨e_31, hm_31⟩ := hr_31
        first | rw [if_pos e_28] at hm_31 | rw [if_neg (by omega)] at hm_31
        refine go_ret (v := r_31) rfl dX12_readWall_34 (okZ (by omega)) ?_
        have p6 : Px m m_6 := hr_1.1.l.p.tr ((Px.rf.w (by omega)).tr ok_6.1.p)
        first
        | (refine Or.inr ?_
           have hq : wlF G (i + 1) = (numF (G 4) (vN G) (i + 1 + 2) 1 9, i + 1 + 2) := by unfold wlF; rw [if_neg (by omega), if_neg (by omega), if_pos f_28]
           rw [hq]
           refine ⟨f_28, by omega, NoP.tr p6 ?_⟩
           rw [hm_31]; exact no_28.p)
        | (refine Or.inl ?_
           have hq : wlF G (i + 1) = (0, i + 1 + 3) := by unfold wlF; rw [if_neg (by omega), if_neg (by omega), if_neg (by omega)]
           rw [hq]
           refine ⟨rfl, by omega, p6.tr (ok_28.1.p.tr (by rw [hm_31]; exact Px.rf.w (by omega))), ?_, ?_, ?_, ?_, ?_⟩
           · rw [hm_31, wr_na (by decide), ok_28.2.1, ok_6.2.1, wr_ni (by decide), hr_1.1.2 10 (by decide) (by decide) (by decide) (by decide) (by decide) (by decide)]
           · rw [hm_31]; have z := ok_28.2.2; rw [show i + 1 + 2 + 1 = i + 1 + 3 by omega] at z; exact z.w (by decide) (by omega)
           · have r1 : RdR G (m_6 217) (m_6 222) := ((hra.1.l hr_1.1.l).w (j := 24) (x := 1)).l ok_6.1
             have e22 : m_31 222 = m_6 222 := by rw [hm_31, wr_row (by decide), ok_28.1.1 222 (by decide)]
             rw [e22]
             refine r1.wl hdn (fun j => ?_) (by omega) (by omega)
             rw [hm_31, wr_rowat, v_28, ok_28.1.1 217 (by decide)]
           · rw [hm_31, wr_na (by decide), ok_28.1.2 23 (by omega), ok_6.1.2 23 (by omega), wr_ni (by decide), hr_1.1.2 23 (by decide) (by decide) (by decide) (by decide) (by decide) (by decide), hra.2.1]; unfold wlX; rw [wr_na (by decide), wr_ni (by decide)]
           · rw [hm_31, wr_na (by decide), ok_28.1.2 24 (by omega), ok_6.1.2 24 (by omega), wr_self]; unfold wlX; rw [wr_na (by decide), wr_self])
      · refine go_callV_z (as := [vi (42 + (9 * vN G (i + 1 + 1) + vN G (i + 1))), vi r_28]) (S := []) (b := 214) (ev_X12_put (m := m_28) (k := (42 + (9 * vN G (i + 1 + 1) + vN G (i + 1)))) (g := r_28) (by omega) (by first | assumption | omega | exact ⟨by omega, by omega⟩ | (constructor <;> omega))) rfl dX12_readWall_31 cv_12_185 rfl rfl ob_214 rfl (by decide) (Nat.le_of_ble_eq_true rfl) (fun r_31 m_31 hr_31 ho_31 => ?_)
        obtain ⟨e_31, hm_31⟩ := hr_31
        first | rw [if_pos e_28] at hm_31 | rw [if_neg (by omega)] at hm_31
        refine go_ret (v := r_31) rfl dX12_readWall_34 (okZ (by omega)) ?_
        have p6 : Px m m_6 := hr_1.1.l.p.tr ((Px.rf.w (by omega)).tr ok_6.1.p)
        first
        | (refine Or.inr ?_
           have hq : wlF G (i + 1) = (numF (G 4) (vN G) (i + 1 + 2) 1 9, i + 1 + 2) := by unfold wlF; rw [if_neg (by omega), if_neg (by omega), if_pos f_28]
           rw [hq]
           refine ⟨f_28, by omega, NoP.tr p6 ?_⟩
           rw [hm_31]; exact no_28.p)
        | (refine Or.inl ?_
           have hq : wlF G (i + 1) = (0, i + 1 + 3) := by unfold wlF; rw [if_neg (by omega), if_neg (by omega), if_neg (by omega)]
           rw [hq]
           refine ⟨rfl, by omega, p6.tr (ok_28.1.p.tr (by rw [hm_31]; exact Px.rf.w (by omega))), ?_, ?_, ?_, ?_, ?_⟩
           · rw [hm_31, wr_na (by decide), ok_28.2.1, ok_6.2.1, wr_ni (by decide), hr_1.1.2 10 (by decide) (by decide) (by decide) (by decide) (by decide) (by decide)]
           · rw [hm_31]; have z := ok_28.2.2; rw [show i + 1 + 2 + 1 = i + 1 + 3 by omega] at z; exact z.w (by decide) (by omega)
           · have r1 : RdR G (m_6 217) (m_6 222) := ((hra.1.l hr_1.1.l).w (j := 24) (x := 1)).l ok_6.1
             have e22 : m_31 222 = m_6 222 := by rw [hm_31, wr_row (by decide), ok_28.1.1 222 (by decide)]
             rw [e22]
             refine r1.wl hdn (fun j => ?_) (by omega) (by omega)
             rw [hm_31, wr_rowat, v_28, ok_28.1.1 217 (by decide)]
           · rw [hm_31, wr_na (by decide), ok_28.1.2 23 (by omega), ok_6.1.2 23 (by omega), wr_ni (by decide), hr_1.1.2 23 (by decide) (by decide) (by decide) (by decide) (by decide) (by decide), hra.2.1]; unfold wlX; rw [wr_na (by decide), wr_ni (by decide)]
           · rw [hm_31, wr_na (by decide), ok_28.1.2 24 (by omega), ok_6.1.2 24 (by omega), wr_self]; unfold wlX; rw [wr_na (by decide), wr_self])
    · exfalso; omega
  · refine go_if_ne (tgt := 14) dX12_readWall_9 (by decide) ⟨by omega, by omega⟩ (fun h_9 => ?_) (fun h_9 => ?_)
    · exfalso; omega
    · refine go_iconst dX12_readWall_12 ?_
      refine go_ret (v := 0) rfl dX12_readWall_13 (okZ (by first | exact Or.inl rfl | exact Or.inr rfl | assumption | omega)) ?_
      refine Or.inr ?_
      have hq : wlF G (i + 1) = ceF G 1 (i + 1) := by
        unfold wlF ceF at *
        by_cases z : numF (G 4) (vN G) (i + 1) 0 (G 47 0 - 1) ≠ 0
        · rw [if_pos z, if_pos z]
        · rw [if_neg z] at f_6 ⊢
          rw [if_neg z, if_pos rfl] at *
          by_cases y : frF G (vN G (i + 1)) (i + 1 + 1) ≠ 0
          · rw [if_pos y, if_pos y]
          · rw [if_neg y] at f_6; exact absurd rfl f_6
      rw [hq]
      exact ⟨f_6, rfl, NoP.tr (hr_1.1.l.p.tr (Px.rf.w (by omega))) no_6.p⟩
theorem dX12_readFigure_0 : decode mX12_readFigure.2.1 0 = .ok (.aload_n 0, 1) := by decide +kernel
theorem dX12_readFigure_1 : decode mX12_readFigure.2.1 1 = .ok (.iconst 2, 1) := by decide +kernel
theorem dX12_readFigure_2 : decode mX12_readFigure.2.1 2 = .ok (.bipush 6, 2) := by decide +kernel
theorem dX12_readFigure_4 : decode mX12_readFigure.2.1 4 = .ok (.invokevirtual 196, 3) := by decide +kernel
theorem dX12_readFigure_7 : decode mX12_readFigure.2.1 7 = .ok (.ifCond .ne 5, 3) := by decide +kernel
theorem dX12_readFigure_10 : decode mX12_readFigure.2.1 10 = .ok (.iconst 0, 1) := by decide +kernel
theorem dX12_readFigure_11 : decode mX12_readFigure.2.1 11 = .ok (.ireturn, 1) := by decide +kernel
theorem dX12_readFigure_12 : decode mX12_readFigure.2.1 12 = .ok (.aload_n 0, 1) := by decide +kernel
theorem dX12_readFigure_13 : decode mX12_readFigure.2.1 13 = .ok (.getfield 101, 3) := by decide +kernel
theorem dX12_readFigure_16 : decode mX12_readFigure.2.1 16 = .ok (.iconst 2, 1) := by decide +kernel
theorem dX12_readFigure_17 : decode mX12_readFigure.2.1 17 = .ok (.iaload, 1) := by decide +kernel
theorem dX12_readFigure_18 : decode mX12_readFigure.2.1 18 = .ok (.istore_n 1, 1) := by decide +kernel
theorem dX12_readFigure_19 : decode mX12_readFigure.2.1 19 = .ok (.aload_n 0, 1) := by decide +kernel
theorem dX12_readFigure_20 : decode mX12_readFigure.2.1 20 = .ok (.iload_n 1, 1) := by decide +kernel
theorem dX12_readFigure_21 : decode mX12_readFigure.2.1 21 = .ok (.invokevirtual 199, 3) := by decide +kernel
theorem dX12_readFigure_24 : decode mX12_readFigure.2.1 24 = .ok (.ifCond .eq 37, 3) := by decide +kernel
theorem dX12_readFigure_27 : decode mX12_readFigure.2.1 27 = .ok (.aload_n 0, 1) := by decide +kernel
theorem dX12_readFigure_28 : decode mX12_readFigure.2.1 28 = .ok (.iconst 5, 1) := by decide +kernel
theorem dX12_readFigure_29 : decode mX12_readFigure.2.1 29 = .ok (.iload_n 1, 1) := by decide +kernel
theorem dX12_readFigure_30 : decode mX12_readFigure.2.1 30 = .ok (.iadd, 1) := by decide +kernel
theorem dX12_readFigure_31 : decode mX12_readFigure.2.1 31 = .ok (.aload_n 0, 1) := by decide +kernel
theorem dX12_readFigure_32 : decode mX12_readFigure.2.1 32 = .ok (.iconst 0, 1) := by decide +kernel
theorem dX12_readFigure_33 : decode mX12_readFigure.2.1 33 = .ok (.bipush 7, 2) := by decide +kernel
theorem dX12_readFigure_35 : decode mX12_readFigure.2.1 35 = .ok (.invokevirtual 181, 3) := by decide +kernel
theorem dX12_readFigure_38 : decode mX12_readFigure.2.1 38 = .ok (.invokevirtual 185, 3) := by decide +kernel
theorem dX12_readFigure_41 : decode mX12_readFigure.2.1 41 = .ok (.ifCond .eq 20, 3) := by decide +kernel
theorem dX12_readFigure_44 : decode mX12_readFigure.2.1 44 = .ok (.aload_n 0, 1) := by decide +kernel
theorem dX12_readFigure_45 : decode mX12_readFigure.2.1 45 = .ok (.bipush 11, 2) := by decide +kernel
theorem dX12_readFigure_47 : decode mX12_readFigure.2.1 47 = .ok (.iload_n 1, 1) := by decide +kernel
theorem dX12_readFigure_48 : decode mX12_readFigure.2.1 48 = .ok (.iadd, 1) := by decide +kernel
theorem dX12_readFigure_49 : decode mX12_readFigure.2.1 49 = .ok (.aload_n 0, 1) := by decide +kernel
theorem dX12_readFigure_50 : decode mX12_readFigure.2.1 50 = .ok (.iconst 0, 1) := by decide +kernel
theorem dX12_readFigure_51 : decode mX12_readFigure.2.1 51 = .ok (.iconst 5, 1) := by decide +kernel
theorem dX12_readFigure_52 : decode mX12_readFigure.2.1 52 = .ok (.invokevirtual 181, 3) := by decide +kernel
theorem dX12_readFigure_55 : decode mX12_readFigure.2.1 55 = .ok (.invokevirtual 185, 3) := by decide +kernel
theorem dX12_readFigure_58 : decode mX12_readFigure.2.1 58 = .ok (.ifCond .ne 5, 3) := by decide +kernel
theorem dX12_readFigure_61 : decode mX12_readFigure.2.1 61 = .ok (.iconst 0, 1) := by decide +kernel
theorem dX12_readFigure_62 : decode mX12_readFigure.2.1 62 = .ok (.ireturn, 1) := by decide +kernel
theorem dX12_readFigure_63 : decode mX12_readFigure.2.1 63 = .ok (.aload_n 0, 1) := by decide +kernel
theorem dX12_readFigure_64 : decode mX12_readFigure.2.1 64 = .ok (.getfield 101, 3) := by decide +kernel
theorem dX12_readFigure_67 : decode mX12_readFigure.2.1 67 = .ok (.iconst 2, 1) := by decide +kernel
theorem dX12_readFigure_68 : decode mX12_readFigure.2.1 68 = .ok (.dup2, 1) := by decide +kernel
theorem dX12_readFigure_69 : decode mX12_readFigure.2.1 69 = .ok (.iaload, 1) := by decide +kernel
theorem dX12_readFigure_70 : decode mX12_readFigure.2.1 70 = .ok (.iconst 1, 1) := by decide +kernel
theorem dX12_readFigure_71 : decode mX12_readFigure.2.1 71 = .ok (.iadd, 1) := by decide +kernel
theorem dX12_readFigure_72 : decode mX12_readFigure.2.1 72 = .ok (.iastore, 1) := by decide +kernel
theorem dX12_readFigure_73 : decode mX12_readFigure.2.1 73 = .ok (.iconst 1, 1) := by decide +kernel
theorem dX12_readFigure_74 : decode mX12_readFigure.2.1 74 = .ok (.ireturn, 1) := by decide +kernel
set_option maxRecDepth 4000 in
theorem ev_X12_readFigure {m : Mem} {G : Mem} {t : Int → Int} {kw : Int → Int} {n : Int} {lim : Int} {i : Int} (htm : TM G t kw n lim m i) (h2 : 2 ≤ G 4 i) (hdr : DrOk G) (hra : RdA G m) : Ev 0 5 mX12_readFigure [vr 214] m (fun r m' => LnM G t kw n lim m m' (fgF G (i + 1)) (fgX G (i + 1)) r) := by
  refine Ev.of (L := [vr 214, un]) (by decide +kernel) rfl (Nat.le_of_ble_eq_true rfl) rfl (fun t ht => by cases ht; first | exact Or.inl rfl | exact Or.inr (Or.inl rfl) | exact Or.inr (Or.inr rfl)) (fun hcan => ?_)
  obtain ⟨hdn, hst, hdr3, hdr4, hdr5, hdr6, hdr7⟩ := id hdr
  obtain ⟨⟨hd0, hd1⟩, ⟨hd2, hd3⟩, ⟨hd4, hd5⟩, ⟨hd6, hd7⟩, ⟨hd8, hd9⟩, hdf, hdp, hdq⟩ := id hdn
  obtain ⟨⟨hs0, hs1⟩, ⟨hs2, hs3⟩, hsw, hsp, hsd, hsz⟩ := id hst
  have hkd := htm.kd
  refine go_aload_n dX12_readFigure_0 rfl ?_
  refine go_iconst dX12_readFigure_1 ?_
  refine go_bipush dX12_readFigure_2 (by decide) ?_
  refine go_callV_z (as := [vi 2, vi 6]) (S := []) (b := 214) (ev_X12_readFirst (m := m) (k := 2) (mo := 6) (G := G) (t := t) (kw := kw) (n := n) (lim := lim) (i := i) htm (by first | assumption | omega | exact ⟨by omega, by omega⟩ | (constructor <;> omega)) (by first | assumption | omega | exact ⟨by omega, by omega⟩ | (constructor <;> omega)) (by first | assumption | omega | exact ⟨by omega, by omega⟩ | (constructor <;> omega))) rfl dX12_readFigure_4 cv_12_196 rfl rfl ob_214 rfl (by decide) (Nat.le_of_ble_eq_true rfl) (fun r_4 m_4 hr_4 ho_4 => ?_)
  rcases hr_4 with ⟨f_4, e_4, no_4⟩ | ⟨f_4, e_4, ok_4⟩
  · refine go_if_ne (tgt := 12) dX12_readFigure_7 (by decide) ⟨by omega, by omega⟩ (fun h_7 => ?_) (fun h_7 => ?_)
    · exfalso; omega
    · refine go_iconst dX12_readFigure_10 ?_
      exact go_ret (v := 0) rfl dX12_readFigure_11 (okZ (by first | exact Or.inl rfl | exact Or.inr rfl | assumption | omega)) (Or.inr (by have hq : fgF G (i + 1) = (4, i + 1 - 1) := (by unfold fgF; rw [if_pos (by rw [hra.1.1.2.2.1] at f_4; omega)]); rw [hq, show i + 1 - 1 = i by omega]; exact ⟨(show (4 : Int) ≠ 0 by decide), rfl, no_4.p⟩))
  · refine go_if_ne (tgt := 12) dX12_readFigure_7 (by decide) ⟨by omega, by omega⟩ (fun h_7 => ?_) (fun h_7 => ?_)
    · have hl6 : G 47 2 < 6 := by rw [hra.1.1.2.2.1] at f_4; omega
      have hra4 := hra.1.l ok_4.1
      refine go_aload_n dX12_readFigure_12 rfl ?_
      refine go_getf_p (b := 217) dX12_readFigure_13 fl_12_101 ob_214 rfl pt_214_15 ?_
      refine go_iconst dX12_readFigure_16 ?_
      refine go_iaload dX12_readFigure_17 ar_217 (by omega) (by omega) (fun he_17 => ?_)
      rw [show (m_4 217 2 : Int) = (G 47 2) from hra4.1.2.2.1] at he_17 ⊢
      refine go_istore_n (L' := [vr 214, vi (G 47 2)]) dX12_readFigure_18 (by decide) rfl rfl ?_
      refine go_aload_n dX12_readFigure_19 rfl ?_
      refine go_iload_n dX12_readFigure_20 rfl ?_
      refine go_callV_z (as := [vi (G 47 2)]) (S := []) (b := 214) (ev_X12_readNew (m := m_4) (slot := (G 47 2)) (G := G) (t := t) (kw := kw) (n := n) (lim := lim) (i := (i + 1)) ok_4.2.2 hdr hra4 (by first | assumption | omega | exact ⟨by omega, by omega⟩ | (constructor <;> omega))) rfl dX12_readFigure_21 cv_12_199 rfl rfl ob_214 rfl (by decide) (Nat.le_of_ble_eq_true rfl) (fun r_21 m_21 hr_21 ho_21 => ?_)
      rcases hr_21 with ⟨f_21, e_21, w_21, hw_21, ok_21⟩ | ⟨f_21, e_21, no_21⟩
      · refine go_if_eq (tgt := 61) dX12_readFigure_24 (by decide) ⟨by omega, by omega⟩ (fun h_24 => ?_) (fun h_24 => ?_)
        · exfalso; omega
        · refine go_aload_n dX12_readFigure_27 rfl ?_
          refine go_iconst dX12_readFigure_28 ?_
          refine go_iload_n dX12_readFigure_29 rfl ?_
          refine go_iadd dX12_readFigure_30 ?_
          refine go_aload_n dX12_readFigure_31 rfl ?_
          refine go_iconst dX12_readFigure_32 ?_
          refine go_bipush dX12_readFigure_33 (by decide) ?_
          refine go_callV_z (as := [vi 0, vi 7]) (S := [vi (5 + (G 47 2)), vr 214]) (b := 214) (ev_X12_readNumber (m := m_21) (lo := 0) (hi := 7) (G := G) (t := t) (kw := kw) (n := n) (lim := lim) (i := (i + 1 + 1)) ok_21.2.2 (by first | assumption | omega | exact ⟨by omega, by omega⟩ | (constructor <;> omega)) (by first | assumption | omega | exact ⟨by omega, by omega⟩ | (constructor <;> omega))) rfl dX12_readFigure_35 cv_12_181 rfl rfl ob_214 rfl (by decide) (Nat.le_of_ble_eq_true rfl) (fun r_35 m_35 hr_35 ho_35 => ?_)
          rcases hr_35 with ⟨f_35, e_35, ok_35, v_35⟩ | ⟨f_35, e_35, no_35⟩
          · refine go_callV_z (as := [vi (5 + (G 47 2)), vi r_35]) (S := []) (b := 214) (ev_X12_put (m := m_35) (k := (5 + (G 47 2))) (g := r_35) (by omega) (by first | assumption | omega | exact ⟨by omega, by omega⟩ | (constructor <;> omega))) rfl dX12_readFigure_38 cv_12_185 rfl rfl ob_214 rfl (by decide) (Nat.le_of_ble_eq_true rfl) (fun r_38 m_38 hr_38 ho_38 => ?_)
            obtain ⟨e_38, hm_38⟩ := hr_38
            first | rw [if_pos e_35] at hm_38 | rw [if_neg (by omega)] at hm_38
            refine go_if_eq (tgt := 61) dX12_readFigure_41 (by decide) ⟨by omega, by omega⟩ (fun h_41 => ?_) (fun h_41 => ?_)
            · exfalso; omega
            · refine go_aload_n dX12_readFigure_44 rfl ?_
              refine go_bipush dX12_readFigure_45 (by decide) ?_
              refine go_iload_n dX12_readFigure_47 rfl ?_
              refine go_iadd dX12_readFigure_48 ?_
              refine go_aload_n dX12_readFigure_49 rfl ?_
              refine go_iconst dX12_readFigure_50 ?_
              refine go_iconst dX12_readFigure_51 ?_
              refine go_callV_z (as := [vi 0, vi 5]) (S := [vi (11 + (G 47 2)), vr 214]) (b := 214) (ev_X12_readNumber (m := m_38) (lo := 0) (hi := 5) (G := G) (t := t) (kw := kw) (n := n) (lim := lim) (i := (i + 1 + 2)) (by rw [hm_38]; have z := ok_35.2.2; rw [show i + 1 + 1 + 1 = i + 1 + 2 by omega] at z; exact z.w (by decide) (by omega)) (by first | assumption | omega | exact ⟨by omega, by omega⟩ | (constructor <;> omega)) (by first | assumption | omega | exact ⟨by omega, by omega⟩ | (constructor <;> omega))) rfl dX12_readFigure_52 cv_12_181 rfl rfl ob_214 rfl (by decide) (Nat.le_of_ble_eq_true rfl) (fun r_52 m_52 hr_52 ho_52 => ?_)
              rcases hr_52 with ⟨f_52, e_52, ok_52, v_52⟩ | ⟨f_52, e_52, no_52⟩
              · refine go_callV_z (as := [vi (11 + (G 47 2)), vi r_52]) (S := []) (b := 214) (ev_X12_put (m := m_52) (k := (11 + (G 47 2))) (g := r_52) (by omega) (by first | assumption | omega | exact ⟨by omega, by omega⟩ | (constructor <;> omega))) rfl dX12_readFigure_55 cv_12_185 rfl rfl ob_214 rfl (by decide) (Nat.le_of_ble_eq_true rfl) (fun r_55 m_55 hr_55 ho_55 => ?_)
                obtain ⟨e_55, hm_55⟩ := hr_55
                first | rw [if_pos e_52] at hm_55 | rw [if_neg (by omega)] at hm_55
                refine go_if_ne (tgt := 63) dX12_readFigure_58 (by decide) ⟨by omega, by omega⟩ (fun h_58 => ?_) (fun h_58 => ?_)
                · refine go_aload_n dX12_readFigure_63 rfl ?_
                  refine go_getf_p (b := 217) dX12_readFigure_64 fl_12_101 ob_214 rfl pt_214_15 ?_
                  refine go_iconst dX12_readFigure_67 ?_
                  refine go_dup2_ir dX12_readFigure_68 ?_
                  refine go_iaload dX12_readFigure_69 ar_217 (by omega) (by omega) (fun he_69 => ?_)
                  rw [show (m_55 217 2 : Int) = (G 47 2) from by rw [hm_55, wr_ni (by omega), ok_52.1.1 217 (by decide), hm_38, wr_ni (by omega), ok_35.1.1 217 (by decide), ok_21.1.1 217 (by decide), wr_na (by decide)]; exact hra4.1.2.2.1] at he_69 ⊢
                  refine go_iconst dX12_readFigure_70 ?_
                  refine go_iadd dX12_readFigure_71 ?_
                  refine go_iastore dX12_readFigure_72 ar_217 (by omega) (by omega) ⟨by omega, by omega⟩ ?_
                  refine go_iconst dX12_readFigure_73 ?_
                  refine go_ret (v := 1) rfl dX12_readFigure_74 (okZ (by first | exact Or.inl rfl | exact Or.inr rfl | assumption | omega)) ?_
                  have hz : ¬ 6 ≤ G 47 2 := by omega
                  refine Or.inl ?_
                  have hq : fgF G (i + 1) = (0, i + 1 + 3) := by unfold fgF; rw [if_neg hz, if_neg (by omega), if_neg (by omega), if_neg (by omega)]
                  rw [hq]
                  have k21 : Px m m_21 := ok_4.1.p.tr ((Px.rf.w (by omega)).tr ok_21.1.p)
                  have k38 : Px m m_38 := k21.tr (ok_35.1.p.tr (by rw [hm_38]; exact Px.rf.w (by omega)))
                  have k55 : Px m m_55 := k38.tr (ok_52.1.p.tr (by rw [hm_55]; exact Px.rf.w (by omega)))
                  refine ⟨rfl, rfl, k55.w (by omega), ?_, ?_, ?_, ?_, ?_⟩
                  · rw [wr_na (by decide), hm_55, wr_na (by decide), ok_52.2.1, hm_38, wr_na (by decide), ok_35.2.1, ok_21.2.1, wr_na (by decide), ok_4.2.1]
                  · have z := ok_52.2.2; rw [show i + 1 + 2 + 1 = i + 1 + 3 by omega] at z; rw [hm_55]; exact (z.w (by decide) (by omega)).w (by decide) (by omega)
                  · refine hra4.fg hdn hw_21 hl6 (fun j => ?_) (fun j => ?_)
                    · rw [wr_rowat, hm_55, wr_rowat, v_52, ok_52.1.1 217 (by decide), hm_38, wr_rowat, v_35, ok_35.1.1 217 (by decide), ok_21.1.1 217 (by decide), wr_row (by decide)]
                    · rw [wr_na (by decide), hm_55, wr_na (by decide), ok_52.1.1 222 (by decide), hm_38, wr_na (by decide), ok_35.1.1 222 (by decide), ok_21.1.1 222 (by decide), wr_rowat]
                  · rw [wr_na (by decide), hm_55, wr_na (by decide), ok_52.1.2 23 (by omega), hm_38, wr_na (by decide), ok_35.1.2 23 (by omega), ok_21.1.2 23 (by omega), wr_na (by decide), ok_4.1.2 23 (by omega), hra.2.1]; unfold fgX; simp (disch := decide) only [wr_na]
                  · rw [wr_na (by decide), hm_55, wr_na (by decide), ok_52.1.2 24 (by omega), hm_38, wr_na (by decide), ok_35.1.2 24 (by omega), ok_21.1.2 24 (by omega), wr_na (by decide), ok_4.1.2 24 (by omega), hra.2.2]; unfold fgX; simp (disch := decide) only [wr_na]
                · exfalso; omega
              · refine go_callV_z (as := [vi (11 + (G 47 2)), vi r_52]) (S := []) (b := 214) (ev_X12_put (m := m_52) (k := (11 + (G 47 2))) (g := r_52) (by omega) (by first | assumption | omega | exact ⟨by omega, by omega⟩ | (constructor <;> omega))) rfl dX12_readFigure_55 cv_12_185 rfl rfl ob_214 rfl (by decide) (Nat.le_of_ble_eq_true rfl) (fun r_55 m_55 hr_55 ho_55 => ?_)
                obtain ⟨e_55, hm_55⟩ := hr_55
                first | rw [if_pos e_52] at hm_55 | rw [if_neg (by omega)] at hm_55
                refine go_if_ne (tgt := 63) dX12_readFigure_58 (by decide) ⟨by omega, by omega⟩ (fun h_58 => ?_) (fun h_58 => ?_)
                · exfalso; omega
                · refine go_iconst dX12_readFigure_61 ?_
                  refine go_ret (v := 0) rfl dX12_readFigure_62 (okZ (by first | exact Or.inl rfl | exact Or.inr rfl | assumption | omega)) ?_
                  have hz : ¬ 6 ≤ G 47 2 := by omega
                  refine Or.inr ?_
                  first
                  | (have hq : fgF G (i + 1) = (nmF G (i + 1), i + 1) := by unfold fgF; rw [if_neg hz, if_pos f_21]
                     rw [hq]
                     exact ⟨f_21, rfl, NoP.tr ok_4.1.p no_21.p⟩)
                  | (have hq : fgF G (i + 1) = (numF (G 4) (vN G) (i + 1 + 1) 0 7, i + 1 + 1) := by unfold fgF; rw [if_neg hz, if_neg (by omega), if_pos f_35]
                     rw [hq]
                     refine ⟨f_35, rfl, NoP.tr (ok_4.1.p.tr ((Px.rf.w (by omega)).tr ok_21.1.p)) ?_⟩
                     rw [hm_38]; exact no_35.p)
                  | (have hq : fgF G (i + 1) = (numF (G 4) (vN G) (i + 1 + 2) 0 5, i + 1 + 2) := by unfold fgF; rw [if_neg hz, if_neg (by omega), if_neg (by omega), if_pos f_52]
                     rw [hq]
                     have k38 : Px m m_38 := (ok_4.1.p.tr ((Px.rf.w (by omega)).tr ok_21.1.p)).tr (ok_35.1.p.tr (by rw [hm_38]; exact Px.rf.w (by omega)))
                     refine ⟨f_52, rfl, NoP.tr k38 ?_⟩
                     rw [hm_55]; exact no_52.p)
          · refine go_callV_z (as := [vi (5 + (G 47 2)), vi r_35]) (S := []) (b := 214) (ev_X12_put (m := m_35) (k := (5 + (G 47 2))) (g := r_35) (by omega) (by first | assumption | omega | exact ⟨by omega, by omega⟩ | (constructor <;> omega))) rfl dX12_readFigure_38 cv_12_185 rfl rfl ob_214 rfl (by decide) (Nat.le_of_ble_eq_true rfl) (fun r_38 m_38 hr_38 ho_38 => ?_)
            obtain ⟨e_38, hm_38⟩ := hr_38
            first | rw [if_pos e_35] at hm_38 | rw [if_neg (by omega)] at hm_38
            refine go_if_eq (tgt := 61) dX12_readFigure_41 (by decide) ⟨by omega, by omega⟩ (fun h_41 => ?_) (fun h_41 => ?_)
            · refine go_iconst dX12_readFigure_61 ?_
              refine go_ret (v := 0) rfl dX12_readFigure_62 (okZ (by first | exact Or.inl rfl | exact Or.inr rfl | assumption | omega)) ?_
              have hz : ¬ 6 ≤ G 47 2 := by omega
              refine Or.inr ?_
              first
              | (have hq : fgF G (i + 1) = (nmF G (i + 1), i + 1) := by unfold fgF; rw [if_neg hz, if_pos f_21]
                 rw [hq]
                 exact ⟨f_21, rfl, NoP.tr ok_4.1.p no_21.p⟩)
              | (have hq : fgF G (i + 1) = (numF (G 4) (vN G) (i + 1 + 1) 0 7, i + 1 + 1) := by unfold fgF; rw [if_neg hz, if_neg (by omega), if_pos f_35]
                 rw [hq]
                 refine ⟨f_35, rfl, NoP.tr (ok_4.1.p.tr ((Px.rf.w (by omega)).tr ok_21.1.p)) ?_⟩
                 rw [hm_38]; exact no_35.p)
              | (have hq : fgF G (i + 1) = (numF (G 4) (vN G) (i + 1 + 2) 0 5, i + 1 + 2) := by unfold fgF; rw [if_neg hz, if_neg (by omega), if_neg (by omega), if_pos f_52]
                 rw [hq]
                 have k38 : Px m m_38 := (ok_4.1.p.tr ((Px.rf.w (by omega)).tr ok_21.1.p)).tr (ok_35.1.p.tr (by rw [hm_38]; exact Px.rf.w (by omega)))
                 refine ⟨f_52, rfl, NoP.tr k38 ?_⟩
                 rw [hm_55]; exact no_52.p)
            · exfalso; omega
      · refine go_if_eq (tgt := 61) dX12_readFigure_24 (by decide) ⟨by omega, by omega⟩ (fun h_24 => ?_) (fun h_24 => ?_)
        · refine go_iconst dX12_readFigure_61 ?_
          refine go_ret (v := 0) rfl dX12_readFigure_62 (okZ (by first | exact Or.inl rfl | exact Or.inr rfl | assumption | omega)) ?_
          have hz : ¬ 6 ≤ G 47 2 := by omega
          refine Or.inr ?_
          first
          | (have hq : fgF G (i + 1) = (nmF G (i + 1), i + 1) := by unfold fgF; rw [if_neg hz, if_pos f_21]
             rw [hq]
             exact ⟨f_21, rfl, NoP.tr ok_4.1.p no_21.p⟩)
          | (have hq : fgF G (i + 1) = (numF (G 4) (vN G) (i + 1 + 1) 0 7, i + 1 + 1) := by unfold fgF; rw [if_neg hz, if_neg (by omega), if_pos f_35]
             rw [hq]
             refine ⟨f_35, rfl, NoP.tr (ok_4.1.p.tr ((Px.rf.w (by omega)).tr ok_21.1.p)) ?_⟩
             rw [hm_38]; exact no_35.p)
          | (have hq : fgF G (i + 1) = (numF (G 4) (vN G) (i + 1 + 2) 0 5, i + 1 + 2) := by unfold fgF; rw [if_neg hz, if_neg (by omega), if_neg (by omega), if_pos f_52]
             rw [hq]
             have k38 : Px m m_38 := (ok_4.1.p.tr ((Px.rf.w (by omega)).tr ok_21.1.p)).tr (ok_35.1.p.tr (by rw [hm_38]; exact Px.rf.w (by omega)))
             refine ⟨f_52, rfl, NoP.tr k38 ?_⟩
             rw [hm_55]; exact no_52.p)
        · exfalso; omega
    · exfalso; omega
