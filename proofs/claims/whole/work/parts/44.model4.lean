/-! ===== the reference: draws, odds, small answers ===== -/
def actIf (G : Mem) (d st : Nat) (w p f s : Int) : Mem := if whyG G d st w p f s = 0 then actG G d st w p f s else G
theorem actIf_0 {G : Mem} {d st : Nat} {p f s : Int} : actIf G d st 0 p f s = sayIf G d st p f s := rfl
theorem actIf_1 {G : Mem} {d st : Nat} {p f s : Int} : actIf G d st 1 p f s = kickIf G d st p s := rfl
theorem actIf_2 {G : Mem} {d st : Nat} {p f s : Int} : actIf G d st 2 p f s = restIf G d st p := by
  have e1 : whyG G d st 2 p f s = if G (st + 5) p = G (d + 5) p then 1 else 0 := rfl
  have e2 : actG G d st 2 p f s = restC G d st p := rfl
  unfold actIf restIf
  rw [e1, e2]
  by_cases h : G (st + 5) p = G (d + 5) p
  · rw [if_pos h, if_neg (by decide), if_pos h]
  · rw [if_neg h, if_pos rfl, if_neg h]
/-- what is so, and the seed -/
def Sd (m m' : Mem) : Prop := (∀ b : Nat, b ≠ 214 → b ≠ 216 → m' b = m b) ∧ (∀ j : Int, j ≠ 38 → m' 214 j = m 214 j) ∧ ∀ j : Int, (j < 123 ∨ 232 ≤ j) → m' 216 j = m 216 j
theorem Sd.rf {m : Mem} : Sd m m := ⟨fun _ _ _ => rfl, fun _ _ => rfl, fun _ _ => rfl⟩
theorem Sd.tr {m n o : Mem} (h : Sd m n) (h' : Sd n o) : Sd m o := ⟨fun b h1 h2 => (h'.1 b h1 h2).trans (h.1 b h1 h2), fun j hj => (h'.2.1 j hj).trans (h.2.1 j hj), fun j hj => (h'.2.2 j hj).trans (h.2.2 j hj)⟩
theorem Sd.so {m n : Mem} (h : So m n) : Sd m n := ⟨fun b _ h2 => h.1 b h2, fun j _ => by rw [h.1 214 (by decide)], h.2⟩
theorem Sd.w {m : Mem} {x : Int} : Sd m (wr m 214 38 x) := ⟨fun b h1 _ => wr_row h1, fun j hj => wr_ni hj, fun j _ => wr_na (by decide)⟩
theorem Bg.g {G G' : Mem} {d st : Nat} {N : Int → Int} (h : Bg G d st N) (hd : ∀ k, k < 10 → G' (d + k) = G (d + k)) (hs : ∀ k, k < 8 → G' (st + k) = G (st + k)) : Bg G' d st N := by
  have g0 : G' d = G d := hd 0 (by omega)
  have s0 : G' st = G st := hs 0 (by omega)
  unfold Bg BgD BgS at *
  rw [g0, hd 2 (by omega), hd 3 (by omega), hd 5 (by omega), hd 7 (by omega), hd 8 (by omega), hd 9 (by omega), s0, hs 1 (by omega), hs 2 (by omega), hs 3 (by omega), hs 4 (by omega), hs 5 (by omega), hs 6 (by omega), hs 7 (by omega)]
  exact h
theorem Bg.sm {G G' : Mem} {d st d' st' : Nat} {N : Int → Int} (h : Bg G d st N) (hs : SmW G d st G' d' st') : Bg G' d' st' N := by
  have g0 : G' d' = G d := hs.1 0 (by omega)
  have s0 : G' st' = G st := hs.2 0 (by omega)
  unfold Bg BgD BgS at *
  rw [g0, hs.1 2 (by omega), hs.1 3 (by omega), hs.1 5 (by omega), hs.1 7 (by omega), hs.1 8 (by omega), hs.1 9 (by omega), s0, hs.2 1 (by omega), hs.2 2 (by omega), hs.2 3 (by omega), hs.2 4 (by omega), hs.2 5 (by omega), hs.2 6 (by omega), hs.2 7 (by omega)]
  exact h
theorem Bg.drw {G : Mem} {w d st : Nat} {N : Int → Int} (h : Bg G d st N) (hw : isWd w d st) : Bg (drw G w) d st N := h.g (fun k hk => wr_row (by have := hw.sw; omega)) (fun k hk => wr_row (by have := hw.sw; omega))
theorem drv_w {G : Mem} {w : Nat} {x n : Int} (h : G w 3 = x) : drv G w n = iushr (lcg x) 8 % n := by unfold drv; rw [h]
theorem drw_w {G : Mem} {w : Nat} {x : Int} (h : G w 3 = x) : drw G w w 3 = lcg x := by unfold drw; rw [wr_self, h]
theorem lcg_R (x : Int) : InR (lcg x) := w32_R _
theorem irem8_b (x : Int) {n : Int} (h : 0 < n) (hn : n ≤ 8) : 0 ≤ iushr x 8 % n ∧ iushr x 8 % n < n := ⟨Int.emod_nonneg _ (by omega), Int.emod_lt_of_pos _ h⟩
theorem passC_w {G : Mem} {w d st : Nat} {n : Int} (hw : w < st) : passC G d st n w = G w := passC_r (by omega) (by omega)
def OdE (m m1 : Mem) : Prop := (∀ b : Nat, b ≠ 214 → b ≠ 220 → m1 b = m b) ∧ (∀ j : Int, j ≠ 38 → m1 214 j = m 214 j)
theorem OdE.rf {m : Mem} : OdE m m := ⟨fun _ _ _ => rfl, fun _ _ => rfl⟩
theorem OdE.back {m m1 m2 : Mem} (h : OdE m m1) (ha : ∀ j : Int, 0 ≤ j → j < 109 → m1 220 j = m 216 (123 + j)) (hs : Sd m1 m2) : OdE m (mov m2 220 216 0 123 109) ∧ (∀ j : Int, 0 ≤ j → j < 109 → mov m2 220 216 0 123 109 220 j = m 216 (123 + j)) ∧ mov m2 220 216 0 123 109 216 = m 216 := by
  have e220 : m2 220 = m1 220 := hs.1 220 (by decide) (by decide)
  have e216 : m1 216 = m 216 := h.1 216 (by decide) (by decide)
  have k : mov m2 220 216 0 123 109 216 = m 216 := by
    funext j
    by_cases q : 123 ≤ j ∧ j < 123 + 109
    · rw [mov_in q.1 q.2, e220, ha _ (by omega) (by omega), show 123 + (0 + (j - 123)) = j by omega]
    · rw [mov_out (by omega), hs.2.2 j (by omega), e216]
  refine ⟨⟨fun b h1 h2 => ?_, fun j hj => ?_⟩, fun j h0 h1 => ?_, k⟩
  · by_cases q : b = 216
    · rw [q]; exact k
    · rw [mov_row q, hs.1 b h1 q]; exact h.1 b h1 h2
  · rw [mov_row (by decide), hs.2.1 j hj]; exact h.2 j hj
  · rw [mov_row (by decide), e220]; exact ha j h0 h1
theorem rows_sm {G : Mem} : SmW G 8 18 (rows G 32 18 8) 8 32 := ⟨fun k hk => rows_out (by omega), fun k hk => rows_in hk⟩
def comC (m : Mem) (x : Int) : Mem := fun b j => if b = 214 ∧ j = 2 then m 214 2 + 4 else if b = 215 ∧ m 214 2 ≤ j ∧ j < m 214 2 + 4 then iand (iushr x (24 - 8 * (j - m 214 2))) 255 else m b j
def comK (m : Mem) (x k : Int) : Mem := fun b j => if b = 214 ∧ j = 2 then m 214 2 + k else if b = 215 ∧ m 214 2 ≤ j ∧ j < m 214 2 + k then iand (iushr x (24 - 8 * (j - m 214 2))) 255 else m b j
theorem comK_0 (m : Mem) (x : Int) : comK m x 0 = m := by
  funext b j; unfold comK
  by_cases h : b = 214 ∧ j = 2
  · rw [if_pos h, h.1, h.2]; omega
  · rw [if_neg h, if_neg (by omega)]
theorem comK_s {m : Mem} {x k : Int} (h : 0 ≤ k) : wr (wr (comK m x k) 215 (m 214 2 + k) (iand (iushr x (24 - 8 * k)) 255)) 214 2 (m 214 2 + k + 1) = comK m x (k + 1) := by
  funext b j; unfold wr comK
  by_cases h1 : b = 214 ∧ j = 2
  · rw [if_pos h1, if_pos h1]; omega
  · rw [if_neg h1, if_neg h1, if_neg h1]
    by_cases h2 : b = 215 ∧ j = m 214 2 + k
    · rw [if_pos h2, if_pos (by omega), h2.2, show m 214 2 + k - m 214 2 = k by omega]
    · rw [if_neg h2]
      by_cases h3 : b = 215 ∧ m 214 2 ≤ j ∧ j < m 214 2 + k
      · rw [if_pos h3, if_pos (by omega)]
      · rw [if_neg h3, if_neg (by omega)]
def imgC (m : Mem) (k : Int) : Mem := wr (mov (mov (wr m 214 0 0) 216 218 0 (474 * k) 474) 221 223 0 (16 * k) 16) 224 k 1
def resC (m : Mem) (k : Int) : Mem := wr (mov (mov (wr m 214 0 0) 218 216 (474 * k) 0 474) 223 221 (16 * k) 0 16) 214 25 0

theorem dX12_draw_0 : decode mX12_draw.2.1 0 = .ok (.aload_n 0, 1) := by decide +kernel
theorem dX12_draw_1 : decode mX12_draw.2.1 1 = .ok (.aload_n 0, 1) := by decide +kernel
theorem dX12_draw_2 : decode mX12_draw.2.1 2 = .ok (.getfield 374, 3) := by decide +kernel
theorem dX12_draw_5 : decode mX12_draw.2.1 5 = .ok (.ldc_w 377, 3) := by decide +kernel
theorem dX12_draw_8 : decode mX12_draw.2.1 8 = .ok (.imul, 1) := by decide +kernel
theorem dX12_draw_9 : decode mX12_draw.2.1 9 = .ok (.sipush 12345, 3) := by decide +kernel
theorem dX12_draw_12 : decode mX12_draw.2.1 12 = .ok (.iadd, 1) := by decide +kernel
theorem dX12_draw_13 : decode mX12_draw.2.1 13 = .ok (.putfield 374, 3) := by decide +kernel
theorem dX12_draw_16 : decode mX12_draw.2.1 16 = .ok (.aload_n 0, 1) := by decide +kernel
theorem dX12_draw_17 : decode mX12_draw.2.1 17 = .ok (.getfield 374, 3) := by decide +kernel
theorem dX12_draw_20 : decode mX12_draw.2.1 20 = .ok (.bipush 8, 2) := by decide +kernel
theorem dX12_draw_22 : decode mX12_draw.2.1 22 = .ok (.iushr, 1) := by decide +kernel
theorem dX12_draw_23 : decode mX12_draw.2.1 23 = .ok (.iload_n 1, 1) := by decide +kernel
theorem dX12_draw_24 : decode mX12_draw.2.1 24 = .ok (.irem, 1) := by decide +kernel
theorem dX12_draw_25 : decode mX12_draw.2.1 25 = .ok (.ireturn, 1) := by decide +kernel
set_option maxRecDepth 4000 in
theorem ev_X12_draw {m : Mem} {n : Int} (hn : 0 < n ∧ n ≤ 8) : Ev 0 1 mX12_draw [vr 214, vi n] m (fun r m' => m' = wr m 214 38 (lcg (m 214 38)) ∧ r = iushr (lcg (m 214 38)) 8 % n) := by
  refine Ev.of (L := [vr 214, vi n]) (by decide +kernel) rfl (Nat.le_of_ble_eq_true rfl) rfl (fun t ht => by cases ht; first | exact Or.inl rfl | exact Or.inr (Or.inl rfl) | exact Or.inr (Or.inr rfl)) (fun hcan => ?_)
  refine go_aload_n dX12_draw_0 rfl ?_
  refine go_aload_n dX12_draw_1 rfl ?_
  refine go_getf_i (ki := 38) dX12_draw_2 fl_12_374 ob_214 rfl rfl (fun hf_2 => ?_)
  refine go_ldcw (x := 1103515245) dX12_draw_5 k_12_377 ?_
  refine go_imul dX12_draw_8 ?_
  refine go_sipush dX12_draw_9 (by decide) ?_
  refine go_iadd dX12_draw_12 ?_
  refine go_wrap ?_
  refine go_putf_i (ki := 38) dX12_draw_13 fw_12_374 ob_214 rfl rfl (w32_R _) ?_
  refine go_aload_n dX12_draw_16 rfl ?_
  refine go_getf_i (ki := 38) dX12_draw_17 fl_12_374 ob_214 rfl rfl (fun hf_17 => ?_)
  rw [show ((wr m 214 38 (w32 (((m 214 38) * 1103515245) + 12345))) 214 38 : Int) = (w32 (((m 214 38) * 1103515245) + 12345)) from by rw [wr_self]] at hf_17 ⊢
  refine go_bipush dX12_draw_20 (by decide) ?_
  refine go_iushr dX12_draw_22 ?_
  refine go_iload_n dX12_draw_23 rfl ?_
  refine go_irem dX12_draw_24 (iushr_R _ _) ⟨by omega, by omega⟩ (iushr8_b _).1 (by omega) ?_
  exact go_ret (v := ((iushr (w32 (((m 214 38) * 1103515245) + 12345)) 8) % n)) rfl dX12_draw_25 (okI (by have h1 := irem8_b (w32 (m 214 38 * 1103515245 + 12345)) hn.1 hn.2; exact ⟨by omega, by omega⟩)) ⟨rfl, rfl⟩
theorem dX12_doIf_0 : decode mX12_doIf.2.1 0 = .ok (.aload_n 0, 1) := by decide +kernel
theorem dX12_doIf_1 : decode mX12_doIf.2.1 1 = .ok (.iload_n 1, 1) := by decide +kernel
theorem dX12_doIf_2 : decode mX12_doIf.2.1 2 = .ok (.iload_n 2, 1) := by decide +kernel
theorem dX12_doIf_3 : decode mX12_doIf.2.1 3 = .ok (.iload_n 3, 1) := by decide +kernel
theorem dX12_doIf_4 : decode mX12_doIf.2.1 4 = .ok (.iload 4, 2) := by decide +kernel
theorem dX12_doIf_6 : decode mX12_doIf.2.1 6 = .ok (.invokevirtual 277, 3) := by decide +kernel
theorem dX12_doIf_9 : decode mX12_doIf.2.1 9 = .ok (.ifCond .ne 12, 3) := by decide +kernel
theorem dX12_doIf_12 : decode mX12_doIf.2.1 12 = .ok (.aload_n 0, 1) := by decide +kernel
theorem dX12_doIf_13 : decode mX12_doIf.2.1 13 = .ok (.iload_n 1, 1) := by decide +kernel
theorem dX12_doIf_14 : decode mX12_doIf.2.1 14 = .ok (.iload_n 2, 1) := by decide +kernel
theorem dX12_doIf_15 : decode mX12_doIf.2.1 15 = .ok (.iload_n 3, 1) := by decide +kernel
theorem dX12_doIf_16 : decode mX12_doIf.2.1 16 = .ok (.iload 4, 2) := by decide +kernel
theorem dX12_doIf_18 : decode mX12_doIf.2.1 18 = .ok (.invokevirtual 283, 3) := by decide +kernel
theorem dX12_doIf_21 : decode mX12_doIf.2.1 21 = .ok (.return_, 1) := by decide +kernel
set_option maxRecDepth 4000 in
theorem ev_X12_doIf {m : Mem} {G : Mem} {d : Nat} {st : Nat} {B : Int} {w : Int} {p : Int} {f : Int} {s : Int} (hb : Bg G d st (m 216)) (hdn : DnOk G d) (hst : StOk G d st B) (hp : 0 ≤ p ∧ p < G d 3) (hx : w = 0 → 0 ≤ f ∧ f < G d 2) (hs : w = 0 ∨ w = 1 → 0 ≤ s ∧ s < 4) (hw : InR w) (hB : 0 ≤ B ∧ B ≤ 300000000) (hsep : d + 10 ≤ st) : Ev 0 6 mX12_doIf [vr 214, vi w, vi p, vi f, vi s] m (fun r m' => So m m' ∧ Bg (actIf G d st w p f s) d st (m' 216)) := by
  refine Ev.of (L := [vr 214, vi w, vi p, vi f, vi s]) (by decide +kernel) rfl (Nat.le_of_ble_eq_true rfl) rfl (fun t ht => by cases ht) (fun hcan => ?_)
  refine go_aload_n dX12_doIf_0 rfl ?_
  refine go_iload_n dX12_doIf_1 rfl ?_
  refine go_iload_n dX12_doIf_2 rfl ?_
  refine go_iload_n dX12_doIf_3 rfl ?_
  refine go_iload dX12_doIf_4 rfl ?_
  refine go_callVp_i (as := [vi w, vi p, vi f, vi s]) (S := []) (b := 214) (ev_X12_why (m := m) (w := w) (p := p) (f := f) (s := s) (G := G) (d := d) (st := st) (B := B) (by first | exact hb | exact hb.w (by decide) | exact (hb.w (by decide)).w (by decide)) (by first | assumption | omega | exact ⟨by omega, by omega⟩ | (constructor <;> omega)) (by first | assumption | omega | exact ⟨by omega, by omega⟩ | (constructor <;> omega)) (by first | assumption | omega | exact ⟨by omega, by omega⟩ | (constructor <;> omega)) (by first | assumption | omega | exact ⟨by omega, by omega⟩ | (constructor <;> omega)) (by first | assumption | omega | exact ⟨by omega, by omega⟩ | (constructor <;> omega)) (by first | assumption | omega | exact ⟨by omega, by omega⟩ | (constructor <;> omega))) rfl dX12_doIf_6 cv_12_277 rfl rfl ob_214 rfl (by decide) (Nat.le_of_ble_eq_true rfl) (fun r_6 hr_6 ho_6 => ?_)
  refine go_if_ne (tgt := 21) dX12_doIf_9 (by decide) ⟨by omega, by omega⟩ (fun h_9 => ?_) (fun h_9 => ?_)
  · exact go_ret (v := 0) rfl dX12_doIf_21 rfl (by unfold actIf; first | (rw [if_pos (by omega)]; exact hr_18) | (rw [if_neg (by omega)]; exact ⟨So.rf, hb⟩))
  · refine go_aload_n dX12_doIf_12 rfl ?_
    refine go_iload_n dX12_doIf_13 rfl ?_
    refine go_iload_n dX12_doIf_14 rfl ?_
    refine go_iload_n dX12_doIf_15 rfl ?_
    refine go_iload dX12_doIf_16 rfl ?_
    refine go_callV_v (as := [vi w, vi p, vi f, vi s]) (S := []) (b := 214) (ev_X12_live (m := m) (w := w) (p := p) (f := f) (s := s) (G := G) (d := d) (st := st) (B := B) (by first | exact hb | exact hb.w (by decide) | exact (hb.w (by decide)).w (by decide)) (by first | assumption | omega | exact ⟨by omega, by omega⟩ | (constructor <;> omega)) (by first | assumption | omega | exact ⟨by omega, by omega⟩ | (constructor <;> omega)) (by first | assumption | omega | exact ⟨by omega, by omega⟩ | (constructor <;> omega)) (by first | assumption | omega | exact ⟨by omega, by omega⟩ | (constructor <;> omega)) (by first | assumption | omega | exact ⟨by omega, by omega⟩ | (constructor <;> omega)) (by first | assumption | omega | exact ⟨by omega, by omega⟩ | (constructor <;> omega)) (by first | assumption | omega | exact ⟨by omega, by omega⟩ | (constructor <;> omega)) (by first | assumption | omega | exact ⟨by omega, by omega⟩ | (constructor <;> omega)) (by omega)) rfl dX12_doIf_18 cv_12_283 rfl rfl ob_214 rfl (by decide) (Nat.le_of_ble_eq_true rfl) (fun m_18 hr_18 => ?_)
    exact go_ret (v := 0) rfl dX12_doIf_21 rfl (by unfold actIf; first | (rw [if_pos (by omega)]; exact hr_18) | (rw [if_neg (by omega)]; exact ⟨So.rf, hb⟩))
theorem dX12_drawsFor_0 : decode mX12_drawsFor.2.1 0 = .ok (.aload_n 0, 1) := by decide +kernel
theorem dX12_drawsFor_1 : decode mX12_drawsFor.2.1 1 = .ok (.bipush 8, 2) := by decide +kernel
theorem dX12_drawsFor_3 : decode mX12_drawsFor.2.1 3 = .ok (.invokevirtual 378, 3) := by decide +kernel
theorem dX12_drawsFor_6 : decode mX12_drawsFor.2.1 6 = .ok (.istore_n 2, 1) := by decide +kernel
theorem dX12_drawsFor_7 : decode mX12_drawsFor.2.1 7 = .ok (.iload_n 2, 1) := by decide +kernel
theorem dX12_drawsFor_8 : decode mX12_drawsFor.2.1 8 = .ok (.iconst 4, 1) := by decide +kernel
theorem dX12_drawsFor_9 : decode mX12_drawsFor.2.1 9 = .ok (.if_icmp .ge 29, 3) := by decide +kernel
theorem dX12_drawsFor_12 : decode mX12_drawsFor.2.1 12 = .ok (.aload_n 0, 1) := by decide +kernel
theorem dX12_drawsFor_13 : decode mX12_drawsFor.2.1 13 = .ok (.getfield 98, 3) := by decide +kernel
theorem dX12_drawsFor_16 : decode mX12_drawsFor.2.1 16 = .ok (.iconst 2, 1) := by decide +kernel
theorem dX12_drawsFor_17 : decode mX12_drawsFor.2.1 17 = .ok (.iaload, 1) := by decide +kernel
theorem dX12_drawsFor_18 : decode mX12_drawsFor.2.1 18 = .ok (.ifCond .le 20, 3) := by decide +kernel
theorem dX12_drawsFor_21 : decode mX12_drawsFor.2.1 21 = .ok (.aload_n 0, 1) := by decide +kernel
theorem dX12_drawsFor_22 : decode mX12_drawsFor.2.1 22 = .ok (.iconst 0, 1) := by decide +kernel
theorem dX12_drawsFor_23 : decode mX12_drawsFor.2.1 23 = .ok (.iload_n 1, 1) := by decide +kernel
theorem dX12_drawsFor_24 : decode mX12_drawsFor.2.1 24 = .ok (.aload_n 0, 1) := by decide +kernel
theorem dX12_drawsFor_25 : decode mX12_drawsFor.2.1 25 = .ok (.aload_n 0, 1) := by decide +kernel
theorem dX12_drawsFor_26 : decode mX12_drawsFor.2.1 26 = .ok (.getfield 98, 3) := by decide +kernel
theorem dX12_drawsFor_29 : decode mX12_drawsFor.2.1 29 = .ok (.iconst 2, 1) := by decide +kernel
theorem dX12_drawsFor_30 : decode mX12_drawsFor.2.1 30 = .ok (.iaload, 1) := by decide +kernel
theorem dX12_drawsFor_31 : decode mX12_drawsFor.2.1 31 = .ok (.invokevirtual 378, 3) := by decide +kernel
theorem dX12_drawsFor_34 : decode mX12_drawsFor.2.1 34 = .ok (.iload_n 2, 1) := by decide +kernel
theorem dX12_drawsFor_35 : decode mX12_drawsFor.2.1 35 = .ok (.invokevirtual 381, 3) := by decide +kernel
theorem dX12_drawsFor_38 : decode mX12_drawsFor.2.1 38 = .ok (.iload_n 2, 1) := by decide +kernel
theorem dX12_drawsFor_39 : decode mX12_drawsFor.2.1 39 = .ok (.iconst 4, 1) := by decide +kernel
theorem dX12_drawsFor_40 : decode mX12_drawsFor.2.1 40 = .ok (.if_icmp .eq 8, 3) := by decide +kernel
theorem dX12_drawsFor_43 : decode mX12_drawsFor.2.1 43 = .ok (.iload_n 2, 1) := by decide +kernel
theorem dX12_drawsFor_44 : decode mX12_drawsFor.2.1 44 = .ok (.iconst 5, 1) := by decide +kernel
theorem dX12_drawsFor_45 : decode mX12_drawsFor.2.1 45 = .ok (.if_icmp .ne 15, 3) := by decide +kernel
theorem dX12_drawsFor_48 : decode mX12_drawsFor.2.1 48 = .ok (.aload_n 0, 1) := by decide +kernel
theorem dX12_drawsFor_49 : decode mX12_drawsFor.2.1 49 = .ok (.iconst 1, 1) := by decide +kernel
theorem dX12_drawsFor_50 : decode mX12_drawsFor.2.1 50 = .ok (.iload_n 1, 1) := by decide +kernel
theorem dX12_drawsFor_51 : decode mX12_drawsFor.2.1 51 = .ok (.iconst 0, 1) := by decide +kernel
theorem dX12_drawsFor_52 : decode mX12_drawsFor.2.1 52 = .ok (.aload_n 0, 1) := by decide +kernel
theorem dX12_drawsFor_53 : decode mX12_drawsFor.2.1 53 = .ok (.iconst 4, 1) := by decide +kernel
theorem dX12_drawsFor_54 : decode mX12_drawsFor.2.1 54 = .ok (.invokevirtual 378, 3) := by decide +kernel
theorem dX12_drawsFor_57 : decode mX12_drawsFor.2.1 57 = .ok (.invokevirtual 381, 3) := by decide +kernel
theorem dX12_drawsFor_60 : decode mX12_drawsFor.2.1 60 = .ok (.iload_n 2, 1) := by decide +kernel
theorem dX12_drawsFor_61 : decode mX12_drawsFor.2.1 61 = .ok (.bipush 6, 2) := by decide +kernel
theorem dX12_drawsFor_63 : decode mX12_drawsFor.2.1 63 = .ok (.if_icmp .ne 11, 3) := by decide +kernel
theorem dX12_drawsFor_66 : decode mX12_drawsFor.2.1 66 = .ok (.aload_n 0, 1) := by decide +kernel
theorem dX12_drawsFor_67 : decode mX12_drawsFor.2.1 67 = .ok (.iconst 2, 1) := by decide +kernel
theorem dX12_drawsFor_68 : decode mX12_drawsFor.2.1 68 = .ok (.iload_n 1, 1) := by decide +kernel
theorem dX12_drawsFor_69 : decode mX12_drawsFor.2.1 69 = .ok (.iconst 0, 1) := by decide +kernel
theorem dX12_drawsFor_70 : decode mX12_drawsFor.2.1 70 = .ok (.iconst 0, 1) := by decide +kernel
theorem dX12_drawsFor_71 : decode mX12_drawsFor.2.1 71 = .ok (.invokevirtual 381, 3) := by decide +kernel
theorem dX12_drawsFor_74 : decode mX12_drawsFor.2.1 74 = .ok (.return_, 1) := by decide +kernel
set_option maxRecDepth 4000 in
theorem ev_X12_drawsFor {m : Mem} {u : Nat} {G : Mem} {d : Nat} {st : Nat} {B : Int} {p : Int} (hwd : isWd u d st) (hb : Bg G d st (m 216)) (hdn : DnOk G d) (hst : StOk G d st B) (hp : 0 ≤ p ∧ p < G d 3) (hB : 0 ≤ B ∧ B ≤ 300000000) (hse : G u 3 = m 214 38) : Ev 0 7 mX12_drawsFor [vr 214, vi p] m (fun r m' => Sd m m' ∧ Bg (actC G u d st p) d st (m' 216) ∧ actC G u d st p u 3 = m' 214 38) := by
  refine Ev.of (L := [vr 214, vi p, un]) (by decide +kernel) rfl (Nat.le_of_ble_eq_true rfl) rfl (fun t ht => by cases ht) (fun hcan => ?_)
  obtain ⟨⟨hd0, hd1⟩, ⟨hd2, hd3⟩, ⟨hd4, hd5⟩, ⟨hd6, hd7⟩, ⟨hd8, hd9⟩, hdf, hdp, hdq⟩ := id hdn
  have hb8 := drv_b (m := G) (w := u) (n := 8) (by omega)
  have husw := hwd.sw
  refine go_aload_n dX12_drawsFor_0 rfl ?_
  refine go_bipush dX12_drawsFor_1 (by decide) ?_
  refine go_callV_i (as := [vi 8]) (S := []) (b := 214) (ev_X12_draw (m := m) (n := 8) (by first | assumption | omega | exact ⟨by omega, by omega⟩ | (constructor <;> omega))) rfl dX12_drawsFor_3 cv_12_378 rfl rfl ob_214 rfl (by decide) (Nat.le_of_ble_eq_true rfl) (fun r_3 m_3 hr_3 ho_3 => ?_)
  obtain ⟨hm_3, hr_3⟩ := hr_3
  subst hm_3
  have hv3 : r_3 = drv G u 8 := by rw [hr_3, drv_w hse]
  refine go_istore_n (L' := [vr 214, vi p, vi r_3]) dX12_drawsFor_6 (by decide) rfl rfl ?_
  refine go_iload_n dX12_drawsFor_7 rfl ?_
  refine go_iconst dX12_drawsFor_8 ?_
  refine go_icmp_ge (tgt := 38) dX12_drawsFor_9 (by decide) ⟨by omega, by omega⟩ ⟨by omega, by omega⟩ (fun h_9 => ?_) (fun h_9 => ?_)
  · refine go_iload_n dX12_drawsFor_38 rfl ?_
    refine go_iconst dX12_drawsFor_39 ?_
    refine go_icmp_eq (tgt := 48) dX12_drawsFor_40 (by decide) ⟨by omega, by omega⟩ ⟨by omega, by omega⟩ (fun h_40 => ?_) (fun h_40 => ?_)
    · refine go_aload_n dX12_drawsFor_48 rfl ?_
      refine go_iconst dX12_drawsFor_49 ?_
      refine go_iload_n dX12_drawsFor_50 rfl ?_
      refine go_iconst dX12_drawsFor_51 ?_
      refine go_aload_n dX12_drawsFor_52 rfl ?_
      refine go_iconst dX12_drawsFor_53 ?_
      refine go_callV_i (as := [vi 4]) (S := [vi 0, vi p, vi 1, vr 214]) (b := 214) (ev_X12_draw (m := (wr m 214 38 (lcg (m 214 38)))) (n := 4) (by first | assumption | omega | exact ⟨by omega, by omega⟩ | (constructor <;> omega))) rfl dX12_drawsFor_54 cv_12_378 rfl rfl ob_214 rfl (by decide) (Nat.le_of_ble_eq_true rfl) (fun r_54 m_54 hr_54 ho_54 => ?_)
      obtain ⟨hm_54, hr_54⟩ := hr_54
      rw [wr_self] at hm_54 hr_54
      rw [wr_wr] at hm_54
      subst hm_54
      have hv54 : r_54 = drv (drw G u) u 4 := by rw [hr_54, drv_w (drw_w hse)]
      have hb54 := drv_b (m := drw G u) (w := u) (n := 4) (by omega)
      refine go_callV_v (as := [vi 1, vi p, vi 0, vi r_54]) (S := []) (b := 214) (ev_X12_doIf (m := (wr m 214 38 (lcg (lcg (m 214 38))))) (w := 1) (p := p) (f := 0) (s := r_54) (G := (drw (drw G u) u)) (d := d) (st := st) (B := B) (((hb.drw hwd).drw hwd).w (by decide)) ((hdn.frw hwd drw_fr).frw hwd drw_fr) (drw_st hwd (drw_st hwd hst)) (by rw [drw_d hwd, drw_d hwd]; exact hp) (fun h => by omega) (fun _ => by omega) (by first | assumption | omega | exact ⟨by omega, by omega⟩ | (constructor <;> omega)) (by first | assumption | omega | exact ⟨by omega, by omega⟩ | (constructor <;> omega)) hwd.sep) rfl dX12_drawsFor_57 cv_12_381 rfl rfl ob_214 rfl (by decide) (Nat.le_of_ble_eq_true rfl) (fun m_57 hr_57 => ?_)
      refine go_iload_n dX12_drawsFor_60 rfl ?_
      refine go_bipush dX12_drawsFor_61 (by decide) ?_
      refine go_icmp_ne (tgt := 74) dX12_drawsFor_63 (by decide) ⟨by omega, by omega⟩ ⟨by omega, by omega⟩ (fun h_63 => ?_) (fun h_63 => ?_)
      · refine go_ret (v := 0) rfl dX12_drawsFor_74 rfl ?_
        have hX : Sd m (wr m 214 38 (lcg (m 214 38))) := Sd.w
        unfold actC
        rw [← hv3]
        first
        | (rw [if_pos (by omega), if_pos (by omega), ← hv31]
           refine ⟨Sd.w.tr (Sd.so hr_35.1), hr_35.2, ?_⟩
           rw [sayIf_fr u (by omega), drw_w (drw_w hse), hr_35.1.1 214 (by decide), wr_self])
        | (rw [if_neg (by omega), if_pos (by omega), ← hv54]
           refine ⟨Sd.w.tr (Sd.so hr_57.1), hr_57.2, ?_⟩
           rw [kickIf_fr u (by omega), drw_w (drw_w hse), hr_57.1.1 214 (by decide), wr_self])
        | (rw [if_neg (by omega), if_neg (by omega), if_pos (by omega)]
           rw [actIf_2] at hr_71
           refine ⟨Sd.w.tr (Sd.so hr_71.1), hr_71.2, ?_⟩
           rw [restIf_fr u (by omega), drw_w hse, hr_71.1.1 214 (by decide), wr_self])
        | (rw [if_pos (by omega), if_neg (by omega)]
           exact ⟨Sd.w, (hb.drw hwd).w (by decide), by rw [drw_w hse, wr_self]⟩)
        | (rw [if_neg (by omega), if_neg (by omega), if_neg (by omega)]
           exact ⟨Sd.w, (hb.drw hwd).w (by decide), by rw [drw_w hse, wr_self]⟩)
      · exfalso; omega
    · refine go_iload_n dX12_drawsFor_43 rfl ?_
      refine go_iconst dX12_drawsFor_44 ?_
      refine go_icmp_ne (tgt := 60) dX12_drawsFor_45 (by decide) ⟨by omega, by omega⟩ ⟨by omega, by omega⟩ (fun h_45 => ?_) (fun h_45 => ?_)
      · refine go_iload_n dX12_drawsFor_60 rfl ?_
        refine go_bipush dX12_drawsFor_61 (by decide) ?_
        refine go_icmp_ne (tgt := 74) dX12_drawsFor_63 (by decide) ⟨by omega, by omega⟩ ⟨by omega, by omega⟩ (fun h_63 => ?_) (fun h_63 => ?_)
        · refine go_ret (v := 0) rfl dX12_drawsFor_74 rfl ?_
          have hX : Sd m (wr m 214 38 (lcg (m 214 38))) := Sd.w
          unfold actC
          rw [← hv3]
          first
          | (rw [if_pos (by omega), if_pos (by omega), ← hv31]
             refine ⟨Sd.w.tr (Sd.so hr_35.1), hr_35.2, ?_⟩
             rw [sayIf_fr u (by omega), drw_w (drw_w hse), hr_35.1.1 214 (by decide), wr_self])
          | (rw [if_neg (by omega), if_pos (by omega), ← hv54]
             refine ⟨Sd.w.tr (Sd.so hr_57.1), hr_57.2, ?_⟩
             rw [kickIf_fr u (by omega), drw_w (drw_w hse), hr_57.1.1 214 (by decide), wr_self])
          | (rw [if_neg (by omega), if_neg (by omega), if_pos (by omega)]
             rw [actIf_2] at hr_71
             refine ⟨Sd.w.tr (Sd.so hr_71.1), hr_71.2, ?_⟩
             rw [restIf_fr u (by omega), drw_w hse, hr_71.1.1 214 (by decide), wr_self])
          | (rw [if_pos (by omega), if_neg (by omega)]
             exact ⟨Sd.w, (hb.drw hwd).w (by decide), by rw [drw_w hse, wr_self]⟩)
          | (rw [if_neg (by omega), if_neg (by omega), if_neg (by omega)]
             exact ⟨Sd.w, (hb.drw hwd).w (by decide), by rw [drw_w hse, wr_self]⟩)
        · refine go_aload_n dX12_drawsFor_66 rfl ?_
          refine go_iconst dX12_drawsFor_67 ?_
          refine go_iload_n dX12_drawsFor_68 rfl ?_
          refine go_iconst dX12_drawsFor_69 ?_
          refine go_iconst dX12_drawsFor_70 ?_
          refine go_callV_v (as := [vi 2, vi p, vi 0, vi 0]) (S := []) (b := 214) (ev_X12_doIf (m := (wr m 214 38 (lcg (m 214 38)))) (w := 2) (p := p) (f := 0) (s := 0) (G := (drw G u)) (d := d) (st := st) (B := B) ((hb.drw hwd).w (by decide)) (hdn.frw hwd drw_fr) (drw_st hwd hst) (by rw [drw_d hwd]; exact hp) (fun h => by omega) (fun h => by omega) (by first | assumption | omega | exact ⟨by omega, by omega⟩ | (constructor <;> omega)) (by first | assumption | omega | exact ⟨by omega, by omega⟩ | (constructor <;> omega)) hwd.sep) rfl dX12_drawsFor_71 cv_12_381 rfl rfl ob_214 rfl (by decide) (Nat.le_of_ble_eq_true rfl) (fun m_71 hr_71 => ?_)
          refine go_ret (v := 0) rfl dX12_drawsFor_74 rfl ?_
          have hX : Sd m (wr m 214 38 (lcg (m 214 38))) := Sd.w
          unfold actC
          rw [← hv3]
          first
          | (rw [if_pos (by omega), if_pos (by omega), ← hv31]
             refine ⟨Sd.w.tr (Sd.so hr_35.1), hr_35.2, ?_⟩
             rw [sayIf_fr u (by omega), drw_w (drw_w hse), hr_35.1.1 214 (by decide), wr_self])
          | (rw [if_neg (by omega), if_pos (by omega), ← hv54]
             refine ⟨Sd.w.tr (Sd.so hr_57.1), hr_57.2, ?_⟩
             rw [kickIf_fr u (by omega), drw_w (drw_w hse), hr_57.1.1 214 (by decide), wr_self])
          | (rw [if_neg (by omega), if_neg (by omega), if_pos (by omega)]
             rw [actIf_2] at hr_71
             refine ⟨Sd.w.tr (Sd.so hr_71.1), hr_71.2, ?_⟩
             rw [restIf_fr u (by omega), drw_w hse, hr_71.1.1 214 (by decide), wr_self])
          | (rw [if_pos (by omega), if_neg (by omega)]
             exact ⟨Sd.w, (hb.drw hwd).w (by decide), by rw [drw_w hse, wr_self]⟩)
          | (rw [if_neg (by omega), if_neg (by omega), if_neg (by omega)]
             exact ⟨Sd.w, (hb.drw hwd).w (by decide), by rw [drw_w hse, wr_self]⟩)
      · refine go_aload_n dX12_drawsFor_48 rfl ?_
        refine go_iconst dX12_drawsFor_49 ?_
        refine go_iload_n dX12_drawsFor_50 rfl ?_
        refine go_iconst dX12_drawsFor_51 ?_
        refine go_aload_n dX12_drawsFor_52 rfl ?_
        refine go_iconst dX12_drawsFor_53 ?_
        refine go_callV_i (as := [vi 4]) (S := [vi 0, vi p, vi 1, vr 214]) (b := 214) (ev_X12_draw (m := (wr m 214 38 (lcg (m 214 38)))) (n := 4) (by first | assumption | omega | exact ⟨by omega, by omega⟩ | (constructor <;> omega))) rfl dX12_drawsFor_54 cv_12_378 rfl rfl ob_214 rfl (by decide) (Nat.le_of_ble_eq_true rfl) (fun r_54 m_54 hr_54 ho_54 => ?_)
        obtain ⟨hm_54, hr_54⟩ := hr_54
        rw [wr_self] at hm_54 hr_54
        rw [wr_wr] at hm_54
        subst hm_54
        have hv54 : r_54 = drv (drw G u) u 4 := by rw [hr_54, drv_w (drw_w hse)]
        have hb54 := drv_b (m := drw G u) (w := u) (n := 4) (by omega)
        refine go_callV_v (as := [vi 1, vi p, vi 0, vi r_54]) (S := []) (b := 214) (ev_X12_doIf (m := (wr m 214 38 (lcg (lcg (m 214 38))))) (w := 1) (p := p) (f := 0) (s := r_54) (G := (drw (drw G u) u)) (d := d) (st := st) (B := B) (((hb.drw hwd).drw hwd).w (by decide)) ((hdn.frw hwd drw_fr).frw hwd drw_fr) (drw_st hwd (drw_st hwd hst)) (by rw [drw_d hwd, drw_d hwd]; exact hp) (fun h => by omega) (fun _ => by omega) (by first | assumption | omega | exact ⟨by omega, by omega⟩ | (constructor <;> omega)) (by first | assumption | omega | exact ⟨by omega, by omega⟩ | (constructor <;> omega)) hwd.sep) rfl dX12_drawsFor_57 cv_12_381 rfl rfl ob_214 rfl (by decide) (Nat.le_of_ble_eq_true rfl) (fun m_57 hr_57 => ?_)
        refine go_iload_n dX12_drawsFor_60 rfl ?_
        refine go_bipush dX12_drawsFor_61 (by decide) ?_
        refine go_icmp_ne (tgt := 74) dX12_drawsFor_63 (by decide) ⟨by omega, by omega⟩ ⟨by omega, by omega⟩ (fun h_63 => ?_) (fun h_63 => ?_)
        · refine go_ret (v := 0) rfl dX12_drawsFor_74 rfl ?_
          have hX : Sd m (wr m 214 38 (lcg (m 214 38))) := Sd.w
          unfold actC
          rw [← hv3]
          first
          | (rw [if_pos (by omega), if_pos (by omega), ← hv31]
             refine ⟨Sd.w.tr (Sd.so hr_35.1), hr_35.2, ?_⟩
             rw [sayIf_fr u (by omega), drw_w (drw_w hse), hr_35.1.1 214 (by decide), wr_self])
          | (rw [if_neg (by omega), if_pos (by omega), ← hv54]
             refine ⟨Sd.w.tr (Sd.so hr_57.1), hr_57.2, ?_⟩
             rw [kickIf_fr u (by omega), drw_w (drw_w hse), hr_57.1.1 214 (by decide), wr_self])
          | (rw [if_neg (by omega), if_neg (by omega), if_pos (by omega)]
             rw [actIf_2] at hr_71
             refine ⟨Sd.w.tr (Sd.so hr_71.1), hr_71.2, ?_⟩
             rw [restIf_fr u (by omega), drw_w hse, hr_71.1.1 214 (by decide), wr_self])
          | (rw [if_pos (by omega), if_neg (by omega)]
             exact ⟨Sd.w, (hb.drw hwd).w (by decide), by rw [drw_w hse, wr_self]⟩)
          | (rw [if_neg (by omega), if_neg (by omega), if_neg (by omega)]
             exact ⟨Sd.w, (hb.drw hwd).w (by decide), by rw [drw_w hse, wr_self]⟩)
        · exfalso; omega
  · refine go_aload_n dX12_drawsFor_12 rfl ?_
    refine go_getf_p (b := 216) dX12_drawsFor_13 fl_12_98 ob_214 rfl pt_214_14 ?_
    refine go_iconst dX12_drawsFor_16 ?_
    refine go_iaload dX12_drawsFor_17 ar_216 (by omega) (by omega) (fun he_17 => ?_)
    rw [show ((wr m 214 38 (lcg (m 214 38))) 216 2 : Int) = (G d 2) from by rw [wr_na (by omega)]; exact hb.n2] at he_17 ⊢
    refine go_if_le (tgt := 38) dX12_drawsFor_18 (by decide) ⟨by omega, by omega⟩ (fun h_18 => ?_) (fun h_18 => ?_)
    · refine go_iload_n dX12_drawsFor_38 rfl ?_
      refine go_iconst dX12_drawsFor_39 ?_
      refine go_icmp_eq (tgt := 48) dX12_drawsFor_40 (by decide) ⟨by omega, by omega⟩ ⟨by omega, by omega⟩ (fun h_40 => ?_) (fun h_40 => ?_)
      · exfalso; omega
      · refine go_iload_n dX12_drawsFor_43 rfl ?_
        refine go_iconst dX12_drawsFor_44 ?_
        refine go_icmp_ne (tgt := 60) dX12_drawsFor_45 (by decide) ⟨by omega, by omega⟩ ⟨by omega, by omega⟩ (fun h_45 => ?_) (fun h_45 => ?_)
        · refine go_iload_n dX12_drawsFor_60 rfl ?_
          refine go_bipush dX12_drawsFor_61 (by decide) ?_
          refine go_icmp_ne (tgt := 74) dX12_drawsFor_63 (by decide) ⟨by omega, by omega⟩ ⟨by omega, by omega⟩ (fun h_63 => ?_) (fun h_63 => ?_)
          · refine go_ret (v := 0) rfl dX12_drawsFor_74 rfl ?_
            have hX : Sd m (wr m 214 38 (lcg (m 214 38))) := Sd.w
            unfold actC
            rw [← hv3]
            first
            | (rw [if_pos (by omega), if_pos (by omega), ← hv31]
               refine ⟨Sd.w.tr (Sd.so hr_35.1), hr_35.2, ?_⟩
               rw [sayIf_fr u (by omega), drw_w (drw_w hse), hr_35.1.1 214 (by decide), wr_self])
            | (rw [if_neg (by omega), if_pos (by omega), ← hv54]
               refine ⟨Sd.w.tr (Sd.so hr_57.1), hr_57.2, ?_⟩
               rw [kickIf_fr u (by omega), drw_w (drw_w hse), hr_57.1.1 214 (by decide), wr_self])
            | (rw [if_neg (by omega), if_neg (by omega), if_pos (by omega)]
               rw [actIf_2] at hr_71
               refine ⟨Sd.w.tr (Sd.so hr_71.1), hr_71.2, ?_⟩
               rw [restIf_fr u (by omega), drw_w hse, hr_71.1.1 214 (by decide), wr_self])
            | (rw [if_pos (by omega), if_neg (by omega)]
               exact ⟨Sd.w, (hb.drw hwd).w (by decide), by rw [drw_w hse, wr_self]⟩)
            | (rw [if_neg (by omega), if_neg (by omega), if_neg (by omega)]
               exact ⟨Sd.w, (hb.drw hwd).w (by decide), by rw [drw_w hse, wr_self]⟩)
          · exfalso; omega
        · exfalso; omega
    · refine go_aload_n dX12_drawsFor_21 rfl ?_
      refine go_iconst dX12_drawsFor_22 ?_
      refine go_iload_n dX12_drawsFor_23 rfl ?_
      refine go_aload_n dX12_drawsFor_24 rfl ?_
      refine go_aload_n dX12_drawsFor_25 rfl ?_
      refine go_getf_p (b := 216) dX12_drawsFor_26 fl_12_98 ob_214 rfl pt_214_14 ?_
      refine go_iconst dX12_drawsFor_29 ?_
      refine go_iaload dX12_drawsFor_30 ar_216 (by omega) (by omega) (fun he_30 => ?_)
      rw [show ((wr m 214 38 (lcg (m 214 38))) 216 2 : Int) = (G d 2) from by rw [wr_na (by omega)]; exact hb.n2] at he_30 ⊢
      refine go_callV_i (as := [vi (G d 2)]) (S := [vi p, vi 0, vr 214]) (b := 214) (ev_X12_draw (m := (wr m 214 38 (lcg (m 214 38)))) (n := (G d 2)) (by first | assumption | omega | exact ⟨by omega, by omega⟩ | (constructor <;> omega))) rfl dX12_drawsFor_31 cv_12_378 rfl rfl ob_214 rfl (by decide) (Nat.le_of_ble_eq_true rfl) (fun r_31 m_31 hr_31 ho_31 => ?_)
      obtain ⟨hm_31, hr_31⟩ := hr_31
      rw [wr_self] at hm_31 hr_31
      rw [wr_wr] at hm_31
      subst hm_31
      have hv31 : r_31 = drv (drw G u) u (G d 2) := by rw [hr_31, drv_w (drw_w hse)]
      have hb31 := drv_b (m := drw G u) (w := u) (n := G d 2) (by omega)
      refine go_iload_n dX12_drawsFor_34 rfl ?_
      refine go_callV_v (as := [vi 0, vi p, vi r_31, vi r_3]) (S := []) (b := 214) (ev_X12_doIf (m := (wr m 214 38 (lcg (lcg (m 214 38))))) (w := 0) (p := p) (f := r_31) (s := r_3) (G := (drw (drw G u) u)) (d := d) (st := st) (B := B) (((hb.drw hwd).drw hwd).w (by decide)) ((hdn.frw hwd drw_fr).frw hwd drw_fr) (drw_st hwd (drw_st hwd hst)) (by rw [drw_d hwd, drw_d hwd]; exact hp) (fun _ => by rw [drw_d hwd, drw_d hwd]; omega) (fun _ => by omega) (by first | assumption | omega | exact ⟨by omega, by omega⟩ | (constructor <;> omega)) (by first | assumption | omega | exact ⟨by omega, by omega⟩ | (constructor <;> omega)) hwd.sep) rfl dX12_drawsFor_35 cv_12_381 rfl rfl ob_214 rfl (by decide) (Nat.le_of_ble_eq_true rfl) (fun m_35 hr_35 => ?_)
      refine go_iload_n dX12_drawsFor_38 rfl ?_
      refine go_iconst dX12_drawsFor_39 ?_
      refine go_icmp_eq (tgt := 48) dX12_drawsFor_40 (by decide) ⟨by omega, by omega⟩ ⟨by omega, by omega⟩ (fun h_40 => ?_) (fun h_40 => ?_)
      · exfalso; omega
      · refine go_iload_n dX12_drawsFor_43 rfl ?_
        refine go_iconst dX12_drawsFor_44 ?_
        refine go_icmp_ne (tgt := 60) dX12_drawsFor_45 (by decide) ⟨by omega, by omega⟩ ⟨by omega, by omega⟩ (fun h_45 => ?_) (fun h_45 => ?_)
        · refine go_iload_n dX12_drawsFor_60 rfl ?_
          refine go_bipush dX12_drawsFor_61 (by decide) ?_
          refine go_icmp_ne (tgt := 74) dX12_drawsFor_63 (by decide) ⟨by omega, by omega⟩ ⟨by omega, by omega⟩ (fun h_63 => ?_) (fun h_63 => ?_)
          · refine go_ret (v := 0) rfl dX12_drawsFor_74 rfl ?_
            have hX : Sd m (wr m 214 38 (lcg (m 214 38))) := Sd.w
            unfold actC
            rw [← hv3]
            first
            | (rw [if_pos (by omega), if_pos (by omega), ← hv31]
               refine ⟨Sd.w.tr (Sd.so hr_35.1), hr_35.2, ?_⟩
               rw [sayIf_fr u (by omega), drw_w (drw_w hse), hr_35.1.1 214 (by decide), wr_self])
            | (rw [if_neg (by omega), if_pos (by omega), ← hv54]
               refine ⟨Sd.w.tr (Sd.so hr_57.1), hr_57.2, ?_⟩
               rw [kickIf_fr u (by omega), drw_w (drw_w hse), hr_57.1.1 214 (by decide), wr_self])
            | (rw [if_neg (by omega), if_neg (by omega), if_pos (by omega)]
               rw [actIf_2] at hr_71
               refine ⟨Sd.w.tr (Sd.so hr_71.1), hr_71.2, ?_⟩
               rw [restIf_fr u (by omega), drw_w hse, hr_71.1.1 214 (by decide), wr_self])
            | (rw [if_pos (by omega), if_neg (by omega)]
               exact ⟨Sd.w, (hb.drw hwd).w (by decide), by rw [drw_w hse, wr_self]⟩)
            | (rw [if_neg (by omega), if_neg (by omega), if_neg (by omega)]
               exact ⟨Sd.w, (hb.drw hwd).w (by decide), by rw [drw_w hse, wr_self]⟩)
          · exfalso; omega
        · exfalso; omega
theorem dX12_drawHours_0 : decode mX12_drawHours.2.1 0 = .ok (.aload_n 0, 1) := by decide +kernel
theorem dX12_drawHours_1 : decode mX12_drawHours.2.1 1 = .ok (.iload_n 2, 1) := by decide +kernel
theorem dX12_drawHours_2 : decode mX12_drawHours.2.1 2 = .ok (.putfield 374, 3) := by decide +kernel
theorem dX12_drawHours_5 : decode mX12_drawHours.2.1 5 = .ok (.iload_n 1, 1) := by decide +kernel
theorem dX12_drawHours_6 : decode mX12_drawHours.2.1 6 = .ok (.sipush 400, 3) := by decide +kernel
theorem dX12_drawHours_9 : decode mX12_drawHours.2.1 9 = .ok (.aload_n 0, 1) := by decide +kernel
theorem dX12_drawHours_10 : decode mX12_drawHours.2.1 10 = .ok (.getfield 98, 3) := by decide +kernel
theorem dX12_drawHours_13 : decode mX12_drawHours.2.1 13 = .ok (.bipush 123, 2) := by decide +kernel
theorem dX12_drawHours_15 : decode mX12_drawHours.2.1 15 = .ok (.iaload, 1) := by decide +kernel
theorem dX12_drawHours_16 : decode mX12_drawHours.2.1 16 = .ok (.isub, 1) := by decide +kernel
theorem dX12_drawHours_17 : decode mX12_drawHours.2.1 17 = .ok (.invokestatic 294, 3) := by decide +kernel
theorem dX12_drawHours_20 : decode mX12_drawHours.2.1 20 = .ok (.istore_n 3, 1) := by decide +kernel
theorem dX12_drawHours_21 : decode mX12_drawHours.2.1 21 = .ok (.iconst 0, 1) := by decide +kernel
theorem dX12_drawHours_22 : decode mX12_drawHours.2.1 22 = .ok (.istore 4, 2) := by decide +kernel
theorem dX12_drawHours_24 : decode mX12_drawHours.2.1 24 = .ok (.iload 4, 2) := by decide +kernel
theorem dX12_drawHours_26 : decode mX12_drawHours.2.1 26 = .ok (.iload_n 3, 1) := by decide +kernel
theorem dX12_drawHours_27 : decode mX12_drawHours.2.1 27 = .ok (.if_icmp .ge 39, 3) := by decide +kernel
theorem dX12_drawHours_30 : decode mX12_drawHours.2.1 30 = .ok (.iconst 0, 1) := by decide +kernel
theorem dX12_drawHours_31 : decode mX12_drawHours.2.1 31 = .ok (.istore 5, 2) := by decide +kernel
theorem dX12_drawHours_33 : decode mX12_drawHours.2.1 33 = .ok (.iload 5, 2) := by decide +kernel
theorem dX12_drawHours_35 : decode mX12_drawHours.2.1 35 = .ok (.aload_n 0, 1) := by decide +kernel
theorem dX12_drawHours_36 : decode mX12_drawHours.2.1 36 = .ok (.getfield 98, 3) := by decide +kernel
theorem dX12_drawHours_39 : decode mX12_drawHours.2.1 39 = .ok (.iconst 3, 1) := by decide +kernel
theorem dX12_drawHours_40 : decode mX12_drawHours.2.1 40 = .ok (.iaload, 1) := by decide +kernel
theorem dX12_drawHours_41 : decode mX12_drawHours.2.1 41 = .ok (.if_icmp .ge 15, 3) := by decide +kernel
theorem dX12_drawHours_44 : decode mX12_drawHours.2.1 44 = .ok (.aload_n 0, 1) := by decide +kernel
theorem dX12_drawHours_45 : decode mX12_drawHours.2.1 45 = .ok (.iload 5, 2) := by decide +kernel
theorem dX12_drawHours_47 : decode mX12_drawHours.2.1 47 = .ok (.invokevirtual 384, 3) := by decide +kernel
theorem dX12_drawHours_50 : decode mX12_drawHours.2.1 50 = .ok (.iinc 5 1, 3) := by decide +kernel
theorem dX12_drawHours_53 : decode mX12_drawHours.2.1 53 = .ok (.goto (-20), 3) := by decide +kernel
theorem dX12_drawHours_56 : decode mX12_drawHours.2.1 56 = .ok (.aload_n 0, 1) := by decide +kernel
theorem dX12_drawHours_57 : decode mX12_drawHours.2.1 57 = .ok (.invokevirtual 297, 3) := by decide +kernel
theorem dX12_drawHours_60 : decode mX12_drawHours.2.1 60 = .ok (.iinc 4 1, 3) := by decide +kernel
theorem dX12_drawHours_63 : decode mX12_drawHours.2.1 63 = .ok (.goto (-39), 3) := by decide +kernel
theorem dX12_drawHours_66 : decode mX12_drawHours.2.1 66 = .ok (.iload_n 3, 1) := by decide +kernel
theorem dX12_drawHours_67 : decode mX12_drawHours.2.1 67 = .ok (.ireturn, 1) := by decide +kernel
set_option maxRecDepth 4000 in
theorem ev_X12_drawHours {m : Mem} {u : Nat} {G : Mem} {d : Nat} {st : Nat} {B : Int} {n : Int} {seed : Int} (hwd : isWd u d st) (hb : Bg G d st (m 216)) (hdn : DnOk G d) (hst : StOk G d st B) (hn : 0 ≤ n ∧ n ≤ 400) (hsd : InR seed) (hB : 0 ≤ B ∧ B ≤ 200000000) : Ev 0 8 mX12_drawHours [vr 214, vi n, vi seed] m (fun r m' => r = min n (400 - G st 0) ∧ Sd m m' ∧ Bg (hoursC (wr G u 3 seed) u d st (min n (400 - G st 0)).toNat) d st (m' 216)) := by
  refine Ev.of (L := [vr 214, vi n, vi seed, un, un, un]) (by decide +kernel) rfl (Nat.le_of_ble_eq_true rfl) rfl (fun t ht => by cases ht; first | exact Or.inl rfl | exact Or.inr (Or.inl rfl) | exact Or.inr (Or.inr rfl)) (fun hcan => ?_)
  obtain ⟨⟨hd0, hd1⟩, ⟨hd2, hd3⟩, ⟨hd4, hd5⟩, ⟨hd6, hd7⟩, ⟨hd8, hd9⟩, hdf, hdp, hdq⟩ := id hdn
  have husw := hwd.sw
  have hsep := hwd.sep
  have hs00 := hst.1
  have hdn0 : DnOk (wr G u 3 seed) d := hdn.congr (fun k hk => wr_row (by omega))
  have hst0 : StOk (wr G u 3 seed) d st B := hst.congr (wr_row (by omega)) (wr_row (by omega)) (fun k hk => wr_row (by omega))
  have ed0 : (wr G u 3 seed) d = G d := wr_row (by omega)
  have es0 : (wr G u 3 seed) st = G st := wr_row (by omega)
  have hb0 : Bg (wr G u 3 seed) d st (wr m 214 38 seed 216) := (hb.g (fun k hk => wr_row (by omega)) (fun k hk => wr_row (by omega))).w (by decide)
  refine go_aload_n dX12_drawHours_0 rfl ?_
  refine go_iload_n dX12_drawHours_1 rfl ?_
  refine go_putf_i (ki := 38) dX12_drawHours_2 fw_12_374 ob_214 rfl rfl ⟨by omega, by omega⟩ ?_
  refine go_iload_n dX12_drawHours_5 rfl ?_
  refine go_sipush dX12_drawHours_6 (by decide) ?_
  refine go_aload_n dX12_drawHours_9 rfl ?_
  refine go_getf_p (b := 216) dX12_drawHours_10 fl_12_98 ob_214 rfl pt_214_14 ?_
  refine go_bipush dX12_drawHours_13 (by decide) ?_
  refine go_iaload dX12_drawHours_15 ar_216 (by omega) (by omega) (fun he_15 => ?_)
  rw [show ((wr m 214 38 seed) 216 123 : Int) = (G st 0) from by rw [wr_na (by omega)]; exact hb.hr] at he_15 ⊢
  refine go_isub dX12_drawHours_16 ?_
  refine go_callSp_i (as := [vi n, vi (400 - (G st 0))]) (S := []) (ev_X12_lesser (m := (wr m 214 38 seed)) (a := n) (b := (400 - (G st 0))) (by first | assumption | omega | exact ⟨by omega, by omega⟩ | (constructor <;> omega)) (by first | assumption | omega | exact ⟨by omega, by omega⟩ | (constructor <;> omega))) rfl dX12_drawHours_17 cs_12_294 rfl rfl (by decide) (Nat.le_of_ble_eq_true rfl) (fun r_17 hr_17 ho_17 => ?_)
  refine go_istore_n (L' := [vr 214, vi n, vi seed, vi r_17, un, un]) dX12_drawHours_20 (by decide) rfl rfl ?_
  refine go_iconst dX12_drawHours_21 ?_
  refine go_istore (L' := [vr 214, vi n, vi seed, vi r_17, vi 0, un]) dX12_drawHours_22 (by decide) rfl rfl ?_
  refine go_drop (j := 1) (L' := [vr 214, un, vi seed, vi r_17, vi 0, un]) rfl ?_
  refine go_drop (j := 2) (L' := [vr 214, un, un, vi r_17, vi 0, un]) rfl ?_
  have lp_24 : ∀ (n_24 : Nat) (m1 : Mem) (k : Int) , (0 ≤ k) → (k ≤ r_17) → (Sd m m1) → (Bg (hoursC (wr G u 3 seed) u d st k.toNat) d st (m1 216)) → (hoursC (wr G u 3 seed) u d st k.toNat u 3 = m1 214 38) → (r_17 - k).toNat < n_24 → Go 0 8 mX12_drawHours (fun r m' => r = min n (400 - G st 0) ∧ Sd m m' ∧ Bg (hoursC (wr G u 3 seed) u d st (min n (400 - G st 0)).toNat) d st (m' 216)) 24 [vr 214, un, un, vi r_17, vi k, un] [] m1 := by
    intro n_24
    induction n_24 with
    | zero => intro m1 k hk0 hk1 hd1 hb1 hse1 hmu; exact absurd hmu (Nat.not_lt_zero _)
    | succ n_24 ih_24 =>
      intro m1 k hk0 hk1 hd1 hb1 hse1 hmu
      have hf1 := hoursC_fr (m := (wr G u 3 seed)) (w := u) (d := d) (st := st) k.toNat
      have hs1 := hoursC_st hwd hdn0 hst0 k.toNat (by rw [es0]; omega)
      obtain ⟨H, hH⟩ : ∃ z, z = hoursC (wr G u 3 seed) u d st k.toNat := ⟨_, rfl⟩
      rw [← hH] at hf1 hs1 hb1 hse1
      have hdn1 : DnOk H d := hdn0.frw hwd hf1
      have ed1 : H d = G d := (hf1 d (by omega) (by omega)).trans ed0
      refine go_iload dX12_drawHours_24 rfl ?_
      refine go_iload_n dX12_drawHours_26 rfl ?_
      refine go_icmp_ge (tgt := 66) dX12_drawHours_27 (by decide) ⟨by omega, by omega⟩ ⟨by omega, by omega⟩ (fun h_27 => ?_) (fun h_27 => ?_)
      · refine go_iload_n dX12_drawHours_66 rfl ?_
        exact go_ret (v := r_17) rfl dX12_drawHours_67 (okI ⟨by omega, by omega⟩) ⟨by omega, hd1, by rw [show min n (400 - G st 0) = k by omega, ← hH]; exact hb1⟩
      · refine go_iconst dX12_drawHours_30 ?_
        refine go_istore (L' := [vr 214, un, un, vi r_17, vi k, vi 0]) dX12_drawHours_31 (by decide) rfl rfl ?_
        have lp_33 : ∀ (n_33 : Nat) (m2 : Mem) (q : Int) , (0 ≤ q) → (q ≤ G d 3) → (Sd m m2) → (Bg (actsC H u d st q.toNat) d st (m2 216)) → (actsC H u d st q.toNat u 3 = m2 214 38) → (G d 3 - q).toNat < n_33 → Go 0 8 mX12_drawHours (fun r m' => r = min n (400 - G st 0) ∧ Sd m m' ∧ Bg (hoursC (wr G u 3 seed) u d st (min n (400 - G st 0)).toNat) d st (m' 216)) 33 [vr 214, un, un, vi r_17, vi k, vi q] [] m2 := by
          intro n_33
          induction n_33 with
          | zero => intro m2 q hq0 hq1 hd2 hb2 hse2 hmu; exact absurd hmu (Nat.not_lt_zero _)
          | succ n_33 ih_33 =>
            intro m2 q hq0 hq1 hd2 hb2 hse2 hmu
            have hf2 := actsC_fr (m := H) (w := u) (d := d) (st := st) q.toNat
            have hs2 := actsC_st hwd hdn1 hs1.1 q.toNat (by rw [ed1]; omega)
            have hdn2 : DnOk (actsC H u d st q.toNat) d := hdn1.frw hwd hf2
            have ed2 : actsC H u d st q.toNat d = G d := (hf2 d (by omega) (by omega)).trans ed1
            have e3 : m2 216 3 = G d 3 := by rw [hb2.n3, ed2]
            refine go_iload dX12_drawHours_33 rfl ?_
            refine go_aload_n dX12_drawHours_35 rfl ?_
            refine go_getf_p (b := 216) dX12_drawHours_36 fl_12_98 ob_214 rfl pt_214_14 ?_
            refine go_iconst dX12_drawHours_39 ?_
            refine go_iaload dX12_drawHours_40 ar_216 (by omega) (by omega) (fun he_40 => ?_)
            rw [show (m2 216 3 : Int) = (G d 3) from e3] at he_40 ⊢
            refine go_icmp_ge (tgt := 56) dX12_drawHours_41 (by decide) ⟨by omega, by omega⟩ ⟨by omega, by omega⟩ (fun h_41 => ?_) (fun h_41 => ?_)
            · refine go_aload_n dX12_drawHours_56 rfl ?_
              refine go_callV_v (as := []) (S := []) (b := 214) (ev_X12_oneHour (m := m2) (G := (actsC H u d st q.toNat)) (d := d) (st := st) (B := (B + 5 * (k.toNat : Int) + (q.toNat : Int))) hb2 hdn2 hs2 (by first | assumption | omega | exact ⟨by omega, by omega⟩ | (constructor <;> omega))) rfl dX12_drawHours_57 cv_12_297 rfl rfl ob_214 rfl (by decide) (Nat.le_of_ble_eq_true rfl) (fun m_57 hr_57 => ?_)
              refine go_iinc (L' := [vr 214, un, un, vi r_17, vi (k + 1), vi q]) dX12_drawHours_60 rfl (by decide) rfl rfl ?_
              refine go_goto (tgt := 24) dX12_drawHours_63 (by decide) ?_
              refine go_drop (j := 5) (L' := [vr 214, un, un, vi r_17, vi (k + 1), un]) rfl ?_
              exact ih_24 m_57 (k + 1) (by first | assumption | omega | rfl) (by first | assumption | omega | rfl) (hd2.tr (Sd.so hr_57.1)) (by rw [show (k + 1).toNat = k.toNat + 1 by omega]; show Bg (passC (actsC (hoursC (wr G u 3 seed) u d st k.toNat) u d st ((wr G u 3 seed) d 3).toNat) d st 1) d st _; rw [← hH, ed0, show G d 3 = q by omega]; exact hr_57.2) (by rw [show (k + 1).toNat = k.toNat + 1 by omega]; show passC (actsC (hoursC (wr G u 3 seed) u d st k.toNat) u d st ((wr G u 3 seed) d 3).toNat) d st 1 u 3 = _; rw [← hH, ed0, show G d 3 = q by omega, passC_w husw.1, hse2, hr_57.1.1 214 (by decide)]) (by omega)
            · refine go_aload_n dX12_drawHours_44 rfl ?_
              refine go_iload dX12_drawHours_45 rfl ?_
              refine go_callV_v (as := [vi q]) (S := []) (b := 214) (ev_X12_drawsFor (m := m2) (p := q) (u := u) (G := (actsC H u d st q.toNat)) (d := d) (st := st) (B := (B + 5 * (k.toNat : Int) + (q.toNat : Int))) hwd hb2 hdn2 hs2 (by rw [ed2]; omega) (by first | assumption | omega | exact ⟨by omega, by omega⟩ | (constructor <;> omega)) hse2) rfl dX12_drawHours_47 cv_12_384 rfl rfl ob_214 rfl (by decide) (Nat.le_of_ble_eq_true rfl) (fun m_47 hr_47 => ?_)
              refine go_iinc (L' := [vr 214, un, un, vi r_17, vi k, vi (q + 1)]) dX12_drawHours_50 rfl (by decide) rfl rfl ?_
              refine go_goto (tgt := 33) dX12_drawHours_53 (by decide) ?_
              exact ih_33 m_47 (q + 1) (by first | assumption | omega | rfl) (by first | assumption | omega | rfl) (hd2.tr hr_47.1) (by rw [show (q + 1).toNat = q.toNat + 1 by omega]; show Bg (actC (actsC H u d st q.toNat) u d st (q.toNat : Int)) d st _; rw [Int.toNat_of_nonneg hq0]; exact hr_47.2.1) (by rw [show (q + 1).toNat = q.toNat + 1 by omega]; show actC (actsC H u d st q.toNat) u d st (q.toNat : Int) u 3 = _; rw [Int.toNat_of_nonneg hq0]; exact hr_47.2.2) (by omega)
        exact lp_33 _ m1 0 (by first | assumption | omega | rfl) (by first | assumption | omega | rfl) hd1 hb1 hse1 (Nat.lt_succ_self _)
  exact lp_24 _ (wr m 214 38 seed) 0 (by first | assumption | omega | rfl) (by first | assumption | omega | rfl) Sd.w hb0 (by show wr G u 3 seed u 3 = _; rw [wr_self, wr_self]) (Nat.lt_succ_self _)
theorem dX12_drawn_0 : decode mX12_drawn.2.1 0 = .ok (.aload_n 0, 1) := by decide +kernel
theorem dX12_drawn_1 : decode mX12_drawn.2.1 1 = .ok (.iconst 0, 1) := by decide +kernel
theorem dX12_drawn_2 : decode mX12_drawn.2.1 2 = .ok (.putfield 1, 3) := by decide +kernel
theorem dX12_drawn_5 : decode mX12_drawn.2.1 5 = .ok (.iload_n 1, 1) := by decide +kernel
theorem dX12_drawn_6 : decode mX12_drawn.2.1 6 = .ok (.iconst 1, 1) := by decide +kernel
theorem dX12_drawn_7 : decode mX12_drawn.2.1 7 = .ok (.bipush 60, 2) := by decide +kernel
theorem dX12_drawn_9 : decode mX12_drawn.2.1 9 = .ok (.invokestatic 75, 3) := by decide +kernel
theorem dX12_drawn_12 : decode mX12_drawn.2.1 12 = .ok (.ifCond .ne 5, 3) := by decide +kernel
theorem dX12_drawn_15 : decode mX12_drawn.2.1 15 = .ok (.iconst (-1), 1) := by decide +kernel
theorem dX12_drawn_16 : decode mX12_drawn.2.1 16 = .ok (.ireturn, 1) := by decide +kernel
theorem dX12_drawn_17 : decode mX12_drawn.2.1 17 = .ok (.aload_n 0, 1) := by decide +kernel
theorem dX12_drawn_18 : decode mX12_drawn.2.1 18 = .ok (.getfield 98, 3) := by decide +kernel
theorem dX12_drawn_21 : decode mX12_drawn.2.1 21 = .ok (.bipush 123, 2) := by decide +kernel
theorem dX12_drawn_23 : decode mX12_drawn.2.1 23 = .ok (.iaload, 1) := by decide +kernel
theorem dX12_drawn_24 : decode mX12_drawn.2.1 24 = .ok (.sipush 400, 3) := by decide +kernel
theorem dX12_drawn_27 : decode mX12_drawn.2.1 27 = .ok (.if_icmp .ne 5, 3) := by decide +kernel
theorem dX12_drawn_30 : decode mX12_drawn.2.1 30 = .ok (.iconst 0, 1) := by decide +kernel
theorem dX12_drawn_31 : decode mX12_drawn.2.1 31 = .ok (.ireturn, 1) := by decide +kernel
theorem dX12_drawn_32 : decode mX12_drawn.2.1 32 = .ok (.aload_n 0, 1) := by decide +kernel
theorem dX12_drawn_33 : decode mX12_drawn.2.1 33 = .ok (.invokevirtual 280, 3) := by decide +kernel
theorem dX12_drawn_36 : decode mX12_drawn.2.1 36 = .ok (.aload_n 0, 1) := by decide +kernel
theorem dX12_drawn_37 : decode mX12_drawn.2.1 37 = .ok (.iload_n 1, 1) := by decide +kernel
theorem dX12_drawn_38 : decode mX12_drawn.2.1 38 = .ok (.iload_n 2, 1) := by decide +kernel
theorem dX12_drawn_39 : decode mX12_drawn.2.1 39 = .ok (.invokevirtual 387, 3) := by decide +kernel
theorem dX12_drawn_42 : decode mX12_drawn.2.1 42 = .ok (.ireturn, 1) := by decide +kernel
set_option maxRecDepth 4000 in
theorem ev_X12_drawn {m : Mem} {u : Nat} {G : Mem} {d : Nat} {st : Nat} {B : Int} {n : Int} {seed : Int} (hwd : isWd u d st) (hb : Bg G d st (m 216)) (hdn : DnOk G d) (hst : StOk G d st B) (hn : 0 ≤ m 214 25 ∧ m 214 25 ≤ 8) (hv : InR n) (hsd : InR seed) (hB : 0 ≤ B ∧ B ≤ 200000000) : Ev 0 9 mX12_drawn [vr 214, vi n, vi seed] m (fun r m' => (¬ (1 ≤ n ∧ n ≤ 60) ∧ r = -1 ∧ m' = wr m 214 0 0) ∨ ((1 ≤ n ∧ n ≤ 60) ∧ r = min n (400 - G st 0) ∧ ((G st 0 = 400 ∧ m' = wr m 214 0 0) ∨ (G st 0 ≠ 400 ∧ ∃ m1 : Mem, SnP (wr m 214 0 0) m1 ∧ Sd m1 m' ∧ Bg (hoursC (wr G u 3 seed) u d st (min n (400 - G st 0)).toNat) d st (m' 216))))) := by
  refine Ev.of (L := [vr 214, vi n, vi seed]) (by decide +kernel) rfl (Nat.le_of_ble_eq_true rfl) rfl (fun t ht => by cases ht; first | exact Or.inl rfl | exact Or.inr (Or.inl rfl) | exact Or.inr (Or.inr rfl)) (fun hcan => ?_)
  obtain ⟨⟨hd0, hd1⟩, ⟨hd2, hd3⟩, ⟨hd4, hd5⟩, ⟨hd6, hd7⟩, ⟨hd8, hd9⟩, hdf, hdp, hdq⟩ := id hdn
  have hs00 := hst.1
  refine go_aload_n dX12_drawn_0 rfl ?_
  refine go_iconst dX12_drawn_1 ?_
  refine go_putf_i (ki := 0) dX12_drawn_2 fw_12_1 ob_214 rfl rfl ⟨by omega, by omega⟩ ?_
  refine go_iload_n dX12_drawn_5 rfl ?_
  refine go_iconst dX12_drawn_6 ?_
  refine go_bipush dX12_drawn_7 (by decide) ?_
  refine go_callSp_z (as := [vi n, vi 1, vi 60]) (S := []) (ev_X12_isIn (m := (wr m 214 0 0)) (n := n) (lo := 1) (hi := 60) (by first | assumption | omega | exact ⟨by omega, by omega⟩ | (constructor <;> omega)) (by first | assumption | omega | exact ⟨by omega, by omega⟩ | (constructor <;> omega)) (by first | assumption | omega | exact ⟨by omega, by omega⟩ | (constructor <;> omega))) rfl dX12_drawn_9 cs_12_75 rfl rfl (by decide) (Nat.le_of_ble_eq_true rfl) (fun r_9 hr_9 ho_9 => ?_)
  refine go_if_ne (tgt := 17) dX12_drawn_12 (by decide) ⟨by omega, by omega⟩ (fun h_12 => ?_) (fun h_12 => ?_)
  · refine go_aload_n dX12_drawn_17 rfl ?_
    refine go_getf_p (b := 216) dX12_drawn_18 fl_12_98 ob_214 rfl pt_214_14 ?_
    refine go_bipush dX12_drawn_21 (by decide) ?_
    refine go_iaload dX12_drawn_23 ar_216 (by omega) (by omega) (fun he_23 => ?_)
    rw [show ((wr m 214 0 0) 216 123 : Int) = (G st 0) from by rw [wr_na (by omega)]; exact hb.hr] at he_23 ⊢
    refine go_sipush dX12_drawn_24 (by decide) ?_
    refine go_icmp_ne (tgt := 32) dX12_drawn_27 (by decide) ⟨by omega, by omega⟩ ⟨by omega, by omega⟩ (fun h_27 => ?_) (fun h_27 => ?_)
    · refine go_aload_n dX12_drawn_32 rfl ?_
      refine go_callV_v (as := []) (S := []) (b := 214) (ev_X12_snap (m := (wr m 214 0 0))  (by rw [wr_ni (by decide)]; exact hn)) rfl dX12_drawn_33 cv_12_280 rfl rfl ob_214 rfl (by decide) (Nat.le_of_ble_eq_true rfl) (fun m_33 hr_33 => ?_)
      refine go_aload_n dX12_drawn_36 rfl ?_
      refine go_iload_n dX12_drawn_37 rfl ?_
      refine go_iload_n dX12_drawn_38 rfl ?_
      refine go_callV_i (as := [vi n, vi seed]) (S := []) (b := 214) (ev_X12_drawHours (m := m_33) (n := n) (seed := seed) (u := u) (G := G) (d := d) (st := st) (B := B) hwd ((hb.w (by decide)).e (hr_33.1 216 (by decide) (by decide))) (by first | assumption | omega | exact ⟨by omega, by omega⟩ | (constructor <;> omega)) (by first | assumption | omega | exact ⟨by omega, by omega⟩ | (constructor <;> omega)) (by first | assumption | omega | exact ⟨by omega, by omega⟩ | (constructor <;> omega)) (by first | assumption | omega | exact ⟨by omega, by omega⟩ | (constructor <;> omega)) (by first | assumption | omega | exact ⟨by omega, by omega⟩ | (constructor <;> omega))) rfl dX12_drawn_39 cv_12_387 rfl rfl ob_214 rfl (by decide) (Nat.le_of_ble_eq_true rfl) (fun r_39 m_39 hr_39 ho_39 => ?_)
      exact go_ret (v := r_39) rfl dX12_drawn_42 (okI ⟨by omega, by omega⟩) (Or.inr ⟨by omega, hr_39.1, Or.inr ⟨by omega, _, hr_33, hr_39.2.1, hr_39.2.2⟩⟩)
    · refine go_iconst dX12_drawn_30 ?_
      exact go_ret (v := 0) rfl dX12_drawn_31 (okI ⟨by omega, by omega⟩) (Or.inr ⟨by omega, by omega, Or.inl ⟨by omega, rfl⟩⟩)
  · refine go_iconst dX12_drawn_15 ?_
    exact go_ret (v := (-1)) rfl dX12_drawn_16 (okI ⟨by omega, by omega⟩) (Or.inl ⟨by omega, rfl, rfl⟩)
theorem dX12_layAside_0 : decode mX12_layAside.2.1 0 = .ok (.iconst 0, 1) := by decide +kernel
theorem dX12_layAside_1 : decode mX12_layAside.2.1 1 = .ok (.istore_n 1, 1) := by decide +kernel
theorem dX12_layAside_2 : decode mX12_layAside.2.1 2 = .ok (.iload_n 1, 1) := by decide +kernel
theorem dX12_layAside_3 : decode mX12_layAside.2.1 3 = .ok (.bipush 109, 2) := by decide +kernel
theorem dX12_layAside_5 : decode mX12_layAside.2.1 5 = .ok (.if_icmp .ge 24, 3) := by decide +kernel
theorem dX12_layAside_8 : decode mX12_layAside.2.1 8 = .ok (.aload_n 0, 1) := by decide +kernel
theorem dX12_layAside_9 : decode mX12_layAside.2.1 9 = .ok (.getfield 110, 3) := by decide +kernel
theorem dX12_layAside_12 : decode mX12_layAside.2.1 12 = .ok (.iload_n 1, 1) := by decide +kernel
theorem dX12_layAside_13 : decode mX12_layAside.2.1 13 = .ok (.aload_n 0, 1) := by decide +kernel
theorem dX12_layAside_14 : decode mX12_layAside.2.1 14 = .ok (.getfield 98, 3) := by decide +kernel
theorem dX12_layAside_17 : decode mX12_layAside.2.1 17 = .ok (.bipush 123, 2) := by decide +kernel
theorem dX12_layAside_19 : decode mX12_layAside.2.1 19 = .ok (.iload_n 1, 1) := by decide +kernel
theorem dX12_layAside_20 : decode mX12_layAside.2.1 20 = .ok (.iadd, 1) := by decide +kernel
theorem dX12_layAside_21 : decode mX12_layAside.2.1 21 = .ok (.iaload, 1) := by decide +kernel
theorem dX12_layAside_22 : decode mX12_layAside.2.1 22 = .ok (.iastore, 1) := by decide +kernel
theorem dX12_layAside_23 : decode mX12_layAside.2.1 23 = .ok (.iinc 1 1, 3) := by decide +kernel
theorem dX12_layAside_26 : decode mX12_layAside.2.1 26 = .ok (.goto (-24), 3) := by decide +kernel
theorem dX12_layAside_29 : decode mX12_layAside.2.1 29 = .ok (.return_, 1) := by decide +kernel
set_option maxRecDepth 4000 in
theorem ev_X12_layAside {m : Mem}   : Ev 0 1 mX12_layAside [vr 214] m (fun r m' => m' = mov m 216 220 123 0 109) := by
  refine Ev.of (L := [vr 214, un]) (by decide +kernel) rfl (Nat.le_of_ble_eq_true rfl) rfl (fun t ht => by cases ht) (fun hcan => ?_)
  refine go_iconst dX12_layAside_0 ?_
  refine go_istore_n (L' := [vr 214, vi 0]) dX12_layAside_1 (by decide) rfl rfl ?_
  have lp_2 : ∀ (n_2 : Nat) (m1 : Mem) (i : Int) , (0 ≤ i) → (i ≤ 109) → (m1 = mov m 216 220 123 0 i) → (109 - i).toNat < n_2 → Go 0 1 mX12_layAside (fun r m' => m' = mov m 216 220 123 0 109) 2 [vr 214, vi i] [] m1 := by
    intro n_2
    induction n_2 with
    | zero => intro m1 i hi0 hi1 hm hmu; exact absurd hmu (Nat.not_lt_zero _)
    | succ n_2 ih_2 =>
      intro m1 i hi0 hi1 hm hmu
      have e1 : m1 216 (123 + i) = m 216 (123 + i) := by rw [hm, mov_row (by decide)]
      refine go_iload_n dX12_layAside_2 rfl ?_
      refine go_bipush dX12_layAside_3 (by decide) ?_
      refine go_icmp_ge (tgt := 29) dX12_layAside_5 (by decide) ⟨by omega, by omega⟩ ⟨by omega, by omega⟩ (fun h_5 => ?_) (fun h_5 => ?_)
      · exact go_ret (v := 0) rfl dX12_layAside_29 rfl (by rw [hm, show i = 109 by omega])
      · refine go_aload_n dX12_layAside_8 rfl ?_
        refine go_getf_p (b := 220) dX12_layAside_9 fl_12_110 ob_214 rfl pt_214_18 ?_
        refine go_iload_n dX12_layAside_12 rfl ?_
        refine go_aload_n dX12_layAside_13 rfl ?_
        refine go_getf_p (b := 216) dX12_layAside_14 fl_12_98 ob_214 rfl pt_214_14 ?_
        refine go_bipush dX12_layAside_17 (by decide) ?_
        refine go_iload_n dX12_layAside_19 rfl ?_
        refine go_iadd dX12_layAside_20 ?_
        refine go_iaload dX12_layAside_21 ar_216 (by omega) (by omega) (fun he_21 => ?_)
        rw [show (m1 216 (123 + i) : Int) = (m 216 (123 + i)) from e1] at he_21 ⊢
        refine go_iastore dX12_layAside_22 ar_220 (by omega) (by omega) ⟨by omega, by omega⟩ ?_
        refine go_iinc (L' := [vr 214, vi (i + 1)]) dX12_layAside_23 rfl (by decide) rfl rfl ?_
        refine go_goto (tgt := 2) dX12_layAside_26 (by decide) ?_
        exact ih_2 (wr m1 220 i (m 216 (123 + i))) (i + 1) (by first | assumption | omega | rfl) (by first | assumption | omega | rfl) (by have h := mov_s (m := m) (a := 216) (b := 220) (o := 123) (p := 0) hi0; rw [Int.zero_add] at h; rw [hm]; exact h) (by omega)
  exact lp_2 _ m 0 (by first | assumption | omega | rfl) (by first | assumption | omega | rfl) (mov_0 _ _ _ _ _).symm (Nat.lt_succ_self _)
theorem dX12_takeBack_0 : decode mX12_takeBack.2.1 0 = .ok (.iconst 0, 1) := by decide +kernel
theorem dX12_takeBack_1 : decode mX12_takeBack.2.1 1 = .ok (.istore_n 1, 1) := by decide +kernel
theorem dX12_takeBack_2 : decode mX12_takeBack.2.1 2 = .ok (.iload_n 1, 1) := by decide +kernel
theorem dX12_takeBack_3 : decode mX12_takeBack.2.1 3 = .ok (.bipush 109, 2) := by decide +kernel
theorem dX12_takeBack_5 : decode mX12_takeBack.2.1 5 = .ok (.if_icmp .ge 24, 3) := by decide +kernel
theorem dX12_takeBack_8 : decode mX12_takeBack.2.1 8 = .ok (.aload_n 0, 1) := by decide +kernel
theorem dX12_takeBack_9 : decode mX12_takeBack.2.1 9 = .ok (.getfield 98, 3) := by decide +kernel
theorem dX12_takeBack_12 : decode mX12_takeBack.2.1 12 = .ok (.bipush 123, 2) := by decide +kernel
theorem dX12_takeBack_14 : decode mX12_takeBack.2.1 14 = .ok (.iload_n 1, 1) := by decide +kernel
theorem dX12_takeBack_15 : decode mX12_takeBack.2.1 15 = .ok (.iadd, 1) := by decide +kernel
theorem dX12_takeBack_16 : decode mX12_takeBack.2.1 16 = .ok (.aload_n 0, 1) := by decide +kernel
theorem dX12_takeBack_17 : decode mX12_takeBack.2.1 17 = .ok (.getfield 110, 3) := by decide +kernel
theorem dX12_takeBack_20 : decode mX12_takeBack.2.1 20 = .ok (.iload_n 1, 1) := by decide +kernel
theorem dX12_takeBack_21 : decode mX12_takeBack.2.1 21 = .ok (.iaload, 1) := by decide +kernel
theorem dX12_takeBack_22 : decode mX12_takeBack.2.1 22 = .ok (.iastore, 1) := by decide +kernel
theorem dX12_takeBack_23 : decode mX12_takeBack.2.1 23 = .ok (.iinc 1 1, 3) := by decide +kernel
theorem dX12_takeBack_26 : decode mX12_takeBack.2.1 26 = .ok (.goto (-24), 3) := by decide +kernel
theorem dX12_takeBack_29 : decode mX12_takeBack.2.1 29 = .ok (.return_, 1) := by decide +kernel
set_option maxRecDepth 4000 in
theorem ev_X12_takeBack {m : Mem}   : Ev 0 1 mX12_takeBack [vr 214] m (fun r m' => m' = mov m 220 216 0 123 109) := by
  refine Ev.of (L := [vr 214, un]) (by decide +kernel) rfl (Nat.le_of_ble_eq_true rfl) rfl (fun t ht => by cases ht) (fun hcan => ?_)
  refine go_iconst dX12_takeBack_0 ?_
  refine go_istore_n (L' := [vr 214, vi 0]) dX12_takeBack_1 (by decide) rfl rfl ?_
  have lp_2 : ∀ (n_2 : Nat) (m1 : Mem) (i : Int) , (0 ≤ i) → (i ≤ 109) → (m1 = mov m 220 216 0 123 i) → (109 - i).toNat < n_2 → Go 0 1 mX12_takeBack (fun r m' => m' = mov m 220 216 0 123 109) 2 [vr 214, vi i] [] m1 := by
    intro n_2
    induction n_2 with
    | zero => intro m1 i hi0 hi1 hm hmu; exact absurd hmu (Nat.not_lt_zero _)
    | succ n_2 ih_2 =>
      intro m1 i hi0 hi1 hm hmu
      have e1 : m1 220 i = m 220 i := by rw [hm, mov_row (by decide)]
      refine go_iload_n dX12_takeBack_2 rfl ?_
      refine go_bipush dX12_takeBack_3 (by decide) ?_
      refine go_icmp_ge (tgt := 29) dX12_takeBack_5 (by decide) ⟨by omega, by omega⟩ ⟨by omega, by omega⟩ (fun h_5 => ?_) (fun h_5 => ?_)
      · exact go_ret (v := 0) rfl dX12_takeBack_29 rfl (by rw [hm, show i = 109 by omega])
      · refine go_aload_n dX12_takeBack_8 rfl ?_
        refine go_getf_p (b := 216) dX12_takeBack_9 fl_12_98 ob_214 rfl pt_214_14 ?_
        refine go_bipush dX12_takeBack_12 (by decide) ?_
        refine go_iload_n dX12_takeBack_14 rfl ?_
        refine go_iadd dX12_takeBack_15 ?_
        refine go_aload_n dX12_takeBack_16 rfl ?_
        refine go_getf_p (b := 220) dX12_takeBack_17 fl_12_110 ob_214 rfl pt_214_18 ?_
        refine go_iload_n dX12_takeBack_20 rfl ?_
        refine go_iaload dX12_takeBack_21 ar_220 (by omega) (by omega) (fun he_21 => ?_)
        rw [show (m1 220 i : Int) = (m 220 i) from e1] at he_21 ⊢
        refine go_iastore dX12_takeBack_22 ar_216 (by omega) (by omega) ⟨by omega, by omega⟩ ?_
        refine go_iinc (L' := [vr 214, vi (i + 1)]) dX12_takeBack_23 rfl (by decide) rfl rfl ?_
        refine go_goto (tgt := 2) dX12_takeBack_26 (by decide) ?_
        exact ih_2 (wr m1 216 (123 + i) (m 220 i)) (i + 1) (by first | assumption | omega | rfl) (by first | assumption | omega | rfl) (by have h := mov_s (m := m) (a := 220) (b := 216) (o := 0) (p := 123) hi0; rw [Int.zero_add] at h; rw [hm]; exact h) (by omega)
  exact lp_2 _ m 0 (by first | assumption | omega | rfl) (by first | assumption | omega | rfl) (mov_0 _ _ _ _ _).symm (Nat.lt_succ_self _)
theorem dX12_odds_0 : decode mX12_odds.2.1 0 = .ok (.aload_n 0, 1) := by decide +kernel
theorem dX12_odds_1 : decode mX12_odds.2.1 1 = .ok (.iconst 0, 1) := by decide +kernel
theorem dX12_odds_2 : decode mX12_odds.2.1 2 = .ok (.putfield 1, 3) := by decide +kernel
theorem dX12_odds_5 : decode mX12_odds.2.1 5 = .ok (.aload_n 0, 1) := by decide +kernel
theorem dX12_odds_6 : decode mX12_odds.2.1 6 = .ok (.iload_n 1, 1) := by decide +kernel
theorem dX12_odds_7 : decode mX12_odds.2.1 7 = .ok (.invokevirtual 245, 3) := by decide +kernel
theorem dX12_odds_10 : decode mX12_odds.2.1 10 = .ok (.ifCond .eq 21, 3) := by decide +kernel
theorem dX12_odds_13 : decode mX12_odds.2.1 13 = .ok (.aload_n 0, 1) := by decide +kernel
theorem dX12_odds_14 : decode mX12_odds.2.1 14 = .ok (.iload_n 2, 1) := by decide +kernel
theorem dX12_odds_15 : decode mX12_odds.2.1 15 = .ok (.invokevirtual 257, 3) := by decide +kernel
theorem dX12_odds_18 : decode mX12_odds.2.1 18 = .ok (.ifCond .eq 13, 3) := by decide +kernel
theorem dX12_odds_21 : decode mX12_odds.2.1 21 = .ok (.iload_n 3, 1) := by decide +kernel
theorem dX12_odds_22 : decode mX12_odds.2.1 22 = .ok (.iconst 1, 1) := by decide +kernel
theorem dX12_odds_23 : decode mX12_odds.2.1 23 = .ok (.bipush 30, 2) := by decide +kernel
theorem dX12_odds_25 : decode mX12_odds.2.1 25 = .ok (.invokestatic 75, 3) := by decide +kernel
theorem dX12_odds_28 : decode mX12_odds.2.1 28 = .ok (.ifCond .ne 5, 3) := by decide +kernel
theorem dX12_odds_31 : decode mX12_odds.2.1 31 = .ok (.iconst (-1), 1) := by decide +kernel
theorem dX12_odds_32 : decode mX12_odds.2.1 32 = .ok (.ireturn, 1) := by decide +kernel
theorem dX12_odds_33 : decode mX12_odds.2.1 33 = .ok (.aload_n 0, 1) := by decide +kernel
theorem dX12_odds_34 : decode mX12_odds.2.1 34 = .ok (.invokevirtual 390, 3) := by decide +kernel
theorem dX12_odds_37 : decode mX12_odds.2.1 37 = .ok (.iconst 0, 1) := by decide +kernel
theorem dX12_odds_38 : decode mX12_odds.2.1 38 = .ok (.istore 5, 2) := by decide +kernel
theorem dX12_odds_40 : decode mX12_odds.2.1 40 = .ok (.iconst 0, 1) := by decide +kernel
theorem dX12_odds_41 : decode mX12_odds.2.1 41 = .ok (.istore 6, 2) := by decide +kernel
theorem dX12_odds_43 : decode mX12_odds.2.1 43 = .ok (.iload 6, 2) := by decide +kernel
theorem dX12_odds_45 : decode mX12_odds.2.1 45 = .ok (.iload_n 3, 1) := by decide +kernel
theorem dX12_odds_46 : decode mX12_odds.2.1 46 = .ok (.if_icmp .ge 45, 3) := by decide +kernel
theorem dX12_odds_49 : decode mX12_odds.2.1 49 = .ok (.aload_n 0, 1) := by decide +kernel
theorem dX12_odds_50 : decode mX12_odds.2.1 50 = .ok (.bipush 20, 2) := by decide +kernel
theorem dX12_odds_52 : decode mX12_odds.2.1 52 = .ok (.iload 4, 2) := by decide +kernel
theorem dX12_odds_54 : decode mX12_odds.2.1 54 = .ok (.iload 6, 2) := by decide +kernel
theorem dX12_odds_56 : decode mX12_odds.2.1 56 = .ok (.iadd, 1) := by decide +kernel
theorem dX12_odds_57 : decode mX12_odds.2.1 57 = .ok (.invokevirtual 387, 3) := by decide +kernel
theorem dX12_odds_60 : decode mX12_odds.2.1 60 = .ok (.pop, 1) := by decide +kernel
theorem dX12_odds_61 : decode mX12_odds.2.1 61 = .ok (.aload_n 0, 1) := by decide +kernel
theorem dX12_odds_62 : decode mX12_odds.2.1 62 = .ok (.getfield 98, 3) := by decide +kernel
theorem dX12_odds_65 : decode mX12_odds.2.1 65 = .ok (.sipush 141, 3) := by decide +kernel
theorem dX12_odds_68 : decode mX12_odds.2.1 68 = .ok (.iload_n 1, 1) := by decide +kernel
theorem dX12_odds_69 : decode mX12_odds.2.1 69 = .ok (.iadd, 1) := by decide +kernel
theorem dX12_odds_70 : decode mX12_odds.2.1 70 = .ok (.iaload, 1) := by decide +kernel
theorem dX12_odds_71 : decode mX12_odds.2.1 71 = .ok (.iload_n 2, 1) := by decide +kernel
theorem dX12_odds_72 : decode mX12_odds.2.1 72 = .ok (.invokestatic 242, 3) := by decide +kernel
theorem dX12_odds_75 : decode mX12_odds.2.1 75 = .ok (.ifCond .eq 6, 3) := by decide +kernel
theorem dX12_odds_78 : decode mX12_odds.2.1 78 = .ok (.iinc 5 1, 3) := by decide +kernel
theorem dX12_odds_81 : decode mX12_odds.2.1 81 = .ok (.aload_n 0, 1) := by decide +kernel
theorem dX12_odds_82 : decode mX12_odds.2.1 82 = .ok (.invokevirtual 393, 3) := by decide +kernel
theorem dX12_odds_85 : decode mX12_odds.2.1 85 = .ok (.iinc 6 1, 3) := by decide +kernel
theorem dX12_odds_88 : decode mX12_odds.2.1 88 = .ok (.goto (-45), 3) := by decide +kernel
theorem dX12_odds_91 : decode mX12_odds.2.1 91 = .ok (.iload 5, 2) := by decide +kernel
theorem dX12_odds_93 : decode mX12_odds.2.1 93 = .ok (.ireturn, 1) := by decide +kernel
set_option maxRecDepth 4000 in
theorem ev_X12_odds {m : Mem} {G : Mem} {B : Int} {p : Int} {q : Int} {n : Int} {seed : Int} (hb : Bg G 8 18 (m 216)) (hdn : DnOk G 8) (hst : StOk G 8 18 B) (hp : InR p) (hq : InR q) (hv : InR n) (hsd : InR seed) (hB : 0 ≤ B ∧ B ≤ 200000000) : Ev 0 9 mX12_odds [vr 214, vi p, vi q, vi n, vi seed] m (fun r m' => OdE (wr m 214 0 0) m' ∧ r = if ((0 ≤ p ∧ p < G 8 3) ∧ (0 ≤ q ∧ q < G 8 4) ∧ 1 ≤ n ∧ n ≤ 30) then oddsN G p q seed n.toNat else -1) := by
  refine Ev.of (L := [vr 214, vi p, vi q, vi n, vi seed, un, un]) (by decide +kernel) rfl (Nat.le_of_ble_eq_true rfl) rfl (fun t ht => by cases ht; first | exact Or.inl rfl | exact Or.inr (Or.inl rfl) | exact Or.inr (Or.inr rfl)) (fun hcan => ?_)
  obtain ⟨⟨hd0, hd1⟩, ⟨hd2, hd3⟩, ⟨hd4, hd5⟩, ⟨hd6, hd7⟩, ⟨hd8, hd9⟩, hdf, hdp, hdq⟩ := id hdn
  have hs00 := hst.1
  have hgd : DnOk (rows G 32 18 8) 8 := rows_sm.dn hdn
  have hgs : StOk (rows G 32 18 8) 8 32 B := rows_sm.sto hst
  have eg8 : (rows G 32 18 8) 8 = G 8 := rows_out (by omega)
  have eg18 : (rows G 32 18 8) 32 = G 18 := rows_in (k := 0) (by omega)
  obtain ⟨M, hM⟩ : ∃ z, z = wr m 214 0 0 := ⟨_, rfl⟩
  have hMb : Bg (rows G 32 18 8) 8 32 (M 216) := by rw [hM]; exact (hb.w (by decide)).sm rows_sm
  refine go_aload_n dX12_odds_0 rfl ?_
  refine go_iconst dX12_odds_1 ?_
  refine go_putf_i (ki := 0) dX12_odds_2 fw_12_1 ob_214 rfl rfl ⟨by omega, by omega⟩ ?_
  refine go_aload_n dX12_odds_5 rfl ?_
  refine go_iload_n dX12_odds_6 rfl ?_
  refine go_callVp_z (as := [vi p]) (S := []) (b := 214) (ev_X12_isPerson (m := (wr m 214 0 0)) (f := p) (G := G) (d := 8) (st := 18) (by first | exact hb | exact hb.w (by decide) | exact (hb.w (by decide)).w (by decide)) (by first | assumption | omega | exact ⟨by omega, by omega⟩ | (constructor <;> omega)) (by first | assumption | omega | exact ⟨by omega, by omega⟩ | (constructor <;> omega))) rfl dX12_odds_7 cv_12_245 rfl rfl ob_214 rfl (by decide) (Nat.le_of_ble_eq_true rfl) (fun r_7 hr_7 ho_7 => ?_)
  refine go_if_eq (tgt := 31) dX12_odds_10 (by decide) ⟨by omega, by omega⟩ (fun h_10 => ?_) (fun h_10 => ?_)
  · refine go_iconst dX12_odds_31 ?_
    exact go_ret (v := (-1)) rfl dX12_odds_32 (okI ⟨by omega, by omega⟩) (by rw [if_neg (by omega)]; exact ⟨OdE.rf, rfl⟩)
  · refine go_aload_n dX12_odds_13 rfl ?_
    refine go_iload_n dX12_odds_14 rfl ?_
    refine go_callVp_z (as := [vi q]) (S := []) (b := 214) (ev_X12_isPoint (m := (wr m 214 0 0)) (f := q) (G := G) (d := 8) (st := 18) (by first | exact hb | exact hb.w (by decide) | exact (hb.w (by decide)).w (by decide)) (by first | assumption | omega | exact ⟨by omega, by omega⟩ | (constructor <;> omega)) (by first | assumption | omega | exact ⟨by omega, by omega⟩ | (constructor <;> omega))) rfl dX12_odds_15 cv_12_257 rfl rfl ob_214 rfl (by decide) (Nat.le_of_ble_eq_true rfl) (fun r_15 hr_15 ho_15 => ?_)
    refine go_if_eq (tgt := 31) dX12_odds_18 (by decide) ⟨by omega, by omega⟩ (fun h_18 => ?_) (fun h_18 => ?_)
    · refine go_iconst dX12_odds_31 ?_
      exact go_ret (v := (-1)) rfl dX12_odds_32 (okI ⟨by omega, by omega⟩) (by rw [if_neg (by omega)]; exact ⟨OdE.rf, rfl⟩)
    · refine go_iload_n dX12_odds_21 rfl ?_
      refine go_iconst dX12_odds_22 ?_
      refine go_bipush dX12_odds_23 (by decide) ?_
      refine go_callSp_z (as := [vi n, vi 1, vi 30]) (S := []) (ev_X12_isIn (m := (wr m 214 0 0)) (n := n) (lo := 1) (hi := 30) (by first | assumption | omega | exact ⟨by omega, by omega⟩ | (constructor <;> omega)) (by first | assumption | omega | exact ⟨by omega, by omega⟩ | (constructor <;> omega)) (by first | assumption | omega | exact ⟨by omega, by omega⟩ | (constructor <;> omega))) rfl dX12_odds_25 cs_12_75 rfl rfl (by decide) (Nat.le_of_ble_eq_true rfl) (fun r_25 hr_25 ho_25 => ?_)
      refine go_if_ne (tgt := 33) dX12_odds_28 (by decide) ⟨by omega, by omega⟩ (fun h_28 => ?_) (fun h_28 => ?_)
      · refine go_aload_n dX12_odds_33 rfl ?_
        refine go_callV_v (as := []) (S := []) (b := 214) (ev_X12_layAside (m := (wr m 214 0 0))  ) rfl dX12_odds_34 cv_12_390 rfl rfl ob_214 rfl (by decide) (Nat.le_of_ble_eq_true rfl) (fun m_34 hr_34 => ?_)
        rw [← hM] at hr_34
        subst hr_34
        refine go_iconst dX12_odds_37 ?_
        refine go_istore (L' := [vr 214, vi p, vi q, vi n, vi seed, vi 0, un]) dX12_odds_38 (by decide) rfl rfl ?_
        refine go_iconst dX12_odds_40 ?_
        refine go_istore (L' := [vr 214, vi p, vi q, vi n, vi seed, vi 0, vi 0]) dX12_odds_41 (by decide) rfl rfl ?_
        have lp_43 : ∀ (n_43 : Nat) (m1 : Mem) (c : Int) (k : Int) , (0 ≤ k) → (k ≤ n) → (OdE M m1) → (∀ j : Int, 0 ≤ j → j < 109 → m1 220 j = M 216 (123 + j)) → (c = oddsN G p q seed k.toNat) → (n - k).toNat < n_43 → Go 0 9 mX12_odds (fun r m' => OdE (wr m 214 0 0) m' ∧ r = if ((0 ≤ p ∧ p < G 8 3) ∧ (0 ≤ q ∧ q < G 8 4) ∧ 1 ≤ n ∧ n ≤ 30) then oddsN G p q seed n.toNat else -1) 43 [vr 214, vi p, vi q, vi n, vi seed, vi c, vi k] [] m1 := by
          intro n_43
          induction n_43 with
          | zero => intro m1 c k hk0 hk1 hod has hc hmu; exact absurd hmu (Nat.not_lt_zero _)
          | succ n_43 ih_43 =>
            intro m1 c k hk0 hk1 hod has hc hmu
            have hcb := oddsN_b G p q seed k.toNat
            rw [← hc] at hcb
            have hos := oddsN_s (m := G) (p := p) (q := q) (seed := seed) hk0
            have h1b : Bg (rows G 32 18 8) 8 32 (m1 216) := by rw [hod.1 216 (by decide) (by decide)]; exact hMb
            have hia := iand1_R (ishr (tr20 G (w32 (seed + k)) 38 p) q)
            refine go_iload dX12_odds_43 rfl ?_
            refine go_iload_n dX12_odds_45 rfl ?_
            refine go_icmp_ge (tgt := 91) dX12_odds_46 (by decide) ⟨by omega, by omega⟩ ⟨by omega, by omega⟩ (fun h_46 => ?_) (fun h_46 => ?_)
            · refine go_iload dX12_odds_91 rfl ?_
              exact go_ret (v := c) rfl dX12_odds_93 (okI ⟨by omega, by omega⟩) (by rw [if_pos (by omega), ← hM]; exact ⟨hod, by rw [hc, show k = n by omega]⟩)
            · refine go_aload_n dX12_odds_49 rfl ?_
              refine go_bipush dX12_odds_50 (by decide) ?_
              refine go_iload dX12_odds_52 rfl ?_
              refine go_iload dX12_odds_54 rfl ?_
              refine go_iadd dX12_odds_56 ?_
              refine go_wrap ?_
              refine go_callV_i (as := [vi 20, vi (w32 (seed + k))]) (S := []) (b := 214) (ev_X12_drawHours (m := m1) (n := 20) (seed := (w32 (seed + k))) (u := 31) (G := (rows G 32 18 8)) (d := 8) (st := 32) (B := B) isWd_31 h1b hgd hgs (by first | assumption | omega | exact ⟨by omega, by omega⟩ | (constructor <;> omega)) (w32_R _) (by first | assumption | omega | exact ⟨by omega, by omega⟩ | (constructor <;> omega))) rfl dX12_odds_57 cv_12_387 rfl rfl ob_214 rfl (by decide) (Nat.le_of_ble_eq_true rfl) (fun r_57 m_57 hr_57 ho_57 => ?_)
              have hr_57 : r_57 = min 20 (400 - G 18 0) ∧ Sd m1 m_57 ∧ Bg (tr20 G (w32 (seed + k))) 8 32 (m_57 216) := by rw [eg18] at hr_57; exact hr_57
              have htd : tr20 G (w32 (seed + k)) 8 3 = G 8 3 := by unfold tr20; rw [hoursC_fr _ 8 (by decide) (by decide), wr_na (by decide), eg8]
              have hrd : m_57 216 (141 + p) = tr20 G (w32 (seed + k)) 38 p := hr_57.2.2.ca (by omega) (by rw [htd]; omega)
              refine go_pop_i dX12_odds_60 ?_
              refine go_aload_n dX12_odds_61 rfl ?_
              refine go_getf_p (b := 216) dX12_odds_62 fl_12_98 ob_214 rfl pt_214_14 ?_
              refine go_sipush dX12_odds_65 (by decide) ?_
              refine go_iload_n dX12_odds_68 rfl ?_
              refine go_iadd dX12_odds_69 ?_
              refine go_iaload dX12_odds_70 ar_216 (by omega) (by omega) (fun he_70 => ?_)
              rw [show (m_57 216 (141 + p) : Int) = (tr20 G (w32 (seed + k)) 38 p) from hrd] at he_70 ⊢
              refine go_iload_n dX12_odds_71 rfl ?_
              refine go_callSp_z (as := [vi (tr20 G (w32 (seed + k)) 38 p), vi q]) (S := []) (ev_X12_has (m := m_57) (a := (tr20 G (w32 (seed + k)) 38 p)) (k := q) ) rfl dX12_odds_72 cs_12_242 rfl rfl (by decide) (Nat.le_of_ble_eq_true rfl) (fun r_72 hr_72 ho_72 => ?_)
              refine go_if_eq (tgt := 81) dX12_odds_75 (by decide) ⟨by omega, by omega⟩ (fun h_75 => ?_) (fun h_75 => ?_)
              · refine go_aload_n dX12_odds_81 rfl ?_
                refine go_callV_v (as := []) (S := []) (b := 214) (ev_X12_takeBack (m := m_57)  ) rfl dX12_odds_82 cv_12_393 rfl rfl ob_214 rfl (by decide) (Nat.le_of_ble_eq_true rfl) (fun m_82 hr_82 => ?_)
                have hbk := hod.back has hr_57.2.1
                rw [← hr_82] at hbk
                refine go_iinc (L' := [vr 214, vi p, vi q, vi n, vi seed, vi c, vi (k + 1)]) dX12_odds_85 rfl (by decide) rfl rfl ?_
                refine go_goto (tgt := 43) dX12_odds_88 (by decide) ?_
                exact ih_43 m_82 c (k + 1) (by first | assumption | omega | rfl) (by first | assumption | omega | rfl) hbk.1 hbk.2.1 (by rw [hos, ← hc]; have h72 := hr_72; unfold hasP at h72; omega) (by omega)
              · refine go_iinc (L' := [vr 214, vi p, vi q, vi n, vi seed, vi (c + 1), vi k]) dX12_odds_78 rfl (by decide) rfl rfl ?_
                refine go_aload_n dX12_odds_81 rfl ?_
                refine go_callV_v (as := []) (S := []) (b := 214) (ev_X12_takeBack (m := m_57)  ) rfl dX12_odds_82 cv_12_393 rfl rfl ob_214 rfl (by decide) (Nat.le_of_ble_eq_true rfl) (fun m_82 hr_82 => ?_)
                have hbk := hod.back has hr_57.2.1
                rw [← hr_82] at hbk
                refine go_iinc (L' := [vr 214, vi p, vi q, vi n, vi seed, vi (c + 1), vi (k + 1)]) dX12_odds_85 rfl (by decide) rfl rfl ?_
                refine go_goto (tgt := 43) dX12_odds_88 (by decide) ?_
                exact ih_43 m_82 (c + 1) (k + 1) (by first | assumption | omega | rfl) (by first | assumption | omega | rfl) hbk.1 hbk.2.1 (by rw [hos, ← hc]; have h72 := hr_72; unfold hasP at h72; omega) (by omega)
        exact lp_43 _ (mov M 216 220 123 0 109) 0 0 (by first | assumption | omega | rfl) (by first | assumption | omega | rfl) ⟨fun b h1 h2 => mov_row h2, fun j hj => by rw [mov_row (by decide)]⟩ (fun j h0 h1 => by rw [mov_in (by omega) (by omega)]; rw [show 123 + (j - 0) = 123 + j by omega]) rfl (Nat.lt_succ_self _)
      · refine go_iconst dX12_odds_31 ?_
        exact go_ret (v := (-1)) rfl dX12_odds_32 (okI ⟨by omega, by omega⟩) (by rw [if_neg (by omega)]; exact ⟨OdE.rf, rfl⟩)
theorem dX12_least_0 : decode mX12_least.2.1 0 = .ok (.aload_n 0, 1) := by decide +kernel
theorem dX12_least_1 : decode mX12_least.2.1 1 = .ok (.iconst 0, 1) := by decide +kernel
theorem dX12_least_2 : decode mX12_least.2.1 2 = .ok (.putfield 1, 3) := by decide +kernel
theorem dX12_least_5 : decode mX12_least.2.1 5 = .ok (.iconst (-1), 1) := by decide +kernel
theorem dX12_least_6 : decode mX12_least.2.1 6 = .ok (.istore_n 1, 1) := by decide +kernel
theorem dX12_least_7 : decode mX12_least.2.1 7 = .ok (.iconst 0, 1) := by decide +kernel
theorem dX12_least_8 : decode mX12_least.2.1 8 = .ok (.istore_n 2, 1) := by decide +kernel
theorem dX12_least_9 : decode mX12_least.2.1 9 = .ok (.iload_n 2, 1) := by decide +kernel
theorem dX12_least_10 : decode mX12_least.2.1 10 = .ok (.aload_n 0, 1) := by decide +kernel
theorem dX12_least_11 : decode mX12_least.2.1 11 = .ok (.getfield 98, 3) := by decide +kernel
theorem dX12_least_14 : decode mX12_least.2.1 14 = .ok (.iconst 3, 1) := by decide +kernel
theorem dX12_least_15 : decode mX12_least.2.1 15 = .ok (.iaload, 1) := by decide +kernel
theorem dX12_least_16 : decode mX12_least.2.1 16 = .ok (.if_icmp .ge 59, 3) := by decide +kernel
theorem dX12_least_19 : decode mX12_least.2.1 19 = .ok (.iload_n 1, 1) := by decide +kernel
theorem dX12_least_20 : decode mX12_least.2.1 20 = .ok (.iconst (-1), 1) := by decide +kernel
theorem dX12_least_21 : decode mX12_least.2.1 21 = .ok (.if_icmp .eq 46, 3) := by decide +kernel
theorem dX12_least_24 : decode mX12_least.2.1 24 = .ok (.aload_n 0, 1) := by decide +kernel
theorem dX12_least_25 : decode mX12_least.2.1 25 = .ok (.getfield 98, 3) := by decide +kernel
theorem dX12_least_28 : decode mX12_least.2.1 28 = .ok (.sipush 136, 3) := by decide +kernel
theorem dX12_least_31 : decode mX12_least.2.1 31 = .ok (.iload_n 2, 1) := by decide +kernel
theorem dX12_least_32 : decode mX12_least.2.1 32 = .ok (.iadd, 1) := by decide +kernel
theorem dX12_least_33 : decode mX12_least.2.1 33 = .ok (.iaload, 1) := by decide +kernel
theorem dX12_least_34 : decode mX12_least.2.1 34 = .ok (.aload_n 0, 1) := by decide +kernel
theorem dX12_least_35 : decode mX12_least.2.1 35 = .ok (.getfield 98, 3) := by decide +kernel
theorem dX12_least_38 : decode mX12_least.2.1 38 = .ok (.bipush 27, 2) := by decide +kernel
theorem dX12_least_40 : decode mX12_least.2.1 40 = .ok (.iload_n 1, 1) := by decide +kernel
theorem dX12_least_41 : decode mX12_least.2.1 41 = .ok (.iadd, 1) := by decide +kernel
theorem dX12_least_42 : decode mX12_least.2.1 42 = .ok (.iaload, 1) := by decide +kernel
theorem dX12_least_43 : decode mX12_least.2.1 43 = .ok (.imul, 1) := by decide +kernel
theorem dX12_least_44 : decode mX12_least.2.1 44 = .ok (.aload_n 0, 1) := by decide +kernel
theorem dX12_least_45 : decode mX12_least.2.1 45 = .ok (.getfield 98, 3) := by decide +kernel
theorem dX12_least_48 : decode mX12_least.2.1 48 = .ok (.sipush 136, 3) := by decide +kernel
theorem dX12_least_51 : decode mX12_least.2.1 51 = .ok (.iload_n 1, 1) := by decide +kernel
theorem dX12_least_52 : decode mX12_least.2.1 52 = .ok (.iadd, 1) := by decide +kernel
theorem dX12_least_53 : decode mX12_least.2.1 53 = .ok (.iaload, 1) := by decide +kernel
theorem dX12_least_54 : decode mX12_least.2.1 54 = .ok (.aload_n 0, 1) := by decide +kernel
theorem dX12_least_55 : decode mX12_least.2.1 55 = .ok (.getfield 98, 3) := by decide +kernel
theorem dX12_least_58 : decode mX12_least.2.1 58 = .ok (.bipush 27, 2) := by decide +kernel
theorem dX12_least_60 : decode mX12_least.2.1 60 = .ok (.iload_n 2, 1) := by decide +kernel
theorem dX12_least_61 : decode mX12_least.2.1 61 = .ok (.iadd, 1) := by decide +kernel
theorem dX12_least_62 : decode mX12_least.2.1 62 = .ok (.iaload, 1) := by decide +kernel
theorem dX12_least_63 : decode mX12_least.2.1 63 = .ok (.imul, 1) := by decide +kernel
theorem dX12_least_64 : decode mX12_least.2.1 64 = .ok (.if_icmp .ge 5, 3) := by decide +kernel
theorem dX12_least_67 : decode mX12_least.2.1 67 = .ok (.iload_n 2, 1) := by decide +kernel
theorem dX12_least_68 : decode mX12_least.2.1 68 = .ok (.istore_n 1, 1) := by decide +kernel
theorem dX12_least_69 : decode mX12_least.2.1 69 = .ok (.iinc 2 1, 3) := by decide +kernel
theorem dX12_least_72 : decode mX12_least.2.1 72 = .ok (.goto (-63), 3) := by decide +kernel
theorem dX12_least_75 : decode mX12_least.2.1 75 = .ok (.iload_n 1, 1) := by decide +kernel
theorem dX12_least_76 : decode mX12_least.2.1 76 = .ok (.ireturn, 1) := by decide +kernel
set_option maxRecDepth 4000 in
theorem ev_X12_least {m : Mem} {G : Mem} {d : Nat} {st : Nat} {B : Int} (hb : Bg G d st (m 216)) (hdn : DnOk G d) (hst : StOk G d st B) : Ev 0 1 mX12_least [vr 214] m (fun r m' => m' = wr m 214 0 0 ∧ r = if G d 3 = 0 then -1 else lstN (G (st + 5)) (G (d + 5)) (G d 3 - 1).toNat) := by
  refine Ev.of (L := [vr 214, un, un]) (by decide +kernel) rfl (Nat.le_of_ble_eq_true rfl) rfl (fun t ht => by cases ht; first | exact Or.inl rfl | exact Or.inr (Or.inl rfl) | exact Or.inr (Or.inr rfl)) (fun hcan => ?_)
  obtain ⟨⟨hd0, hd1⟩, ⟨hd2, hd3⟩, ⟨hd4, hd5⟩, ⟨hd6, hd7⟩, ⟨hd8, hd9⟩, hdf, hdp, hdq⟩ := id hdn
  obtain ⟨⟨hs0, hs1⟩, ⟨hs2, hs3⟩, hsw, hsp, hsd, hsz⟩ := id hst
  refine go_aload_n dX12_least_0 rfl ?_
  refine go_iconst dX12_least_1 ?_
  refine go_putf_i (ki := 0) dX12_least_2 fw_12_1 ob_214 rfl rfl ⟨by omega, by omega⟩ ?_
  refine go_iconst dX12_least_5 ?_
  refine go_istore_n (L' := [vr 214, vi (-1), un]) dX12_least_6 (by decide) rfl rfl ?_
  refine go_iconst dX12_least_7 ?_
  refine go_istore_n (L' := [vr 214, vi (-1), vi 0]) dX12_least_8 (by decide) rfl rfl ?_
  have lp_9 : ∀ (n_9 : Nat) (c : Int) (p : Int) , (0 ≤ p) → (p ≤ G d 3) → ((p = 0 ∧ c = -1) ∨ (1 ≤ p ∧ c = lstN (G (st + 5)) (G (d + 5)) (p - 1).toNat)) → (G d 3 - p).toNat < n_9 → Go 0 1 mX12_least (fun r m' => m' = wr m 214 0 0 ∧ r = if G d 3 = 0 then -1 else lstN (G (st + 5)) (G (d + 5)) (G d 3 - 1).toNat) 9 [vr 214, vi c, vi p] [] (wr m 214 0 0) := by
    intro n_9
    induction n_9 with
    | zero => intro c p hp0 hp1 hc hmu; exact absurd hmu (Nat.not_lt_zero _)
    | succ n_9 ih_9 =>
      intro c p hp0 hp1 hc hmu
      have hlb := lstN_b (G (st + 5)) (G (d + 5)) (p - 1).toNat
      refine go_iload_n dX12_least_9 rfl ?_
      refine go_aload_n dX12_least_10 rfl ?_
      refine go_getf_p (b := 216) dX12_least_11 fl_12_98 ob_214 rfl pt_214_14 ?_
      refine go_iconst dX12_least_14 ?_
      refine go_iaload dX12_least_15 ar_216 (by omega) (by omega) (fun he_15 => ?_)
      rw [show ((wr m 214 0 0) 216 3 : Int) = (G d 3) from by rw [wr_na (by omega)]; exact hb.n3] at he_15 ⊢
      refine go_icmp_ge (tgt := 75) dX12_least_16 (by decide) ⟨by omega, by omega⟩ ⟨by omega, by omega⟩ (fun h_16 => ?_) (fun h_16 => ?_)
      · refine go_iload_n dX12_least_75 rfl ?_
        exact go_ret (v := c) rfl dX12_least_76 (okI ⟨by omega, by omega⟩) ⟨rfl, by rcases hc with ⟨a, b⟩ | ⟨a, b⟩; (rw [if_pos (by omega)]; omega); (rw [if_neg (by omega), show G d 3 - 1 = p - 1 by omega]; exact b)⟩
      · refine go_iload_n dX12_least_19 rfl ?_
        refine go_iconst dX12_least_20 ?_
        refine go_icmp_eq (tgt := 67) dX12_least_21 (by decide) ⟨by omega, by omega⟩ ⟨by omega, by omega⟩ (fun h_21 => ?_) (fun h_21 => ?_)
        · refine go_iload_n dX12_least_67 rfl ?_
          refine go_istore_n (L' := [vr 214, vi p, vi p]) dX12_least_68 (by decide) rfl rfl ?_
          refine go_iinc (L' := [vr 214, vi p, vi (p + 1)]) dX12_least_69 rfl (by decide) rfl rfl ?_
          refine go_goto (tgt := 9) dX12_least_72 (by decide) ?_
          exact ih_9 p (p + 1) (by first | assumption | omega | rfl) (by first | assumption | omega | rfl) (by right; rw [show p + 1 - 1 = p by omega]; first | (refine ⟨by omega, ?_⟩; rw [hls, if_pos (by omega)]) | (refine ⟨by omega, ?_⟩; rw [hls, if_neg (by omega)]) | (refine ⟨by omega, ?_⟩; rw [show p = 0 by omega]; rfl)) (by omega)
        · have hpp := hsp p hp0 (by omega)
          have hpd := hdp p hp0 (by omega)
          have hcc : c = lstN (G (st + 5)) (G (d + 5)) (p - 1).toNat := by omega
          have hcp := hsp c (by omega) (by omega)
          have hcd := hdp c (by omega) (by omega)
          have hm1 := mul60 (a := G (st + 5) p) (b := G (d + 5) c) (by omega) (by omega)
          have hm2 := mul60 (a := G (st + 5) c) (b := G (d + 5) p) (by omega) (by omega)
          have hls := lstN_s (b := G (st + 5)) (mo := G (d + 5)) (p := p) (by omega)
          rw [← hcc] at hls
          refine go_aload_n dX12_least_24 rfl ?_
          refine go_getf_p (b := 216) dX12_least_25 fl_12_98 ob_214 rfl pt_214_14 ?_
          refine go_sipush dX12_least_28 (by decide) ?_
          refine go_iload_n dX12_least_31 rfl ?_
          refine go_iadd dX12_least_32 ?_
          refine go_iaload dX12_least_33 ar_216 (by omega) (by omega) (fun he_33 => ?_)
          rw [show ((wr m 214 0 0) 216 (136 + p) : Int) = (G (st + 5) p) from by rw [wr_na (by omega)]; exact (hb.br (p := p) (by omega) (by omega))] at he_33 ⊢
          refine go_aload_n dX12_least_34 rfl ?_
          refine go_getf_p (b := 216) dX12_least_35 fl_12_98 ob_214 rfl pt_214_14 ?_
          refine go_bipush dX12_least_38 (by decide) ?_
          refine go_iload_n dX12_least_40 rfl ?_
          refine go_iadd dX12_least_41 ?_
          refine go_iaload dX12_least_42 ar_216 (by omega) (by omega) (fun he_42 => ?_)
          rw [show ((wr m 214 0 0) 216 (27 + c) : Int) = (G (d + 5) c) from by rw [wr_na (by omega)]; exact (hb.mo (p := c) (by omega) (by omega))] at he_42 ⊢
          refine go_imul dX12_least_43 ?_
          refine go_aload_n dX12_least_44 rfl ?_
          refine go_getf_p (b := 216) dX12_least_45 fl_12_98 ob_214 rfl pt_214_14 ?_
          refine go_sipush dX12_least_48 (by decide) ?_
          refine go_iload_n dX12_least_51 rfl ?_
          refine go_iadd dX12_least_52 ?_
          refine go_iaload dX12_least_53 ar_216 (by omega) (by omega) (fun he_53 => ?_)
          rw [show ((wr m 214 0 0) 216 (136 + c) : Int) = (G (st + 5) c) from by rw [wr_na (by omega)]; exact (hb.br (p := c) (by omega) (by omega))] at he_53 ⊢
          refine go_aload_n dX12_least_54 rfl ?_
          refine go_getf_p (b := 216) dX12_least_55 fl_12_98 ob_214 rfl pt_214_14 ?_
          refine go_bipush dX12_least_58 (by decide) ?_
          refine go_iload_n dX12_least_60 rfl ?_
          refine go_iadd dX12_least_61 ?_
          refine go_iaload dX12_least_62 ar_216 (by omega) (by omega) (fun he_62 => ?_)
          rw [show ((wr m 214 0 0) 216 (27 + p) : Int) = (G (d + 5) p) from by rw [wr_na (by omega)]; exact (hb.mo (p := p) (by omega) (by omega))] at he_62 ⊢
          refine go_imul dX12_least_63 ?_
          refine go_icmp_ge (tgt := 69) dX12_least_64 (by decide) ⟨by omega, by omega⟩ ⟨by omega, by omega⟩ (fun h_64 => ?_) (fun h_64 => ?_)
          · refine go_iinc (L' := [vr 214, vi c, vi (p + 1)]) dX12_least_69 rfl (by decide) rfl rfl ?_
            refine go_goto (tgt := 9) dX12_least_72 (by decide) ?_
            exact ih_9 c (p + 1) (by first | assumption | omega | rfl) (by first | assumption | omega | rfl) (by right; rw [show p + 1 - 1 = p by omega]; first | (refine ⟨by omega, ?_⟩; rw [hls, if_pos (by omega)]) | (refine ⟨by omega, ?_⟩; rw [hls, if_neg (by omega)]) | (refine ⟨by omega, ?_⟩; rw [show p = 0 by omega]; rfl)) (by omega)
          · refine go_iload_n dX12_least_67 rfl ?_
            refine go_istore_n (L' := [vr 214, vi p, vi p]) dX12_least_68 (by decide) rfl rfl ?_
            refine go_iinc (L' := [vr 214, vi p, vi (p + 1)]) dX12_least_69 rfl (by decide) rfl rfl ?_
            refine go_goto (tgt := 9) dX12_least_72 (by decide) ?_
            exact ih_9 p (p + 1) (by first | assumption | omega | rfl) (by first | assumption | omega | rfl) (by right; rw [show p + 1 - 1 = p by omega]; first | (refine ⟨by omega, ?_⟩; rw [hls, if_pos (by omega)]) | (refine ⟨by omega, ?_⟩; rw [hls, if_neg (by omega)]) | (refine ⟨by omega, ?_⟩; rw [show p = 0 by omega]; rfl)) (by omega)
  exact lp_9 _ (-1) 0 (by first | assumption | omega | rfl) (by first | assumption | omega | rfl) (Or.inl ⟨rfl, rfl⟩) (Nat.lt_succ_self _)
theorem dX12_mean_0 : decode mX12_mean.2.1 0 = .ok (.aload_n 0, 1) := by decide +kernel
theorem dX12_mean_1 : decode mX12_mean.2.1 1 = .ok (.iconst 0, 1) := by decide +kernel
theorem dX12_mean_2 : decode mX12_mean.2.1 2 = .ok (.putfield 1, 3) := by decide +kernel
theorem dX12_mean_5 : decode mX12_mean.2.1 5 = .ok (.aload_n 0, 1) := by decide +kernel
theorem dX12_mean_6 : decode mX12_mean.2.1 6 = .ok (.getfield 98, 3) := by decide +kernel
theorem dX12_mean_9 : decode mX12_mean.2.1 9 = .ok (.iconst 3, 1) := by decide +kernel
theorem dX12_mean_10 : decode mX12_mean.2.1 10 = .ok (.iaload, 1) := by decide +kernel
theorem dX12_mean_11 : decode mX12_mean.2.1 11 = .ok (.istore_n 2, 1) := by decide +kernel
theorem dX12_mean_12 : decode mX12_mean.2.1 12 = .ok (.iload_n 2, 1) := by decide +kernel
theorem dX12_mean_13 : decode mX12_mean.2.1 13 = .ok (.ifCond .eq 12, 3) := by decide +kernel
theorem dX12_mean_16 : decode mX12_mean.2.1 16 = .ok (.iload_n 1, 1) := by decide +kernel
theorem dX12_mean_17 : decode mX12_mean.2.1 17 = .ok (.iconst 0, 1) := by decide +kernel
theorem dX12_mean_18 : decode mX12_mean.2.1 18 = .ok (.iconst 1, 1) := by decide +kernel
theorem dX12_mean_19 : decode mX12_mean.2.1 19 = .ok (.invokestatic 75, 3) := by decide +kernel
theorem dX12_mean_22 : decode mX12_mean.2.1 22 = .ok (.ifCond .ne 8, 3) := by decide +kernel
theorem dX12_mean_25 : decode mX12_mean.2.1 25 = .ok (.aload_n 0, 1) := by decide +kernel
theorem dX12_mean_26 : decode mX12_mean.2.1 26 = .ok (.invokevirtual 248, 3) := by decide +kernel
theorem dX12_mean_29 : decode mX12_mean.2.1 29 = .ok (.ireturn, 1) := by decide +kernel
theorem dX12_mean_30 : decode mX12_mean.2.1 30 = .ok (.aload_n 0, 1) := by decide +kernel
theorem dX12_mean_31 : decode mX12_mean.2.1 31 = .ok (.sipush 136, 3) := by decide +kernel
theorem dX12_mean_34 : decode mX12_mean.2.1 34 = .ok (.iload_n 2, 1) := by decide +kernel
theorem dX12_mean_35 : decode mX12_mean.2.1 35 = .ok (.invokevirtual 263, 3) := by decide +kernel
theorem dX12_mean_38 : decode mX12_mean.2.1 38 = .ok (.istore_n 3, 1) := by decide +kernel
theorem dX12_mean_39 : decode mX12_mean.2.1 39 = .ok (.iload_n 1, 1) := by decide +kernel
theorem dX12_mean_40 : decode mX12_mean.2.1 40 = .ok (.ifCond .ne 7, 3) := by decide +kernel
theorem dX12_mean_43 : decode mX12_mean.2.1 43 = .ok (.iload_n 3, 1) := by decide +kernel
theorem dX12_mean_44 : decode mX12_mean.2.1 44 = .ok (.goto 4, 3) := by decide +kernel
theorem dX12_mean_47 : decode mX12_mean.2.1 47 = .ok (.iload_n 2, 1) := by decide +kernel
theorem dX12_mean_48 : decode mX12_mean.2.1 48 = .ok (.iload_n 3, 1) := by decide +kernel
theorem dX12_mean_49 : decode mX12_mean.2.1 49 = .ok (.iload_n 2, 1) := by decide +kernel
theorem dX12_mean_50 : decode mX12_mean.2.1 50 = .ok (.invokestatic 355, 3) := by decide +kernel
theorem dX12_mean_53 : decode mX12_mean.2.1 53 = .ok (.idiv, 1) := by decide +kernel
theorem dX12_mean_54 : decode mX12_mean.2.1 54 = .ok (.ireturn, 1) := by decide +kernel
set_option maxRecDepth 4000 in
theorem ev_X12_mean {m : Mem} {G : Mem} {d : Nat} {st : Nat} {B : Int} {v : Int} (hb : Bg G d st (m 216)) (hdn : DnOk G d) (hst : StOk G d st B) (hv : InR v) : Ev 0 2 mX12_mean [vr 214, vi v] m (fun r m' => m' = wr m 214 0 (if (G d 3 ≠ 0 ∧ 0 ≤ v ∧ v ≤ 1) then 0 else 1) ∧ ((G d 3 ≠ 0 ∧ 0 ≤ v ∧ v ≤ 1) → r = (if v = 0 then sumI (G (st + 5)) (G d 3) else G d 3) / gcdI (sumI (G (st + 5)) (G d 3)) (G d 3))) := by
  refine Ev.of (L := [vr 214, vi v, un, un]) (by decide +kernel) rfl (Nat.le_of_ble_eq_true rfl) rfl (fun t ht => by cases ht; first | exact Or.inl rfl | exact Or.inr (Or.inl rfl) | exact Or.inr (Or.inr rfl)) (fun hcan => ?_)
  obtain ⟨⟨hd0, hd1⟩, ⟨hd2, hd3⟩, ⟨hd4, hd5⟩, ⟨hd6, hd7⟩, ⟨hd8, hd9⟩, hdf, hdp, hdq⟩ := id hdn
  obtain ⟨⟨hs0, hs1⟩, ⟨hs2, hs3⟩, hsw, hsp, hsd, hsz⟩ := id hst
  have e216 : ∀ j, wr m 214 0 0 216 j = m 216 j := fun j => wr_na (by decide)
  have s7 : sumI (fun k => wr m 214 0 0 216 (136 + k)) (G d 3) = sumI (G (st + 5)) (G d 3) := sumI_congr (fun j a b => by rw [e216, hb.br a b])
  have sb := sumI_bnd (f := G (st + 5)) (lo := 0) (hi := 60) hd6 (fun j a b => by have := hsp j a b; have := hdp j a b; omega)
  refine go_aload_n dX12_mean_0 rfl ?_
  refine go_iconst dX12_mean_1 ?_
  refine go_putf_i (ki := 0) dX12_mean_2 fw_12_1 ob_214 rfl rfl ⟨by omega, by omega⟩ ?_
  refine go_aload_n dX12_mean_5 rfl ?_
  refine go_getf_p (b := 216) dX12_mean_6 fl_12_98 ob_214 rfl pt_214_14 ?_
  refine go_iconst dX12_mean_9 ?_
  refine go_iaload dX12_mean_10 ar_216 (by omega) (by omega) (fun he_10 => ?_)
  rw [show ((wr m 214 0 0) 216 3 : Int) = (G d 3) from by rw [wr_na (by omega)]; exact hb.n3] at he_10 ⊢
  refine go_istore_n (L' := [vr 214, vi v, vi (G d 3), un]) dX12_mean_11 (by decide) rfl rfl ?_
  refine go_iload_n dX12_mean_12 rfl ?_
  refine go_if_eq (tgt := 25) dX12_mean_13 (by decide) ⟨by omega, by omega⟩ (fun h_13 => ?_) (fun h_13 => ?_)
  · refine go_aload_n dX12_mean_25 rfl ?_
    refine go_callV_i (as := []) (S := []) (b := 214) (ev_X12_refuse (m := (wr m 214 0 0))  ) rfl dX12_mean_26 cv_12_248 rfl rfl ob_214 rfl (by decide) (Nat.le_of_ble_eq_true rfl) (fun r_26 m_26 hr_26 ho_26 => ?_)
    exact go_ret (v := r_26) rfl dX12_mean_29 (okI ⟨by omega, by omega⟩) ⟨by rw [if_neg (by omega), hr_26.2]; exact wr_wr, fun h => by omega⟩
  · refine go_iload_n dX12_mean_16 rfl ?_
    refine go_iconst dX12_mean_17 ?_
    refine go_iconst dX12_mean_18 ?_
    refine go_callSp_z (as := [vi v, vi 0, vi 1]) (S := []) (ev_X12_isIn (m := (wr m 214 0 0)) (n := v) (lo := 0) (hi := 1) (by first | assumption | omega | exact ⟨by omega, by omega⟩ | (constructor <;> omega)) (by first | assumption | omega | exact ⟨by omega, by omega⟩ | (constructor <;> omega)) (by first | assumption | omega | exact ⟨by omega, by omega⟩ | (constructor <;> omega))) rfl dX12_mean_19 cs_12_75 rfl rfl (by decide) (Nat.le_of_ble_eq_true rfl) (fun r_19 hr_19 ho_19 => ?_)
    refine go_if_ne (tgt := 30) dX12_mean_22 (by decide) ⟨by omega, by omega⟩ (fun h_22 => ?_) (fun h_22 => ?_)
    · refine go_aload_n dX12_mean_30 rfl ?_
      refine go_sipush dX12_mean_31 (by decide) ?_
      refine go_iload_n dX12_mean_34 rfl ?_
      refine go_callVp_i (as := [vi 136, vi (G d 3)]) (S := []) (b := 214) (ev_X12_sum (m := (wr m 214 0 0)) (a := 136) (n := (G d 3)) (by first | assumption | omega | exact ⟨by omega, by omega⟩ | (constructor <;> omega)) (by first | assumption | omega | exact ⟨by omega, by omega⟩ | (constructor <;> omega)) (fun j a b => by rw [e216, hb.br a b]; have := hsp j a b; have := hdp j a b; omega)) rfl dX12_mean_35 cv_12_263 rfl rfl ob_214 rfl (by decide) (Nat.le_of_ble_eq_true rfl) (fun r_35 hr_35 ho_35 => ?_)
      rw [s7] at hr_35
      refine go_istore_n (L' := [vr 214, vi v, vi (G d 3), vi r_35]) dX12_mean_38 (by decide) rfl rfl ?_
      refine go_iload_n dX12_mean_39 rfl ?_
      refine go_if_ne (tgt := 47) dX12_mean_40 (by decide) ⟨by omega, by omega⟩ (fun h_40 => ?_) (fun h_40 => ?_)
      · refine go_iload_n dX12_mean_47 rfl ?_
        refine go_iload_n dX12_mean_48 rfl ?_
        refine go_iload_n dX12_mean_49 rfl ?_
        refine go_callSp_i (as := [vi r_35, vi (G d 3)]) (S := [vi (G d 3)]) (ev_X12_common (m := (wr m 214 0 0)) (a := r_35) (b := (G d 3)) (by first | assumption | omega | exact ⟨by omega, by omega⟩ | (constructor <;> omega)) (by first | assumption | omega | exact ⟨by omega, by omega⟩ | (constructor <;> omega))) rfl dX12_mean_50 cs_12_355 rfl rfl (by decide) (Nat.le_of_ble_eq_true rfl) (fun r_50 hr_50 ho_50 => ?_)
        have hg1 : 1 ≤ gcdI r_35 (G d 3) := by
          unfold gcdI
          have : 0 < Nat.gcd r_35.toNat (G d 3).toNat := Nat.gcd_pos_of_pos_right _ (by omega)
          omega
        have hg2 : gcdI r_35 (G d 3) ≤ 1000 := by
          unfold gcdI
          have : Nat.gcd r_35.toNat (G d 3).toNat ≤ (G d 3).toNat := Nat.gcd_le_right _ (by omega)
          omega
        refine go_idiv dX12_mean_53 ⟨by omega, by omega⟩ ⟨by omega, by omega⟩ (by omega) (by omega) ?_
        exact go_ret (v := ((G d 3) / r_50)) rfl dX12_mean_54 (okI (by have h1 := Int.ediv_nonneg (a := r_35) (b := r_50) (by omega) (by omega); have h2 := Int.ediv_le_self (a := r_35) r_50 (by omega); have h3 := Int.ediv_nonneg (a := G d 3) (b := r_50) (by omega) (by omega); have h4 := Int.ediv_le_self (a := G d 3) r_50 (by omega); exact ⟨by omega, by omega⟩)) ⟨by rw [if_pos (by omega)], fun _ => by rw [hr_50, hr_35]; first | rw [if_pos (by omega)] | rw [if_neg (by omega)]⟩
      · refine go_iload_n dX12_mean_43 rfl ?_
        refine go_goto (tgt := 48) dX12_mean_44 (by decide) ?_
        refine go_iload_n dX12_mean_48 rfl ?_
        refine go_iload_n dX12_mean_49 rfl ?_
        refine go_callSp_i (as := [vi r_35, vi (G d 3)]) (S := [vi r_35]) (ev_X12_common (m := (wr m 214 0 0)) (a := r_35) (b := (G d 3)) (by first | assumption | omega | exact ⟨by omega, by omega⟩ | (constructor <;> omega)) (by first | assumption | omega | exact ⟨by omega, by omega⟩ | (constructor <;> omega))) rfl dX12_mean_50 cs_12_355 rfl rfl (by decide) (Nat.le_of_ble_eq_true rfl) (fun r_50 hr_50 ho_50 => ?_)
        have hg1 : 1 ≤ gcdI r_35 (G d 3) := by
          unfold gcdI
          have : 0 < Nat.gcd r_35.toNat (G d 3).toNat := Nat.gcd_pos_of_pos_right _ (by omega)
          omega
        have hg2 : gcdI r_35 (G d 3) ≤ 1000 := by
          unfold gcdI
          have : Nat.gcd r_35.toNat (G d 3).toNat ≤ (G d 3).toNat := Nat.gcd_le_right _ (by omega)
          omega
        refine go_idiv dX12_mean_53 ⟨by omega, by omega⟩ ⟨by omega, by omega⟩ (by omega) (by omega) ?_
        exact go_ret (v := (r_35 / r_50)) rfl dX12_mean_54 (okI (by have h1 := Int.ediv_nonneg (a := r_35) (b := r_50) (by omega) (by omega); have h2 := Int.ediv_le_self (a := r_35) r_50 (by omega); have h3 := Int.ediv_nonneg (a := G d 3) (b := r_50) (by omega) (by omega); have h4 := Int.ediv_le_self (a := G d 3) r_50 (by omega); exact ⟨by omega, by omega⟩)) ⟨by rw [if_pos (by omega)], fun _ => by rw [hr_50, hr_35]; first | rw [if_pos (by omega)] | rw [if_neg (by omega)]⟩
    · refine go_aload_n dX12_mean_25 rfl ?_
      refine go_callV_i (as := []) (S := []) (b := 214) (ev_X12_refuse (m := (wr m 214 0 0))  ) rfl dX12_mean_26 cv_12_248 rfl rfl ob_214 rfl (by decide) (Nat.le_of_ble_eq_true rfl) (fun r_26 m_26 hr_26 ho_26 => ?_)
      exact go_ret (v := r_26) rfl dX12_mean_29 (okI ⟨by omega, by omega⟩) ⟨by rw [if_neg (by omega), hr_26.2]; exact wr_wr, fun h => by omega⟩
theorem dX12_count_0 : decode mX12_count.2.1 0 = .ok (.aload_n 0, 1) := by decide +kernel
theorem dX12_count_1 : decode mX12_count.2.1 1 = .ok (.iconst 0, 1) := by decide +kernel
theorem dX12_count_2 : decode mX12_count.2.1 2 = .ok (.putfield 1, 3) := by decide +kernel
theorem dX12_count_5 : decode mX12_count.2.1 5 = .ok (.iload_n 1, 1) := by decide +kernel
theorem dX12_count_6 : decode mX12_count.2.1 6 = .ok (.tableswitch 78 0 5 #[38, 45, 52, 59, 66, 73], 38) := by decide +kernel
theorem dX12_count_44 : decode mX12_count.2.1 44 = .ok (.aload_n 0, 1) := by decide +kernel
theorem dX12_count_45 : decode mX12_count.2.1 45 = .ok (.getfield 98, 3) := by decide +kernel
theorem dX12_count_48 : decode mX12_count.2.1 48 = .ok (.iconst 0, 1) := by decide +kernel
theorem dX12_count_49 : decode mX12_count.2.1 49 = .ok (.iaload, 1) := by decide +kernel
theorem dX12_count_50 : decode mX12_count.2.1 50 = .ok (.ireturn, 1) := by decide +kernel
theorem dX12_count_51 : decode mX12_count.2.1 51 = .ok (.aload_n 0, 1) := by decide +kernel
theorem dX12_count_52 : decode mX12_count.2.1 52 = .ok (.getfield 98, 3) := by decide +kernel
theorem dX12_count_55 : decode mX12_count.2.1 55 = .ok (.iconst 1, 1) := by decide +kernel
theorem dX12_count_56 : decode mX12_count.2.1 56 = .ok (.iaload, 1) := by decide +kernel
theorem dX12_count_57 : decode mX12_count.2.1 57 = .ok (.ireturn, 1) := by decide +kernel
theorem dX12_count_58 : decode mX12_count.2.1 58 = .ok (.aload_n 0, 1) := by decide +kernel
theorem dX12_count_59 : decode mX12_count.2.1 59 = .ok (.getfield 98, 3) := by decide +kernel
theorem dX12_count_62 : decode mX12_count.2.1 62 = .ok (.iconst 2, 1) := by decide +kernel
theorem dX12_count_63 : decode mX12_count.2.1 63 = .ok (.iaload, 1) := by decide +kernel
theorem dX12_count_64 : decode mX12_count.2.1 64 = .ok (.ireturn, 1) := by decide +kernel
theorem dX12_count_65 : decode mX12_count.2.1 65 = .ok (.aload_n 0, 1) := by decide +kernel
theorem dX12_count_66 : decode mX12_count.2.1 66 = .ok (.getfield 98, 3) := by decide +kernel
theorem dX12_count_69 : decode mX12_count.2.1 69 = .ok (.iconst 3, 1) := by decide +kernel
theorem dX12_count_70 : decode mX12_count.2.1 70 = .ok (.iaload, 1) := by decide +kernel
theorem dX12_count_71 : decode mX12_count.2.1 71 = .ok (.ireturn, 1) := by decide +kernel
theorem dX12_count_72 : decode mX12_count.2.1 72 = .ok (.aload_n 0, 1) := by decide +kernel
theorem dX12_count_73 : decode mX12_count.2.1 73 = .ok (.getfield 98, 3) := by decide +kernel
theorem dX12_count_76 : decode mX12_count.2.1 76 = .ok (.iconst 4, 1) := by decide +kernel
theorem dX12_count_77 : decode mX12_count.2.1 77 = .ok (.iaload, 1) := by decide +kernel
theorem dX12_count_78 : decode mX12_count.2.1 78 = .ok (.ireturn, 1) := by decide +kernel
theorem dX12_count_79 : decode mX12_count.2.1 79 = .ok (.aload_n 0, 1) := by decide +kernel
theorem dX12_count_80 : decode mX12_count.2.1 80 = .ok (.getfield 11, 3) := by decide +kernel
theorem dX12_count_83 : decode mX12_count.2.1 83 = .ok (.ireturn, 1) := by decide +kernel
theorem dX12_count_84 : decode mX12_count.2.1 84 = .ok (.iconst (-1), 1) := by decide +kernel
theorem dX12_count_85 : decode mX12_count.2.1 85 = .ok (.ireturn, 1) := by decide +kernel
set_option maxRecDepth 4000 in
theorem ev_X12_count {m : Mem} {G : Mem} {d : Nat} {st : Nat} {v : Int} (hb : Bg G d st (m 216)) (hdn : DnOk G d) (hv : InR v) : Ev 0 1 mX12_count [vr 214, vi v] m (fun r m' => m' = wr m 214 0 0 ∧ r = if v = 0 then G d 0 else if v = 1 then G d 1 else if v = 2 then G d 2 else if v = 3 then G d 3 else if v = 4 then G d 4 else if v = 5 then m 214 2 else -1) := by
  refine Ev.of (L := [vr 214, vi v]) (by decide +kernel) rfl (Nat.le_of_ble_eq_true rfl) rfl (fun t ht => by cases ht; first | exact Or.inl rfl | exact Or.inr (Or.inl rfl) | exact Or.inr (Or.inr rfl)) (fun hcan => ?_)
  obtain ⟨⟨hd0, hd1⟩, ⟨hd2, hd3⟩, ⟨hd4, hd5⟩, ⟨hd6, hd7⟩, ⟨hd8, hd9⟩, hdf, hdp, hdq⟩ := id hdn
  refine go_aload_n dX12_count_0 rfl ?_
  refine go_iconst dX12_count_1 ?_
  refine go_putf_i (ki := 0) dX12_count_2 fw_12_1 ob_214 rfl rfl ⟨by omega, by omega⟩ ?_
  refine go_iload_n dX12_count_5 rfl ?_
  refine go_tswitch (tgt := 84) dX12_count_6 ⟨by omega, by omega⟩ (by decide) (fun n_6 h_6 hb_6 => ?_) (fun h_6 => ?_)
  · match n_6, h_6, hb_6 with
    | 0, h_6, hb_6 =>
      refine ⟨38, 44, rfl, by decide, ?_⟩
      refine go_aload_n dX12_count_44 rfl ?_
      refine go_getf_p (b := 216) dX12_count_45 fl_12_98 ob_214 rfl pt_214_14 ?_
      refine go_iconst dX12_count_48 ?_
      refine go_iaload dX12_count_49 ar_216 (by omega) (by omega) (fun he_49 => ?_)
      rw [show ((wr m 214 0 0) 216 0 : Int) = (G d 0) from by rw [wr_na (by omega)]; exact hb.n0] at he_49 ⊢
      exact go_ret (v := (G d 0)) rfl dX12_count_50 (okI ⟨by omega, by omega⟩) ⟨rfl, by omega⟩
    | 1, h_6, hb_6 =>
      refine ⟨45, 51, rfl, by decide, ?_⟩
      refine go_aload_n dX12_count_51 rfl ?_
      refine go_getf_p (b := 216) dX12_count_52 fl_12_98 ob_214 rfl pt_214_14 ?_
      refine go_iconst dX12_count_55 ?_
      refine go_iaload dX12_count_56 ar_216 (by omega) (by omega) (fun he_56 => ?_)
      rw [show ((wr m 214 0 0) 216 1 : Int) = (G d 1) from by rw [wr_na (by omega)]; exact hb.n1] at he_56 ⊢
      exact go_ret (v := (G d 1)) rfl dX12_count_57 (okI ⟨by omega, by omega⟩) ⟨rfl, by omega⟩
    | 2, h_6, hb_6 =>
      refine ⟨52, 58, rfl, by decide, ?_⟩
      refine go_aload_n dX12_count_58 rfl ?_
      refine go_getf_p (b := 216) dX12_count_59 fl_12_98 ob_214 rfl pt_214_14 ?_
      refine go_iconst dX12_count_62 ?_
      refine go_iaload dX12_count_63 ar_216 (by omega) (by omega) (fun he_63 => ?_)
      rw [show ((wr m 214 0 0) 216 2 : Int) = (G d 2) from by rw [wr_na (by omega)]; exact hb.n2] at he_63 ⊢
      exact go_ret (v := (G d 2)) rfl dX12_count_64 (okI ⟨by omega, by omega⟩) ⟨rfl, by omega⟩
    | 3, h_6, hb_6 =>
      refine ⟨59, 65, rfl, by decide, ?_⟩
      refine go_aload_n dX12_count_65 rfl ?_
      refine go_getf_p (b := 216) dX12_count_66 fl_12_98 ob_214 rfl pt_214_14 ?_
      refine go_iconst dX12_count_69 ?_
      refine go_iaload dX12_count_70 ar_216 (by omega) (by omega) (fun he_70 => ?_)
      rw [show ((wr m 214 0 0) 216 3 : Int) = (G d 3) from by rw [wr_na (by omega)]; exact hb.n3] at he_70 ⊢
      exact go_ret (v := (G d 3)) rfl dX12_count_71 (okI ⟨by omega, by omega⟩) ⟨rfl, by omega⟩
    | 4, h_6, hb_6 =>
      refine ⟨66, 72, rfl, by decide, ?_⟩
      refine go_aload_n dX12_count_72 rfl ?_
      refine go_getf_p (b := 216) dX12_count_73 fl_12_98 ob_214 rfl pt_214_14 ?_
      refine go_iconst dX12_count_76 ?_
      refine go_iaload dX12_count_77 ar_216 (by omega) (by omega) (fun he_77 => ?_)
      rw [show ((wr m 214 0 0) 216 4 : Int) = (G d 4) from by rw [wr_na (by omega)]; exact hb.n4] at he_77 ⊢
      exact go_ret (v := (G d 4)) rfl dX12_count_78 (okI ⟨by omega, by omega⟩) ⟨rfl, by omega⟩
    | 5, h_6, hb_6 =>
      refine ⟨73, 79, rfl, by decide, ?_⟩
      refine go_aload_n dX12_count_79 rfl ?_
      refine go_getf_i (ki := 2) dX12_count_80 fl_12_11 ob_214 rfl rfl (fun hf_80 => ?_)
      rw [show ((wr m 214 0 0) 214 2 : Int) = (m 214 2) from by rw [wr_ni (by decide)]] at hf_80 ⊢
      exact go_ret (v := (m 214 2)) rfl dX12_count_83 (okI ⟨by omega, by omega⟩) ⟨rfl, by omega⟩
    | k + 6, h_6, hb_6 => exfalso; omega
  · refine go_iconst dX12_count_84 ?_
    exact go_ret (v := (-1)) rfl dX12_count_85 (okI ⟨by omega, by omega⟩) ⟨rfl, by omega⟩
theorem dX12_told_0 : decode mX12_told.2.1 0 = .ok (.aload_n 0, 1) := by decide +kernel
theorem dX12_told_1 : decode mX12_told.2.1 1 = .ok (.iconst 0, 1) := by decide +kernel
theorem dX12_told_2 : decode mX12_told.2.1 2 = .ok (.putfield 1, 3) := by decide +kernel
theorem dX12_told_5 : decode mX12_told.2.1 5 = .ok (.aload_n 0, 1) := by decide +kernel
theorem dX12_told_6 : decode mX12_told.2.1 6 = .ok (.getfield 417, 3) := by decide +kernel
theorem dX12_told_9 : decode mX12_told.2.1 9 = .ok (.ifCond .eq 21, 3) := by decide +kernel
theorem dX12_told_12 : decode mX12_told.2.1 12 = .ok (.iload_n 1, 1) := by decide +kernel
theorem dX12_told_13 : decode mX12_told.2.1 13 = .ok (.iconst 0, 1) := by decide +kernel
theorem dX12_told_14 : decode mX12_told.2.1 14 = .ok (.iconst 3, 1) := by decide +kernel
theorem dX12_told_15 : decode mX12_told.2.1 15 = .ok (.invokestatic 75, 3) := by decide +kernel
theorem dX12_told_18 : decode mX12_told.2.1 18 = .ok (.ifCond .eq 12, 3) := by decide +kernel
theorem dX12_told_21 : decode mX12_told.2.1 21 = .ok (.aload_n 0, 1) := by decide +kernel
theorem dX12_told_22 : decode mX12_told.2.1 22 = .ok (.getfield 154, 3) := by decide +kernel
theorem dX12_told_25 : decode mX12_told.2.1 25 = .ok (.iload_n 1, 1) := by decide +kernel
theorem dX12_told_26 : decode mX12_told.2.1 26 = .ok (.iaload, 1) := by decide +kernel
theorem dX12_told_27 : decode mX12_told.2.1 27 = .ok (.goto 4, 3) := by decide +kernel
theorem dX12_told_30 : decode mX12_told.2.1 30 = .ok (.iconst (-1), 1) := by decide +kernel
theorem dX12_told_31 : decode mX12_told.2.1 31 = .ok (.ireturn, 1) := by decide +kernel
set_option maxRecDepth 4000 in
theorem ev_X12_told {m : Mem} {v : Int} (hv : InR v) : Ev 0 2 mX12_told [vr 214, vi v] m (fun r m' => m' = wr m 214 0 0 ∧ r = if m 214 42 ≠ 0 ∧ 0 ≤ v ∧ v ≤ 3 then m 233 v else -1) := by
  refine Ev.of (L := [vr 214, vi v]) (by decide +kernel) rfl (Nat.le_of_ble_eq_true rfl) rfl (fun t ht => by cases ht; first | exact Or.inl rfl | exact Or.inr (Or.inl rfl) | exact Or.inr (Or.inr rfl)) (fun hcan => ?_)
  refine go_aload_n dX12_told_0 rfl ?_
  refine go_iconst dX12_told_1 ?_
  refine go_putf_i (ki := 0) dX12_told_2 fw_12_1 ob_214 rfl rfl ⟨by omega, by omega⟩ ?_
  refine go_aload_n dX12_told_5 rfl ?_
  refine go_getf_z (ki := 42) dX12_told_6 fl_12_417 ob_214 rfl rfl (fun hf_6 => ?_)
  rw [show ((wr m 214 0 0) 214 42 : Int) = (m 214 42) from by rw [wr_ni (by decide)]] at hf_6 ⊢
  refine go_if_eq (tgt := 30) dX12_told_9 (by decide) ⟨by omega, by omega⟩ (fun h_9 => ?_) (fun h_9 => ?_)
  · refine go_iconst dX12_told_30 ?_
    exact go_ret (v := (-1)) rfl dX12_told_31 (okI ⟨by omega, by omega⟩) ⟨rfl, by omega⟩
  · refine go_iload_n dX12_told_12 rfl ?_
    refine go_iconst dX12_told_13 ?_
    refine go_iconst dX12_told_14 ?_
    refine go_callSp_z (as := [vi v, vi 0, vi 3]) (S := []) (ev_X12_isIn (m := (wr m 214 0 0)) (n := v) (lo := 0) (hi := 3) (by first | assumption | omega | exact ⟨by omega, by omega⟩ | (constructor <;> omega)) (by first | assumption | omega | exact ⟨by omega, by omega⟩ | (constructor <;> omega)) (by first | assumption | omega | exact ⟨by omega, by omega⟩ | (constructor <;> omega))) rfl dX12_told_15 cs_12_75 rfl rfl (by decide) (Nat.le_of_ble_eq_true rfl) (fun r_15 hr_15 ho_15 => ?_)
    refine go_if_eq (tgt := 30) dX12_told_18 (by decide) ⟨by omega, by omega⟩ (fun h_18 => ?_) (fun h_18 => ?_)
    · refine go_iconst dX12_told_30 ?_
      exact go_ret (v := (-1)) rfl dX12_told_31 (okI ⟨by omega, by omega⟩) ⟨rfl, by omega⟩
    · refine go_aload_n dX12_told_21 rfl ?_
      refine go_getf_p (b := 233) dX12_told_22 fl_12_154 ob_214 rfl pt_214_40 ?_
      refine go_iload_n dX12_told_25 rfl ?_
      refine go_iaload dX12_told_26 ar_233 (by omega) (by omega) (fun he_26 => ?_)
      rw [show ((wr m 214 0 0) 233 v : Int) = (m 233 v) from by rw [wr_na (by omega)]] at he_26 ⊢
      refine go_goto (tgt := 31) dX12_told_27 (by decide) ?_
      exact go_ret (v := (m 233 v)) rfl dX12_told_31 (okI ⟨by omega, by omega⟩) ⟨rfl, by omega⟩
theorem dX12_wayAt_0 : decode mX12_wayAt.2.1 0 = .ok (.aload_n 0, 1) := by decide +kernel
theorem dX12_wayAt_1 : decode mX12_wayAt.2.1 1 = .ok (.iconst 0, 1) := by decide +kernel
theorem dX12_wayAt_2 : decode mX12_wayAt.2.1 2 = .ok (.putfield 1, 3) := by decide +kernel
theorem dX12_wayAt_5 : decode mX12_wayAt.2.1 5 = .ok (.iload_n 1, 1) := by decide +kernel
theorem dX12_wayAt_6 : decode mX12_wayAt.2.1 6 = .ok (.iconst 0, 1) := by decide +kernel
theorem dX12_wayAt_7 : decode mX12_wayAt.2.1 7 = .ok (.aload_n 0, 1) := by decide +kernel
theorem dX12_wayAt_8 : decode mX12_wayAt.2.1 8 = .ok (.getfield 328, 3) := by decide +kernel
theorem dX12_wayAt_11 : decode mX12_wayAt.2.1 11 = .ok (.iconst 1, 1) := by decide +kernel
theorem dX12_wayAt_12 : decode mX12_wayAt.2.1 12 = .ok (.isub, 1) := by decide +kernel
theorem dX12_wayAt_13 : decode mX12_wayAt.2.1 13 = .ok (.invokestatic 75, 3) := by decide +kernel
theorem dX12_wayAt_16 : decode mX12_wayAt.2.1 16 = .ok (.ifCond .eq 12, 3) := by decide +kernel
theorem dX12_wayAt_19 : decode mX12_wayAt.2.1 19 = .ok (.aload_n 0, 1) := by decide +kernel
theorem dX12_wayAt_20 : decode mX12_wayAt.2.1 20 = .ok (.getfield 133, 3) := by decide +kernel
theorem dX12_wayAt_23 : decode mX12_wayAt.2.1 23 = .ok (.iload_n 1, 1) := by decide +kernel
theorem dX12_wayAt_24 : decode mX12_wayAt.2.1 24 = .ok (.iaload, 1) := by decide +kernel
theorem dX12_wayAt_25 : decode mX12_wayAt.2.1 25 = .ok (.goto 4, 3) := by decide +kernel
theorem dX12_wayAt_28 : decode mX12_wayAt.2.1 28 = .ok (.iconst (-1), 1) := by decide +kernel
theorem dX12_wayAt_29 : decode mX12_wayAt.2.1 29 = .ok (.ireturn, 1) := by decide +kernel
set_option maxRecDepth 4000 in
theorem ev_X12_wayAt {m : Mem} {k : Int} (hk : InR k) (hl : 0 ≤ m 214 29 ∧ m 214 29 ≤ 324) : Ev 0 2 mX12_wayAt [vr 214, vi k] m (fun r m' => m' = wr m 214 0 0 ∧ r = if 0 ≤ k ∧ k < m 214 29 then m 227 k else -1) := by
  refine Ev.of (L := [vr 214, vi k]) (by decide +kernel) rfl (Nat.le_of_ble_eq_true rfl) rfl (fun t ht => by cases ht; first | exact Or.inl rfl | exact Or.inr (Or.inl rfl) | exact Or.inr (Or.inr rfl)) (fun hcan => ?_)
  refine go_aload_n dX12_wayAt_0 rfl ?_
  refine go_iconst dX12_wayAt_1 ?_
  refine go_putf_i (ki := 0) dX12_wayAt_2 fw_12_1 ob_214 rfl rfl ⟨by omega, by omega⟩ ?_
  refine go_iload_n dX12_wayAt_5 rfl ?_
  refine go_iconst dX12_wayAt_6 ?_
  refine go_aload_n dX12_wayAt_7 rfl ?_
  refine go_getf_i (ki := 29) dX12_wayAt_8 fl_12_328 ob_214 rfl rfl (fun hf_8 => ?_)
  rw [show ((wr m 214 0 0) 214 29 : Int) = (m 214 29) from by rw [wr_ni (by decide)]] at hf_8 ⊢
  refine go_iconst dX12_wayAt_11 ?_
  refine go_isub dX12_wayAt_12 ?_
  refine go_callSp_z (as := [vi k, vi 0, vi ((m 214 29) - 1)]) (S := []) (ev_X12_isIn (m := (wr m 214 0 0)) (n := k) (lo := 0) (hi := ((m 214 29) - 1)) (by first | assumption | omega | exact ⟨by omega, by omega⟩ | (constructor <;> omega)) (by first | assumption | omega | exact ⟨by omega, by omega⟩ | (constructor <;> omega)) (by first | assumption | omega | exact ⟨by omega, by omega⟩ | (constructor <;> omega))) rfl dX12_wayAt_13 cs_12_75 rfl rfl (by decide) (Nat.le_of_ble_eq_true rfl) (fun r_13 hr_13 ho_13 => ?_)
  refine go_if_eq (tgt := 28) dX12_wayAt_16 (by decide) ⟨by omega, by omega⟩ (fun h_16 => ?_) (fun h_16 => ?_)
  · refine go_iconst dX12_wayAt_28 ?_
    exact go_ret (v := (-1)) rfl dX12_wayAt_29 (okI ⟨by omega, by omega⟩) ⟨rfl, by omega⟩
  · refine go_aload_n dX12_wayAt_19 rfl ?_
    refine go_getf_p (b := 227) dX12_wayAt_20 fl_12_133 ob_214 rfl pt_214_28 ?_
    refine go_iload_n dX12_wayAt_23 rfl ?_
    refine go_iaload dX12_wayAt_24 ar_227 (by omega) (by omega) (fun he_24 => ?_)
    rw [show ((wr m 214 0 0) 227 k : Int) = (m 227 k) from by rw [wr_na (by omega)]] at he_24 ⊢
    refine go_goto (tgt := 29) dX12_wayAt_25 (by decide) ?_
    exact go_ret (v := (m 227 k)) rfl dX12_wayAt_29 (okI ⟨by omega, by omega⟩) ⟨rfl, by omega⟩
theorem dX12_undoesAt_0 : decode mX12_undoesAt.2.1 0 = .ok (.aload_n 0, 1) := by decide +kernel
theorem dX12_undoesAt_1 : decode mX12_undoesAt.2.1 1 = .ok (.iconst 0, 1) := by decide +kernel
theorem dX12_undoesAt_2 : decode mX12_undoesAt.2.1 2 = .ok (.putfield 1, 3) := by decide +kernel
theorem dX12_undoesAt_5 : decode mX12_undoesAt.2.1 5 = .ok (.iload_n 1, 1) := by decide +kernel
theorem dX12_undoesAt_6 : decode mX12_undoesAt.2.1 6 = .ok (.iconst 0, 1) := by decide +kernel
theorem dX12_undoesAt_7 : decode mX12_undoesAt.2.1 7 = .ok (.aload_n 0, 1) := by decide +kernel
theorem dX12_undoesAt_8 : decode mX12_undoesAt.2.1 8 = .ok (.getfield 343, 3) := by decide +kernel
theorem dX12_undoesAt_11 : decode mX12_undoesAt.2.1 11 = .ok (.iconst 1, 1) := by decide +kernel
theorem dX12_undoesAt_12 : decode mX12_undoesAt.2.1 12 = .ok (.isub, 1) := by decide +kernel
theorem dX12_undoesAt_13 : decode mX12_undoesAt.2.1 13 = .ok (.invokestatic 75, 3) := by decide +kernel
theorem dX12_undoesAt_16 : decode mX12_undoesAt.2.1 16 = .ok (.ifCond .eq 12, 3) := by decide +kernel
theorem dX12_undoesAt_19 : decode mX12_undoesAt.2.1 19 = .ok (.aload_n 0, 1) := by decide +kernel
theorem dX12_undoesAt_20 : decode mX12_undoesAt.2.1 20 = .ok (.getfield 139, 3) := by decide +kernel
theorem dX12_undoesAt_23 : decode mX12_undoesAt.2.1 23 = .ok (.iload_n 1, 1) := by decide +kernel
theorem dX12_undoesAt_24 : decode mX12_undoesAt.2.1 24 = .ok (.iaload, 1) := by decide +kernel
theorem dX12_undoesAt_25 : decode mX12_undoesAt.2.1 25 = .ok (.goto 4, 3) := by decide +kernel
theorem dX12_undoesAt_28 : decode mX12_undoesAt.2.1 28 = .ok (.iconst (-1), 1) := by decide +kernel
theorem dX12_undoesAt_29 : decode mX12_undoesAt.2.1 29 = .ok (.ireturn, 1) := by decide +kernel
set_option maxRecDepth 4000 in
theorem ev_X12_undoesAt {m : Mem} {k : Int} (hk : InR k) (hl : 0 ≤ m 214 31 ∧ m 214 31 ≤ 3) : Ev 0 2 mX12_undoesAt [vr 214, vi k] m (fun r m' => m' = wr m 214 0 0 ∧ r = if 0 ≤ k ∧ k < m 214 31 then m 229 k else -1) := by
  refine Ev.of (L := [vr 214, vi k]) (by decide +kernel) rfl (Nat.le_of_ble_eq_true rfl) rfl (fun t ht => by cases ht; first | exact Or.inl rfl | exact Or.inr (Or.inl rfl) | exact Or.inr (Or.inr rfl)) (fun hcan => ?_)
  refine go_aload_n dX12_undoesAt_0 rfl ?_
  refine go_iconst dX12_undoesAt_1 ?_
  refine go_putf_i (ki := 0) dX12_undoesAt_2 fw_12_1 ob_214 rfl rfl ⟨by omega, by omega⟩ ?_
  refine go_iload_n dX12_undoesAt_5 rfl ?_
  refine go_iconst dX12_undoesAt_6 ?_
  refine go_aload_n dX12_undoesAt_7 rfl ?_
  refine go_getf_i (ki := 31) dX12_undoesAt_8 fl_12_343 ob_214 rfl rfl (fun hf_8 => ?_)
  rw [show ((wr m 214 0 0) 214 31 : Int) = (m 214 31) from by rw [wr_ni (by decide)]] at hf_8 ⊢
  refine go_iconst dX12_undoesAt_11 ?_
  refine go_isub dX12_undoesAt_12 ?_
  refine go_callSp_z (as := [vi k, vi 0, vi ((m 214 31) - 1)]) (S := []) (ev_X12_isIn (m := (wr m 214 0 0)) (n := k) (lo := 0) (hi := ((m 214 31) - 1)) (by first | assumption | omega | exact ⟨by omega, by omega⟩ | (constructor <;> omega)) (by first | assumption | omega | exact ⟨by omega, by omega⟩ | (constructor <;> omega)) (by first | assumption | omega | exact ⟨by omega, by omega⟩ | (constructor <;> omega))) rfl dX12_undoesAt_13 cs_12_75 rfl rfl (by decide) (Nat.le_of_ble_eq_true rfl) (fun r_13 hr_13 ho_13 => ?_)
  refine go_if_eq (tgt := 28) dX12_undoesAt_16 (by decide) ⟨by omega, by omega⟩ (fun h_16 => ?_) (fun h_16 => ?_)
  · refine go_iconst dX12_undoesAt_28 ?_
    exact go_ret (v := (-1)) rfl dX12_undoesAt_29 (okI ⟨by omega, by omega⟩) ⟨rfl, by omega⟩
  · refine go_aload_n dX12_undoesAt_19 rfl ?_
    refine go_getf_p (b := 229) dX12_undoesAt_20 fl_12_139 ob_214 rfl pt_214_32 ?_
    refine go_iload_n dX12_undoesAt_23 rfl ?_
    refine go_iaload dX12_undoesAt_24 ar_229 (by omega) (by omega) (fun he_24 => ?_)
    rw [show ((wr m 214 0 0) 229 k : Int) = (m 229 k) from by rw [wr_na (by omega)]] at he_24 ⊢
    refine go_goto (tgt := 29) dX12_undoesAt_25 (by decide) ?_
    exact go_ret (v := (m 229 k)) rfl dX12_undoesAt_29 (okI ⟨by omega, by omega⟩) ⟨rfl, by omega⟩
theorem dX12_tracksAt_0 : decode mX12_tracksAt.2.1 0 = .ok (.aload_n 0, 1) := by decide +kernel
theorem dX12_tracksAt_1 : decode mX12_tracksAt.2.1 1 = .ok (.iconst 0, 1) := by decide +kernel
theorem dX12_tracksAt_2 : decode mX12_tracksAt.2.1 2 = .ok (.putfield 1, 3) := by decide +kernel
theorem dX12_tracksAt_5 : decode mX12_tracksAt.2.1 5 = .ok (.iload_n 1, 1) := by decide +kernel
theorem dX12_tracksAt_6 : decode mX12_tracksAt.2.1 6 = .ok (.iconst 0, 1) := by decide +kernel
theorem dX12_tracksAt_7 : decode mX12_tracksAt.2.1 7 = .ok (.aload_n 0, 1) := by decide +kernel
theorem dX12_tracksAt_8 : decode mX12_tracksAt.2.1 8 = .ok (.getfield 352, 3) := by decide +kernel
theorem dX12_tracksAt_11 : decode mX12_tracksAt.2.1 11 = .ok (.iconst 1, 1) := by decide +kernel
theorem dX12_tracksAt_12 : decode mX12_tracksAt.2.1 12 = .ok (.isub, 1) := by decide +kernel
theorem dX12_tracksAt_13 : decode mX12_tracksAt.2.1 13 = .ok (.invokestatic 75, 3) := by decide +kernel
theorem dX12_tracksAt_16 : decode mX12_tracksAt.2.1 16 = .ok (.ifCond .eq 12, 3) := by decide +kernel
theorem dX12_tracksAt_19 : decode mX12_tracksAt.2.1 19 = .ok (.aload_n 0, 1) := by decide +kernel
theorem dX12_tracksAt_20 : decode mX12_tracksAt.2.1 20 = .ok (.getfield 142, 3) := by decide +kernel
theorem dX12_tracksAt_23 : decode mX12_tracksAt.2.1 23 = .ok (.iload_n 1, 1) := by decide +kernel
theorem dX12_tracksAt_24 : decode mX12_tracksAt.2.1 24 = .ok (.iaload, 1) := by decide +kernel
theorem dX12_tracksAt_25 : decode mX12_tracksAt.2.1 25 = .ok (.goto 4, 3) := by decide +kernel
theorem dX12_tracksAt_28 : decode mX12_tracksAt.2.1 28 = .ok (.iconst (-1), 1) := by decide +kernel
theorem dX12_tracksAt_29 : decode mX12_tracksAt.2.1 29 = .ok (.ireturn, 1) := by decide +kernel
set_option maxRecDepth 4000 in
theorem ev_X12_tracksAt {m : Mem} {k : Int} (hk : InR k) (hl : 0 ≤ m 214 34 ∧ m 214 34 ≤ 6) : Ev 0 2 mX12_tracksAt [vr 214, vi k] m (fun r m' => m' = wr m 214 0 0 ∧ r = if 0 ≤ k ∧ k < m 214 34 then m 230 k else -1) := by
  refine Ev.of (L := [vr 214, vi k]) (by decide +kernel) rfl (Nat.le_of_ble_eq_true rfl) rfl (fun t ht => by cases ht; first | exact Or.inl rfl | exact Or.inr (Or.inl rfl) | exact Or.inr (Or.inr rfl)) (fun hcan => ?_)
  refine go_aload_n dX12_tracksAt_0 rfl ?_
  refine go_iconst dX12_tracksAt_1 ?_
  refine go_putf_i (ki := 0) dX12_tracksAt_2 fw_12_1 ob_214 rfl rfl ⟨by omega, by omega⟩ ?_
  refine go_iload_n dX12_tracksAt_5 rfl ?_
  refine go_iconst dX12_tracksAt_6 ?_
  refine go_aload_n dX12_tracksAt_7 rfl ?_
  refine go_getf_i (ki := 34) dX12_tracksAt_8 fl_12_352 ob_214 rfl rfl (fun hf_8 => ?_)
  rw [show ((wr m 214 0 0) 214 34 : Int) = (m 214 34) from by rw [wr_ni (by decide)]] at hf_8 ⊢
  refine go_iconst dX12_tracksAt_11 ?_
  refine go_isub dX12_tracksAt_12 ?_
  refine go_callSp_z (as := [vi k, vi 0, vi ((m 214 34) - 1)]) (S := []) (ev_X12_isIn (m := (wr m 214 0 0)) (n := k) (lo := 0) (hi := ((m 214 34) - 1)) (by first | assumption | omega | exact ⟨by omega, by omega⟩ | (constructor <;> omega)) (by first | assumption | omega | exact ⟨by omega, by omega⟩ | (constructor <;> omega)) (by first | assumption | omega | exact ⟨by omega, by omega⟩ | (constructor <;> omega))) rfl dX12_tracksAt_13 cs_12_75 rfl rfl (by decide) (Nat.le_of_ble_eq_true rfl) (fun r_13 hr_13 ho_13 => ?_)
  refine go_if_eq (tgt := 28) dX12_tracksAt_16 (by decide) ⟨by omega, by omega⟩ (fun h_16 => ?_) (fun h_16 => ?_)
  · refine go_iconst dX12_tracksAt_28 ?_
    exact go_ret (v := (-1)) rfl dX12_tracksAt_29 (okI ⟨by omega, by omega⟩) ⟨rfl, by omega⟩
  · refine go_aload_n dX12_tracksAt_19 rfl ?_
    refine go_getf_p (b := 230) dX12_tracksAt_20 fl_12_142 ob_214 rfl pt_214_33 ?_
    refine go_iload_n dX12_tracksAt_23 rfl ?_
    refine go_iaload dX12_tracksAt_24 ar_230 (by omega) (by omega) (fun he_24 => ?_)
    rw [show ((wr m 214 0 0) 230 k : Int) = (m 230 k) from by rw [wr_na (by omega)]] at he_24 ⊢
    refine go_goto (tgt := 29) dX12_tracksAt_25 (by decide) ?_
    exact go_ret (v := (m 230 k)) rfl dX12_tracksAt_29 (okI ⟨by omega, by omega⟩) ⟨rfl, by omega⟩
theorem dX12_byteAt_0 : decode mX12_byteAt.2.1 0 = .ok (.aload_n 0, 1) := by decide +kernel
theorem dX12_byteAt_1 : decode mX12_byteAt.2.1 1 = .ok (.iconst 0, 1) := by decide +kernel
theorem dX12_byteAt_2 : decode mX12_byteAt.2.1 2 = .ok (.putfield 1, 3) := by decide +kernel
theorem dX12_byteAt_5 : decode mX12_byteAt.2.1 5 = .ok (.iload_n 1, 1) := by decide +kernel
theorem dX12_byteAt_6 : decode mX12_byteAt.2.1 6 = .ok (.iconst 0, 1) := by decide +kernel
theorem dX12_byteAt_7 : decode mX12_byteAt.2.1 7 = .ok (.aload_n 0, 1) := by decide +kernel
theorem dX12_byteAt_8 : decode mX12_byteAt.2.1 8 = .ok (.getfield 358, 3) := by decide +kernel
theorem dX12_byteAt_11 : decode mX12_byteAt.2.1 11 = .ok (.iconst 1, 1) := by decide +kernel
theorem dX12_byteAt_12 : decode mX12_byteAt.2.1 12 = .ok (.isub, 1) := by decide +kernel
theorem dX12_byteAt_13 : decode mX12_byteAt.2.1 13 = .ok (.invokestatic 75, 3) := by decide +kernel
theorem dX12_byteAt_16 : decode mX12_byteAt.2.1 16 = .ok (.ifCond .eq 12, 3) := by decide +kernel
theorem dX12_byteAt_19 : decode mX12_byteAt.2.1 19 = .ok (.aload_n 0, 1) := by decide +kernel
theorem dX12_byteAt_20 : decode mX12_byteAt.2.1 20 = .ok (.getfield 148, 3) := by decide +kernel
theorem dX12_byteAt_23 : decode mX12_byteAt.2.1 23 = .ok (.iload_n 1, 1) := by decide +kernel
theorem dX12_byteAt_24 : decode mX12_byteAt.2.1 24 = .ok (.iaload, 1) := by decide +kernel
theorem dX12_byteAt_25 : decode mX12_byteAt.2.1 25 = .ok (.goto 4, 3) := by decide +kernel
theorem dX12_byteAt_28 : decode mX12_byteAt.2.1 28 = .ok (.iconst (-1), 1) := by decide +kernel
theorem dX12_byteAt_29 : decode mX12_byteAt.2.1 29 = .ok (.ireturn, 1) := by decide +kernel
set_option maxRecDepth 4000 in
theorem ev_X12_byteAt {m : Mem} {k : Int} (hk : InR k) (hl : 0 ≤ m 214 37 ∧ m 214 37 ≤ 64) : Ev 0 2 mX12_byteAt [vr 214, vi k] m (fun r m' => m' = wr m 214 0 0 ∧ r = if 0 ≤ k ∧ k < m 214 37 then m 231 k else -1) := by
  refine Ev.of (L := [vr 214, vi k]) (by decide +kernel) rfl (Nat.le_of_ble_eq_true rfl) rfl (fun t ht => by cases ht; first | exact Or.inl rfl | exact Or.inr (Or.inl rfl) | exact Or.inr (Or.inr rfl)) (fun hcan => ?_)
  refine go_aload_n dX12_byteAt_0 rfl ?_
  refine go_iconst dX12_byteAt_1 ?_
  refine go_putf_i (ki := 0) dX12_byteAt_2 fw_12_1 ob_214 rfl rfl ⟨by omega, by omega⟩ ?_
  refine go_iload_n dX12_byteAt_5 rfl ?_
  refine go_iconst dX12_byteAt_6 ?_
  refine go_aload_n dX12_byteAt_7 rfl ?_
  refine go_getf_i (ki := 37) dX12_byteAt_8 fl_12_358 ob_214 rfl rfl (fun hf_8 => ?_)
  rw [show ((wr m 214 0 0) 214 37 : Int) = (m 214 37) from by rw [wr_ni (by decide)]] at hf_8 ⊢
  refine go_iconst dX12_byteAt_11 ?_
  refine go_isub dX12_byteAt_12 ?_
  refine go_callSp_z (as := [vi k, vi 0, vi ((m 214 37) - 1)]) (S := []) (ev_X12_isIn (m := (wr m 214 0 0)) (n := k) (lo := 0) (hi := ((m 214 37) - 1)) (by first | assumption | omega | exact ⟨by omega, by omega⟩ | (constructor <;> omega)) (by first | assumption | omega | exact ⟨by omega, by omega⟩ | (constructor <;> omega)) (by first | assumption | omega | exact ⟨by omega, by omega⟩ | (constructor <;> omega))) rfl dX12_byteAt_13 cs_12_75 rfl rfl (by decide) (Nat.le_of_ble_eq_true rfl) (fun r_13 hr_13 ho_13 => ?_)
  refine go_if_eq (tgt := 28) dX12_byteAt_16 (by decide) ⟨by omega, by omega⟩ (fun h_16 => ?_) (fun h_16 => ?_)
  · refine go_iconst dX12_byteAt_28 ?_
    exact go_ret (v := (-1)) rfl dX12_byteAt_29 (okI ⟨by omega, by omega⟩) ⟨rfl, by omega⟩
  · refine go_aload_n dX12_byteAt_19 rfl ?_
    refine go_getf_p (b := 231) dX12_byteAt_20 fl_12_148 ob_214 rfl pt_214_36 ?_
    refine go_iload_n dX12_byteAt_23 rfl ?_
    refine go_iaload dX12_byteAt_24 ar_231 (by omega) (by omega) (fun he_24 => ?_)
    rw [show ((wr m 214 0 0) 231 k : Int) = (m 231 k) from by rw [wr_na (by omega)]] at he_24 ⊢
    refine go_goto (tgt := 29) dX12_byteAt_25 (by decide) ?_
    exact go_ret (v := (m 231 k)) rfl dX12_byteAt_29 (okI ⟨by omega, by omega⟩) ⟨rfl, by omega⟩
theorem dX12_tells_0 : decode mX12_tells.2.1 0 = .ok (.aload_n 0, 1) := by decide +kernel
theorem dX12_tells_1 : decode mX12_tells.2.1 1 = .ok (.iconst 0, 1) := by decide +kernel
theorem dX12_tells_2 : decode mX12_tells.2.1 2 = .ok (.putfield 1, 3) := by decide +kernel
theorem dX12_tells_5 : decode mX12_tells.2.1 5 = .ok (.aload_n 0, 1) := by decide +kernel
theorem dX12_tells_6 : decode mX12_tells.2.1 6 = .ok (.getfield 145, 3) := by decide +kernel
theorem dX12_tells_9 : decode mX12_tells.2.1 9 = .ok (.ireturn, 1) := by decide +kernel
set_option maxRecDepth 4000 in
theorem ev_X12_tells {m : Mem}   : Ev 0 1 mX12_tells [vr 214] m (fun r m' => m' = wr m 214 0 0 ∧ r = m 214 35) := by
  refine Ev.of (L := [vr 214]) (by decide +kernel) rfl (Nat.le_of_ble_eq_true rfl) rfl (fun t ht => by cases ht; first | exact Or.inl rfl | exact Or.inr (Or.inl rfl) | exact Or.inr (Or.inr rfl)) (fun hcan => ?_)
  refine go_aload_n dX12_tells_0 rfl ?_
  refine go_iconst dX12_tells_1 ?_
  refine go_putf_i (ki := 0) dX12_tells_2 fw_12_1 ob_214 rfl rfl ⟨by omega, by omega⟩ ?_
  refine go_aload_n dX12_tells_5 rfl ?_
  refine go_getf_i (ki := 35) dX12_tells_6 fl_12_145 ob_214 rfl rfl (fun hf_6 => ?_)
  rw [show ((wr m 214 0 0) 214 35 : Int) = (m 214 35) from by rw [wr_ni (by decide)]] at hf_6 ⊢
  exact go_ret (v := (m 214 35)) rfl dX12_tells_9 (okI ⟨by omega, by omega⟩) ⟨rfl, rfl⟩
theorem dX12_fault_0 : decode mX12_fault.2.1 0 = .ok (.aload_n 0, 1) := by decide +kernel
theorem dX12_fault_1 : decode mX12_fault.2.1 1 = .ok (.iconst 0, 1) := by decide +kernel
theorem dX12_fault_2 : decode mX12_fault.2.1 2 = .ok (.putfield 1, 3) := by decide +kernel
theorem dX12_fault_5 : decode mX12_fault.2.1 5 = .ok (.aload_n 0, 1) := by decide +kernel
theorem dX12_fault_6 : decode mX12_fault.2.1 6 = .ok (.getfield 66, 3) := by decide +kernel
theorem dX12_fault_9 : decode mX12_fault.2.1 9 = .ok (.ireturn, 1) := by decide +kernel
set_option maxRecDepth 4000 in
theorem ev_X12_fault {m : Mem}   : Ev 0 1 mX12_fault [vr 214] m (fun r m' => m' = wr m 214 0 0 ∧ r = m 214 10) := by
  refine Ev.of (L := [vr 214]) (by decide +kernel) rfl (Nat.le_of_ble_eq_true rfl) rfl (fun t ht => by cases ht; first | exact Or.inl rfl | exact Or.inr (Or.inl rfl) | exact Or.inr (Or.inr rfl)) (fun hcan => ?_)
  refine go_aload_n dX12_fault_0 rfl ?_
  refine go_iconst dX12_fault_1 ?_
  refine go_putf_i (ki := 0) dX12_fault_2 fw_12_1 ob_214 rfl rfl ⟨by omega, by omega⟩ ?_
  refine go_aload_n dX12_fault_5 rfl ?_
  refine go_getf_i (ki := 10) dX12_fault_6 fl_12_66 ob_214 rfl rfl (fun hf_6 => ?_)
  rw [show ((wr m 214 0 0) 214 10 : Int) = (m 214 10) from by rw [wr_ni (by decide)]] at hf_6 ⊢
  exact go_ret (v := (m 214 10)) rfl dX12_fault_9 (okI ⟨by omega, by omega⟩) ⟨rfl, rfl⟩
theorem dX12_end_0 : decode mX12_end.2.1 0 = .ok (.aload_n 0, 1) := by decide +kernel
theorem dX12_end_1 : decode mX12_end.2.1 1 = .ok (.iconst 0, 1) := by decide +kernel
theorem dX12_end_2 : decode mX12_end.2.1 2 = .ok (.putfield 1, 3) := by decide +kernel
theorem dX12_end_5 : decode mX12_end.2.1 5 = .ok (.iload_n 1, 1) := by decide +kernel
theorem dX12_end_6 : decode mX12_end.2.1 6 = .ok (.ifCond .lt 11, 3) := by decide +kernel
theorem dX12_end_9 : decode mX12_end.2.1 9 = .ok (.iload_n 1, 1) := by decide +kernel
theorem dX12_end_10 : decode mX12_end.2.1 10 = .ok (.aload_n 0, 1) := by decide +kernel
theorem dX12_end_11 : decode mX12_end.2.1 11 = .ok (.getfield 11, 3) := by decide +kernel
theorem dX12_end_14 : decode mX12_end.2.1 14 = .ok (.if_icmp .le 5, 3) := by decide +kernel
theorem dX12_end_17 : decode mX12_end.2.1 17 = .ok (.iconst 0, 1) := by decide +kernel
theorem dX12_end_18 : decode mX12_end.2.1 18 = .ok (.ireturn, 1) := by decide +kernel
theorem dX12_end_19 : decode mX12_end.2.1 19 = .ok (.aload_n 0, 1) := by decide +kernel
theorem dX12_end_20 : decode mX12_end.2.1 20 = .ok (.iload_n 1, 1) := by decide +kernel
theorem dX12_end_21 : decode mX12_end.2.1 21 = .ok (.putfield 11, 3) := by decide +kernel
theorem dX12_end_24 : decode mX12_end.2.1 24 = .ok (.iconst 1, 1) := by decide +kernel
theorem dX12_end_25 : decode mX12_end.2.1 25 = .ok (.ireturn, 1) := by decide +kernel
set_option maxRecDepth 4000 in
theorem ev_X12_end {m : Mem} {n : Int} (hn : InR n) : Ev 0 1 mX12_end [vr 214, vi n] m (fun r m' => (0 ≤ n ∧ n ≤ m 214 2 ∧ r = 1 ∧ m' = wr (wr m 214 0 0) 214 2 n) ∨ (¬ (0 ≤ n ∧ n ≤ m 214 2) ∧ r = 0 ∧ m' = wr m 214 0 0)) := by
  refine Ev.of (L := [vr 214, vi n]) (by decide +kernel) rfl (Nat.le_of_ble_eq_true rfl) rfl (fun t ht => by cases ht; first | exact Or.inl rfl | exact Or.inr (Or.inl rfl) | exact Or.inr (Or.inr rfl)) (fun hcan => ?_)
  refine go_aload_n dX12_end_0 rfl ?_
  refine go_iconst dX12_end_1 ?_
  refine go_putf_i (ki := 0) dX12_end_2 fw_12_1 ob_214 rfl rfl ⟨by omega, by omega⟩ ?_
  refine go_iload_n dX12_end_5 rfl ?_
  refine go_if_lt (tgt := 17) dX12_end_6 (by decide) ⟨by omega, by omega⟩ (fun h_6 => ?_) (fun h_6 => ?_)
  · refine go_iconst dX12_end_17 ?_
    exact go_ret (v := 0) rfl dX12_end_18 (okZ (by first | exact Or.inl rfl | exact Or.inr rfl | assumption | omega)) (Or.inr ⟨by omega, rfl, rfl⟩)
  · refine go_iload_n dX12_end_9 rfl ?_
    refine go_aload_n dX12_end_10 rfl ?_
    refine go_getf_i (ki := 2) dX12_end_11 fl_12_11 ob_214 rfl rfl (fun hf_11 => ?_)
    rw [show ((wr m 214 0 0) 214 2 : Int) = (m 214 2) from by rw [wr_ni (by decide)]] at hf_11 ⊢
    refine go_icmp_le (tgt := 19) dX12_end_14 (by decide) ⟨by omega, by omega⟩ ⟨by omega, by omega⟩ (fun h_14 => ?_) (fun h_14 => ?_)
    · refine go_aload_n dX12_end_19 rfl ?_
      refine go_iload_n dX12_end_20 rfl ?_
      refine go_putf_i (ki := 2) dX12_end_21 fw_12_11 ob_214 rfl rfl ⟨by omega, by omega⟩ ?_
      refine go_iconst dX12_end_24 ?_
      exact go_ret (v := 1) rfl dX12_end_25 (okZ (by first | exact Or.inl rfl | exact Or.inr rfl | assumption | omega)) (Or.inl ⟨by omega, by omega, rfl, rfl⟩)
    · refine go_iconst dX12_end_17 ?_
      exact go_ret (v := 0) rfl dX12_end_18 (okZ (by first | exact Or.inl rfl | exact Or.inr rfl | assumption | omega)) (Or.inr ⟨by omega, rfl, rfl⟩)
theorem dX12_take_0 : decode mX12_take.2.1 0 = .ok (.aload_n 0, 1) := by decide +kernel
theorem dX12_take_1 : decode mX12_take.2.1 1 = .ok (.getfield 11, 3) := by decide +kernel
theorem dX12_take_4 : decode mX12_take.2.1 4 = .ok (.istore_n 1, 1) := by decide +kernel
theorem dX12_take_5 : decode mX12_take.2.1 5 = .ok (.aload_n 0, 1) := by decide +kernel
theorem dX12_take_6 : decode mX12_take.2.1 6 = .ok (.iconst 0, 1) := by decide +kernel
theorem dX12_take_7 : decode mX12_take.2.1 7 = .ok (.putfield 11, 3) := by decide +kernel
theorem dX12_take_10 : decode mX12_take.2.1 10 = .ok (.iload_n 1, 1) := by decide +kernel
theorem dX12_take_11 : decode mX12_take.2.1 11 = .ok (.ireturn, 1) := by decide +kernel
set_option maxRecDepth 4000 in
theorem ev_X12_take {m : Mem}   : Ev 0 1 mX12_take [vr 214] m (fun r m' => r = m 214 2 ∧ m' = wr m 214 2 0) := by
  refine Ev.of (L := [vr 214, un]) (by decide +kernel) rfl (Nat.le_of_ble_eq_true rfl) rfl (fun t ht => by cases ht; first | exact Or.inl rfl | exact Or.inr (Or.inl rfl) | exact Or.inr (Or.inr rfl)) (fun hcan => ?_)
  refine go_aload_n dX12_take_0 rfl ?_
  refine go_getf_i (ki := 2) dX12_take_1 fl_12_11 ob_214 rfl rfl (fun hf_1 => ?_)
  refine go_istore_n (L' := [vr 214, vi (m 214 2)]) dX12_take_4 (by decide) rfl rfl ?_
  refine go_aload_n dX12_take_5 rfl ?_
  refine go_iconst dX12_take_6 ?_
  refine go_putf_i (ki := 2) dX12_take_7 fw_12_11 ob_214 rfl rfl ⟨by omega, by omega⟩ ?_
  refine go_iload_n dX12_take_10 rfl ?_
  exact go_ret (v := (m 214 2)) rfl dX12_take_11 (okI ⟨by omega, by omega⟩) ⟨rfl, rfl⟩
theorem dX12_come_0 : decode mX12_come.2.1 0 = .ok (.bipush 24, 2) := by decide +kernel
theorem dX12_come_2 : decode mX12_come.2.1 2 = .ok (.istore_n 2, 1) := by decide +kernel
theorem dX12_come_3 : decode mX12_come.2.1 3 = .ok (.iload_n 2, 1) := by decide +kernel
theorem dX12_come_4 : decode mX12_come.2.1 4 = .ok (.ifCond .lt 35, 3) := by decide +kernel
theorem dX12_come_7 : decode mX12_come.2.1 7 = .ok (.aload_n 0, 1) := by decide +kernel
theorem dX12_come_8 : decode mX12_come.2.1 8 = .ok (.getfield 7, 3) := by decide +kernel
theorem dX12_come_11 : decode mX12_come.2.1 11 = .ok (.aload_n 0, 1) := by decide +kernel
theorem dX12_come_12 : decode mX12_come.2.1 12 = .ok (.getfield 11, 3) := by decide +kernel
theorem dX12_come_15 : decode mX12_come.2.1 15 = .ok (.iload_n 1, 1) := by decide +kernel
theorem dX12_come_16 : decode mX12_come.2.1 16 = .ok (.iload_n 2, 1) := by decide +kernel
theorem dX12_come_17 : decode mX12_come.2.1 17 = .ok (.iushr, 1) := by decide +kernel
theorem dX12_come_18 : decode mX12_come.2.1 18 = .ok (.sipush 255, 3) := by decide +kernel
theorem dX12_come_21 : decode mX12_come.2.1 21 = .ok (.iand, 1) := by decide +kernel
theorem dX12_come_22 : decode mX12_come.2.1 22 = .ok (.iastore, 1) := by decide +kernel
theorem dX12_come_23 : decode mX12_come.2.1 23 = .ok (.aload_n 0, 1) := by decide +kernel
theorem dX12_come_24 : decode mX12_come.2.1 24 = .ok (.dup, 1) := by decide +kernel
theorem dX12_come_25 : decode mX12_come.2.1 25 = .ok (.getfield 11, 3) := by decide +kernel
theorem dX12_come_28 : decode mX12_come.2.1 28 = .ok (.iconst 1, 1) := by decide +kernel
theorem dX12_come_29 : decode mX12_come.2.1 29 = .ok (.iadd, 1) := by decide +kernel
theorem dX12_come_30 : decode mX12_come.2.1 30 = .ok (.putfield 11, 3) := by decide +kernel
theorem dX12_come_33 : decode mX12_come.2.1 33 = .ok (.iinc 2 (-8), 3) := by decide +kernel
theorem dX12_come_36 : decode mX12_come.2.1 36 = .ok (.goto (-33), 3) := by decide +kernel
theorem dX12_come_39 : decode mX12_come.2.1 39 = .ok (.return_, 1) := by decide +kernel
set_option maxRecDepth 4000 in
theorem ev_X12_come {m : Mem} {x : Int} (hx : InR x) (hn : 0 ≤ m 214 2 ∧ m 214 2 + 4 ≤ 940) : Ev 0 1 mX12_come [vr 214, vi x] m (fun r m' => m' = comC m x) := by
  refine Ev.of (L := [vr 214, vi x, un]) (by decide +kernel) rfl (Nat.le_of_ble_eq_true rfl) rfl (fun t ht => by cases ht) (fun hcan => ?_)
  refine go_bipush dX12_come_0 (by decide) ?_
  refine go_istore_n (L' := [vr 214, vi x, vi 24]) dX12_come_2 (by decide) rfl rfl ?_
  have lp_3 : ∀ (n_3 : Nat) (m1 : Mem) (t : Int) (k : Int), (0 ≤ k) → (k ≤ 4) → (t = 24 - 8 * k) → (m1 = comK m x k) → (4 - k).toNat < n_3 → Go 0 1 mX12_come (fun r m' => m' = comC m x) 3 [vr 214, vi x, vi t] [] m1 := by
    intro n_3
    induction n_3 with
    | zero => intro m1 t k hk0 hk1 ht hm hmu; exact absurd hmu (Nat.not_lt_zero _)
    | succ n_3 ih_3 =>
      intro m1 t k hk0 hk1 ht hm hmu
      have e1 : m1 214 2 = m 214 2 + k := by rw [hm]; unfold comK; rw [if_pos ⟨rfl, rfl⟩]
      refine go_iload_n dX12_come_3 rfl ?_
      refine go_if_lt (tgt := 39) dX12_come_4 (by decide) ⟨by omega, by omega⟩ (fun h_4 => ?_) (fun h_4 => ?_)
      · exact go_ret (v := 0) rfl dX12_come_39 rfl (by rw [hm, show k = 4 by omega]; rfl)
      · refine go_aload_n dX12_come_7 rfl ?_
        refine go_getf_p (b := 215) dX12_come_8 fl_12_7 ob_214 rfl pt_214_1 ?_
        refine go_aload_n dX12_come_11 rfl ?_
        refine go_getf_i (ki := 2) dX12_come_12 fl_12_11 ob_214 rfl rfl (fun hf_12 => ?_)
        rw [show (m1 214 2 : Int) = (m 214 2 + k) from e1] at hf_12 ⊢
        refine go_iload_n dX12_come_15 rfl ?_
        refine go_iload_n dX12_come_16 rfl ?_
        refine go_iushr dX12_come_17 ?_
        refine go_sipush dX12_come_18 (by decide) ?_
        refine go_iand dX12_come_21 ?_
        refine go_iastore dX12_come_22 ar_215 (by omega) (by omega) (iand_R _ _) ?_
        refine go_aload_n dX12_come_23 rfl ?_
        refine go_dup_r dX12_come_24 ?_
        refine go_getf_i (ki := 2) dX12_come_25 fl_12_11 ob_214 rfl rfl (fun hf_25 => ?_)
        rw [show ((wr m1 215 (m 214 2 + k) (iand (iushr x t) 255)) 214 2 : Int) = (m 214 2 + k) from by rw [wr_na (by decide), e1]] at hf_25 ⊢
        refine go_iconst dX12_come_28 ?_
        refine go_iadd dX12_come_29 ?_
        refine go_putf_i (ki := 2) dX12_come_30 fw_12_11 ob_214 rfl rfl ⟨by omega, by omega⟩ ?_
        refine go_iinc (L' := [vr 214, vi x, vi (t + (-8))]) dX12_come_33 rfl (by decide) rfl rfl ?_
        refine go_goto (tgt := 3) dX12_come_36 (by decide) ?_
        exact ih_3 (wr (wr m1 215 (m 214 2 + k) (iand (iushr x t) 255)) 214 2 ((m 214 2 + k) + 1)) (t + (-8)) (k + 1) (by first | assumption | omega | rfl) (by first | assumption | omega | rfl) (by first | assumption | omega | rfl) (by rw [hm, ht]; exact comK_s hk0) (by omega)
  exact lp_3 _ m 24 0 (by first | assumption | omega | rfl) (by first | assumption | omega | rfl) (by first | assumption | omega | rfl) (comK_0 m x).symm (Nat.lt_succ_self _)
theorem dX12_feed_0 : decode mX12_feed.2.1 0 = .ok (.aload_n 0, 1) := by decide +kernel
theorem dX12_feed_1 : decode mX12_feed.2.1 1 = .ok (.iconst 0, 1) := by decide +kernel
theorem dX12_feed_2 : decode mX12_feed.2.1 2 = .ok (.putfield 1, 3) := by decide +kernel
theorem dX12_feed_5 : decode mX12_feed.2.1 5 = .ok (.aload_n 0, 1) := by decide +kernel
theorem dX12_feed_6 : decode mX12_feed.2.1 6 = .ok (.getfield 11, 3) := by decide +kernel
theorem dX12_feed_9 : decode mX12_feed.2.1 9 = .ok (.bipush 20, 2) := by decide +kernel
theorem dX12_feed_11 : decode mX12_feed.2.1 11 = .ok (.iadd, 1) := by decide +kernel
theorem dX12_feed_12 : decode mX12_feed.2.1 12 = .ok (.sipush 940, 3) := by decide +kernel
theorem dX12_feed_15 : decode mX12_feed.2.1 15 = .ok (.if_icmp .le 5, 3) := by decide +kernel
theorem dX12_feed_18 : decode mX12_feed.2.1 18 = .ok (.iconst (-1), 1) := by decide +kernel
theorem dX12_feed_19 : decode mX12_feed.2.1 19 = .ok (.ireturn, 1) := by decide +kernel
theorem dX12_feed_20 : decode mX12_feed.2.1 20 = .ok (.aload_n 0, 1) := by decide +kernel
theorem dX12_feed_21 : decode mX12_feed.2.1 21 = .ok (.iload_n 1, 1) := by decide +kernel
theorem dX12_feed_22 : decode mX12_feed.2.1 22 = .ok (.invokevirtual 14, 3) := by decide +kernel
theorem dX12_feed_25 : decode mX12_feed.2.1 25 = .ok (.aload_n 0, 1) := by decide +kernel
theorem dX12_feed_26 : decode mX12_feed.2.1 26 = .ok (.iload_n 2, 1) := by decide +kernel
theorem dX12_feed_27 : decode mX12_feed.2.1 27 = .ok (.invokevirtual 14, 3) := by decide +kernel
theorem dX12_feed_30 : decode mX12_feed.2.1 30 = .ok (.aload_n 0, 1) := by decide +kernel
theorem dX12_feed_31 : decode mX12_feed.2.1 31 = .ok (.iload_n 3, 1) := by decide +kernel
theorem dX12_feed_32 : decode mX12_feed.2.1 32 = .ok (.invokevirtual 14, 3) := by decide +kernel
theorem dX12_feed_35 : decode mX12_feed.2.1 35 = .ok (.aload_n 0, 1) := by decide +kernel
theorem dX12_feed_36 : decode mX12_feed.2.1 36 = .ok (.iload 4, 2) := by decide +kernel
theorem dX12_feed_38 : decode mX12_feed.2.1 38 = .ok (.invokevirtual 14, 3) := by decide +kernel
theorem dX12_feed_41 : decode mX12_feed.2.1 41 = .ok (.aload_n 0, 1) := by decide +kernel
theorem dX12_feed_42 : decode mX12_feed.2.1 42 = .ok (.iload 5, 2) := by decide +kernel
theorem dX12_feed_44 : decode mX12_feed.2.1 44 = .ok (.invokevirtual 14, 3) := by decide +kernel
theorem dX12_feed_47 : decode mX12_feed.2.1 47 = .ok (.aload_n 0, 1) := by decide +kernel
theorem dX12_feed_48 : decode mX12_feed.2.1 48 = .ok (.getfield 11, 3) := by decide +kernel
theorem dX12_feed_51 : decode mX12_feed.2.1 51 = .ok (.ireturn, 1) := by decide +kernel
set_option maxRecDepth 4000 in
theorem ev_X12_feed {m : Mem} {a : Int} {b : Int} {c : Int} {e : Int} {f : Int} (ha_ : InR a) (hb_ : InR b) (hc_ : InR c) (he_ : InR e) (hf_ : InR f) (hn : 0 ≤ m 214 2 ∧ m 214 2 ≤ 940) : Ev 0 2 mX12_feed [vr 214, vi a, vi b, vi c, vi e, vi f] m (fun r m' => (m 214 2 + 20 ≤ 940 ∧ r = m 214 2 + 20 ∧ m' = (comC (comC (comC (comC (comC (wr m 214 0 0) a) b) c) e) f)) ∨ (¬ m 214 2 + 20 ≤ 940 ∧ r = -1 ∧ m' = wr m 214 0 0)) := by
  refine Ev.of (L := [vr 214, vi a, vi b, vi c, vi e, vi f]) (by decide +kernel) rfl (Nat.le_of_ble_eq_true rfl) rfl (fun t ht => by cases ht; first | exact Or.inl rfl | exact Or.inr (Or.inl rfl) | exact Or.inr (Or.inr rfl)) (fun hcan => ?_)
  have k2 : ∀ (M : Mem) (x : Int), comC M x 214 2 = M 214 2 + 4 := fun M x => by unfold comC; rw [if_pos ⟨rfl, rfl⟩]
  have k0 : wr m 214 0 0 214 2 = m 214 2 := wr_ni (by decide)
  refine go_aload_n dX12_feed_0 rfl ?_
  refine go_iconst dX12_feed_1 ?_
  refine go_putf_i (ki := 0) dX12_feed_2 fw_12_1 ob_214 rfl rfl ⟨by omega, by omega⟩ ?_
  refine go_aload_n dX12_feed_5 rfl ?_
  refine go_getf_i (ki := 2) dX12_feed_6 fl_12_11 ob_214 rfl rfl (fun hf_6 => ?_)
  rw [show ((wr m 214 0 0) 214 2 : Int) = (m 214 2) from by rw [wr_ni (by decide)]] at hf_6 ⊢
  refine go_bipush dX12_feed_9 (by decide) ?_
  refine go_iadd dX12_feed_11 ?_
  refine go_sipush dX12_feed_12 (by decide) ?_
  refine go_icmp_le (tgt := 20) dX12_feed_15 (by decide) ⟨by omega, by omega⟩ ⟨by omega, by omega⟩ (fun h_15 => ?_) (fun h_15 => ?_)
  · refine go_aload_n dX12_feed_20 rfl ?_
    refine go_iload_n dX12_feed_21 rfl ?_
    refine go_callV_v (as := [vi a]) (S := []) (b := 214) (ev_X12_come (m := (wr m 214 0 0)) (x := a) (by first | assumption | omega | exact ⟨by omega, by omega⟩ | (constructor <;> omega)) (by rw [k0]; omega)) rfl dX12_feed_22 cv_12_14 rfl rfl ob_214 rfl (by decide) (Nat.le_of_ble_eq_true rfl) (fun m_22 hr_22 => ?_)
    subst hr_22
    refine go_aload_n dX12_feed_25 rfl ?_
    refine go_iload_n dX12_feed_26 rfl ?_
    refine go_callV_v (as := [vi b]) (S := []) (b := 214) (ev_X12_come (m := (comC (wr m 214 0 0) a)) (x := b) (by first | assumption | omega | exact ⟨by omega, by omega⟩ | (constructor <;> omega)) (by rw [k2, k0]; omega)) rfl dX12_feed_27 cv_12_14 rfl rfl ob_214 rfl (by decide) (Nat.le_of_ble_eq_true rfl) (fun m_27 hr_27 => ?_)
    subst hr_27
    refine go_aload_n dX12_feed_30 rfl ?_
    refine go_iload_n dX12_feed_31 rfl ?_
    refine go_callV_v (as := [vi c]) (S := []) (b := 214) (ev_X12_come (m := (comC (comC (wr m 214 0 0) a) b)) (x := c) (by first | assumption | omega | exact ⟨by omega, by omega⟩ | (constructor <;> omega)) (by rw [k2, k2, k0]; omega)) rfl dX12_feed_32 cv_12_14 rfl rfl ob_214 rfl (by decide) (Nat.le_of_ble_eq_true rfl) (fun m_32 hr_32 => ?_)
    subst hr_32
    refine go_aload_n dX12_feed_35 rfl ?_
    refine go_iload dX12_feed_36 rfl ?_
    refine go_callV_v (as := [vi e]) (S := []) (b := 214) (ev_X12_come (m := (comC (comC (comC (wr m 214 0 0) a) b) c)) (x := e) (by first | assumption | omega | exact ⟨by omega, by omega⟩ | (constructor <;> omega)) (by rw [k2, k2, k2, k0]; omega)) rfl dX12_feed_38 cv_12_14 rfl rfl ob_214 rfl (by decide) (Nat.le_of_ble_eq_true rfl) (fun m_38 hr_38 => ?_)
    subst hr_38
    refine go_aload_n dX12_feed_41 rfl ?_
    refine go_iload dX12_feed_42 rfl ?_
    refine go_callV_v (as := [vi f]) (S := []) (b := 214) (ev_X12_come (m := (comC (comC (comC (comC (wr m 214 0 0) a) b) c) e)) (x := f) (by first | assumption | omega | exact ⟨by omega, by omega⟩ | (constructor <;> omega)) (by rw [k2, k2, k2, k2, k0]; omega)) rfl dX12_feed_44 cv_12_14 rfl rfl ob_214 rfl (by decide) (Nat.le_of_ble_eq_true rfl) (fun m_44 hr_44 => ?_)
    subst hr_44
    refine go_aload_n dX12_feed_47 rfl ?_
    refine go_getf_i (ki := 2) dX12_feed_48 fl_12_11 ob_214 rfl rfl (fun hf_48 => ?_)
    rw [show ((comC (comC (comC (comC (comC (wr m 214 0 0) a) b) c) e) f) 214 2 : Int) = (m 214 2 + 20) from by rw [k2, k2, k2, k2, k2, k0]; omega] at hf_48 ⊢
    exact go_ret (v := (m 214 2 + 20)) rfl dX12_feed_51 (okI ⟨by omega, by omega⟩) (Or.inl ⟨by omega, rfl, rfl⟩)
  · refine go_iconst dX12_feed_18 ?_
    exact go_ret (v := (-1)) rfl dX12_feed_19 (okI ⟨by omega, by omega⟩) (Or.inr ⟨by omega, rfl, rfl⟩)
theorem dX12_image_0 : decode mX12_image.2.1 0 = .ok (.aload_n 0, 1) := by decide +kernel
theorem dX12_image_1 : decode mX12_image.2.1 1 = .ok (.iconst 0, 1) := by decide +kernel
theorem dX12_image_2 : decode mX12_image.2.1 2 = .ok (.putfield 1, 3) := by decide +kernel
theorem dX12_image_5 : decode mX12_image.2.1 5 = .ok (.iload_n 1, 1) := by decide +kernel
theorem dX12_image_6 : decode mX12_image.2.1 6 = .ok (.iconst 0, 1) := by decide +kernel
theorem dX12_image_7 : decode mX12_image.2.1 7 = .ok (.iconst 1, 1) := by decide +kernel
theorem dX12_image_8 : decode mX12_image.2.1 8 = .ok (.invokestatic 75, 3) := by decide +kernel
theorem dX12_image_11 : decode mX12_image.2.1 11 = .ok (.ifCond .ne 5, 3) := by decide +kernel
theorem dX12_image_14 : decode mX12_image.2.1 14 = .ok (.iconst 0, 1) := by decide +kernel
theorem dX12_image_15 : decode mX12_image.2.1 15 = .ok (.ireturn, 1) := by decide +kernel
theorem dX12_image_16 : decode mX12_image.2.1 16 = .ok (.iconst 0, 1) := by decide +kernel
theorem dX12_image_17 : decode mX12_image.2.1 17 = .ok (.istore_n 2, 1) := by decide +kernel
theorem dX12_image_18 : decode mX12_image.2.1 18 = .ok (.iload_n 2, 1) := by decide +kernel
theorem dX12_image_19 : decode mX12_image.2.1 19 = .ok (.sipush 474, 3) := by decide +kernel
theorem dX12_image_22 : decode mX12_image.2.1 22 = .ok (.if_icmp .ge 27, 3) := by decide +kernel
theorem dX12_image_25 : decode mX12_image.2.1 25 = .ok (.aload_n 0, 1) := by decide +kernel
theorem dX12_image_26 : decode mX12_image.2.1 26 = .ok (.getfield 104, 3) := by decide +kernel
theorem dX12_image_29 : decode mX12_image.2.1 29 = .ok (.sipush 474, 3) := by decide +kernel
theorem dX12_image_32 : decode mX12_image.2.1 32 = .ok (.iload_n 1, 1) := by decide +kernel
theorem dX12_image_33 : decode mX12_image.2.1 33 = .ok (.imul, 1) := by decide +kernel
theorem dX12_image_34 : decode mX12_image.2.1 34 = .ok (.iload_n 2, 1) := by decide +kernel
theorem dX12_image_35 : decode mX12_image.2.1 35 = .ok (.iadd, 1) := by decide +kernel
theorem dX12_image_36 : decode mX12_image.2.1 36 = .ok (.aload_n 0, 1) := by decide +kernel
theorem dX12_image_37 : decode mX12_image.2.1 37 = .ok (.getfield 98, 3) := by decide +kernel
theorem dX12_image_40 : decode mX12_image.2.1 40 = .ok (.iload_n 2, 1) := by decide +kernel
theorem dX12_image_41 : decode mX12_image.2.1 41 = .ok (.iaload, 1) := by decide +kernel
theorem dX12_image_42 : decode mX12_image.2.1 42 = .ok (.iastore, 1) := by decide +kernel
theorem dX12_image_43 : decode mX12_image.2.1 43 = .ok (.iinc 2 1, 3) := by decide +kernel
theorem dX12_image_46 : decode mX12_image.2.1 46 = .ok (.goto (-28), 3) := by decide +kernel
theorem dX12_image_49 : decode mX12_image.2.1 49 = .ok (.iconst 0, 1) := by decide +kernel
theorem dX12_image_50 : decode mX12_image.2.1 50 = .ok (.istore_n 2, 1) := by decide +kernel
theorem dX12_image_51 : decode mX12_image.2.1 51 = .ok (.iload_n 2, 1) := by decide +kernel
theorem dX12_image_52 : decode mX12_image.2.1 52 = .ok (.bipush 16, 2) := by decide +kernel
theorem dX12_image_54 : decode mX12_image.2.1 54 = .ok (.if_icmp .ge 26, 3) := by decide +kernel
theorem dX12_image_57 : decode mX12_image.2.1 57 = .ok (.aload_n 0, 1) := by decide +kernel
theorem dX12_image_58 : decode mX12_image.2.1 58 = .ok (.getfield 120, 3) := by decide +kernel
theorem dX12_image_61 : decode mX12_image.2.1 61 = .ok (.bipush 16, 2) := by decide +kernel
theorem dX12_image_63 : decode mX12_image.2.1 63 = .ok (.iload_n 1, 1) := by decide +kernel
theorem dX12_image_64 : decode mX12_image.2.1 64 = .ok (.imul, 1) := by decide +kernel
theorem dX12_image_65 : decode mX12_image.2.1 65 = .ok (.iload_n 2, 1) := by decide +kernel
theorem dX12_image_66 : decode mX12_image.2.1 66 = .ok (.iadd, 1) := by decide +kernel
theorem dX12_image_67 : decode mX12_image.2.1 67 = .ok (.aload_n 0, 1) := by decide +kernel
theorem dX12_image_68 : decode mX12_image.2.1 68 = .ok (.getfield 113, 3) := by decide +kernel
theorem dX12_image_71 : decode mX12_image.2.1 71 = .ok (.iload_n 2, 1) := by decide +kernel
theorem dX12_image_72 : decode mX12_image.2.1 72 = .ok (.laload, 1) := by decide +kernel
theorem dX12_image_73 : decode mX12_image.2.1 73 = .ok (.lastore, 1) := by decide +kernel
theorem dX12_image_74 : decode mX12_image.2.1 74 = .ok (.iinc 2 1, 3) := by decide +kernel
theorem dX12_image_77 : decode mX12_image.2.1 77 = .ok (.goto (-26), 3) := by decide +kernel
theorem dX12_image_80 : decode mX12_image.2.1 80 = .ok (.aload_n 0, 1) := by decide +kernel
theorem dX12_image_81 : decode mX12_image.2.1 81 = .ok (.getfield 123, 3) := by decide +kernel
theorem dX12_image_84 : decode mX12_image.2.1 84 = .ok (.iload_n 1, 1) := by decide +kernel
theorem dX12_image_85 : decode mX12_image.2.1 85 = .ok (.iconst 1, 1) := by decide +kernel
theorem dX12_image_86 : decode mX12_image.2.1 86 = .ok (.bastore, 1) := by decide +kernel
theorem dX12_image_87 : decode mX12_image.2.1 87 = .ok (.iconst 1, 1) := by decide +kernel
theorem dX12_image_88 : decode mX12_image.2.1 88 = .ok (.ireturn, 1) := by decide +kernel
set_option maxRecDepth 4000 in
theorem ev_X12_image {m : Mem} {k : Int} (hk : InR k) : Ev 0 2 mX12_image [vr 214, vi k] m (fun r m' => ((0 ≤ k ∧ k < 2) ∧ r = 1 ∧ m' = imgC m k) ∨ (¬ (0 ≤ k ∧ k < 2) ∧ r = 0 ∧ m' = wr m 214 0 0)) := by
  refine Ev.of (L := [vr 214, vi k, un]) (by decide +kernel) rfl (Nat.le_of_ble_eq_true rfl) rfl (fun t ht => by cases ht; first | exact Or.inl rfl | exact Or.inr (Or.inl rfl) | exact Or.inr (Or.inr rfl)) (fun hcan => ?_)
  refine go_aload_n dX12_image_0 rfl ?_
  refine go_iconst dX12_image_1 ?_
  refine go_putf_i (ki := 0) dX12_image_2 fw_12_1 ob_214 rfl rfl ⟨by omega, by omega⟩ ?_
  refine go_iload_n dX12_image_5 rfl ?_
  refine go_iconst dX12_image_6 ?_
  refine go_iconst dX12_image_7 ?_
  refine go_callSp_z (as := [vi k, vi 0, vi 1]) (S := []) (ev_X12_isIn (m := (wr m 214 0 0)) (n := k) (lo := 0) (hi := 1) (by first | assumption | omega | exact ⟨by omega, by omega⟩ | (constructor <;> omega)) (by first | assumption | omega | exact ⟨by omega, by omega⟩ | (constructor <;> omega)) (by first | assumption | omega | exact ⟨by omega, by omega⟩ | (constructor <;> omega))) rfl dX12_image_8 cs_12_75 rfl rfl (by decide) (Nat.le_of_ble_eq_true rfl) (fun r_8 hr_8 ho_8 => ?_)
  refine go_if_ne (tgt := 16) dX12_image_11 (by decide) ⟨by omega, by omega⟩ (fun h_11 => ?_) (fun h_11 => ?_)
  · refine go_iconst dX12_image_16 ?_
    refine go_istore_n (L' := [vr 214, vi k, vi 0]) dX12_image_17 (by decide) rfl rfl ?_
    have lp_18 : ∀ (n_18 : Nat) (m1 : Mem) (i : Int) , (0 ≤ i) → (i ≤ 474) → (m1 = mov (wr m 214 0 0) 216 218 0 (474 * k) i) → (474 - i).toNat < n_18 → Go 0 2 mX12_image (fun r m' => ((0 ≤ k ∧ k < 2) ∧ r = 1 ∧ m' = imgC m k) ∨ (¬ (0 ≤ k ∧ k < 2) ∧ r = 0 ∧ m' = wr m 214 0 0)) 18 [vr 214, vi k, vi i] [] m1 := by
      intro n_18
      induction n_18 with
      | zero => intro m1 i hi0 hi1 hm hmu; exact absurd hmu (Nat.not_lt_zero _)
      | succ n_18 ih_18 =>
        intro m1 i hi0 hi1 hm hmu
        have e1 : m1 216 i = (wr m 214 0 0) 216 i := by rw [hm, mov_row (by decide)]
        refine go_iload_n dX12_image_18 rfl ?_
        refine go_sipush dX12_image_19 (by decide) ?_
        refine go_icmp_ge (tgt := 49) dX12_image_22 (by decide) ⟨by omega, by omega⟩ ⟨by omega, by omega⟩ (fun h_22 => ?_) (fun h_22 => ?_)
        · refine go_iconst dX12_image_49 ?_
          refine go_istore_n (L' := [vr 214, vi k, vi 0]) dX12_image_50 (by decide) rfl rfl ?_
          have lp_51 : ∀ (n_51 : Nat) (m2 : Mem) (i : Int) , (0 ≤ i) → (i ≤ 16) → (m2 = mov (mov (wr m 214 0 0) 216 218 0 (474 * k) 474) 221 223 0 (16 * k) i) → (16 - i).toNat < n_51 → Go 0 2 mX12_image (fun r m' => ((0 ≤ k ∧ k < 2) ∧ r = 1 ∧ m' = imgC m k) ∨ (¬ (0 ≤ k ∧ k < 2) ∧ r = 0 ∧ m' = wr m 214 0 0)) 51 [vr 214, vi k, vi i] [] m2 := by
            intro n_51
            induction n_51 with
            | zero => intro m2 i hi0 hi1 hm hmu; exact absurd hmu (Nat.not_lt_zero _)
            | succ n_51 ih_51 =>
              intro m2 i hi0 hi1 hm hmu
              have e1 : m2 221 i = (mov (wr m 214 0 0) 216 218 0 (474 * k) 474) 221 i := by rw [hm, mov_row (by decide)]
              refine go_iload_n dX12_image_51 rfl ?_
              refine go_bipush dX12_image_52 (by decide) ?_
              refine go_icmp_ge (tgt := 80) dX12_image_54 (by decide) ⟨by omega, by omega⟩ ⟨by omega, by omega⟩ (fun h_54 => ?_) (fun h_54 => ?_)
              · refine go_aload_n dX12_image_80 rfl ?_
                refine go_getf_p (b := 224) dX12_image_81 fl_12_123 ob_214 rfl pt_214_22 ?_
                refine go_iload_n dX12_image_84 rfl ?_
                refine go_iconst dX12_image_85 ?_
                refine go_zastore dX12_image_86 ar_224 (by omega) (by omega) (by first | exact Or.inl rfl | exact Or.inr rfl | assumption | omega) ?_
                refine go_iconst dX12_image_87 ?_
                exact go_ret (v := 1) rfl dX12_image_88 (okZ (by first | exact Or.inl rfl | exact Or.inr rfl | assumption | omega)) (Or.inl ⟨by omega, rfl, by rw [hm, show i = 16 by omega]; rfl⟩)
              · refine go_aload_n dX12_image_57 rfl ?_
                refine go_getf_p (b := 223) dX12_image_58 fl_12_120 ob_214 rfl pt_214_21 ?_
                refine go_bipush dX12_image_61 (by decide) ?_
                refine go_iload_n dX12_image_63 rfl ?_
                refine go_imul dX12_image_64 ?_
                refine go_iload_n dX12_image_65 rfl ?_
                refine go_iadd dX12_image_66 ?_
                refine go_aload_n dX12_image_67 rfl ?_
                refine go_getf_p (b := 221) dX12_image_68 fl_12_113 ob_214 rfl pt_214_19 ?_
                refine go_iload_n dX12_image_71 rfl ?_
                refine go_laload dX12_image_72 ar_221 (by omega) (by omega) (fun he_72 => ?_)
                rw [show (m2 221 i : Int) = ((mov (wr m 214 0 0) 216 218 0 (474 * k) 474) 221 i) from e1] at he_72 ⊢
                refine go_lastore dX12_image_73 ar_223 (by omega) (by omega) ⟨by omega, by omega⟩ ?_
                refine go_iinc (L' := [vr 214, vi k, vi (i + 1)]) dX12_image_74 rfl (by decide) rfl rfl ?_
                refine go_goto (tgt := 51) dX12_image_77 (by decide) ?_
                exact ih_51 (wr m2 223 ((16 * k) + i) ((mov (wr m 214 0 0) 216 218 0 (474 * k) 474) 221 i)) (i + 1) (by first | assumption | omega | rfl) (by first | assumption | omega | rfl) (by have h := mov_s (m := (mov (wr m 214 0 0) 216 218 0 (474 * k) 474)) (a := 221) (b := 223) (o := 0) (p := 16 * k) hi0; rw [Int.zero_add] at h; rw [hm]; exact h) (by omega)
          exact lp_51 _ m1 0 (by first | assumption | omega | rfl) (by first | assumption | omega | rfl) (by rw [hm, show i = 474 by omega]; exact (mov_0 _ _ _ _ _).symm) (Nat.lt_succ_self _)
        · refine go_aload_n dX12_image_25 rfl ?_
          refine go_getf_p (b := 218) dX12_image_26 fl_12_104 ob_214 rfl pt_214_16 ?_
          refine go_sipush dX12_image_29 (by decide) ?_
          refine go_iload_n dX12_image_32 rfl ?_
          refine go_imul dX12_image_33 ?_
          refine go_iload_n dX12_image_34 rfl ?_
          refine go_iadd dX12_image_35 ?_
          refine go_aload_n dX12_image_36 rfl ?_
          refine go_getf_p (b := 216) dX12_image_37 fl_12_98 ob_214 rfl pt_214_14 ?_
          refine go_iload_n dX12_image_40 rfl ?_
          refine go_iaload dX12_image_41 ar_216 (by omega) (by omega) (fun he_41 => ?_)
          rw [show (m1 216 i : Int) = ((wr m 214 0 0) 216 i) from e1] at he_41 ⊢
          refine go_iastore dX12_image_42 ar_218 (by omega) (by omega) ⟨by omega, by omega⟩ ?_
          refine go_iinc (L' := [vr 214, vi k, vi (i + 1)]) dX12_image_43 rfl (by decide) rfl rfl ?_
          refine go_goto (tgt := 18) dX12_image_46 (by decide) ?_
          exact ih_18 (wr m1 218 ((474 * k) + i) ((wr m 214 0 0) 216 i)) (i + 1) (by first | assumption | omega | rfl) (by first | assumption | omega | rfl) (by have h := mov_s (m := (wr m 214 0 0)) (a := 216) (b := 218) (o := 0) (p := 474 * k) hi0; rw [Int.zero_add] at h; rw [hm]; exact h) (by omega)
    exact lp_18 _ (wr m 214 0 0) 0 (by first | assumption | omega | rfl) (by first | assumption | omega | rfl) (mov_0 _ _ _ _ _).symm (Nat.lt_succ_self _)
  · refine go_iconst dX12_image_14 ?_
    exact go_ret (v := 0) rfl dX12_image_15 (okZ (by first | exact Or.inl rfl | exact Or.inr rfl | assumption | omega)) (Or.inr ⟨by omega, rfl, rfl⟩)
theorem dX12_restore_0 : decode mX12_restore.2.1 0 = .ok (.aload_n 0, 1) := by decide +kernel
theorem dX12_restore_1 : decode mX12_restore.2.1 1 = .ok (.iconst 0, 1) := by decide +kernel
theorem dX12_restore_2 : decode mX12_restore.2.1 2 = .ok (.putfield 1, 3) := by decide +kernel
theorem dX12_restore_5 : decode mX12_restore.2.1 5 = .ok (.iload_n 1, 1) := by decide +kernel
theorem dX12_restore_6 : decode mX12_restore.2.1 6 = .ok (.iconst 0, 1) := by decide +kernel
theorem dX12_restore_7 : decode mX12_restore.2.1 7 = .ok (.iconst 1, 1) := by decide +kernel
theorem dX12_restore_8 : decode mX12_restore.2.1 8 = .ok (.invokestatic 75, 3) := by decide +kernel
theorem dX12_restore_11 : decode mX12_restore.2.1 11 = .ok (.ifCond .eq 12, 3) := by decide +kernel
theorem dX12_restore_14 : decode mX12_restore.2.1 14 = .ok (.aload_n 0, 1) := by decide +kernel
theorem dX12_restore_15 : decode mX12_restore.2.1 15 = .ok (.getfield 123, 3) := by decide +kernel
theorem dX12_restore_18 : decode mX12_restore.2.1 18 = .ok (.iload_n 1, 1) := by decide +kernel
theorem dX12_restore_19 : decode mX12_restore.2.1 19 = .ok (.baload, 1) := by decide +kernel
theorem dX12_restore_20 : decode mX12_restore.2.1 20 = .ok (.ifCond .ne 5, 3) := by decide +kernel
theorem dX12_restore_23 : decode mX12_restore.2.1 23 = .ok (.iconst 0, 1) := by decide +kernel
theorem dX12_restore_24 : decode mX12_restore.2.1 24 = .ok (.ireturn, 1) := by decide +kernel
theorem dX12_restore_25 : decode mX12_restore.2.1 25 = .ok (.iconst 0, 1) := by decide +kernel
theorem dX12_restore_26 : decode mX12_restore.2.1 26 = .ok (.istore_n 2, 1) := by decide +kernel
theorem dX12_restore_27 : decode mX12_restore.2.1 27 = .ok (.iload_n 2, 1) := by decide +kernel
theorem dX12_restore_28 : decode mX12_restore.2.1 28 = .ok (.sipush 474, 3) := by decide +kernel
theorem dX12_restore_31 : decode mX12_restore.2.1 31 = .ok (.if_icmp .ge 27, 3) := by decide +kernel
theorem dX12_restore_34 : decode mX12_restore.2.1 34 = .ok (.aload_n 0, 1) := by decide +kernel
theorem dX12_restore_35 : decode mX12_restore.2.1 35 = .ok (.getfield 98, 3) := by decide +kernel
theorem dX12_restore_38 : decode mX12_restore.2.1 38 = .ok (.iload_n 2, 1) := by decide +kernel
theorem dX12_restore_39 : decode mX12_restore.2.1 39 = .ok (.aload_n 0, 1) := by decide +kernel
theorem dX12_restore_40 : decode mX12_restore.2.1 40 = .ok (.getfield 104, 3) := by decide +kernel
theorem dX12_restore_43 : decode mX12_restore.2.1 43 = .ok (.sipush 474, 3) := by decide +kernel
theorem dX12_restore_46 : decode mX12_restore.2.1 46 = .ok (.iload_n 1, 1) := by decide +kernel
theorem dX12_restore_47 : decode mX12_restore.2.1 47 = .ok (.imul, 1) := by decide +kernel
theorem dX12_restore_48 : decode mX12_restore.2.1 48 = .ok (.iload_n 2, 1) := by decide +kernel
theorem dX12_restore_49 : decode mX12_restore.2.1 49 = .ok (.iadd, 1) := by decide +kernel
theorem dX12_restore_50 : decode mX12_restore.2.1 50 = .ok (.iaload, 1) := by decide +kernel
theorem dX12_restore_51 : decode mX12_restore.2.1 51 = .ok (.iastore, 1) := by decide +kernel
theorem dX12_restore_52 : decode mX12_restore.2.1 52 = .ok (.iinc 2 1, 3) := by decide +kernel
theorem dX12_restore_55 : decode mX12_restore.2.1 55 = .ok (.goto (-28), 3) := by decide +kernel
theorem dX12_restore_58 : decode mX12_restore.2.1 58 = .ok (.iconst 0, 1) := by decide +kernel
theorem dX12_restore_59 : decode mX12_restore.2.1 59 = .ok (.istore_n 2, 1) := by decide +kernel
theorem dX12_restore_60 : decode mX12_restore.2.1 60 = .ok (.iload_n 2, 1) := by decide +kernel
theorem dX12_restore_61 : decode mX12_restore.2.1 61 = .ok (.bipush 16, 2) := by decide +kernel
theorem dX12_restore_63 : decode mX12_restore.2.1 63 = .ok (.if_icmp .ge 26, 3) := by decide +kernel
theorem dX12_restore_66 : decode mX12_restore.2.1 66 = .ok (.aload_n 0, 1) := by decide +kernel
theorem dX12_restore_67 : decode mX12_restore.2.1 67 = .ok (.getfield 113, 3) := by decide +kernel
theorem dX12_restore_70 : decode mX12_restore.2.1 70 = .ok (.iload_n 2, 1) := by decide +kernel
theorem dX12_restore_71 : decode mX12_restore.2.1 71 = .ok (.aload_n 0, 1) := by decide +kernel
theorem dX12_restore_72 : decode mX12_restore.2.1 72 = .ok (.getfield 120, 3) := by decide +kernel
theorem dX12_restore_75 : decode mX12_restore.2.1 75 = .ok (.bipush 16, 2) := by decide +kernel
theorem dX12_restore_77 : decode mX12_restore.2.1 77 = .ok (.iload_n 1, 1) := by decide +kernel
theorem dX12_restore_78 : decode mX12_restore.2.1 78 = .ok (.imul, 1) := by decide +kernel
theorem dX12_restore_79 : decode mX12_restore.2.1 79 = .ok (.iload_n 2, 1) := by decide +kernel
theorem dX12_restore_80 : decode mX12_restore.2.1 80 = .ok (.iadd, 1) := by decide +kernel
theorem dX12_restore_81 : decode mX12_restore.2.1 81 = .ok (.laload, 1) := by decide +kernel
theorem dX12_restore_82 : decode mX12_restore.2.1 82 = .ok (.lastore, 1) := by decide +kernel
theorem dX12_restore_83 : decode mX12_restore.2.1 83 = .ok (.iinc 2 1, 3) := by decide +kernel
theorem dX12_restore_86 : decode mX12_restore.2.1 86 = .ok (.goto (-26), 3) := by decide +kernel
theorem dX12_restore_89 : decode mX12_restore.2.1 89 = .ok (.aload_n 0, 1) := by decide +kernel
theorem dX12_restore_90 : decode mX12_restore.2.1 90 = .ok (.iconst 0, 1) := by decide +kernel
theorem dX12_restore_91 : decode mX12_restore.2.1 91 = .ok (.putfield 229, 3) := by decide +kernel
theorem dX12_restore_94 : decode mX12_restore.2.1 94 = .ok (.iconst 1, 1) := by decide +kernel
theorem dX12_restore_95 : decode mX12_restore.2.1 95 = .ok (.ireturn, 1) := by decide +kernel
set_option maxRecDepth 4000 in
theorem ev_X12_restore {m : Mem} {k : Int} (hk : InR k) : Ev 0 2 mX12_restore [vr 214, vi k] m (fun r m' => ((0 ≤ k ∧ k < 2 ∧ m 224 k = 1) ∧ r = 1 ∧ m' = resC m k) ∨ (¬ (0 ≤ k ∧ k < 2 ∧ m 224 k = 1) ∧ r = 0 ∧ m' = wr m 214 0 0)) := by
  refine Ev.of (L := [vr 214, vi k, un]) (by decide +kernel) rfl (Nat.le_of_ble_eq_true rfl) rfl (fun t ht => by cases ht; first | exact Or.inl rfl | exact Or.inr (Or.inl rfl) | exact Or.inr (Or.inr rfl)) (fun hcan => ?_)
  refine go_aload_n dX12_restore_0 rfl ?_
  refine go_iconst dX12_restore_1 ?_
  refine go_putf_i (ki := 0) dX12_restore_2 fw_12_1 ob_214 rfl rfl ⟨by omega, by omega⟩ ?_
  refine go_iload_n dX12_restore_5 rfl ?_
  refine go_iconst dX12_restore_6 ?_
  refine go_iconst dX12_restore_7 ?_
  refine go_callSp_z (as := [vi k, vi 0, vi 1]) (S := []) (ev_X12_isIn (m := (wr m 214 0 0)) (n := k) (lo := 0) (hi := 1) (by first | assumption | omega | exact ⟨by omega, by omega⟩ | (constructor <;> omega)) (by first | assumption | omega | exact ⟨by omega, by omega⟩ | (constructor <;> omega)) (by first | assumption | omega | exact ⟨by omega, by omega⟩ | (constructor <;> omega))) rfl dX12_restore_8 cs_12_75 rfl rfl (by decide) (Nat.le_of_ble_eq_true rfl) (fun r_8 hr_8 ho_8 => ?_)
  refine go_if_eq (tgt := 23) dX12_restore_11 (by decide) ⟨by omega, by omega⟩ (fun h_11 => ?_) (fun h_11 => ?_)
  · refine go_iconst dX12_restore_23 ?_
    exact go_ret (v := 0) rfl dX12_restore_24 (okZ (by first | exact Or.inl rfl | exact Or.inr rfl | assumption | omega)) (Or.inr ⟨by omega, rfl, rfl⟩)
  · refine go_aload_n dX12_restore_14 rfl ?_
    refine go_getf_p (b := 224) dX12_restore_15 fl_12_123 ob_214 rfl pt_214_22 ?_
    refine go_iload_n dX12_restore_18 rfl ?_
    refine go_zaload dX12_restore_19 ar_224 (by omega) (by omega) (fun he_19 => ?_)
    rw [show ((wr m 214 0 0) 224 k : Int) = (m 224 k) from by rw [wr_na (by omega)]] at he_19 ⊢
    refine go_if_ne (tgt := 25) dX12_restore_20 (by decide) ⟨by omega, by omega⟩ (fun h_20 => ?_) (fun h_20 => ?_)
    · refine go_iconst dX12_restore_25 ?_
      refine go_istore_n (L' := [vr 214, vi k, vi 0]) dX12_restore_26 (by decide) rfl rfl ?_
      have lp_27 : ∀ (n_27 : Nat) (m1 : Mem) (i : Int) , (0 ≤ i) → (i ≤ 474) → (m1 = mov (wr m 214 0 0) 218 216 (474 * k) 0 i) → (474 - i).toNat < n_27 → Go 0 2 mX12_restore (fun r m' => ((0 ≤ k ∧ k < 2 ∧ m 224 k = 1) ∧ r = 1 ∧ m' = resC m k) ∨ (¬ (0 ≤ k ∧ k < 2 ∧ m 224 k = 1) ∧ r = 0 ∧ m' = wr m 214 0 0)) 27 [vr 214, vi k, vi i] [] m1 := by
        intro n_27
        induction n_27 with
        | zero => intro m1 i hi0 hi1 hm hmu; exact absurd hmu (Nat.not_lt_zero _)
        | succ n_27 ih_27 =>
          intro m1 i hi0 hi1 hm hmu
          have e1 : m1 218 (474 * k + i) = (wr m 214 0 0) 218 (474 * k + i) := by rw [hm, mov_row (by decide)]
          refine go_iload_n dX12_restore_27 rfl ?_
          refine go_sipush dX12_restore_28 (by decide) ?_
          refine go_icmp_ge (tgt := 58) dX12_restore_31 (by decide) ⟨by omega, by omega⟩ ⟨by omega, by omega⟩ (fun h_31 => ?_) (fun h_31 => ?_)
          · refine go_iconst dX12_restore_58 ?_
            refine go_istore_n (L' := [vr 214, vi k, vi 0]) dX12_restore_59 (by decide) rfl rfl ?_
            have lp_60 : ∀ (n_60 : Nat) (m2 : Mem) (i : Int) , (0 ≤ i) → (i ≤ 16) → (m2 = mov (mov (wr m 214 0 0) 218 216 (474 * k) 0 474) 223 221 (16 * k) 0 i) → (16 - i).toNat < n_60 → Go 0 2 mX12_restore (fun r m' => ((0 ≤ k ∧ k < 2 ∧ m 224 k = 1) ∧ r = 1 ∧ m' = resC m k) ∨ (¬ (0 ≤ k ∧ k < 2 ∧ m 224 k = 1) ∧ r = 0 ∧ m' = wr m 214 0 0)) 60 [vr 214, vi k, vi i] [] m2 := by
              intro n_60
              induction n_60 with
              | zero => intro m2 i hi0 hi1 hm hmu; exact absurd hmu (Nat.not_lt_zero _)
              | succ n_60 ih_60 =>
                intro m2 i hi0 hi1 hm hmu
                have e1 : m2 223 (16 * k + i) = (mov (wr m 214 0 0) 218 216 (474 * k) 0 474) 223 (16 * k + i) := by rw [hm, mov_row (by decide)]
                refine go_iload_n dX12_restore_60 rfl ?_
                refine go_bipush dX12_restore_61 (by decide) ?_
                refine go_icmp_ge (tgt := 89) dX12_restore_63 (by decide) ⟨by omega, by omega⟩ ⟨by omega, by omega⟩ (fun h_63 => ?_) (fun h_63 => ?_)
                · refine go_aload_n dX12_restore_89 rfl ?_
                  refine go_iconst dX12_restore_90 ?_
                  refine go_putf_i (ki := 25) dX12_restore_91 fw_12_229 ob_214 rfl rfl ⟨by omega, by omega⟩ ?_
                  refine go_iconst dX12_restore_94 ?_
                  exact go_ret (v := 1) rfl dX12_restore_95 (okZ (by first | exact Or.inl rfl | exact Or.inr rfl | assumption | omega)) (Or.inl ⟨by omega, rfl, by rw [hm, show i = 16 by omega]; rfl⟩)
                · refine go_aload_n dX12_restore_66 rfl ?_
                  refine go_getf_p (b := 221) dX12_restore_67 fl_12_113 ob_214 rfl pt_214_19 ?_
                  refine go_iload_n dX12_restore_70 rfl ?_
                  refine go_aload_n dX12_restore_71 rfl ?_
                  refine go_getf_p (b := 223) dX12_restore_72 fl_12_120 ob_214 rfl pt_214_21 ?_
                  refine go_bipush dX12_restore_75 (by decide) ?_
                  refine go_iload_n dX12_restore_77 rfl ?_
                  refine go_imul dX12_restore_78 ?_
                  refine go_iload_n dX12_restore_79 rfl ?_
                  refine go_iadd dX12_restore_80 ?_
                  refine go_laload dX12_restore_81 ar_223 (by omega) (by omega) (fun he_81 => ?_)
                  rw [show (m2 223 ((16 * k) + i) : Int) = ((mov (wr m 214 0 0) 218 216 (474 * k) 0 474) 223 (16 * k + i)) from e1] at he_81 ⊢
                  refine go_lastore dX12_restore_82 ar_221 (by omega) (by omega) ⟨by omega, by omega⟩ ?_
                  refine go_iinc (L' := [vr 214, vi k, vi (i + 1)]) dX12_restore_83 rfl (by decide) rfl rfl ?_
                  refine go_goto (tgt := 60) dX12_restore_86 (by decide) ?_
                  exact ih_60 (wr m2 221 i ((mov (wr m 214 0 0) 218 216 (474 * k) 0 474) 223 (16 * k + i))) (i + 1) (by first | assumption | omega | rfl) (by first | assumption | omega | rfl) (by have h := mov_s (m := (mov (wr m 214 0 0) 218 216 (474 * k) 0 474)) (a := 223) (b := 221) (o := 16 * k) (p := 0) hi0; rw [Int.zero_add] at h; rw [hm]; exact h) (by omega)
            exact lp_60 _ m1 0 (by first | assumption | omega | rfl) (by first | assumption | omega | rfl) (by rw [hm, show i = 474 by omega]; exact (mov_0 _ _ _ _ _).symm) (Nat.lt_succ_self _)
          · refine go_aload_n dX12_restore_34 rfl ?_
            refine go_getf_p (b := 216) dX12_restore_35 fl_12_98 ob_214 rfl pt_214_14 ?_
            refine go_iload_n dX12_restore_38 rfl ?_
            refine go_aload_n dX12_restore_39 rfl ?_
            refine go_getf_p (b := 218) dX12_restore_40 fl_12_104 ob_214 rfl pt_214_16 ?_
            refine go_sipush dX12_restore_43 (by decide) ?_
            refine go_iload_n dX12_restore_46 rfl ?_
            refine go_imul dX12_restore_47 ?_
            refine go_iload_n dX12_restore_48 rfl ?_
            refine go_iadd dX12_restore_49 ?_
            refine go_iaload dX12_restore_50 ar_218 (by omega) (by omega) (fun he_50 => ?_)
            rw [show (m1 218 ((474 * k) + i) : Int) = ((wr m 214 0 0) 218 (474 * k + i)) from e1] at he_50 ⊢
            refine go_iastore dX12_restore_51 ar_216 (by omega) (by omega) ⟨by omega, by omega⟩ ?_
            refine go_iinc (L' := [vr 214, vi k, vi (i + 1)]) dX12_restore_52 rfl (by decide) rfl rfl ?_
            refine go_goto (tgt := 27) dX12_restore_55 (by decide) ?_
            exact ih_27 (wr m1 216 i ((wr m 214 0 0) 218 (474 * k + i))) (i + 1) (by first | assumption | omega | rfl) (by first | assumption | omega | rfl) (by have h := mov_s (m := (wr m 214 0 0)) (a := 218) (b := 216) (o := 474 * k) (p := 0) hi0; rw [Int.zero_add] at h; rw [hm]; exact h) (by omega)
      exact lp_27 _ (wr m 214 0 0) 0 (by first | assumption | omega | rfl) (by first | assumption | omega | rfl) (mov_0 _ _ _ _ _).symm (Nat.lt_succ_self _)
    · refine go_iconst dX12_restore_23 ?_
      exact go_ret (v := 0) rfl dX12_restore_24 (okZ (by first | exact Or.inl rfl | exact Or.inr rfl | assumption | omega)) (Or.inr ⟨by omega, rfl, rfl⟩)
