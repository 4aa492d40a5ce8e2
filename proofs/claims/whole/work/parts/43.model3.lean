/-! ===== the reference's acts ===== -/
section
variable {G : Mem} {d st : Nat} {N : Int → Int} {f p q c : Int}
theorem BgD.n0 (h : BgD G d N) : N 0 = G d 0 := h.1.1
theorem BgD.n1 (h : BgD G d N) : N 1 = G d 1 := h.1.2.1
theorem BgD.n2 (h : BgD G d N) : N 2 = G d 2 := h.1.2.2.1
theorem BgD.n3 (h : BgD G d N) : N 3 = G d 3 := h.1.2.2.2.1
theorem BgD.n4 (h : BgD G d N) : N 4 = G d 4 := h.1.2.2.2.2
theorem BgD.qu (h : BgD G d N) (h0 : 0 ≤ f) (h1 : f < G d 2) : N (5 + f) = G (d + 2) f := (h.2.1 f h0 h1).1
theorem BgD.go (h : BgD G d N) (h0 : 0 ≤ f) (h1 : f < G d 2) : N (11 + f) = G (d + 3) f := (h.2.1 f h0 h1).2
theorem BgD.mo (h : BgD G d N) (h0 : 0 ≤ p) (h1 : p < G d 3) : N (27 + p) = G (d + 5) p := h.2.2.1 p h0 h1
theorem BgD.sp (h : BgD G d N) (h0 : 0 ≤ q) (h1 : q < G d 4) : N (32 + q) = 9 * G (d + 8) q + G (d + 7) q := (h.2.2.2 q h0 h1).1
theorem BgD.su (h : BgD G d N) (h0 : 0 ≤ q) (h1 : q < G d 4) : N (37 + q) = G (d + 9) q := (h.2.2.2 q h0 h1).2
end
theorem BgD.congr {G G' : Mem} {d : Nat} {N N' : Int → Int} (h : BgD G d N) (hdn : DnOk G d) (hG : ∀ k, k < 10 → G' (d + k) = G (d + k)) (hN : ∀ j : Int, j < 123 → N' j = N j) : BgD G' d N' := by
  have g0 : G' d = G d := hG 0 (by omega)
  have g2 := hG 2 (by omega)
  have g3 := hG 3 (by omega)
  have g5 := hG 5 (by omega)
  have g7 := hG 7 (by omega)
  have g8 := hG 8 (by omega)
  have g9 := hG 9 (by omega)
  obtain ⟨⟨a0, a1, a2, a3, a4⟩, hf, hp, hq⟩ := h
  obtain ⟨⟨hd0, hd1⟩, ⟨hd2, hd3⟩, ⟨hd4, hd5⟩, ⟨hd6, hd7⟩, ⟨hd8, hd9⟩, -, -, -⟩ := id hdn
  unfold BgD
  rw [g0, g2, g3, g5, g7, g8, g9]
  refine ⟨⟨by rw [hN _ (by omega)]; exact a0, by rw [hN _ (by omega)]; exact a1, by rw [hN _ (by omega)]; exact a2, by rw [hN _ (by omega)]; exact a3, by rw [hN _ (by omega)]; exact a4⟩, fun f h0 h1 => ?_, fun p h0 h1 => ?_, fun q h0 h1 => ?_⟩
  · rw [hN _ (by omega), hN _ (by omega)]; exact hf f h0 h1
  · rw [hN _ (by omega)]; exact hp p h0 h1
  · rw [hN _ (by omega), hN _ (by omega)]; exact hq q h0 h1
/-- nothing but what is so has changed -/
def So (m m' : Mem) : Prop := (∀ b : Nat, b ≠ 216 → m' b = m b) ∧ ∀ j : Int, (j < 123 ∨ 232 ≤ j) → m' 216 j = m 216 j
theorem So.rf {m : Mem} : So m m := ⟨fun _ _ => rfl, fun _ _ => rfl⟩
theorem So.tr {m n o : Mem} (h : So m n) (h' : So n o) : So m o := ⟨fun b hb => (h'.1 b hb).trans (h.1 b hb), fun j hj => (h'.2 j hj).trans (h.2 j hj)⟩
theorem So.w {m n : Mem} {i x : Int} (h : So m n) (h0 : 123 ≤ i) (h1 : i < 232) : So m (wr n 216 i x) := ⟨fun b hb => by rw [wr_row hb]; exact h.1 b hb, fun j hj => by rw [wr_ni (by omega)]; exact h.2 j hj⟩
theorem Bg.ge {m : Mem} {G : Mem} {d : Nat} {i x : Int} (hb : BgD G d (m 216)) (hdn : DnOk G d) (h : 123 ≤ i) : BgD G d (wr m 216 i x 216) := hb.congr hdn (fun _ _ => rfl) (fun j hj => wr_ni (by omega))
theorem Bg.comes {m : Mem} {G : Mem} {d st : Nat} {p x : Int} (hb : Bg G d st (m 216)) (hdn : DnOk G d) (hs : d + 10 ≤ st) (hp : 0 ≤ p ∧ p < G d 3) (hx : x = comeN (G (st + 6) p) (upP G d st p) (G d 4).toNat) : Bg (bring G d st p) d st (wr m 216 (141 + p) x 216) := by
  have h5 := hdn.2.2.2.1
  refine ⟨hb.1.congr hdn (fun k hk => bring_fr _ (by omega)) (fun j hj => wr_ni (by omega)), ?_⟩
  unfold BgS bring
  rw [← hx]
  simp (disch := omega) only [wr_row, wr_rowat, ↓reduceIte]
  have e0 := hb.hr
  have e1 := hb.sy
  have e2 := hb.ki
  refine ⟨⟨by omega, by omega, by omega⟩, fun q h0 h1 => ?_, fun q h0 h1 => ?_, fun c h0 h1 => ?_⟩
  · have a1 := hb.at h0 h1
    have a2 := hb.up h0 h1
    have a3 := hb.br h0 h1
    have a4 := hb.ca h0 h1
    have a5 := hb.sa h0 h1
    omega
  · have := hb.zr h0 h1
    omega
  · have := hb.wl h0 h1
    omega
theorem Bg.sayw {m : Mem} {G : Mem} {d st : Nat} {p f s : Int} (hb : Bg G d st (m 216)) (hdn : DnOk G d) (hs : d + 10 ≤ st) (hp : 0 ≤ p ∧ p < G d 3) (hq : iand (G (st + 4) p + G (d + 2) f) 3 = (G (st + 4) p + G (d + 2) f) % 4) : Bg (sayW G d st p f s) d st (wr (wr (wr (wr (wr m 216 (126 + p) (9 * (G (st + 3) p + G (d + 3) f * dy s) + (G (st + 2) p + G (d + 3) f * dx s))) 216 (131 + p) ((G (st + 4) p + G (d + 2) f) % 4)) 216 (136 + p) (G (st + 5) p - costC G d f)) 216 (146 + p) (G (st + 7) p + 1)) 216 124 (sumI (G (st + 7)) (G d 3) + 1) 216) := by
  have h5 := hdn.2.2.2.1
  refine ⟨hb.1.congr hdn (fun k hk => sayW_r hs hk) (fun j hj => by rw [wr_ni (by omega), wr_ni (by omega), wr_ni (by omega), wr_ni (by omega), wr_ni (by omega)]), ?_⟩
  unfold BgS sayW
  rw [hq]
  simp (disch := omega) only [wr_row, wr_rowat, ↓reduceIte]
  have e0 := hb.hr
  have e1 := hb.sy
  have e2 := hb.ki
  refine ⟨⟨by omega, by rw [sumI_upd hp.1 hp.2]; omega, by omega⟩, fun q h0 h1 => ?_, fun q h0 h1 => ?_, fun c h0 h1 => ?_⟩
  · have a1 := hb.at h0 h1
    have a2 := hb.up h0 h1
    have a3 := hb.br h0 h1
    have a4 := hb.ca h0 h1
    have a5 := hb.sa h0 h1
    generalize costC G d f = cc
    generalize G (d + 3) f * dx s = ux
    generalize G (d + 3) f * dy s = uy
    omega
  · have := hb.zr h0 h1
    omega
  · have := hb.wl h0 h1
    omega
theorem Bg.kicked {m : Mem} {G : Mem} {d st : Nat} {p s c : Int} (hb : Bg G d st (m 216)) (hdn : DnOk G d) (hs : d + 10 ≤ st) (hp : 0 ≤ p ∧ p < G d 3) (hc : c = 9 * (G (st + 3) p + dy s) + (G (st + 2) p + dx s)) (hc1 : 0 ≤ c ∧ c < 81) : Bg (kickC G st p s) d st (wr (wr (wr m 216 (151 + c) (G (st + 1) c - 1)) 216 (136 + p) (G (st + 5) p - 1)) 216 125 (G st 1 + 1) 216) := by
  have h5 := hdn.2.2.2.1
  refine ⟨hb.1.congr hdn (fun k hk => kickC_fr _ (by omega)) (fun j hj => by rw [wr_ni (by omega), wr_ni (by omega), wr_ni (by omega)]), ?_⟩
  unfold BgS kickC
  rw [← hc]
  simp (disch := omega) only [wr_row, wr_rowat, ↓reduceIte]
  have e0 := hb.hr
  have e1 := hb.sy
  have e2 := hb.ki
  refine ⟨⟨by first | trivial | omega, by first | trivial | omega, by first | trivial | omega⟩, fun q h0 h1 => ?_, fun q h0 h1 => ?_, fun c' h0 h1 => ?_⟩
  · have a1 := hb.at h0 h1
    have a2 := hb.up h0 h1
    have a3 := hb.br h0 h1
    have a4 := hb.ca h0 h1
    have a5 := hb.sa h0 h1
    omega
  · have := hb.zr h0 h1
    omega
  · have := hb.wl h0 h1
    omega
theorem Bg.rested {m : Mem} {G : Mem} {d st : Nat} {p : Int} (hb : Bg G d st (m 216)) (hdn : DnOk G d) (hs : d + 10 ≤ st) (hp : 0 ≤ p ∧ p < G d 3) : Bg (restC G d st p) d st (wr m 216 (136 + p) (G (d + 5) p) 216) := by
  have h5 := hdn.2.2.2.1
  refine ⟨hb.1.congr hdn (fun k hk => restC_fr _ (by omega)) (fun j hj => wr_ni (by omega)), ?_⟩
  unfold BgS restC
  simp (disch := omega) only [wr_row, wr_rowat, ↓reduceIte]
  have e0 := hb.hr
  have e1 := hb.sy
  have e2 := hb.ki
  refine ⟨⟨by omega, by omega, by omega⟩, fun q h0 h1 => ?_, fun q h0 h1 => ?_, fun c h0 h1 => ?_⟩
  · have a1 := hb.at h0 h1
    have a2 := hb.up h0 h1
    have a3 := hb.br h0 h1
    have a4 := hb.ca h0 h1
    have a5 := hb.sa h0 h1
    omega
  · have := hb.zr h0 h1
    omega
  · have := hb.wl h0 h1
    omega
def whyG (G : Mem) (d st : Nat) (w p x s : Int) : Int := if w = 0 then whySayC G d st p x s else if w = 1 then whyKickC G d st p s else if G (st + 5) p = G (d + 5) p then 1 else 0
def actG (G : Mem) (d st : Nat) (w p x s : Int) : Mem := if w = 0 then sayC G d st p x s else if w = 1 then kickC G st p s else restC G d st p
/-- the reference keeps what is so for coming back -/
def SnP (m m' : Mem) : Prop := (∀ b : Nat, b ≠ 214 → b ≠ 219 → m' b = m b) ∧ (∀ j : Int, j ≠ 25 → m' 214 j = m 214 j) ∧ m' 214 25 = min 8 (m 214 25 + 1) ∧
  (∀ k j : Int, 0 ≤ k → k + 1 < m' 214 25 → 0 ≤ j → j < 109 → m' 219 (109 * k + j) = m 219 (109 * (if m 214 25 = 8 then k + 1 else k) + j)) ∧
  ∀ j : Int, 0 ≤ j → j < 109 → m' 219 (109 * (m' 214 25 - 1) + j) = m 216 (123 + j)
def shl (m : Mem) (i : Int) : Mem := fun b j => if b = 219 ∧ 0 ≤ j ∧ j < i then m 219 (j + 109) else m b j
theorem shl_0 (m : Mem) : shl m 0 = m := by funext b j; unfold shl; rw [if_neg (by omega)]
theorem shl_s {m : Mem} {i : Int} (h : 0 ≤ i) : wr (shl m i) 219 i (m 219 (i + 109)) = shl m (i + 1) := by
  funext b j; unfold wr shl
  by_cases h1 : b = 219 ∧ j = i
  · rw [if_pos h1, if_pos (by omega), h1.2]
  · rw [if_neg h1]
    by_cases h2 : b = 219 ∧ 0 ≤ j ∧ j < i
    · rw [if_pos h2, if_pos (by omega)]
    · rw [if_neg h2, if_neg (by omega)]
/-- n numbers of row a, from o on, into row b, from p on -/
def mov (m : Mem) (a b : Nat) (o p n : Int) : Mem := fun c j => if c = b ∧ p ≤ j ∧ j < p + n then m a (o + (j - p)) else m c j
theorem mov_0 (m : Mem) (a b : Nat) (o p : Int) : mov m a b o p 0 = m := by funext c j; unfold mov; rw [if_neg (by omega)]
theorem mov_s {m : Mem} {a b : Nat} {o p i : Int} (h : 0 ≤ i) : wr (mov m a b o p i) b (p + i) (m a (o + i)) = mov m a b o p (i + 1) := by
  funext c j; unfold wr mov
  by_cases h1 : c = b ∧ j = p + i
  · rw [if_pos h1, if_pos (by omega), h1.2, show p + i - p = i by omega]
  · rw [if_neg h1]
    by_cases h2 : c = b ∧ p ≤ j ∧ j < p + i
    · rw [if_pos h2, if_pos (by omega)]
    · rw [if_neg h2, if_neg (by omega)]
theorem mov_row {m : Mem} {a b c : Nat} {o p n : Int} (h : c ≠ b) : mov m a b o p n c = m c := by funext j; unfold mov; rw [if_neg (fun q => h q.1)]
theorem mov_in {m : Mem} {a b : Nat} {o p n j : Int} (h0 : p ≤ j) (h1 : j < p + n) : mov m a b o p n b j = m a (o + (j - p)) := by unfold mov; rw [if_pos ⟨rfl, h0, h1⟩]
theorem mov_out {m : Mem} {a b : Nat} {o p n j : Int} (h : j < p ∨ p + n ≤ j) : mov m a b o p n b j = m b j := by unfold mov; rw [if_neg (by omega)]
def SnA (m m0 : Mem) : Prop := (∀ b : Nat, b ≠ 214 → b ≠ 219 → m0 b = m b) ∧ (∀ j : Int, j ≠ 25 → m0 214 j = m 214 j) ∧ m0 214 25 = min 7 (m 214 25) ∧
  ∀ k j : Int, 0 ≤ k → k < m0 214 25 → 0 ≤ j → j < 109 → m0 219 (109 * k + j) = m 219 (109 * (if m 214 25 = 8 then k + 1 else k) + j)
theorem SnA.a {m : Mem} (h : m 214 25 ≤ 7) : SnA m m := ⟨fun _ _ _ => rfl, fun _ _ => rfl, by omega, fun k j _ _ _ _ => by rw [if_neg (by omega)]⟩
theorem SnA.b {m : Mem} (h : m 214 25 = 8) : SnA m (wr (shl m 763) 214 25 (8 - 1)) := by
  refine ⟨fun b h1 h2 => ?_, fun j hj => ?_, ?_, fun k j h0 h1 h2 h3 => ?_⟩
  · rw [wr_row h1]; funext j; unfold shl; rw [if_neg (by omega)]
  · rw [wr_ni hj]; unfold shl; rw [if_neg (by omega)]
  · rw [wr_self]; omega
  · rw [wr_self] at h1
    rw [wr_na (by decide), if_pos h]
    unfold shl
    rw [if_pos (by omega), show 109 * k + j + 109 = 109 * (k + 1) + j by omega]
theorem SnA.p {m m0 : Mem} (h : SnA m m0) : SnP m (wr (mov m0 216 219 123 (109 * m0 214 25) 109) 214 25 (m0 214 25 + 1)) := by
  obtain ⟨h1, h2, h3, h4⟩ := h
  refine ⟨fun b hb hc => ?_, fun j hj => ?_, ?_, fun k j k0 k1 j0 j1 => ?_, fun j j0 j1 => ?_⟩
  · rw [wr_row hb, mov_row hc]; exact h1 b hb hc
  · rw [wr_ni hj, mov_row (by decide)]; exact h2 j hj
  · rw [wr_self]; omega
  · rw [wr_self] at k1
    rw [wr_na (by decide), mov_out (by omega)]
    exact h4 k j k0 (by omega) j0 j1
  · rw [wr_self, wr_na (by decide), mov_in (by omega) (by omega)]
    rw [show 123 + (109 * (m0 214 25 + 1 - 1) + j - 109 * m0 214 25) = 123 + j by omega, h1 216 (by decide) (by decide)]
theorem sayW_xy {G : Mem} {d st : Nat} {p f s : Int} : sayW G d st p f s (st + 2) p = G (st + 2) p + G (d + 3) f * dx s ∧ sayW G d st p f s (st + 3) p = G (st + 3) p + G (d + 3) f * dy s := by
  unfold sayW
  simp (disch := omega) only [wr_row, wr_rowat, if_true, and_self]
theorem Bg.e {m m' G : Mem} {d st : Nat} (hb : Bg G d st (m 216)) (h : m' 216 = m 216) : Bg G d st (m' 216) := by rw [h]; exact hb
def ActP (m G : Mem) (d st : Nat) (w p f s r : Int) (m' : Mem) : Prop := r = whyG G d st w p f s ∧ ((whyG G d st w p f s ≠ 0 ∧ m' = m) ∨ (whyG G d st w p f s = 0 ∧ ∃ m1 : Mem, SnP m m1 ∧ So m1 m' ∧ Bg (actG G d st w p f s) d st (m' 216)))
def hr1 (m G : Mem) (d st : Nat) (i : Int) : Mem := fun b j => if b = 216 ∧ 136 ≤ j ∧ j < 136 + i then min (G (d + 5) (j - 136)) (G (st + 5) (j - 136) + 1) else m b j
theorem hr1_0 (m G : Mem) (d st : Nat) : hr1 m G d st 0 = m := by funext b j; unfold hr1; rw [if_neg (by omega)]
theorem hr1_t {m G : Mem} {d st : Nat} {i : Int} (h : 0 ≤ i) (x : Int) (hx : x = min (G (d + 5) i) (G (st + 5) i + 1)) : wr (hr1 m G d st i) 216 (136 + i) x = hr1 m G d st (i + 1) := by
  funext b j; unfold wr hr1
  by_cases h1 : b = 216 ∧ j = 136 + i
  · rw [if_pos h1, if_pos (by omega), h1.2, show 136 + i - 136 = i by omega]; exact hx
  · rw [if_neg h1]
    by_cases h2 : b = 216 ∧ 136 ≤ j ∧ j < 136 + i
    · rw [if_pos h2, if_pos (by omega)]
    · rw [if_neg h2, if_neg (by omega)]
theorem hr1_f {m G : Mem} {d st : Nat} {i : Int} (h : 0 ≤ i) (hx : m 216 (136 + i) = min (G (d + 5) i) (G (st + 5) i + 1)) : hr1 m G d st i = hr1 m G d st (i + 1) := by
  rw [← hr1_t (m := m) h _ rfl, ← hx]
  have e : m 216 (136 + i) = hr1 m G d st i 216 (136 + i) := by unfold hr1; rw [if_neg (by omega)]
  rw [e]; exact wr_id.symm
theorem hr1_o {m G : Mem} {d st b : Nat} {i j : Int} (h : b ≠ 216 ∨ j < 136 ∨ 136 + i ≤ j) : hr1 m G d st i b j = m b j := by unfold hr1; rw [if_neg (by omega)]
theorem Bg.hour {m : Mem} {G : Mem} {d st : Nat} (hb : Bg G d st (m 216)) (hdn : DnOk G d) (hs : d + 10 ≤ st) : Bg (passC G d st 1) d st (wr (hr1 m G d st (G d 3)) 216 123 (G st 0 + 1) 216) := by
  have h5 := hdn.2.2.2.1
  refine ⟨hb.1.congr hdn (fun k hk => passC_fr _ (by omega)) (fun j hj => by rw [wr_ni (by omega), hr1_o (by omega)]), ?_⟩
  unfold BgS
  rw [passC_0, passC_5]
  simp (disch := omega) only [passC_r, wr_rowat, ↓reduceIte]
  have e0 := hb.hr
  have e1 := hb.sy
  have e2 := hb.ki
  have b1 : ∀ j : Int, j ≠ 123 → (if j = 123 then G st 0 + 1 else hr1 m G d st (G d 3) 216 j) = hr1 m G d st (G d 3) 216 j := fun j hj => if_neg hj
  refine ⟨⟨by first | trivial | rfl | omega, ?_, ?_⟩, fun q h0 h1 => ?_, fun q h0 h1 => ?_, fun c h0 h1 => ?_⟩
  · first | (rw [b1 _ (by omega), hr1_o (by omega)]; exact e1) | (rw [hr1_o (by omega)]; exact e1)
  · first | (rw [b1 _ (by omega), hr1_o (by omega)]; exact e2) | (rw [hr1_o (by omega)]; exact e2)
  · have a1 := hb.at h0 h1
    have a2 := hb.up h0 h1
    have a4 := hb.ca h0 h1
    have a5 := hb.sa h0 h1
    rw [b1 _ (by omega), b1 _ (by omega), b1 _ (by omega), b1 _ (by omega), b1 _ (by omega), hr1_o (j := 126 + q) (by omega), hr1_o (j := 131 + q) (by omega), hr1_o (j := 141 + q) (by omega), hr1_o (j := 146 + q) (by omega), if_pos ⟨h0, h1⟩]
    refine ⟨a1, a2, ?_, a4, a5⟩
    unfold hr1
    rw [if_pos (by omega), show 136 + q - 136 = q by omega]
  · rw [b1 _ (by omega), hr1_o (by omega)]; exact hb.zr h0 h1
  · rw [b1 _ (by omega), hr1_o (by omega)]; exact hb.wl h0 h1
theorem passC_zero {G : Mem} {d st : Nat} {B : Int} (hst : StOk G d st B) : passC G d st 0 = G := by
  obtain ⟨-, -, -, hsp, -, -⟩ := id hst
  unfold passC
  rw [show hrsC G d st 0 (G d 3) = G from ?_, show G st 0 + 0 = G st 0 by omega]
  · exact wr_id
  · funext b j; unfold hrsC; split
    · rename_i h
      have := hsp j h.2.1 h.2.2
      rw [h.1]; omega
    · rfl
theorem passC_add {G : Mem} {d st : Nat} {i : Int} (hs : d + 10 ≤ st) (h0 : 0 ≤ i) : passC (passC G d st i) d st 1 = passC G d st (i + 1) := by
  funext b j
  by_cases hb : b = st
  · subst hb
    rw [passC_0, passC_0, passC_0]
    show (if j = 0 then (if (0 : Int) = 0 then G b 0 + i else G b 0) + 1 else if j = 0 then _ else _) = _
    split <;> simp <;> omega
  · by_cases h5 : b = st + 5
    · subst h5
      rw [passC_5, passC_5, passC_5, passC_r (k := d) (by omega) (by omega), passC_r (k := d + 5) (by omega) (by omega)]
      dsimp only
      split <;> omega
    · rw [passC_r hb h5, passC_r hb h5, passC_r hb h5]
def HrP (m G : Mem) (d st : Nat) (n r : Int) (m' : Mem) : Prop := (¬ (1 ≤ n ∧ n ≤ 60) ∧ r = -1 ∧ m' = wr m 214 0 0) ∨ ((1 ≤ n ∧ n ≤ 60) ∧ r = min n (400 - G st 0) ∧ ((G st 0 = 400 ∧ m' = wr m 214 0 0) ∨ (G st 0 ≠ 400 ∧ ∃ m1 : Mem, SnP (wr m 214 0 0) m1 ∧ So m1 m' ∧ Bg (passC G d st (min n (400 - G st 0))) d st (m' 216))))
theorem thr_w {m : Mem} {x : Int} : wr (wr m 214 0 0) 214 0 x = wr m 214 0 x := wr_wr

set_option maxRecDepth 4000 in
theorem ev_X12_costOfD {m : Mem} {G : Mem} {d : Nat} {f : Int} (hb : BgD G d (m 216)) (hdn : DnOk G d) (hf : 0 ≤ f ∧ f < G d 2) : Ev 0 1 mX12_costOf [vr 214, vi f] m (fun r m' => m' = m ∧ (r = costC G d f)) := by
  refine Ev.of (L := [vr 214, vi f, un]) (by decide +kernel) rfl (Nat.le_of_ble_eq_true rfl) rfl (fun t ht => by cases ht; first | exact Or.inl rfl | exact Or.inr (Or.inl rfl) | exact Or.inr (Or.inr rfl)) (fun hcan => ?_)
  obtain ⟨⟨hd0, hd1⟩, ⟨hd2, hd3⟩, ⟨hd4, hd5⟩, ⟨hd6, hd7⟩, ⟨hd8, hd9⟩, hdf, hdp, hdq⟩ := id hdn
  have hff := hdf f hf.1 hf.2
  refine go_aload_n dX12_costOf_0 rfl ?_
  refine go_getf_p (b := 216) dX12_costOf_1 fl_12_98 ob_214 rfl pt_214_14 ?_
  refine go_iconst dX12_costOf_4 ?_
  refine go_iload_n dX12_costOf_5 rfl ?_
  refine go_iadd dX12_costOf_6 ?_
  refine go_iaload dX12_costOf_7 ar_216 (by omega) (by omega) (fun he_7 => ?_)
  rw [show (m 216 (5 + f) : Int) = (G (d + 2) f) from (hb.qu (f := f) (by omega) (by omega))] at he_7 ⊢
  refine go_aload_n dX12_costOf_8 rfl ?_
  refine go_getf_p (b := 216) dX12_costOf_9 fl_12_98 ob_214 rfl pt_214_14 ?_
  refine go_bipush dX12_costOf_12 (by decide) ?_
  refine go_iload_n dX12_costOf_14 rfl ?_
  refine go_iadd dX12_costOf_15 ?_
  refine go_iaload dX12_costOf_16 ar_216 (by omega) (by omega) (fun he_16 => ?_)
  rw [show (m 216 (11 + f) : Int) = (G (d + 3) f) from (hb.go (f := f) (by omega) (by omega))] at he_16 ⊢
  refine go_iadd dX12_costOf_17 ?_
  refine go_istore_n (L' := [vr 214, vi f, vi ((G (d + 2) f) + (G (d + 3) f))]) dX12_costOf_18 (by decide) rfl rfl ?_
  refine go_iload_n dX12_costOf_19 rfl ?_
  refine go_if_ne (tgt := 27) dX12_costOf_20 (by decide) ⟨by omega, by omega⟩ (fun h_20 => ?_) (fun h_20 => ?_)
  · refine go_iload_n dX12_costOf_27 rfl ?_
    exact go_ret (v := ((G (d + 2) f) + (G (d + 3) f))) rfl dX12_costOf_28 (okI ⟨by omega, by omega⟩) ⟨rfl, (by unfold costC; omega)⟩
  · refine go_iconst dX12_costOf_23 ?_
    refine go_goto (tgt := 28) dX12_costOf_24 (by decide) ?_
    exact go_ret (v := 1) rfl dX12_costOf_28 (okI ⟨by omega, by omega⟩) ⟨rfl, (by unfold costC; omega)⟩
theorem dX12_comesUp_0 : decode mX12_comesUp.2.1 0 = .ok (.iconst 0, 1) := by decide +kernel
theorem dX12_comesUp_1 : decode mX12_comesUp.2.1 1 = .ok (.istore_n 2, 1) := by decide +kernel
theorem dX12_comesUp_2 : decode mX12_comesUp.2.1 2 = .ok (.iload_n 2, 1) := by decide +kernel
theorem dX12_comesUp_3 : decode mX12_comesUp.2.1 3 = .ok (.aload_n 0, 1) := by decide +kernel
theorem dX12_comesUp_4 : decode mX12_comesUp.2.1 4 = .ok (.getfield 98, 3) := by decide +kernel
theorem dX12_comesUp_7 : decode mX12_comesUp.2.1 7 = .ok (.iconst 4, 1) := by decide +kernel
theorem dX12_comesUp_8 : decode mX12_comesUp.2.1 8 = .ok (.iaload, 1) := by decide +kernel
theorem dX12_comesUp_9 : decode mX12_comesUp.2.1 9 = .ok (.if_icmp .ge 68, 3) := by decide +kernel
theorem dX12_comesUp_12 : decode mX12_comesUp.2.1 12 = .ok (.aload_n 0, 1) := by decide +kernel
theorem dX12_comesUp_13 : decode mX12_comesUp.2.1 13 = .ok (.getfield 98, 3) := by decide +kernel
theorem dX12_comesUp_16 : decode mX12_comesUp.2.1 16 = .ok (.bipush 32, 2) := by decide +kernel
theorem dX12_comesUp_18 : decode mX12_comesUp.2.1 18 = .ok (.iload_n 2, 1) := by decide +kernel
theorem dX12_comesUp_19 : decode mX12_comesUp.2.1 19 = .ok (.iadd, 1) := by decide +kernel
theorem dX12_comesUp_20 : decode mX12_comesUp.2.1 20 = .ok (.iaload, 1) := by decide +kernel
theorem dX12_comesUp_21 : decode mX12_comesUp.2.1 21 = .ok (.aload_n 0, 1) := by decide +kernel
theorem dX12_comesUp_22 : decode mX12_comesUp.2.1 22 = .ok (.getfield 98, 3) := by decide +kernel
theorem dX12_comesUp_25 : decode mX12_comesUp.2.1 25 = .ok (.bipush 126, 2) := by decide +kernel
theorem dX12_comesUp_27 : decode mX12_comesUp.2.1 27 = .ok (.iload_n 1, 1) := by decide +kernel
theorem dX12_comesUp_28 : decode mX12_comesUp.2.1 28 = .ok (.iadd, 1) := by decide +kernel
theorem dX12_comesUp_29 : decode mX12_comesUp.2.1 29 = .ok (.iaload, 1) := by decide +kernel
theorem dX12_comesUp_30 : decode mX12_comesUp.2.1 30 = .ok (.if_icmp .ne 41, 3) := by decide +kernel
theorem dX12_comesUp_33 : decode mX12_comesUp.2.1 33 = .ok (.aload_n 0, 1) := by decide +kernel
theorem dX12_comesUp_34 : decode mX12_comesUp.2.1 34 = .ok (.getfield 98, 3) := by decide +kernel
theorem dX12_comesUp_37 : decode mX12_comesUp.2.1 37 = .ok (.bipush 37, 2) := by decide +kernel
theorem dX12_comesUp_39 : decode mX12_comesUp.2.1 39 = .ok (.iload_n 2, 1) := by decide +kernel
theorem dX12_comesUp_40 : decode mX12_comesUp.2.1 40 = .ok (.iadd, 1) := by decide +kernel
theorem dX12_comesUp_41 : decode mX12_comesUp.2.1 41 = .ok (.iaload, 1) := by decide +kernel
theorem dX12_comesUp_42 : decode mX12_comesUp.2.1 42 = .ok (.aload_n 0, 1) := by decide +kernel
theorem dX12_comesUp_43 : decode mX12_comesUp.2.1 43 = .ok (.getfield 98, 3) := by decide +kernel
theorem dX12_comesUp_46 : decode mX12_comesUp.2.1 46 = .ok (.sipush 131, 3) := by decide +kernel
theorem dX12_comesUp_49 : decode mX12_comesUp.2.1 49 = .ok (.iload_n 1, 1) := by decide +kernel
theorem dX12_comesUp_50 : decode mX12_comesUp.2.1 50 = .ok (.iadd, 1) := by decide +kernel
theorem dX12_comesUp_51 : decode mX12_comesUp.2.1 51 = .ok (.iaload, 1) := by decide +kernel
theorem dX12_comesUp_52 : decode mX12_comesUp.2.1 52 = .ok (.if_icmp .ne 19, 3) := by decide +kernel
theorem dX12_comesUp_55 : decode mX12_comesUp.2.1 55 = .ok (.aload_n 0, 1) := by decide +kernel
theorem dX12_comesUp_56 : decode mX12_comesUp.2.1 56 = .ok (.getfield 98, 3) := by decide +kernel
theorem dX12_comesUp_59 : decode mX12_comesUp.2.1 59 = .ok (.sipush 141, 3) := by decide +kernel
theorem dX12_comesUp_62 : decode mX12_comesUp.2.1 62 = .ok (.iload_n 1, 1) := by decide +kernel
theorem dX12_comesUp_63 : decode mX12_comesUp.2.1 63 = .ok (.iadd, 1) := by decide +kernel
theorem dX12_comesUp_64 : decode mX12_comesUp.2.1 64 = .ok (.dup2, 1) := by decide +kernel
theorem dX12_comesUp_65 : decode mX12_comesUp.2.1 65 = .ok (.iaload, 1) := by decide +kernel
theorem dX12_comesUp_66 : decode mX12_comesUp.2.1 66 = .ok (.iconst 1, 1) := by decide +kernel
theorem dX12_comesUp_67 : decode mX12_comesUp.2.1 67 = .ok (.iload_n 2, 1) := by decide +kernel
theorem dX12_comesUp_68 : decode mX12_comesUp.2.1 68 = .ok (.ishl, 1) := by decide +kernel
theorem dX12_comesUp_69 : decode mX12_comesUp.2.1 69 = .ok (.ior, 1) := by decide +kernel
theorem dX12_comesUp_70 : decode mX12_comesUp.2.1 70 = .ok (.iastore, 1) := by decide +kernel
theorem dX12_comesUp_71 : decode mX12_comesUp.2.1 71 = .ok (.iinc 2 1, 3) := by decide +kernel
theorem dX12_comesUp_74 : decode mX12_comesUp.2.1 74 = .ok (.goto (-72), 3) := by decide +kernel
theorem dX12_comesUp_77 : decode mX12_comesUp.2.1 77 = .ok (.return_, 1) := by decide +kernel
set_option maxRecDepth 4000 in
theorem ev_X12_comesUp {m : Mem} {G : Mem} {d : Nat} {st : Nat} {p : Int} (hb : Bg G d st (m 216)) (hdn : DnOk G d) (hp : 0 ≤ p ∧ p < G d 3) (hxy : 0 ≤ G (st + 2) p ∧ G (st + 2) p ≤ 8 ∧ 0 ≤ G (st + 3) p ∧ G (st + 3) p ≤ 8) : Ev 0 1 mX12_comesUp [vr 214, vi p] m (fun r m' => m' = wr m 216 (141 + p) (comeN (G (st + 6) p) (upP G d st p) (G d 4).toNat)) := by
  refine Ev.of (L := [vr 214, vi p, un]) (by decide +kernel) rfl (Nat.le_of_ble_eq_true rfl) rfl (fun t ht => by cases ht) (fun hcan => ?_)
  obtain ⟨⟨hd0, hd1⟩, ⟨hd2, hd3⟩, ⟨hd4, hd5⟩, ⟨hd6, hd7⟩, ⟨hd8, hd9⟩, hdf, hdp, hdq⟩ := id hdn
  refine go_iconst dX12_comesUp_0 ?_
  refine go_istore_n (L' := [vr 214, vi p, vi 0]) dX12_comesUp_1 (by decide) rfl rfl ?_
  have lp_2 : ∀ (n_2 : Nat) (m1 : Mem) (q : Int) , (0 ≤ q) → (q ≤ G d 4) → (m1 = (wr m 216 (141 + p) (comeN (G (st + 6) p) (upP G d st p) q.toNat))) → (G d 4 - q).toNat < n_2 → Go 0 1 mX12_comesUp (fun r m' => m' = wr m 216 (141 + p) (comeN (G (st + 6) p) (upP G d st p) (G d 4).toNat)) 2 [vr 214, vi p, vi q] [] m1 := by
    intro n_2
    induction n_2 with
    | zero => intro m1 q hq0 hq1 hm hmu; exact absurd hmu (Nat.not_lt_zero _)
    | succ n_2 ih_2 =>
      intro m1 q hq0 hq1 hm hmu
      subst hm
      refine go_iload_n dX12_comesUp_2 rfl ?_
      refine go_aload_n dX12_comesUp_3 rfl ?_
      refine go_getf_p (b := 216) dX12_comesUp_4 fl_12_98 ob_214 rfl pt_214_14 ?_
      refine go_iconst dX12_comesUp_7 ?_
      refine go_iaload dX12_comesUp_8 ar_216 (by omega) (by omega) (fun he_8 => ?_)
      rw [show ((wr m 216 (141 + p) (comeN (G (st + 6) p) (upP G d st p) q.toNat)) 216 4 : Int) = (G d 4) from by rw [wr_ni (by omega)]; exact hb.n4] at he_8 ⊢
      refine go_icmp_ge (tgt := 77) dX12_comesUp_9 (by decide) ⟨by omega, by omega⟩ ⟨by omega, by omega⟩ (fun h_9 => ?_) (fun h_9 => ?_)
      · exact go_ret (v := 0) rfl dX12_comesUp_77 rfl (by rw [show q = G d 4 by omega])
      · have hqq := hdq q hq0 (by omega)
        refine go_aload_n dX12_comesUp_12 rfl ?_
        refine go_getf_p (b := 216) dX12_comesUp_13 fl_12_98 ob_214 rfl pt_214_14 ?_
        refine go_bipush dX12_comesUp_16 (by decide) ?_
        refine go_iload_n dX12_comesUp_18 rfl ?_
        refine go_iadd dX12_comesUp_19 ?_
        refine go_iaload dX12_comesUp_20 ar_216 (by omega) (by omega) (fun he_20 => ?_)
        rw [show ((wr m 216 (141 + p) (comeN (G (st + 6) p) (upP G d st p) q.toNat)) 216 (32 + q) : Int) = (9 * G (d + 8) q + G (d + 7) q) from by rw [wr_ni (by omega)]; exact (hb.sp (q := q) (by omega) (by omega))] at he_20 ⊢
        refine go_aload_n dX12_comesUp_21 rfl ?_
        refine go_getf_p (b := 216) dX12_comesUp_22 fl_12_98 ob_214 rfl pt_214_14 ?_
        refine go_bipush dX12_comesUp_25 (by decide) ?_
        refine go_iload_n dX12_comesUp_27 rfl ?_
        refine go_iadd dX12_comesUp_28 ?_
        refine go_iaload dX12_comesUp_29 ar_216 (by omega) (by omega) (fun he_29 => ?_)
        rw [show ((wr m 216 (141 + p) (comeN (G (st + 6) p) (upP G d st p) q.toNat)) 216 (126 + p) : Int) = (9 * G (st + 3) p + G (st + 2) p) from by rw [wr_ni (by omega)]; exact (hb.at (p := p) (by omega) (by omega))] at he_29 ⊢
        refine go_icmp_ne (tgt := 71) dX12_comesUp_30 (by decide) ⟨by omega, by omega⟩ ⟨by omega, by omega⟩ (fun h_30 => ?_) (fun h_30 => ?_)
        · refine go_iinc (L' := [vr 214, vi p, vi (q + 1)]) dX12_comesUp_71 rfl (by decide) rfl rfl ?_
          refine go_goto (tgt := 2) dX12_comesUp_74 (by decide) ?_
          exact ih_2 (wr m 216 (141 + p) (comeN (G (st + 6) p) (upP G d st p) q.toNat)) (q + 1) (by first | assumption | omega | rfl) (by first | assumption | omega | rfl) (by first | (rw [comeN_t hq0 (by unfold upP; exact decide_eq_true (by omega))]; exact wr_wr) | (rw [comeN_f hq0 (by unfold upP; exact decide_eq_false (by omega))])) (by omega)
        · refine go_aload_n dX12_comesUp_33 rfl ?_
          refine go_getf_p (b := 216) dX12_comesUp_34 fl_12_98 ob_214 rfl pt_214_14 ?_
          refine go_bipush dX12_comesUp_37 (by decide) ?_
          refine go_iload_n dX12_comesUp_39 rfl ?_
          refine go_iadd dX12_comesUp_40 ?_
          refine go_iaload dX12_comesUp_41 ar_216 (by omega) (by omega) (fun he_41 => ?_)
          rw [show ((wr m 216 (141 + p) (comeN (G (st + 6) p) (upP G d st p) q.toNat)) 216 (37 + q) : Int) = (G (d + 9) q) from by rw [wr_ni (by omega)]; exact (hb.su (q := q) (by omega) (by omega))] at he_41 ⊢
          refine go_aload_n dX12_comesUp_42 rfl ?_
          refine go_getf_p (b := 216) dX12_comesUp_43 fl_12_98 ob_214 rfl pt_214_14 ?_
          refine go_sipush dX12_comesUp_46 (by decide) ?_
          refine go_iload_n dX12_comesUp_49 rfl ?_
          refine go_iadd dX12_comesUp_50 ?_
          refine go_iaload dX12_comesUp_51 ar_216 (by omega) (by omega) (fun he_51 => ?_)
          rw [show ((wr m 216 (141 + p) (comeN (G (st + 6) p) (upP G d st p) q.toNat)) 216 (131 + p) : Int) = (G (st + 4) p) from by rw [wr_ni (by omega)]; exact (hb.up (p := p) (by omega) (by omega))] at he_51 ⊢
          refine go_icmp_ne (tgt := 71) dX12_comesUp_52 (by decide) ⟨by omega, by omega⟩ ⟨by omega, by omega⟩ (fun h_52 => ?_) (fun h_52 => ?_)
          · refine go_iinc (L' := [vr 214, vi p, vi (q + 1)]) dX12_comesUp_71 rfl (by decide) rfl rfl ?_
            refine go_goto (tgt := 2) dX12_comesUp_74 (by decide) ?_
            exact ih_2 (wr m 216 (141 + p) (comeN (G (st + 6) p) (upP G d st p) q.toNat)) (q + 1) (by first | assumption | omega | rfl) (by first | assumption | omega | rfl) (by first | (rw [comeN_t hq0 (by unfold upP; exact decide_eq_true (by omega))]; exact wr_wr) | (rw [comeN_f hq0 (by unfold upP; exact decide_eq_false (by omega))])) (by omega)
          · refine go_aload_n dX12_comesUp_55 rfl ?_
            refine go_getf_p (b := 216) dX12_comesUp_56 fl_12_98 ob_214 rfl pt_214_14 ?_
            refine go_sipush dX12_comesUp_59 (by decide) ?_
            refine go_iload_n dX12_comesUp_62 rfl ?_
            refine go_iadd dX12_comesUp_63 ?_
            refine go_dup2_ir dX12_comesUp_64 ?_
            refine go_iaload dX12_comesUp_65 ar_216 (by omega) (by omega) (fun he_65 => ?_)
            rw [show ((wr m 216 (141 + p) (comeN (G (st + 6) p) (upP G d st p) q.toNat)) 216 (141 + p) : Int) = (comeN (G (st + 6) p) (upP G d st p) q.toNat) from by rw [wr_self]] at he_65 ⊢
            refine go_iconst dX12_comesUp_66 ?_
            refine go_iload_n dX12_comesUp_67 rfl ?_
            refine go_ishl dX12_comesUp_68 ?_
            refine go_ior dX12_comesUp_69 ?_
            refine go_iastore dX12_comesUp_70 ar_216 (by omega) (by omega) (ior_R _ _) ?_
            refine go_iinc (L' := [vr 214, vi p, vi (q + 1)]) dX12_comesUp_71 rfl (by decide) rfl rfl ?_
            refine go_goto (tgt := 2) dX12_comesUp_74 (by decide) ?_
            exact ih_2 (wr (wr m 216 (141 + p) (comeN (G (st + 6) p) (upP G d st p) q.toNat)) 216 (141 + p) (ior (comeN (G (st + 6) p) (upP G d st p) q.toNat) (ishl 1 q))) (q + 1) (by first | assumption | omega | rfl) (by first | assumption | omega | rfl) (by first | (rw [comeN_t hq0 (by unfold upP; exact decide_eq_true (by omega))]; exact wr_wr) | (rw [comeN_f hq0 (by unfold upP; exact decide_eq_false (by omega))])) (by omega)
  exact lp_2 _ m 0 (by first | assumption | omega | rfl) (by first | assumption | omega | rfl) (by rw [show comeN (G (st + 6) p) (upP G d st p) (0 : Int).toNat = m 216 (141 + p) from (hb.ca hp.1 hp.2).symm]; exact wr_id.symm) (Nat.lt_succ_self _)
theorem dX12_snap_0 : decode mX12_snap.2.1 0 = .ok (.aload_n 0, 1) := by decide +kernel
theorem dX12_snap_1 : decode mX12_snap.2.1 1 = .ok (.getfield 229, 3) := by decide +kernel
theorem dX12_snap_4 : decode mX12_snap.2.1 4 = .ok (.bipush 8, 2) := by decide +kernel
theorem dX12_snap_6 : decode mX12_snap.2.1 6 = .ok (.if_icmp .ne 43, 3) := by decide +kernel
theorem dX12_snap_9 : decode mX12_snap.2.1 9 = .ok (.iconst 0, 1) := by decide +kernel
theorem dX12_snap_10 : decode mX12_snap.2.1 10 = .ok (.istore_n 1, 1) := by decide +kernel
theorem dX12_snap_11 : decode mX12_snap.2.1 11 = .ok (.iload_n 1, 1) := by decide +kernel
theorem dX12_snap_12 : decode mX12_snap.2.1 12 = .ok (.sipush 763, 3) := by decide +kernel
theorem dX12_snap_15 : decode mX12_snap.2.1 15 = .ok (.if_icmp .ge 24, 3) := by decide +kernel
theorem dX12_snap_18 : decode mX12_snap.2.1 18 = .ok (.aload_n 0, 1) := by decide +kernel
theorem dX12_snap_19 : decode mX12_snap.2.1 19 = .ok (.getfield 107, 3) := by decide +kernel
theorem dX12_snap_22 : decode mX12_snap.2.1 22 = .ok (.iload_n 1, 1) := by decide +kernel
theorem dX12_snap_23 : decode mX12_snap.2.1 23 = .ok (.aload_n 0, 1) := by decide +kernel
theorem dX12_snap_24 : decode mX12_snap.2.1 24 = .ok (.getfield 107, 3) := by decide +kernel
theorem dX12_snap_27 : decode mX12_snap.2.1 27 = .ok (.iload_n 1, 1) := by decide +kernel
theorem dX12_snap_28 : decode mX12_snap.2.1 28 = .ok (.bipush 109, 2) := by decide +kernel
theorem dX12_snap_30 : decode mX12_snap.2.1 30 = .ok (.iadd, 1) := by decide +kernel
theorem dX12_snap_31 : decode mX12_snap.2.1 31 = .ok (.iaload, 1) := by decide +kernel
theorem dX12_snap_32 : decode mX12_snap.2.1 32 = .ok (.iastore, 1) := by decide +kernel
theorem dX12_snap_33 : decode mX12_snap.2.1 33 = .ok (.iinc 1 1, 3) := by decide +kernel
theorem dX12_snap_36 : decode mX12_snap.2.1 36 = .ok (.goto (-25), 3) := by decide +kernel
theorem dX12_snap_39 : decode mX12_snap.2.1 39 = .ok (.aload_n 0, 1) := by decide +kernel
theorem dX12_snap_40 : decode mX12_snap.2.1 40 = .ok (.dup, 1) := by decide +kernel
theorem dX12_snap_41 : decode mX12_snap.2.1 41 = .ok (.getfield 229, 3) := by decide +kernel
theorem dX12_snap_44 : decode mX12_snap.2.1 44 = .ok (.iconst 1, 1) := by decide +kernel
theorem dX12_snap_45 : decode mX12_snap.2.1 45 = .ok (.isub, 1) := by decide +kernel
theorem dX12_snap_46 : decode mX12_snap.2.1 46 = .ok (.putfield 229, 3) := by decide +kernel
theorem dX12_snap_49 : decode mX12_snap.2.1 49 = .ok (.iconst 0, 1) := by decide +kernel
theorem dX12_snap_50 : decode mX12_snap.2.1 50 = .ok (.istore_n 1, 1) := by decide +kernel
theorem dX12_snap_51 : decode mX12_snap.2.1 51 = .ok (.iload_n 1, 1) := by decide +kernel
theorem dX12_snap_52 : decode mX12_snap.2.1 52 = .ok (.bipush 109, 2) := by decide +kernel
theorem dX12_snap_54 : decode mX12_snap.2.1 54 = .ok (.if_icmp .ge 32, 3) := by decide +kernel
theorem dX12_snap_57 : decode mX12_snap.2.1 57 = .ok (.aload_n 0, 1) := by decide +kernel
theorem dX12_snap_58 : decode mX12_snap.2.1 58 = .ok (.getfield 107, 3) := by decide +kernel
theorem dX12_snap_61 : decode mX12_snap.2.1 61 = .ok (.bipush 109, 2) := by decide +kernel
theorem dX12_snap_63 : decode mX12_snap.2.1 63 = .ok (.aload_n 0, 1) := by decide +kernel
theorem dX12_snap_64 : decode mX12_snap.2.1 64 = .ok (.getfield 229, 3) := by decide +kernel
theorem dX12_snap_67 : decode mX12_snap.2.1 67 = .ok (.imul, 1) := by decide +kernel
theorem dX12_snap_68 : decode mX12_snap.2.1 68 = .ok (.iload_n 1, 1) := by decide +kernel
theorem dX12_snap_69 : decode mX12_snap.2.1 69 = .ok (.iadd, 1) := by decide +kernel
theorem dX12_snap_70 : decode mX12_snap.2.1 70 = .ok (.aload_n 0, 1) := by decide +kernel
theorem dX12_snap_71 : decode mX12_snap.2.1 71 = .ok (.getfield 98, 3) := by decide +kernel
theorem dX12_snap_74 : decode mX12_snap.2.1 74 = .ok (.bipush 123, 2) := by decide +kernel
theorem dX12_snap_76 : decode mX12_snap.2.1 76 = .ok (.iload_n 1, 1) := by decide +kernel
theorem dX12_snap_77 : decode mX12_snap.2.1 77 = .ok (.iadd, 1) := by decide +kernel
theorem dX12_snap_78 : decode mX12_snap.2.1 78 = .ok (.iaload, 1) := by decide +kernel
theorem dX12_snap_79 : decode mX12_snap.2.1 79 = .ok (.iastore, 1) := by decide +kernel
theorem dX12_snap_80 : decode mX12_snap.2.1 80 = .ok (.iinc 1 1, 3) := by decide +kernel
theorem dX12_snap_83 : decode mX12_snap.2.1 83 = .ok (.goto (-32), 3) := by decide +kernel
theorem dX12_snap_86 : decode mX12_snap.2.1 86 = .ok (.aload_n 0, 1) := by decide +kernel
theorem dX12_snap_87 : decode mX12_snap.2.1 87 = .ok (.dup, 1) := by decide +kernel
theorem dX12_snap_88 : decode mX12_snap.2.1 88 = .ok (.getfield 229, 3) := by decide +kernel
theorem dX12_snap_91 : decode mX12_snap.2.1 91 = .ok (.iconst 1, 1) := by decide +kernel
theorem dX12_snap_92 : decode mX12_snap.2.1 92 = .ok (.iadd, 1) := by decide +kernel
theorem dX12_snap_93 : decode mX12_snap.2.1 93 = .ok (.putfield 229, 3) := by decide +kernel
theorem dX12_snap_96 : decode mX12_snap.2.1 96 = .ok (.return_, 1) := by decide +kernel
set_option maxRecDepth 4000 in
theorem ev_X12_snap {m : Mem}  (hn : 0 ≤ m 214 25 ∧ m 214 25 ≤ 8) : Ev 0 1 mX12_snap [vr 214] m (fun r m' => SnP m m') := by
  refine Ev.of (L := [vr 214, un]) (by decide +kernel) rfl (Nat.le_of_ble_eq_true rfl) rfl (fun t ht => by cases ht) (fun hcan => ?_)
  refine go_aload_n dX12_snap_0 rfl ?_
  refine go_getf_i (ki := 25) dX12_snap_1 fl_12_229 ob_214 rfl rfl (fun hf_1 => ?_)
  refine go_bipush dX12_snap_4 (by decide) ?_
  have cut_49 : ∀ (m0 : Mem)  , (SnA m m0) → Go 0 1 mX12_snap (fun r m' => SnP m m') 49 [vr 214, un] [] m0 := by
    intro m0 hA
    refine go_iconst dX12_snap_49 ?_
    refine go_istore_n (L' := [vr 214, vi 0]) dX12_snap_50 (by decide) rfl rfl ?_
    have lp_51 : ∀ (n_51 : Nat) (m2 : Mem) (i : Int) , (0 ≤ i) → (i ≤ 109) → (m2 = mov m0 216 219 123 (109 * m0 214 25) i) → (109 - i).toNat < n_51 → Go 0 1 mX12_snap (fun r m' => SnP m m') 51 [vr 214, vi i] [] m2 := by
      intro n_51
      induction n_51 with
      | zero => intro m2 i hi0 hi1 hm hmu; exact absurd hmu (Nat.not_lt_zero _)
      | succ n_51 ih_51 =>
        intro m2 i hi0 hi1 hm hmu
        have e1 : m2 214 25 = m0 214 25 := by rw [hm, mov_row (by decide)]
        have e2 : m2 216 (123 + i) = m0 216 (123 + i) := by rw [hm, mov_row (by decide)]
        have hc3 := hA.2.2.1
        refine go_iload_n dX12_snap_51 rfl ?_
        refine go_bipush dX12_snap_52 (by decide) ?_
        refine go_icmp_ge (tgt := 86) dX12_snap_54 (by decide) ⟨by omega, by omega⟩ ⟨by omega, by omega⟩ (fun h_54 => ?_) (fun h_54 => ?_)
        · refine go_aload_n dX12_snap_86 rfl ?_
          refine go_dup_r dX12_snap_87 ?_
          refine go_getf_i (ki := 25) dX12_snap_88 fl_12_229 ob_214 rfl rfl (fun hf_88 => ?_)
          rw [show (m2 214 25 : Int) = (m0 214 25) from e1] at hf_88 ⊢
          refine go_iconst dX12_snap_91 ?_
          refine go_iadd dX12_snap_92 ?_
          refine go_putf_i (ki := 25) dX12_snap_93 fw_12_229 ob_214 rfl rfl ⟨by omega, by omega⟩ ?_
          exact go_ret (v := 0) rfl dX12_snap_96 rfl (by rw [hm, show i = 109 by omega]; exact hA.p)
        · refine go_aload_n dX12_snap_57 rfl ?_
          refine go_getf_p (b := 219) dX12_snap_58 fl_12_107 ob_214 rfl pt_214_17 ?_
          refine go_bipush dX12_snap_61 (by decide) ?_
          refine go_aload_n dX12_snap_63 rfl ?_
          refine go_getf_i (ki := 25) dX12_snap_64 fl_12_229 ob_214 rfl rfl (fun hf_64 => ?_)
          rw [show (m2 214 25 : Int) = (m0 214 25) from e1] at hf_64 ⊢
          refine go_imul dX12_snap_67 ?_
          refine go_iload_n dX12_snap_68 rfl ?_
          refine go_iadd dX12_snap_69 ?_
          refine go_aload_n dX12_snap_70 rfl ?_
          refine go_getf_p (b := 216) dX12_snap_71 fl_12_98 ob_214 rfl pt_214_14 ?_
          refine go_bipush dX12_snap_74 (by decide) ?_
          refine go_iload_n dX12_snap_76 rfl ?_
          refine go_iadd dX12_snap_77 ?_
          refine go_iaload dX12_snap_78 ar_216 (by omega) (by omega) (fun he_78 => ?_)
          rw [show (m2 216 (123 + i) : Int) = (m0 216 (123 + i)) from e2] at he_78 ⊢
          refine go_iastore dX12_snap_79 ar_219 (by omega) (by omega) ⟨by omega, by omega⟩ ?_
          refine go_iinc (L' := [vr 214, vi (i + 1)]) dX12_snap_80 rfl (by decide) rfl rfl ?_
          refine go_goto (tgt := 51) dX12_snap_83 (by decide) ?_
          exact ih_51 (wr m2 219 ((109 * (m0 214 25)) + i) (m0 216 (123 + i))) (i + 1) (by first | assumption | omega | rfl) (by first | assumption | omega | rfl) (by rw [hm]; exact mov_s hi0) (by omega)
    exact lp_51 _ m0 0 (by first | assumption | omega | rfl) (by first | assumption | omega | rfl) (mov_0 m0 216 219 123 (109 * m0 214 25)).symm (Nat.lt_succ_self _)
  refine go_icmp_ne (tgt := 49) dX12_snap_6 (by decide) ⟨by omega, by omega⟩ ⟨by omega, by omega⟩ (fun h_6 => ?_) (fun h_6 => ?_)
  · exact cut_49 m (by first | exact SnA.a (by omega) | (rw [hm, show i = 763 by omega]; exact SnA.b (by omega)))
  · refine go_iconst dX12_snap_9 ?_
    refine go_istore_n (L' := [vr 214, vi 0]) dX12_snap_10 (by decide) rfl rfl ?_
    have lp_11 : ∀ (n_11 : Nat) (m1 : Mem) (i : Int) , (0 ≤ i) → (i ≤ 763) → (m1 = shl m i) → (763 - i).toNat < n_11 → Go 0 1 mX12_snap (fun r m' => SnP m m') 11 [vr 214, vi i] [] m1 := by
      intro n_11
      induction n_11 with
      | zero => intro m1 i hi0 hi1 hm hmu; exact absurd hmu (Nat.not_lt_zero _)
      | succ n_11 ih_11 =>
        intro m1 i hi0 hi1 hm hmu
        have e1 : m1 219 (i + 109) = m 219 (i + 109) := by rw [hm]; unfold shl; rw [if_neg (by omega)]
        have e2 : m1 214 25 = 8 := by rw [hm]; unfold shl; rw [if_neg (by omega)]; omega
        refine go_iload_n dX12_snap_11 rfl ?_
        refine go_sipush dX12_snap_12 (by decide) ?_
        refine go_icmp_ge (tgt := 39) dX12_snap_15 (by decide) ⟨by omega, by omega⟩ ⟨by omega, by omega⟩ (fun h_15 => ?_) (fun h_15 => ?_)
        · refine go_aload_n dX12_snap_39 rfl ?_
          refine go_dup_r dX12_snap_40 ?_
          refine go_getf_i (ki := 25) dX12_snap_41 fl_12_229 ob_214 rfl rfl (fun hf_41 => ?_)
          rw [show (m1 214 25 : Int) = 8 from e2] at hf_41 ⊢
          refine go_iconst dX12_snap_44 ?_
          refine go_isub dX12_snap_45 ?_
          refine go_putf_i (ki := 25) dX12_snap_46 fw_12_229 ob_214 rfl rfl ⟨by omega, by omega⟩ ?_
          refine go_drop (j := 1) (L' := [vr 214, un]) rfl ?_
          exact cut_49 (wr m1 214 25 (8 - 1)) (by first | exact SnA.a (by omega) | (rw [hm, show i = 763 by omega]; exact SnA.b (by omega)))
        · refine go_aload_n dX12_snap_18 rfl ?_
          refine go_getf_p (b := 219) dX12_snap_19 fl_12_107 ob_214 rfl pt_214_17 ?_
          refine go_iload_n dX12_snap_22 rfl ?_
          refine go_aload_n dX12_snap_23 rfl ?_
          refine go_getf_p (b := 219) dX12_snap_24 fl_12_107 ob_214 rfl pt_214_17 ?_
          refine go_iload_n dX12_snap_27 rfl ?_
          refine go_bipush dX12_snap_28 (by decide) ?_
          refine go_iadd dX12_snap_30 ?_
          refine go_iaload dX12_snap_31 ar_219 (by omega) (by omega) (fun he_31 => ?_)
          rw [show (m1 219 (i + 109) : Int) = (m 219 (i + 109)) from e1] at he_31 ⊢
          refine go_iastore dX12_snap_32 ar_219 (by omega) (by omega) ⟨by omega, by omega⟩ ?_
          refine go_iinc (L' := [vr 214, vi (i + 1)]) dX12_snap_33 rfl (by decide) rfl rfl ?_
          refine go_goto (tgt := 11) dX12_snap_36 (by decide) ?_
          exact ih_11 (wr m1 219 i (m 219 (i + 109))) (i + 1) (by first | assumption | omega | rfl) (by first | assumption | omega | rfl) (by rw [hm]; exact shl_s hi0) (by omega)
    exact lp_11 _ m 0 (by first | assumption | omega | rfl) (by first | assumption | omega | rfl) (shl_0 m).symm (Nat.lt_succ_self _)
theorem dX12_whyKick_0 : decode mX12_whyKick.2.1 0 = .ok (.aload_n 0, 1) := by decide +kernel
theorem dX12_whyKick_1 : decode mX12_whyKick.2.1 1 = .ok (.aload_n 0, 1) := by decide +kernel
theorem dX12_whyKick_2 : decode mX12_whyKick.2.1 2 = .ok (.getfield 98, 3) := by decide +kernel
theorem dX12_whyKick_5 : decode mX12_whyKick.2.1 5 = .ok (.bipush 126, 2) := by decide +kernel
theorem dX12_whyKick_7 : decode mX12_whyKick.2.1 7 = .ok (.iload_n 1, 1) := by decide +kernel
theorem dX12_whyKick_8 : decode mX12_whyKick.2.1 8 = .ok (.iadd, 1) := by decide +kernel
theorem dX12_whyKick_9 : decode mX12_whyKick.2.1 9 = .ok (.iaload, 1) := by decide +kernel
theorem dX12_whyKick_10 : decode mX12_whyKick.2.1 10 = .ok (.iload_n 2, 1) := by decide +kernel
theorem dX12_whyKick_11 : decode mX12_whyKick.2.1 11 = .ok (.iconst 1, 1) := by decide +kernel
theorem dX12_whyKick_12 : decode mX12_whyKick.2.1 12 = .ok (.invokevirtual 235, 3) := by decide +kernel
theorem dX12_whyKick_15 : decode mX12_whyKick.2.1 15 = .ok (.istore_n 3, 1) := by decide +kernel
theorem dX12_whyKick_16 : decode mX12_whyKick.2.1 16 = .ok (.aload_n 0, 1) := by decide +kernel
theorem dX12_whyKick_17 : decode mX12_whyKick.2.1 17 = .ok (.getfield 98, 3) := by decide +kernel
theorem dX12_whyKick_20 : decode mX12_whyKick.2.1 20 = .ok (.sipush 136, 3) := by decide +kernel
theorem dX12_whyKick_23 : decode mX12_whyKick.2.1 23 = .ok (.iload_n 1, 1) := by decide +kernel
theorem dX12_whyKick_24 : decode mX12_whyKick.2.1 24 = .ok (.iadd, 1) := by decide +kernel
theorem dX12_whyKick_25 : decode mX12_whyKick.2.1 25 = .ok (.iaload, 1) := by decide +kernel
theorem dX12_whyKick_26 : decode mX12_whyKick.2.1 26 = .ok (.ifCond .ne 7, 3) := by decide +kernel
theorem dX12_whyKick_29 : decode mX12_whyKick.2.1 29 = .ok (.iconst 1, 1) := by decide +kernel
theorem dX12_whyKick_30 : decode mX12_whyKick.2.1 30 = .ok (.goto 26, 3) := by decide +kernel
theorem dX12_whyKick_33 : decode mX12_whyKick.2.1 33 = .ok (.iload_n 3, 1) := by decide +kernel
theorem dX12_whyKick_34 : decode mX12_whyKick.2.1 34 = .ok (.iconst (-1), 1) := by decide +kernel
theorem dX12_whyKick_35 : decode mX12_whyKick.2.1 35 = .ok (.if_icmp .eq 16, 3) := by decide +kernel
theorem dX12_whyKick_38 : decode mX12_whyKick.2.1 38 = .ok (.aload_n 0, 1) := by decide +kernel
theorem dX12_whyKick_39 : decode mX12_whyKick.2.1 39 = .ok (.getfield 98, 3) := by decide +kernel
theorem dX12_whyKick_42 : decode mX12_whyKick.2.1 42 = .ok (.sipush 151, 3) := by decide +kernel
theorem dX12_whyKick_45 : decode mX12_whyKick.2.1 45 = .ok (.iload_n 3, 1) := by decide +kernel
theorem dX12_whyKick_46 : decode mX12_whyKick.2.1 46 = .ok (.iadd, 1) := by decide +kernel
theorem dX12_whyKick_47 : decode mX12_whyKick.2.1 47 = .ok (.iaload, 1) := by decide +kernel
theorem dX12_whyKick_48 : decode mX12_whyKick.2.1 48 = .ok (.ifCond .ne 7, 3) := by decide +kernel
theorem dX12_whyKick_51 : decode mX12_whyKick.2.1 51 = .ok (.iconst 2, 1) := by decide +kernel
theorem dX12_whyKick_52 : decode mX12_whyKick.2.1 52 = .ok (.goto 4, 3) := by decide +kernel
theorem dX12_whyKick_55 : decode mX12_whyKick.2.1 55 = .ok (.iconst 0, 1) := by decide +kernel
theorem dX12_whyKick_56 : decode mX12_whyKick.2.1 56 = .ok (.ireturn, 1) := by decide +kernel
set_option maxRecDepth 4000 in
theorem ev_X12_whyKick {m : Mem} {G : Mem} {d : Nat} {st : Nat} {B : Int} {p : Int} {s : Int} (hb : Bg G d st (m 216)) (hdn : DnOk G d) (hst : StOk G d st B) (hp : 0 ≤ p ∧ p < G d 3) (hs : 0 ≤ s ∧ s < 4) : Ev 0 4 mX12_whyKick [vr 214, vi p, vi s] m (fun r m' => m' = m ∧ (r = whyKickC G d st p s)) := by
  refine Ev.of (L := [vr 214, vi p, vi s, un]) (by decide +kernel) rfl (Nat.le_of_ble_eq_true rfl) rfl (fun t ht => by cases ht; first | exact Or.inl rfl | exact Or.inr (Or.inl rfl) | exact Or.inr (Or.inr rfl)) (fun hcan => ?_)
  obtain ⟨⟨hd0, hd1⟩, ⟨hd2, hd3⟩, ⟨hd4, hd5⟩, ⟨hd6, hd7⟩, ⟨hd8, hd9⟩, hdf, hdp, hdq⟩ := id hdn
  obtain ⟨⟨hs0, hs1⟩, ⟨hs2, hs3⟩, hsw, hsp, hsd, hsz⟩ := id hst
  have hpp := hsp p hp.1 hp.2
  obtain ⟨X, hX⟩ : ∃ z, z = G (st + 2) p + dx s := ⟨_, rfl⟩
  obtain ⟨Y, hY⟩ : ∃ z, z = G (st + 3) p + dy s := ⟨_, rfl⟩
  refine go_aload_n dX12_whyKick_0 rfl ?_
  refine go_aload_n dX12_whyKick_1 rfl ?_
  refine go_getf_p (b := 216) dX12_whyKick_2 fl_12_98 ob_214 rfl pt_214_14 ?_
  refine go_bipush dX12_whyKick_5 (by decide) ?_
  refine go_iload_n dX12_whyKick_7 rfl ?_
  refine go_iadd dX12_whyKick_8 ?_
  refine go_iaload dX12_whyKick_9 ar_216 (by omega) (by omega) (fun he_9 => ?_)
  rw [show (m 216 (126 + p) : Int) = (9 * G (st + 3) p + G (st + 2) p) from (hb.at (p := p) (by omega) (by omega))] at he_9 ⊢
  refine go_iload_n dX12_whyKick_10 rfl ?_
  refine go_iconst dX12_whyKick_11 ?_
  refine go_callVp_i (as := [vi (9 * G (st + 3) p + G (st + 2) p), vi s, vi 1]) (S := []) (b := 214) (ev_X12_cellOn (m := m) (c := (9 * G (st + 3) p + G (st + 2) p)) (s := s) (n := 1) (G := G) (d := d) (st := st) (x := (G (st + 2) p)) (y := (G (st + 3) p)) (by first | exact hb | exact hb.w (by decide) | exact (hb.w (by decide)).w (by decide)) (by first | assumption | omega | exact ⟨by omega, by omega⟩ | (constructor <;> omega)) rfl (by first | assumption | omega | exact ⟨by omega, by omega⟩ | (constructor <;> omega)) (by first | assumption | omega | exact ⟨by omega, by omega⟩ | (constructor <;> omega)) (by first | assumption | omega | exact ⟨by omega, by omega⟩ | (constructor <;> omega))) rfl dX12_whyKick_12 cv_12_235 rfl rfl ob_214 rfl (by decide) (Nat.le_of_ble_eq_true rfl) (fun r_12 hr_12 ho_12 => ?_)
  rw [Int.one_mul, Int.one_mul, ← hX, ← hY] at hr_12
  have hk : (insC G d X Y ∧ r_12 = 9 * Y + X ∧ wallC G d st X Y = G (st + 1) r_12) ∨ (¬ insC G d X Y ∧ r_12 = -1 ∧ wallC G d st X Y = 0) := by
    unfold wallC
    by_cases q : insC G d X Y
    · rw [if_pos q] at hr_12 ⊢; left; exact ⟨q, hr_12, by rw [hr_12]⟩
    · rw [if_neg q] at hr_12 ⊢; right; exact ⟨q, hr_12, rfl⟩
  have hww := hsw r_12
  refine go_istore_n (L' := [vr 214, vi p, vi s, vi r_12]) dX12_whyKick_15 (by decide) rfl rfl ?_
  refine go_aload_n dX12_whyKick_16 rfl ?_
  refine go_getf_p (b := 216) dX12_whyKick_17 fl_12_98 ob_214 rfl pt_214_14 ?_
  refine go_sipush dX12_whyKick_20 (by decide) ?_
  refine go_iload_n dX12_whyKick_23 rfl ?_
  refine go_iadd dX12_whyKick_24 ?_
  refine go_iaload dX12_whyKick_25 ar_216 (by omega) (by omega) (fun he_25 => ?_)
  rw [show (m 216 (136 + p) : Int) = (G (st + 5) p) from (hb.br (p := p) (by omega) (by omega))] at he_25 ⊢
  refine go_if_ne (tgt := 33) dX12_whyKick_26 (by decide) ⟨by omega, by omega⟩ (fun h_26 => ?_) (fun h_26 => ?_)
  · refine go_iload_n dX12_whyKick_33 rfl ?_
    refine go_iconst dX12_whyKick_34 ?_
    refine go_icmp_eq (tgt := 51) dX12_whyKick_35 (by decide) ⟨by omega, by omega⟩ ⟨by omega, by omega⟩ (fun h_35 => ?_) (fun h_35 => ?_)
    · refine go_iconst dX12_whyKick_51 ?_
      refine go_goto (tgt := 56) dX12_whyKick_52 (by decide) ?_
      exact go_ret (v := 2) rfl dX12_whyKick_56 (okI ⟨by omega, by omega⟩) ⟨rfl, (by unfold whyKickC; rw [← hX, ← hY]; omega)⟩
    · refine go_aload_n dX12_whyKick_38 rfl ?_
      refine go_getf_p (b := 216) dX12_whyKick_39 fl_12_98 ob_214 rfl pt_214_14 ?_
      refine go_sipush dX12_whyKick_42 (by decide) ?_
      refine go_iload_n dX12_whyKick_45 rfl ?_
      refine go_iadd dX12_whyKick_46 ?_
      refine go_iaload dX12_whyKick_47 ar_216 (by omega) (by omega) (fun he_47 => ?_)
      rw [show (m 216 (151 + r_12) : Int) = (G (st + 1) r_12) from (hb.wl (c := r_12) (by omega) (by omega))] at he_47 ⊢
      refine go_if_ne (tgt := 55) dX12_whyKick_48 (by decide) ⟨by omega, by omega⟩ (fun h_48 => ?_) (fun h_48 => ?_)
      · refine go_iconst dX12_whyKick_55 ?_
        exact go_ret (v := 0) rfl dX12_whyKick_56 (okI ⟨by omega, by omega⟩) ⟨rfl, (by unfold whyKickC; rw [← hX, ← hY]; omega)⟩
      · refine go_iconst dX12_whyKick_51 ?_
        refine go_goto (tgt := 56) dX12_whyKick_52 (by decide) ?_
        exact go_ret (v := 2) rfl dX12_whyKick_56 (okI ⟨by omega, by omega⟩) ⟨rfl, (by unfold whyKickC; rw [← hX, ← hY]; omega)⟩
  · refine go_iconst dX12_whyKick_29 ?_
    refine go_goto (tgt := 56) dX12_whyKick_30 (by decide) ?_
    exact go_ret (v := 1) rfl dX12_whyKick_56 (okI ⟨by omega, by omega⟩) ⟨rfl, (by unfold whyKickC; rw [← hX, ← hY]; omega)⟩
theorem dX12_why_0 : decode mX12_why.2.1 0 = .ok (.iload_n 1, 1) := by decide +kernel
theorem dX12_why_1 : decode mX12_why.2.1 1 = .ok (.lookupswitch 75 #[(0, 27), (1, 67)], 27) := by decide +kernel
theorem dX12_why_28 : decode mX12_why.2.1 28 = .ok (.aload_n 0, 1) := by decide +kernel
theorem dX12_why_29 : decode mX12_why.2.1 29 = .ok (.getfield 98, 3) := by decide +kernel
theorem dX12_why_32 : decode mX12_why.2.1 32 = .ok (.sipush 136, 3) := by decide +kernel
theorem dX12_why_35 : decode mX12_why.2.1 35 = .ok (.iload_n 2, 1) := by decide +kernel
theorem dX12_why_36 : decode mX12_why.2.1 36 = .ok (.iadd, 1) := by decide +kernel
theorem dX12_why_37 : decode mX12_why.2.1 37 = .ok (.iaload, 1) := by decide +kernel
theorem dX12_why_38 : decode mX12_why.2.1 38 = .ok (.aload_n 0, 1) := by decide +kernel
theorem dX12_why_39 : decode mX12_why.2.1 39 = .ok (.iload_n 3, 1) := by decide +kernel
theorem dX12_why_40 : decode mX12_why.2.1 40 = .ok (.invokevirtual 254, 3) := by decide +kernel
theorem dX12_why_43 : decode mX12_why.2.1 43 = .ok (.if_icmp .ge 7, 3) := by decide +kernel
theorem dX12_why_46 : decode mX12_why.2.1 46 = .ok (.iconst 1, 1) := by decide +kernel
theorem dX12_why_47 : decode mX12_why.2.1 47 = .ok (.goto 20, 3) := by decide +kernel
theorem dX12_why_50 : decode mX12_why.2.1 50 = .ok (.aload_n 0, 1) := by decide +kernel
theorem dX12_why_51 : decode mX12_why.2.1 51 = .ok (.aload_n 0, 1) := by decide +kernel
theorem dX12_why_52 : decode mX12_why.2.1 52 = .ok (.getfield 98, 3) := by decide +kernel
theorem dX12_why_55 : decode mX12_why.2.1 55 = .ok (.bipush 126, 2) := by decide +kernel
theorem dX12_why_57 : decode mX12_why.2.1 57 = .ok (.iload_n 2, 1) := by decide +kernel
theorem dX12_why_58 : decode mX12_why.2.1 58 = .ok (.iadd, 1) := by decide +kernel
theorem dX12_why_59 : decode mX12_why.2.1 59 = .ok (.iaload, 1) := by decide +kernel
theorem dX12_why_60 : decode mX12_why.2.1 60 = .ok (.iload_n 3, 1) := by decide +kernel
theorem dX12_why_61 : decode mX12_why.2.1 61 = .ok (.iload 4, 2) := by decide +kernel
theorem dX12_why_63 : decode mX12_why.2.1 63 = .ok (.iconst 0, 1) := by decide +kernel
theorem dX12_why_64 : decode mX12_why.2.1 64 = .ok (.invokevirtual 270, 3) := by decide +kernel
theorem dX12_why_67 : decode mX12_why.2.1 67 = .ok (.ireturn, 1) := by decide +kernel
theorem dX12_why_68 : decode mX12_why.2.1 68 = .ok (.aload_n 0, 1) := by decide +kernel
theorem dX12_why_69 : decode mX12_why.2.1 69 = .ok (.iload_n 2, 1) := by decide +kernel
theorem dX12_why_70 : decode mX12_why.2.1 70 = .ok (.iload 4, 2) := by decide +kernel
theorem dX12_why_72 : decode mX12_why.2.1 72 = .ok (.invokevirtual 274, 3) := by decide +kernel
theorem dX12_why_75 : decode mX12_why.2.1 75 = .ok (.ireturn, 1) := by decide +kernel
theorem dX12_why_76 : decode mX12_why.2.1 76 = .ok (.aload_n 0, 1) := by decide +kernel
theorem dX12_why_77 : decode mX12_why.2.1 77 = .ok (.getfield 98, 3) := by decide +kernel
theorem dX12_why_80 : decode mX12_why.2.1 80 = .ok (.sipush 136, 3) := by decide +kernel
theorem dX12_why_83 : decode mX12_why.2.1 83 = .ok (.iload_n 2, 1) := by decide +kernel
theorem dX12_why_84 : decode mX12_why.2.1 84 = .ok (.iadd, 1) := by decide +kernel
theorem dX12_why_85 : decode mX12_why.2.1 85 = .ok (.iaload, 1) := by decide +kernel
theorem dX12_why_86 : decode mX12_why.2.1 86 = .ok (.aload_n 0, 1) := by decide +kernel
theorem dX12_why_87 : decode mX12_why.2.1 87 = .ok (.getfield 98, 3) := by decide +kernel
theorem dX12_why_90 : decode mX12_why.2.1 90 = .ok (.bipush 27, 2) := by decide +kernel
theorem dX12_why_92 : decode mX12_why.2.1 92 = .ok (.iload_n 2, 1) := by decide +kernel
theorem dX12_why_93 : decode mX12_why.2.1 93 = .ok (.iadd, 1) := by decide +kernel
theorem dX12_why_94 : decode mX12_why.2.1 94 = .ok (.iaload, 1) := by decide +kernel
theorem dX12_why_95 : decode mX12_why.2.1 95 = .ok (.if_icmp .ne 7, 3) := by decide +kernel
theorem dX12_why_98 : decode mX12_why.2.1 98 = .ok (.iconst 1, 1) := by decide +kernel
theorem dX12_why_99 : decode mX12_why.2.1 99 = .ok (.goto 4, 3) := by decide +kernel
theorem dX12_why_102 : decode mX12_why.2.1 102 = .ok (.iconst 0, 1) := by decide +kernel
theorem dX12_why_103 : decode mX12_why.2.1 103 = .ok (.ireturn, 1) := by decide +kernel
set_option maxRecDepth 4000 in
theorem ev_X12_why {m : Mem} {G : Mem} {d : Nat} {st : Nat} {B : Int} {w : Int} {p : Int} {f : Int} {s : Int} (hb : Bg G d st (m 216)) (hdn : DnOk G d) (hst : StOk G d st B) (hp : 0 ≤ p ∧ p < G d 3) (hx : w = 0 → 0 ≤ f ∧ f < G d 2) (hs : w = 0 ∨ w = 1 → 0 ≤ s ∧ s < 4) (hw : InR w) : Ev 0 5 mX12_why [vr 214, vi w, vi p, vi f, vi s] m (fun r m' => m' = m ∧ (r = whyG G d st w p f s)) := by
  refine Ev.of (L := [vr 214, vi w, vi p, vi f, vi s]) (by decide +kernel) rfl (Nat.le_of_ble_eq_true rfl) rfl (fun t ht => by cases ht; first | exact Or.inl rfl | exact Or.inr (Or.inl rfl) | exact Or.inr (Or.inr rfl)) (fun hcan => ?_)
  obtain ⟨⟨hd0, hd1⟩, ⟨hd2, hd3⟩, ⟨hd4, hd5⟩, ⟨hd6, hd7⟩, ⟨hd8, hd9⟩, hdf, hdp, hdq⟩ := id hdn
  obtain ⟨⟨hs0, hs1⟩, ⟨hs2, hs3⟩, hsw, hsp, hsd, hsz⟩ := id hst
  have hpp := hsp p hp.1 hp.2
  have hpd := hdp p hp.1 hp.2
  refine go_iload_n dX12_why_0 rfl ?_
  by_cases hk_1_0 : w = 0
  · refine go_lswitch (off := 27) (tgt := 28) dX12_why_1 ⟨by omega, by omega⟩ (by decide) (by rw [hk_1_0] <;> rfl) (by decide) ?_
    have hfx := hx hk_1_0
    have hff := hdf f hfx.1 hfx.2
    refine go_aload_n dX12_why_28 rfl ?_
    refine go_getf_p (b := 216) dX12_why_29 fl_12_98 ob_214 rfl pt_214_14 ?_
    refine go_sipush dX12_why_32 (by decide) ?_
    refine go_iload_n dX12_why_35 rfl ?_
    refine go_iadd dX12_why_36 ?_
    refine go_iaload dX12_why_37 ar_216 (by omega) (by omega) (fun he_37 => ?_)
    rw [show (m 216 (136 + p) : Int) = (G (st + 5) p) from (hb.br (p := p) (by omega) (by omega))] at he_37 ⊢
    refine go_aload_n dX12_why_38 rfl ?_
    refine go_iload_n dX12_why_39 rfl ?_
    refine go_callVp_i (as := [vi f]) (S := [vi (G (st + 5) p)]) (b := 214) (ev_X12_costOf (m := m) (f := f) (G := G) (d := d) (st := st) (by first | exact hb | exact hb.w (by decide) | exact (hb.w (by decide)).w (by decide)) (by first | assumption | omega | exact ⟨by omega, by omega⟩ | (constructor <;> omega)) (hx hk_1_0)) rfl dX12_why_40 cv_12_254 rfl rfl ob_214 rfl (by decide) (Nat.le_of_ble_eq_true rfl) (fun r_40 hr_40 ho_40 => ?_)
    have hcc : 1 ≤ costC G d f ∧ costC G d f ≤ 12 := by unfold costC; omega
    refine go_icmp_ge (tgt := 50) dX12_why_43 (by decide) ⟨by omega, by omega⟩ ⟨by omega, by omega⟩ (fun h_43 => ?_) (fun h_43 => ?_)
    · refine go_aload_n dX12_why_50 rfl ?_
      refine go_aload_n dX12_why_51 rfl ?_
      refine go_getf_p (b := 216) dX12_why_52 fl_12_98 ob_214 rfl pt_214_14 ?_
      refine go_bipush dX12_why_55 (by decide) ?_
      refine go_iload_n dX12_why_57 rfl ?_
      refine go_iadd dX12_why_58 ?_
      refine go_iaload dX12_why_59 ar_216 (by omega) (by omega) (fun he_59 => ?_)
      rw [show (m 216 (126 + p) : Int) = (9 * G (st + 3) p + G (st + 2) p) from (hb.at (p := p) (by omega) (by omega))] at he_59 ⊢
      refine go_iload_n dX12_why_60 rfl ?_
      refine go_iload dX12_why_61 rfl ?_
      refine go_iconst dX12_why_63 ?_
      refine go_callVp_i (as := [vi (9 * G (st + 3) p + G (st + 2) p), vi f, vi s, vi 0]) (S := []) (b := 214) (ev_X12_onWay (m := m) (c := (9 * G (st + 3) p + G (st + 2) p)) (f := f) (s := s) (but := 0) (G := G) (d := d) (st := st) (B := B) (x := (G (st + 2) p)) (y := (G (st + 3) p)) (by first | exact hb | exact hb.w (by decide) | exact (hb.w (by decide)).w (by decide)) (by first | assumption | omega | exact ⟨by omega, by omega⟩ | (constructor <;> omega)) (by first | assumption | omega | exact ⟨by omega, by omega⟩ | (constructor <;> omega)) rfl (by first | assumption | omega | exact ⟨by omega, by omega⟩ | (constructor <;> omega)) (hx hk_1_0) (hs (Or.inl hk_1_0))) rfl dX12_why_64 cv_12_270 rfl rfl ob_214 rfl (by decide) (Nat.le_of_ble_eq_true rfl) (fun r_64 hr_64 ho_64 => ?_)
      exact go_ret (v := r_64) rfl dX12_why_67 (okI (by first | exact ⟨by omega, by omega⟩ | (have := lwP_b G d st 0 (G (st + 2) p) (G (st + 3) p) (dx s) (dy s) (G (d + 3) f).toNat; exact ⟨by omega, by omega⟩))) ⟨rfl, (by unfold whyG whySayC; rw [if_pos hk_1_0]; first | (rw [if_pos (by omega)]) | (rw [if_neg (by omega), hr_64, lwP_0 hd7]))⟩
    · refine go_iconst dX12_why_46 ?_
      refine go_goto (tgt := 67) dX12_why_47 (by decide) ?_
      exact go_ret (v := 1) rfl dX12_why_67 (okI (by first | exact ⟨by omega, by omega⟩ | (have := lwP_b G d st 0 (G (st + 2) p) (G (st + 3) p) (dx s) (dy s) (G (d + 3) f).toNat; exact ⟨by omega, by omega⟩))) ⟨rfl, (by unfold whyG whySayC; rw [if_pos hk_1_0]; first | (rw [if_pos (by omega)]) | (rw [if_neg (by omega), hr_64, lwP_0 hd7]))⟩
  · skip
    by_cases hk_1_1 : w = 1
    · refine go_lswitch (off := 67) (tgt := 68) dX12_why_1 ⟨by omega, by omega⟩ (by decide) (by rw [hk_1_1] <;> rfl) (by decide) ?_
      refine go_aload_n dX12_why_68 rfl ?_
      refine go_iload_n dX12_why_69 rfl ?_
      refine go_iload dX12_why_70 rfl ?_
      refine go_callVp_i (as := [vi p, vi s]) (S := []) (b := 214) (ev_X12_whyKick (m := m) (p := p) (s := s) (G := G) (d := d) (st := st) (B := B) (by first | exact hb | exact hb.w (by decide) | exact (hb.w (by decide)).w (by decide)) (by first | assumption | omega | exact ⟨by omega, by omega⟩ | (constructor <;> omega)) (by first | assumption | omega | exact ⟨by omega, by omega⟩ | (constructor <;> omega)) (by first | assumption | omega | exact ⟨by omega, by omega⟩ | (constructor <;> omega)) (hs (Or.inr hk_1_1))) rfl dX12_why_72 cv_12_274 rfl rfl ob_214 rfl (by decide) (Nat.le_of_ble_eq_true rfl) (fun r_72 hr_72 ho_72 => ?_)
      exact go_ret (v := r_72) rfl dX12_why_75 (okI (by have hz : r_72 = whyKickC G d st p s := hr_72; unfold whyKickC at hz; exact ⟨by omega, by omega⟩)) ⟨rfl, (by unfold whyG; rw [if_neg hk_1_0, if_pos hk_1_1]; exact hr_72)⟩
    · skip
      refine go_lswitch (off := 75) (tgt := 76) dX12_why_1 ⟨by omega, by omega⟩ (by decide) (by simp [Op.lookupswitch.offset, hk_1_0, show ¬ (0 : Int) = w from fun z => hk_1_0 z.symm, hk_1_1, show ¬ (1 : Int) = w from fun z => hk_1_1 z.symm]) (by decide) ?_
      refine go_aload_n dX12_why_76 rfl ?_
      refine go_getf_p (b := 216) dX12_why_77 fl_12_98 ob_214 rfl pt_214_14 ?_
      refine go_sipush dX12_why_80 (by decide) ?_
      refine go_iload_n dX12_why_83 rfl ?_
      refine go_iadd dX12_why_84 ?_
      refine go_iaload dX12_why_85 ar_216 (by omega) (by omega) (fun he_85 => ?_)
      rw [show (m 216 (136 + p) : Int) = (G (st + 5) p) from (hb.br (p := p) (by omega) (by omega))] at he_85 ⊢
      refine go_aload_n dX12_why_86 rfl ?_
      refine go_getf_p (b := 216) dX12_why_87 fl_12_98 ob_214 rfl pt_214_14 ?_
      refine go_bipush dX12_why_90 (by decide) ?_
      refine go_iload_n dX12_why_92 rfl ?_
      refine go_iadd dX12_why_93 ?_
      refine go_iaload dX12_why_94 ar_216 (by omega) (by omega) (fun he_94 => ?_)
      rw [show (m 216 (27 + p) : Int) = (G (d + 5) p) from (hb.mo (p := p) (by omega) (by omega))] at he_94 ⊢
      refine go_icmp_ne (tgt := 102) dX12_why_95 (by decide) ⟨by omega, by omega⟩ ⟨by omega, by omega⟩ (fun h_95 => ?_) (fun h_95 => ?_)
      · refine go_iconst dX12_why_102 ?_
        exact go_ret (v := 0) rfl dX12_why_103 (okI ⟨by omega, by omega⟩) ⟨rfl, (by unfold whyG; rw [if_neg hk_1_0, if_neg hk_1_1]; first | rw [if_pos (by omega)] | rw [if_neg (by omega)])⟩
      · refine go_iconst dX12_why_98 ?_
        refine go_goto (tgt := 103) dX12_why_99 (by decide) ?_
        exact go_ret (v := 1) rfl dX12_why_103 (okI ⟨by omega, by omega⟩) ⟨rfl, (by unfold whyG; rw [if_neg hk_1_0, if_neg hk_1_1]; first | rw [if_pos (by omega)] | rw [if_neg (by omega)])⟩
theorem dX12_live_0 : decode mX12_live.2.1 0 = .ok (.iload_n 1, 1) := by decide +kernel
theorem dX12_live_1 : decode mX12_live.2.1 1 = .ok (.lookupswitch 195 #[(0, 27), (1, 140)], 27) := by decide +kernel
theorem dX12_live_28 : decode mX12_live.2.1 28 = .ok (.aload_n 0, 1) := by decide +kernel
theorem dX12_live_29 : decode mX12_live.2.1 29 = .ok (.getfield 98, 3) := by decide +kernel
theorem dX12_live_32 : decode mX12_live.2.1 32 = .ok (.bipush 126, 2) := by decide +kernel
theorem dX12_live_34 : decode mX12_live.2.1 34 = .ok (.iload_n 2, 1) := by decide +kernel
theorem dX12_live_35 : decode mX12_live.2.1 35 = .ok (.iadd, 1) := by decide +kernel
theorem dX12_live_36 : decode mX12_live.2.1 36 = .ok (.aload_n 0, 1) := by decide +kernel
theorem dX12_live_37 : decode mX12_live.2.1 37 = .ok (.aload_n 0, 1) := by decide +kernel
theorem dX12_live_38 : decode mX12_live.2.1 38 = .ok (.getfield 98, 3) := by decide +kernel
theorem dX12_live_41 : decode mX12_live.2.1 41 = .ok (.bipush 126, 2) := by decide +kernel
theorem dX12_live_43 : decode mX12_live.2.1 43 = .ok (.iload_n 2, 1) := by decide +kernel
theorem dX12_live_44 : decode mX12_live.2.1 44 = .ok (.iadd, 1) := by decide +kernel
theorem dX12_live_45 : decode mX12_live.2.1 45 = .ok (.iaload, 1) := by decide +kernel
theorem dX12_live_46 : decode mX12_live.2.1 46 = .ok (.iload 4, 2) := by decide +kernel
theorem dX12_live_48 : decode mX12_live.2.1 48 = .ok (.aload_n 0, 1) := by decide +kernel
theorem dX12_live_49 : decode mX12_live.2.1 49 = .ok (.getfield 98, 3) := by decide +kernel
theorem dX12_live_52 : decode mX12_live.2.1 52 = .ok (.bipush 11, 2) := by decide +kernel
theorem dX12_live_54 : decode mX12_live.2.1 54 = .ok (.iload_n 3, 1) := by decide +kernel
theorem dX12_live_55 : decode mX12_live.2.1 55 = .ok (.iadd, 1) := by decide +kernel
theorem dX12_live_56 : decode mX12_live.2.1 56 = .ok (.iaload, 1) := by decide +kernel
theorem dX12_live_57 : decode mX12_live.2.1 57 = .ok (.invokevirtual 235, 3) := by decide +kernel
theorem dX12_live_60 : decode mX12_live.2.1 60 = .ok (.iastore, 1) := by decide +kernel
theorem dX12_live_61 : decode mX12_live.2.1 61 = .ok (.aload_n 0, 1) := by decide +kernel
theorem dX12_live_62 : decode mX12_live.2.1 62 = .ok (.getfield 98, 3) := by decide +kernel
theorem dX12_live_65 : decode mX12_live.2.1 65 = .ok (.sipush 131, 3) := by decide +kernel
theorem dX12_live_68 : decode mX12_live.2.1 68 = .ok (.iload_n 2, 1) := by decide +kernel
theorem dX12_live_69 : decode mX12_live.2.1 69 = .ok (.iadd, 1) := by decide +kernel
theorem dX12_live_70 : decode mX12_live.2.1 70 = .ok (.aload_n 0, 1) := by decide +kernel
theorem dX12_live_71 : decode mX12_live.2.1 71 = .ok (.getfield 98, 3) := by decide +kernel
theorem dX12_live_74 : decode mX12_live.2.1 74 = .ok (.sipush 131, 3) := by decide +kernel
theorem dX12_live_77 : decode mX12_live.2.1 77 = .ok (.iload_n 2, 1) := by decide +kernel
theorem dX12_live_78 : decode mX12_live.2.1 78 = .ok (.iadd, 1) := by decide +kernel
theorem dX12_live_79 : decode mX12_live.2.1 79 = .ok (.iaload, 1) := by decide +kernel
theorem dX12_live_80 : decode mX12_live.2.1 80 = .ok (.aload_n 0, 1) := by decide +kernel
theorem dX12_live_81 : decode mX12_live.2.1 81 = .ok (.getfield 98, 3) := by decide +kernel
theorem dX12_live_84 : decode mX12_live.2.1 84 = .ok (.iconst 5, 1) := by decide +kernel
theorem dX12_live_85 : decode mX12_live.2.1 85 = .ok (.iload_n 3, 1) := by decide +kernel
theorem dX12_live_86 : decode mX12_live.2.1 86 = .ok (.iadd, 1) := by decide +kernel
theorem dX12_live_87 : decode mX12_live.2.1 87 = .ok (.iaload, 1) := by decide +kernel
theorem dX12_live_88 : decode mX12_live.2.1 88 = .ok (.iadd, 1) := by decide +kernel
theorem dX12_live_89 : decode mX12_live.2.1 89 = .ok (.iconst 4, 1) := by decide +kernel
theorem dX12_live_90 : decode mX12_live.2.1 90 = .ok (.irem, 1) := by decide +kernel
theorem dX12_live_91 : decode mX12_live.2.1 91 = .ok (.iastore, 1) := by decide +kernel
theorem dX12_live_92 : decode mX12_live.2.1 92 = .ok (.aload_n 0, 1) := by decide +kernel
theorem dX12_live_93 : decode mX12_live.2.1 93 = .ok (.getfield 98, 3) := by decide +kernel
theorem dX12_live_96 : decode mX12_live.2.1 96 = .ok (.sipush 136, 3) := by decide +kernel
theorem dX12_live_99 : decode mX12_live.2.1 99 = .ok (.iload_n 2, 1) := by decide +kernel
theorem dX12_live_100 : decode mX12_live.2.1 100 = .ok (.iadd, 1) := by decide +kernel
theorem dX12_live_101 : decode mX12_live.2.1 101 = .ok (.dup2, 1) := by decide +kernel
theorem dX12_live_102 : decode mX12_live.2.1 102 = .ok (.iaload, 1) := by decide +kernel
theorem dX12_live_103 : decode mX12_live.2.1 103 = .ok (.aload_n 0, 1) := by decide +kernel
theorem dX12_live_104 : decode mX12_live.2.1 104 = .ok (.iload_n 3, 1) := by decide +kernel
theorem dX12_live_105 : decode mX12_live.2.1 105 = .ok (.invokevirtual 254, 3) := by decide +kernel
theorem dX12_live_108 : decode mX12_live.2.1 108 = .ok (.isub, 1) := by decide +kernel
theorem dX12_live_109 : decode mX12_live.2.1 109 = .ok (.iastore, 1) := by decide +kernel
theorem dX12_live_110 : decode mX12_live.2.1 110 = .ok (.aload_n 0, 1) := by decide +kernel
theorem dX12_live_111 : decode mX12_live.2.1 111 = .ok (.getfield 98, 3) := by decide +kernel
theorem dX12_live_114 : decode mX12_live.2.1 114 = .ok (.sipush 146, 3) := by decide +kernel
theorem dX12_live_117 : decode mX12_live.2.1 117 = .ok (.iload_n 2, 1) := by decide +kernel
theorem dX12_live_118 : decode mX12_live.2.1 118 = .ok (.iadd, 1) := by decide +kernel
theorem dX12_live_119 : decode mX12_live.2.1 119 = .ok (.dup2, 1) := by decide +kernel
theorem dX12_live_120 : decode mX12_live.2.1 120 = .ok (.iaload, 1) := by decide +kernel
theorem dX12_live_121 : decode mX12_live.2.1 121 = .ok (.iconst 1, 1) := by decide +kernel
theorem dX12_live_122 : decode mX12_live.2.1 122 = .ok (.iadd, 1) := by decide +kernel
theorem dX12_live_123 : decode mX12_live.2.1 123 = .ok (.iastore, 1) := by decide +kernel
theorem dX12_live_124 : decode mX12_live.2.1 124 = .ok (.aload_n 0, 1) := by decide +kernel
theorem dX12_live_125 : decode mX12_live.2.1 125 = .ok (.getfield 98, 3) := by decide +kernel
theorem dX12_live_128 : decode mX12_live.2.1 128 = .ok (.bipush 124, 2) := by decide +kernel
theorem dX12_live_130 : decode mX12_live.2.1 130 = .ok (.dup2, 1) := by decide +kernel
theorem dX12_live_131 : decode mX12_live.2.1 131 = .ok (.iaload, 1) := by decide +kernel
theorem dX12_live_132 : decode mX12_live.2.1 132 = .ok (.iconst 1, 1) := by decide +kernel
theorem dX12_live_133 : decode mX12_live.2.1 133 = .ok (.iadd, 1) := by decide +kernel
theorem dX12_live_134 : decode mX12_live.2.1 134 = .ok (.iastore, 1) := by decide +kernel
theorem dX12_live_135 : decode mX12_live.2.1 135 = .ok (.aload_n 0, 1) := by decide +kernel
theorem dX12_live_136 : decode mX12_live.2.1 136 = .ok (.iload_n 2, 1) := by decide +kernel
theorem dX12_live_137 : decode mX12_live.2.1 137 = .ok (.invokevirtual 163, 3) := by decide +kernel
theorem dX12_live_140 : decode mX12_live.2.1 140 = .ok (.return_, 1) := by decide +kernel
theorem dX12_live_141 : decode mX12_live.2.1 141 = .ok (.aload_n 0, 1) := by decide +kernel
theorem dX12_live_142 : decode mX12_live.2.1 142 = .ok (.getfield 98, 3) := by decide +kernel
theorem dX12_live_145 : decode mX12_live.2.1 145 = .ok (.sipush 151, 3) := by decide +kernel
theorem dX12_live_148 : decode mX12_live.2.1 148 = .ok (.aload_n 0, 1) := by decide +kernel
theorem dX12_live_149 : decode mX12_live.2.1 149 = .ok (.aload_n 0, 1) := by decide +kernel
theorem dX12_live_150 : decode mX12_live.2.1 150 = .ok (.getfield 98, 3) := by decide +kernel
theorem dX12_live_153 : decode mX12_live.2.1 153 = .ok (.bipush 126, 2) := by decide +kernel
theorem dX12_live_155 : decode mX12_live.2.1 155 = .ok (.iload_n 2, 1) := by decide +kernel
theorem dX12_live_156 : decode mX12_live.2.1 156 = .ok (.iadd, 1) := by decide +kernel
theorem dX12_live_157 : decode mX12_live.2.1 157 = .ok (.iaload, 1) := by decide +kernel
theorem dX12_live_158 : decode mX12_live.2.1 158 = .ok (.iload 4, 2) := by decide +kernel
theorem dX12_live_160 : decode mX12_live.2.1 160 = .ok (.iconst 1, 1) := by decide +kernel
theorem dX12_live_161 : decode mX12_live.2.1 161 = .ok (.invokevirtual 235, 3) := by decide +kernel
theorem dX12_live_164 : decode mX12_live.2.1 164 = .ok (.iadd, 1) := by decide +kernel
theorem dX12_live_165 : decode mX12_live.2.1 165 = .ok (.dup2, 1) := by decide +kernel
theorem dX12_live_166 : decode mX12_live.2.1 166 = .ok (.iaload, 1) := by decide +kernel
theorem dX12_live_167 : decode mX12_live.2.1 167 = .ok (.iconst 1, 1) := by decide +kernel
theorem dX12_live_168 : decode mX12_live.2.1 168 = .ok (.isub, 1) := by decide +kernel
theorem dX12_live_169 : decode mX12_live.2.1 169 = .ok (.iastore, 1) := by decide +kernel
theorem dX12_live_170 : decode mX12_live.2.1 170 = .ok (.aload_n 0, 1) := by decide +kernel
theorem dX12_live_171 : decode mX12_live.2.1 171 = .ok (.getfield 98, 3) := by decide +kernel
theorem dX12_live_174 : decode mX12_live.2.1 174 = .ok (.sipush 136, 3) := by decide +kernel
theorem dX12_live_177 : decode mX12_live.2.1 177 = .ok (.iload_n 2, 1) := by decide +kernel
theorem dX12_live_178 : decode mX12_live.2.1 178 = .ok (.iadd, 1) := by decide +kernel
theorem dX12_live_179 : decode mX12_live.2.1 179 = .ok (.dup2, 1) := by decide +kernel
theorem dX12_live_180 : decode mX12_live.2.1 180 = .ok (.iaload, 1) := by decide +kernel
theorem dX12_live_181 : decode mX12_live.2.1 181 = .ok (.iconst 1, 1) := by decide +kernel
theorem dX12_live_182 : decode mX12_live.2.1 182 = .ok (.isub, 1) := by decide +kernel
theorem dX12_live_183 : decode mX12_live.2.1 183 = .ok (.iastore, 1) := by decide +kernel
theorem dX12_live_184 : decode mX12_live.2.1 184 = .ok (.aload_n 0, 1) := by decide +kernel
theorem dX12_live_185 : decode mX12_live.2.1 185 = .ok (.getfield 98, 3) := by decide +kernel
theorem dX12_live_188 : decode mX12_live.2.1 188 = .ok (.bipush 125, 2) := by decide +kernel
theorem dX12_live_190 : decode mX12_live.2.1 190 = .ok (.dup2, 1) := by decide +kernel
theorem dX12_live_191 : decode mX12_live.2.1 191 = .ok (.iaload, 1) := by decide +kernel
theorem dX12_live_192 : decode mX12_live.2.1 192 = .ok (.iconst 1, 1) := by decide +kernel
theorem dX12_live_193 : decode mX12_live.2.1 193 = .ok (.iadd, 1) := by decide +kernel
theorem dX12_live_194 : decode mX12_live.2.1 194 = .ok (.iastore, 1) := by decide +kernel
theorem dX12_live_195 : decode mX12_live.2.1 195 = .ok (.return_, 1) := by decide +kernel
theorem dX12_live_196 : decode mX12_live.2.1 196 = .ok (.aload_n 0, 1) := by decide +kernel
theorem dX12_live_197 : decode mX12_live.2.1 197 = .ok (.getfield 98, 3) := by decide +kernel
theorem dX12_live_200 : decode mX12_live.2.1 200 = .ok (.sipush 136, 3) := by decide +kernel
theorem dX12_live_203 : decode mX12_live.2.1 203 = .ok (.iload_n 2, 1) := by decide +kernel
theorem dX12_live_204 : decode mX12_live.2.1 204 = .ok (.iadd, 1) := by decide +kernel
theorem dX12_live_205 : decode mX12_live.2.1 205 = .ok (.aload_n 0, 1) := by decide +kernel
theorem dX12_live_206 : decode mX12_live.2.1 206 = .ok (.getfield 98, 3) := by decide +kernel
theorem dX12_live_209 : decode mX12_live.2.1 209 = .ok (.bipush 27, 2) := by decide +kernel
theorem dX12_live_211 : decode mX12_live.2.1 211 = .ok (.iload_n 2, 1) := by decide +kernel
theorem dX12_live_212 : decode mX12_live.2.1 212 = .ok (.iadd, 1) := by decide +kernel
theorem dX12_live_213 : decode mX12_live.2.1 213 = .ok (.iaload, 1) := by decide +kernel
theorem dX12_live_214 : decode mX12_live.2.1 214 = .ok (.iastore, 1) := by decide +kernel
theorem dX12_live_215 : decode mX12_live.2.1 215 = .ok (.return_, 1) := by decide +kernel
set_option maxRecDepth 4000 in
theorem ev_X12_live {m : Mem} {G : Mem} {d : Nat} {st : Nat} {B : Int} {w : Int} {p : Int} {f : Int} {s : Int} (hb : Bg G d st (m 216)) (hdn : DnOk G d) (hst : StOk G d st B) (hp : 0 ≤ p ∧ p < G d 3) (hx : w = 0 → 0 ≤ f ∧ f < G d 2) (hs : w = 0 ∨ w = 1 → 0 ≤ s ∧ s < 4) (hw : InR w) (hB : 0 ≤ B ∧ B ≤ 300000000) (hsep : d + 10 ≤ st) (hw0 : whyG G d st w p f s = 0) : Ev 0 4 mX12_live [vr 214, vi w, vi p, vi f, vi s] m (fun r m' => So m m' ∧ Bg (actG G d st w p f s) d st (m' 216)) := by
  refine Ev.of (L := [vr 214, vi w, vi p, vi f, vi s]) (by decide +kernel) rfl (Nat.le_of_ble_eq_true rfl) rfl (fun t ht => by cases ht) (fun hcan => ?_)
  obtain ⟨⟨hd0, hd1⟩, ⟨hd2, hd3⟩, ⟨hd4, hd5⟩, ⟨hd6, hd7⟩, ⟨hd8, hd9⟩, hdf, hdp, hdq⟩ := id hdn
  obtain ⟨⟨hs0, hs1⟩, ⟨hs2, hs3⟩, hsw, hsp, hsd, hsz⟩ := id hst
  have hpp := hsp p hp.1 hp.2
  have hpd := hdp p hp.1 hp.2
  refine go_iload_n dX12_live_0 rfl ?_
  by_cases hk_1_0 : w = 0
  · refine go_lswitch (off := 27) (tgt := 28) dX12_live_1 ⟨by omega, by omega⟩ (by decide) (by rw [hk_1_0] <;> rfl) (by decide) ?_
    have hfx := hx hk_1_0
    have hff := hdf f hfx.1 hfx.2
    have hw1 : whySayC G d st p f s = 0 := by unfold whyG at hw0; rw [if_pos hk_1_0] at hw0; exact hw0
    have hse := say_end hdn hst hp hfx hw1
    have hsi := hse.2.1
    have hcc : 1 ≤ costC G d f ∧ costC G d f ≤ 12 := by unfold costC; omega
    have hiq : iand (G (st + 4) p + G (d + 2) f) 3 = (G (st + 4) p + G (d + 2) f) % 4 := iand3 (by omega) (by omega)
    have hsd0 : sayW G d st p f s d = G d := sayW_r (k := 0) hsep (by omega)
    have hsm := sumI_bnd (f := G (st + 7)) (lo := 0) (hi := B) hd6 (fun j a b => by have := hsp j a b; omega)
    have hsm2 : G d 3 * B ≤ 5 * B := Int.mul_le_mul_of_nonneg_right hd7 hB.1
    refine go_aload_n dX12_live_28 rfl ?_
    refine go_getf_p (b := 216) dX12_live_29 fl_12_98 ob_214 rfl pt_214_14 ?_
    refine go_bipush dX12_live_32 (by decide) ?_
    refine go_iload_n dX12_live_34 rfl ?_
    refine go_iadd dX12_live_35 ?_
    refine go_aload_n dX12_live_36 rfl ?_
    refine go_aload_n dX12_live_37 rfl ?_
    refine go_getf_p (b := 216) dX12_live_38 fl_12_98 ob_214 rfl pt_214_14 ?_
    refine go_bipush dX12_live_41 (by decide) ?_
    refine go_iload_n dX12_live_43 rfl ?_
    refine go_iadd dX12_live_44 ?_
    refine go_iaload dX12_live_45 ar_216 (by omega) (by omega) (fun he_45 => ?_)
    rw [show (m 216 (126 + p) : Int) = (9 * G (st + 3) p + G (st + 2) p) from (hb.at (p := p) (by omega) (by omega))] at he_45 ⊢
    refine go_iload dX12_live_46 rfl ?_
    refine go_aload_n dX12_live_48 rfl ?_
    refine go_getf_p (b := 216) dX12_live_49 fl_12_98 ob_214 rfl pt_214_14 ?_
    refine go_bipush dX12_live_52 (by decide) ?_
    refine go_iload_n dX12_live_54 rfl ?_
    refine go_iadd dX12_live_55 ?_
    refine go_iaload dX12_live_56 ar_216 (by omega) (by omega) (fun he_56 => ?_)
    rw [show (m 216 (11 + f) : Int) = (G (d + 3) f) from (hb.go (f := f) (by omega) (by omega))] at he_56 ⊢
    refine go_callVp_i (as := [vi (9 * G (st + 3) p + G (st + 2) p), vi s, vi (G (d + 3) f)]) (S := [vi (126 + p), vr 216]) (b := 214) (ev_X12_cellOn (m := m) (c := (9 * G (st + 3) p + G (st + 2) p)) (s := s) (n := (G (d + 3) f)) (G := G) (d := d) (st := st) (x := (G (st + 2) p)) (y := (G (st + 3) p)) (by first | exact hb | exact hb.w (by decide) | exact (hb.w (by decide)).w (by decide)) (by first | assumption | omega | exact ⟨by omega, by omega⟩ | (constructor <;> omega)) rfl (by first | assumption | omega | exact ⟨by omega, by omega⟩ | (constructor <;> omega)) (hs (Or.inl hk_1_0)) (by first | assumption | omega | exact ⟨by omega, by omega⟩ | (constructor <;> omega))) rfl dX12_live_57 cv_12_235 rfl rfl ob_214 rfl (by decide) (Nat.le_of_ble_eq_true rfl) (fun r_57 hr_57 ho_57 => ?_)
    rw [if_pos hse.2.1] at hr_57
    subst hr_57
    refine go_iastore dX12_live_60 ar_216 (by omega) (by omega) ⟨by omega, by omega⟩ ?_
    refine go_aload_n dX12_live_61 rfl ?_
    refine go_getf_p (b := 216) dX12_live_62 fl_12_98 ob_214 rfl pt_214_14 ?_
    refine go_sipush dX12_live_65 (by decide) ?_
    refine go_iload_n dX12_live_68 rfl ?_
    refine go_iadd dX12_live_69 ?_
    refine go_aload_n dX12_live_70 rfl ?_
    refine go_getf_p (b := 216) dX12_live_71 fl_12_98 ob_214 rfl pt_214_14 ?_
    refine go_sipush dX12_live_74 (by decide) ?_
    refine go_iload_n dX12_live_77 rfl ?_
    refine go_iadd dX12_live_78 ?_
    refine go_iaload dX12_live_79 ar_216 (by omega) (by omega) (fun he_79 => ?_)
    rw [show ((wr m 216 (126 + p) (9 * (G (st + 3) p + G (d + 3) f * dy s) + (G (st + 2) p + G (d + 3) f * dx s))) 216 (131 + p) : Int) = (G (st + 4) p) from by rw [wr_ni (by omega)]; exact (hb.up (p := p) (by omega) (by omega))] at he_79 ⊢
    refine go_aload_n dX12_live_80 rfl ?_
    refine go_getf_p (b := 216) dX12_live_81 fl_12_98 ob_214 rfl pt_214_14 ?_
    refine go_iconst dX12_live_84 ?_
    refine go_iload_n dX12_live_85 rfl ?_
    refine go_iadd dX12_live_86 ?_
    refine go_iaload dX12_live_87 ar_216 (by omega) (by omega) (fun he_87 => ?_)
    rw [show ((wr m 216 (126 + p) (9 * (G (st + 3) p + G (d + 3) f * dy s) + (G (st + 2) p + G (d + 3) f * dx s))) 216 (5 + f) : Int) = (G (d + 2) f) from by rw [wr_ni (by omega)]; exact (hb.qu (f := f) (by omega) (by omega))] at he_87 ⊢
    refine go_iadd dX12_live_88 ?_
    refine go_iconst dX12_live_89 ?_
    refine go_irem dX12_live_90 ⟨by omega, by omega⟩ ⟨by omega, by omega⟩ (by omega) (by omega) ?_
    refine go_iastore dX12_live_91 ar_216 (by omega) (by omega) ⟨by omega, by omega⟩ ?_
    refine go_aload_n dX12_live_92 rfl ?_
    refine go_getf_p (b := 216) dX12_live_93 fl_12_98 ob_214 rfl pt_214_14 ?_
    refine go_sipush dX12_live_96 (by decide) ?_
    refine go_iload_n dX12_live_99 rfl ?_
    refine go_iadd dX12_live_100 ?_
    refine go_dup2_ir dX12_live_101 ?_
    refine go_iaload dX12_live_102 ar_216 (by omega) (by omega) (fun he_102 => ?_)
    rw [show ((wr (wr m 216 (126 + p) (9 * (G (st + 3) p + G (d + 3) f * dy s) + (G (st + 2) p + G (d + 3) f * dx s))) 216 (131 + p) (((G (st + 4) p) + (G (d + 2) f)) % 4)) 216 (136 + p) : Int) = (G (st + 5) p) from by rw [wr_ni (by omega), wr_ni (by omega)]; exact (hb.br (p := p) (by omega) (by omega))] at he_102 ⊢
    refine go_aload_n dX12_live_103 rfl ?_
    refine go_iload_n dX12_live_104 rfl ?_
    refine go_callVp_i (as := [vi f]) (S := [vi (G (st + 5) p), vi (136 + p), vr 216]) (b := 214) (ev_X12_costOfD (m := (wr (wr m 216 (126 + p) (9 * (G (st + 3) p + G (d + 3) f * dy s) + (G (st + 2) p + G (d + 3) f * dx s))) 216 (131 + p) (((G (st + 4) p) + (G (d + 2) f)) % 4))) (f := f) (G := G) (d := d) (Bg.ge (Bg.ge hb.1 hdn (by omega)) hdn (by omega)) (by first | assumption | omega | exact ⟨by omega, by omega⟩ | (constructor <;> omega)) hfx) rfl dX12_live_105 cv_12_254 rfl rfl ob_214 rfl (by decide) (Nat.le_of_ble_eq_true rfl) (fun r_105 hr_105 ho_105 => ?_)
    subst hr_105
    refine go_isub dX12_live_108 ?_
    refine go_iastore dX12_live_109 ar_216 (by omega) (by omega) ⟨by omega, by omega⟩ ?_
    refine go_aload_n dX12_live_110 rfl ?_
    refine go_getf_p (b := 216) dX12_live_111 fl_12_98 ob_214 rfl pt_214_14 ?_
    refine go_sipush dX12_live_114 (by decide) ?_
    refine go_iload_n dX12_live_117 rfl ?_
    refine go_iadd dX12_live_118 ?_
    refine go_dup2_ir dX12_live_119 ?_
    refine go_iaload dX12_live_120 ar_216 (by omega) (by omega) (fun he_120 => ?_)
    rw [show ((wr (wr (wr m 216 (126 + p) (9 * (G (st + 3) p + G (d + 3) f * dy s) + (G (st + 2) p + G (d + 3) f * dx s))) 216 (131 + p) (((G (st + 4) p) + (G (d + 2) f)) % 4)) 216 (136 + p) ((G (st + 5) p) - (costC G d f))) 216 (146 + p) : Int) = (G (st + 7) p) from by rw [wr_ni (by omega), wr_ni (by omega), wr_ni (by omega)]; exact (hb.sa (p := p) (by omega) (by omega))] at he_120 ⊢
    refine go_iconst dX12_live_121 ?_
    refine go_iadd dX12_live_122 ?_
    refine go_iastore dX12_live_123 ar_216 (by omega) (by omega) ⟨by omega, by omega⟩ ?_
    refine go_aload_n dX12_live_124 rfl ?_
    refine go_getf_p (b := 216) dX12_live_125 fl_12_98 ob_214 rfl pt_214_14 ?_
    refine go_bipush dX12_live_128 (by decide) ?_
    refine go_dup2_ir dX12_live_130 ?_
    refine go_iaload dX12_live_131 ar_216 (by omega) (by omega) (fun he_131 => ?_)
    rw [show ((wr (wr (wr (wr m 216 (126 + p) (9 * (G (st + 3) p + G (d + 3) f * dy s) + (G (st + 2) p + G (d + 3) f * dx s))) 216 (131 + p) (((G (st + 4) p) + (G (d + 2) f)) % 4)) 216 (136 + p) ((G (st + 5) p) - (costC G d f))) 216 (146 + p) ((G (st + 7) p) + 1)) 216 124 : Int) = (sumI (G (st + 7)) (G d 3)) from by rw [wr_ni (by omega), wr_ni (by omega), wr_ni (by omega), wr_ni (by omega)]; exact hb.sy] at he_131 ⊢
    refine go_iconst dX12_live_132 ?_
    refine go_iadd dX12_live_133 ?_
    refine go_iastore dX12_live_134 ar_216 (by omega) (by omega) ⟨by omega, by omega⟩ ?_
    refine go_aload_n dX12_live_135 rfl ?_
    refine go_iload_n dX12_live_136 rfl ?_
    refine go_callV_v (as := [vi p]) (S := []) (b := 214) (ev_X12_comesUp (m := (wr (wr (wr (wr (wr m 216 (126 + p) (9 * (G (st + 3) p + G (d + 3) f * dy s) + (G (st + 2) p + G (d + 3) f * dx s))) 216 (131 + p) (((G (st + 4) p) + (G (d + 2) f)) % 4)) 216 (136 + p) ((G (st + 5) p) - (costC G d f))) 216 (146 + p) ((G (st + 7) p) + 1)) 216 124 ((sumI (G (st + 7)) (G d 3)) + 1))) (p := p) (G := (sayW G d st p f s)) (d := d) (st := st) (hb.sayw hdn hsep hp hiq) (hdn.congr (fun k hk => sayW_r hsep hk)) (by rw [hsd0]; exact hp) (by rw [sayW_xy.1, sayW_xy.2]; omega)) rfl dX12_live_137 cv_12_163 rfl rfl ob_214 rfl (by decide) (Nat.le_of_ble_eq_true rfl) (fun m_137 hr_137 => ?_)
    refine go_ret (v := 0) rfl dX12_live_140 rfl ?_
    refine ⟨by rw [hr_137]; exact (((((So.rf.w (by omega) (by omega)).w (by omega) (by omega)).w (by omega) (by omega)).w (by omega) (by omega)).w (by omega) (by omega)).w (by omega) (by omega), ?_⟩
    unfold actG
    rw [if_pos hk_1_0, hr_137]
    exact (hb.sayw hdn hsep hp hiq).comes (hdn.congr (fun k hk => sayW_r hsep hk)) hsep (by rw [hsd0]; exact hp) rfl
  · skip
    by_cases hk_1_1 : w = 1
    · refine go_lswitch (off := 140) (tgt := 141) dX12_live_1 ⟨by omega, by omega⟩ (by decide) (by rw [hk_1_1] <;> rfl) (by decide) ?_
      have hw1 : whyKickC G d st p s = 0 := by unfold whyG at hw0; rw [if_neg hk_1_0, if_pos hk_1_1] at hw0; exact hw0
      have hki := kick_end hw1
      have hki2 := hki.2.1
      refine go_aload_n dX12_live_141 rfl ?_
      refine go_getf_p (b := 216) dX12_live_142 fl_12_98 ob_214 rfl pt_214_14 ?_
      refine go_sipush dX12_live_145 (by decide) ?_
      refine go_aload_n dX12_live_148 rfl ?_
      refine go_aload_n dX12_live_149 rfl ?_
      refine go_getf_p (b := 216) dX12_live_150 fl_12_98 ob_214 rfl pt_214_14 ?_
      refine go_bipush dX12_live_153 (by decide) ?_
      refine go_iload_n dX12_live_155 rfl ?_
      refine go_iadd dX12_live_156 ?_
      refine go_iaload dX12_live_157 ar_216 (by omega) (by omega) (fun he_157 => ?_)
      rw [show (m 216 (126 + p) : Int) = (9 * G (st + 3) p + G (st + 2) p) from (hb.at (p := p) (by omega) (by omega))] at he_157 ⊢
      refine go_iload dX12_live_158 rfl ?_
      refine go_iconst dX12_live_160 ?_
      refine go_callVp_i (as := [vi (9 * G (st + 3) p + G (st + 2) p), vi s, vi 1]) (S := [vi 151, vr 216]) (b := 214) (ev_X12_cellOn (m := m) (c := (9 * G (st + 3) p + G (st + 2) p)) (s := s) (n := 1) (G := G) (d := d) (st := st) (x := (G (st + 2) p)) (y := (G (st + 3) p)) (by first | exact hb | exact hb.w (by decide) | exact (hb.w (by decide)).w (by decide)) (by first | assumption | omega | exact ⟨by omega, by omega⟩ | (constructor <;> omega)) rfl (by first | assumption | omega | exact ⟨by omega, by omega⟩ | (constructor <;> omega)) (hs (Or.inr hk_1_1)) (by first | assumption | omega | exact ⟨by omega, by omega⟩ | (constructor <;> omega))) rfl dX12_live_161 cv_12_235 rfl rfl ob_214 rfl (by decide) (Nat.le_of_ble_eq_true rfl) (fun r_161 hr_161 ho_161 => ?_)
      rw [Int.one_mul, Int.one_mul, if_pos hki.2.1] at hr_161
      subst hr_161
      have hww := hsw (9 * (G (st + 3) p + dy s) + (G (st + 2) p + dx s))
      refine go_iadd dX12_live_164 ?_
      refine go_dup2_ir dX12_live_165 ?_
      refine go_iaload dX12_live_166 ar_216 (by omega) (by omega) (fun he_166 => ?_)
      rw [show (m 216 (151 + (9 * (G (st + 3) p + dy s) + (G (st + 2) p + dx s))) : Int) = (G (st + 1) (9 * (G (st + 3) p + dy s) + (G (st + 2) p + dx s))) from (hb.wl (c := (9 * (G (st + 3) p + dy s) + (G (st + 2) p + dx s))) (by omega) (by omega))] at he_166 ⊢
      refine go_iconst dX12_live_167 ?_
      refine go_isub dX12_live_168 ?_
      refine go_iastore dX12_live_169 ar_216 (by omega) (by omega) ⟨by omega, by omega⟩ ?_
      refine go_aload_n dX12_live_170 rfl ?_
      refine go_getf_p (b := 216) dX12_live_171 fl_12_98 ob_214 rfl pt_214_14 ?_
      refine go_sipush dX12_live_174 (by decide) ?_
      refine go_iload_n dX12_live_177 rfl ?_
      refine go_iadd dX12_live_178 ?_
      refine go_dup2_ir dX12_live_179 ?_
      refine go_iaload dX12_live_180 ar_216 (by omega) (by omega) (fun he_180 => ?_)
      rw [show ((wr m 216 (151 + (9 * (G (st + 3) p + dy s) + (G (st + 2) p + dx s))) ((G (st + 1) (9 * (G (st + 3) p + dy s) + (G (st + 2) p + dx s))) - 1)) 216 (136 + p) : Int) = (G (st + 5) p) from by rw [wr_ni (by omega)]; exact (hb.br (p := p) (by omega) (by omega))] at he_180 ⊢
      refine go_iconst dX12_live_181 ?_
      refine go_isub dX12_live_182 ?_
      refine go_iastore dX12_live_183 ar_216 (by omega) (by omega) ⟨by omega, by omega⟩ ?_
      refine go_aload_n dX12_live_184 rfl ?_
      refine go_getf_p (b := 216) dX12_live_185 fl_12_98 ob_214 rfl pt_214_14 ?_
      refine go_bipush dX12_live_188 (by decide) ?_
      refine go_dup2_ir dX12_live_190 ?_
      refine go_iaload dX12_live_191 ar_216 (by omega) (by omega) (fun he_191 => ?_)
      rw [show ((wr (wr m 216 (151 + (9 * (G (st + 3) p + dy s) + (G (st + 2) p + dx s))) ((G (st + 1) (9 * (G (st + 3) p + dy s) + (G (st + 2) p + dx s))) - 1)) 216 (136 + p) ((G (st + 5) p) - 1)) 216 125 : Int) = (G st 1) from by rw [wr_ni (by omega), wr_ni (by omega)]; exact hb.ki] at he_191 ⊢
      refine go_iconst dX12_live_192 ?_
      refine go_iadd dX12_live_193 ?_
      refine go_iastore dX12_live_194 ar_216 (by omega) (by omega) ⟨by omega, by omega⟩ ?_
      refine go_ret (v := 0) rfl dX12_live_195 rfl ?_
      refine ⟨((So.rf.w (by omega) (by omega)).w (by omega) (by omega)).w (by omega) (by omega), ?_⟩
      unfold actG
      rw [if_neg hk_1_0, if_pos hk_1_1]
      exact hb.kicked hdn hsep hp rfl (by omega)
    · skip
      refine go_lswitch (off := 195) (tgt := 196) dX12_live_1 ⟨by omega, by omega⟩ (by decide) (by simp [Op.lookupswitch.offset, hk_1_0, show ¬ (0 : Int) = w from fun z => hk_1_0 z.symm, hk_1_1, show ¬ (1 : Int) = w from fun z => hk_1_1 z.symm]) (by decide) ?_
      refine go_aload_n dX12_live_196 rfl ?_
      refine go_getf_p (b := 216) dX12_live_197 fl_12_98 ob_214 rfl pt_214_14 ?_
      refine go_sipush dX12_live_200 (by decide) ?_
      refine go_iload_n dX12_live_203 rfl ?_
      refine go_iadd dX12_live_204 ?_
      refine go_aload_n dX12_live_205 rfl ?_
      refine go_getf_p (b := 216) dX12_live_206 fl_12_98 ob_214 rfl pt_214_14 ?_
      refine go_bipush dX12_live_209 (by decide) ?_
      refine go_iload_n dX12_live_211 rfl ?_
      refine go_iadd dX12_live_212 ?_
      refine go_iaload dX12_live_213 ar_216 (by omega) (by omega) (fun he_213 => ?_)
      rw [show (m 216 (27 + p) : Int) = (G (d + 5) p) from (hb.mo (p := p) (by omega) (by omega))] at he_213 ⊢
      refine go_iastore dX12_live_214 ar_216 (by omega) (by omega) ⟨by omega, by omega⟩ ?_
      refine go_ret (v := 0) rfl dX12_live_215 rfl ?_
      refine ⟨So.rf.w (by omega) (by omega), ?_⟩
      unfold actG
      rw [if_neg hk_1_0, if_neg hk_1_1]
      exact hb.rested hdn hsep hp
theorem dX12_act_0 : decode mX12_act.2.1 0 = .ok (.iload 5, 2) := by decide +kernel
theorem dX12_act_2 : decode mX12_act.2.1 2 = .ok (.ifCond .ne 5, 3) := by decide +kernel
theorem dX12_act_5 : decode mX12_act.2.1 5 = .ok (.iconst (-1), 1) := by decide +kernel
theorem dX12_act_6 : decode mX12_act.2.1 6 = .ok (.ireturn, 1) := by decide +kernel
theorem dX12_act_7 : decode mX12_act.2.1 7 = .ok (.aload_n 0, 1) := by decide +kernel
theorem dX12_act_8 : decode mX12_act.2.1 8 = .ok (.iload_n 1, 1) := by decide +kernel
theorem dX12_act_9 : decode mX12_act.2.1 9 = .ok (.iload_n 2, 1) := by decide +kernel
theorem dX12_act_10 : decode mX12_act.2.1 10 = .ok (.iload_n 3, 1) := by decide +kernel
theorem dX12_act_11 : decode mX12_act.2.1 11 = .ok (.iload 4, 2) := by decide +kernel
theorem dX12_act_13 : decode mX12_act.2.1 13 = .ok (.invokevirtual 277, 3) := by decide +kernel
theorem dX12_act_16 : decode mX12_act.2.1 16 = .ok (.istore 6, 2) := by decide +kernel
theorem dX12_act_18 : decode mX12_act.2.1 18 = .ok (.iload 6, 2) := by decide +kernel
theorem dX12_act_20 : decode mX12_act.2.1 20 = .ok (.ifCond .eq 6, 3) := by decide +kernel
theorem dX12_act_23 : decode mX12_act.2.1 23 = .ok (.iload 6, 2) := by decide +kernel
theorem dX12_act_25 : decode mX12_act.2.1 25 = .ok (.ireturn, 1) := by decide +kernel
theorem dX12_act_26 : decode mX12_act.2.1 26 = .ok (.aload_n 0, 1) := by decide +kernel
theorem dX12_act_27 : decode mX12_act.2.1 27 = .ok (.invokevirtual 280, 3) := by decide +kernel
theorem dX12_act_30 : decode mX12_act.2.1 30 = .ok (.aload_n 0, 1) := by decide +kernel
theorem dX12_act_31 : decode mX12_act.2.1 31 = .ok (.iload_n 1, 1) := by decide +kernel
theorem dX12_act_32 : decode mX12_act.2.1 32 = .ok (.iload_n 2, 1) := by decide +kernel
theorem dX12_act_33 : decode mX12_act.2.1 33 = .ok (.iload_n 3, 1) := by decide +kernel
theorem dX12_act_34 : decode mX12_act.2.1 34 = .ok (.iload 4, 2) := by decide +kernel
theorem dX12_act_36 : decode mX12_act.2.1 36 = .ok (.invokevirtual 283, 3) := by decide +kernel
theorem dX12_act_39 : decode mX12_act.2.1 39 = .ok (.iconst 0, 1) := by decide +kernel
theorem dX12_act_40 : decode mX12_act.2.1 40 = .ok (.ireturn, 1) := by decide +kernel
set_option maxRecDepth 4000 in
theorem ev_X12_act {m : Mem} {G : Mem} {d : Nat} {st : Nat} {B : Int} {w : Int} {p : Int} {f : Int} {s : Int} {bo : Int} (hb : Bg G d st (m 216)) (hdn : DnOk G d) (hst : StOk G d st B) (hn : 0 ≤ m 214 25 ∧ m 214 25 ≤ 8) (hbo : bo = 0 ∨ bo = 1) (hp : bo = 1 → 0 ≤ p ∧ p < G d 3) (hx : bo = 1 → w = 0 → 0 ≤ f ∧ f < G d 2) (hs : bo = 1 → w = 0 ∨ w = 1 → 0 ≤ s ∧ s < 4) (hw : InR w) (hB : 0 ≤ B ∧ B ≤ 300000000) (hsep : d + 10 ≤ st) : Ev 0 6 mX12_act [vr 214, vi w, vi p, vi f, vi s, vi bo] m (fun r m' => (bo = 0 ∧ r = -1 ∧ m' = m) ∨ (bo = 1 ∧ ActP m G d st w p f s r m')) := by
  refine Ev.of (L := [vr 214, vi w, vi p, vi f, vi s, vi bo, un]) (by decide +kernel) rfl (Nat.le_of_ble_eq_true rfl) rfl (fun t ht => by cases ht; first | exact Or.inl rfl | exact Or.inr (Or.inl rfl) | exact Or.inr (Or.inr rfl)) (fun hcan => ?_)
  refine go_iload dX12_act_0 rfl ?_
  refine go_if_ne (tgt := 7) dX12_act_2 (by decide) ⟨by omega, by omega⟩ (fun h_2 => ?_) (fun h_2 => ?_)
  · have hb1 : bo = 1 := by omega
    refine go_aload_n dX12_act_7 rfl ?_
    refine go_iload_n dX12_act_8 rfl ?_
    refine go_iload_n dX12_act_9 rfl ?_
    refine go_iload_n dX12_act_10 rfl ?_
    refine go_iload dX12_act_11 rfl ?_
    refine go_callVp_i (as := [vi w, vi p, vi f, vi s]) (S := []) (b := 214) (ev_X12_why (m := m) (w := w) (p := p) (f := f) (s := s) (G := G) (d := d) (st := st) (B := B) (by first | exact hb | exact hb.w (by decide) | exact (hb.w (by decide)).w (by decide)) (by first | assumption | omega | exact ⟨by omega, by omega⟩ | (constructor <;> omega)) (by first | assumption | omega | exact ⟨by omega, by omega⟩ | (constructor <;> omega)) (hp hb1) (hx hb1) (hs hb1) (by first | assumption | omega | exact ⟨by omega, by omega⟩ | (constructor <;> omega))) rfl dX12_act_13 cv_12_277 rfl rfl ob_214 rfl (by decide) (Nat.le_of_ble_eq_true rfl) (fun r_13 hr_13 ho_13 => ?_)
    refine go_istore (L' := [vr 214, vi w, vi p, vi f, vi s, vi bo, vi r_13]) dX12_act_16 (by decide) rfl rfl ?_
    refine go_iload dX12_act_18 rfl ?_
    refine go_if_eq (tgt := 26) dX12_act_20 (by decide) ⟨by omega, by omega⟩ (fun h_20 => ?_) (fun h_20 => ?_)
    · refine go_aload_n dX12_act_26 rfl ?_
      refine go_callV_v (as := []) (S := []) (b := 214) (ev_X12_snap (m := m)  (by first | assumption | omega | exact ⟨by omega, by omega⟩ | (constructor <;> omega))) rfl dX12_act_27 cv_12_280 rfl rfl ob_214 rfl (by decide) (Nat.le_of_ble_eq_true rfl) (fun m_27 hr_27 => ?_)
      refine go_aload_n dX12_act_30 rfl ?_
      refine go_iload_n dX12_act_31 rfl ?_
      refine go_iload_n dX12_act_32 rfl ?_
      refine go_iload_n dX12_act_33 rfl ?_
      refine go_iload dX12_act_34 rfl ?_
      refine go_callV_v (as := [vi w, vi p, vi f, vi s]) (S := []) (b := 214) (ev_X12_live (m := m_27) (w := w) (p := p) (f := f) (s := s) (G := G) (d := d) (st := st) (B := B) (hb.e (hr_27.1 216 (by decide) (by decide))) (by first | assumption | omega | exact ⟨by omega, by omega⟩ | (constructor <;> omega)) (by first | assumption | omega | exact ⟨by omega, by omega⟩ | (constructor <;> omega)) (hp hb1) (hx hb1) (hs hb1) (by first | assumption | omega | exact ⟨by omega, by omega⟩ | (constructor <;> omega)) (by first | assumption | omega | exact ⟨by omega, by omega⟩ | (constructor <;> omega)) (by first | assumption | omega | exact ⟨by omega, by omega⟩ | (constructor <;> omega)) (by omega)) rfl dX12_act_36 cv_12_283 rfl rfl ob_214 rfl (by decide) (Nat.le_of_ble_eq_true rfl) (fun m_36 hr_36 => ?_)
      refine go_iconst dX12_act_39 ?_
      exact go_ret (v := 0) rfl dX12_act_40 (okI ⟨by omega, by omega⟩) (Or.inr ⟨hb1, by omega, Or.inr ⟨by omega, _, hr_27, hr_36.1, hr_36.2⟩⟩)
    · refine go_iload dX12_act_23 rfl ?_
      exact go_ret (v := r_13) rfl dX12_act_25 (okI ⟨by omega, by omega⟩) (Or.inr ⟨hb1, hr_13, Or.inl ⟨by omega, rfl⟩⟩)
  · refine go_iconst dX12_act_5 ?_
    exact go_ret (v := (-1)) rfl dX12_act_6 (okI ⟨by omega, by omega⟩) (Or.inl ⟨by omega, rfl, rfl⟩)
theorem dX12_say_0 : decode mX12_say.2.1 0 = .ok (.aload_n 0, 1) := by decide +kernel
theorem dX12_say_1 : decode mX12_say.2.1 1 = .ok (.iconst 0, 1) := by decide +kernel
theorem dX12_say_2 : decode mX12_say.2.1 2 = .ok (.putfield 1, 3) := by decide +kernel
theorem dX12_say_5 : decode mX12_say.2.1 5 = .ok (.aload_n 0, 1) := by decide +kernel
theorem dX12_say_6 : decode mX12_say.2.1 6 = .ok (.iconst 0, 1) := by decide +kernel
theorem dX12_say_7 : decode mX12_say.2.1 7 = .ok (.iload_n 1, 1) := by decide +kernel
theorem dX12_say_8 : decode mX12_say.2.1 8 = .ok (.iload_n 2, 1) := by decide +kernel
theorem dX12_say_9 : decode mX12_say.2.1 9 = .ok (.iload_n 3, 1) := by decide +kernel
theorem dX12_say_10 : decode mX12_say.2.1 10 = .ok (.aload_n 0, 1) := by decide +kernel
theorem dX12_say_11 : decode mX12_say.2.1 11 = .ok (.iload_n 1, 1) := by decide +kernel
theorem dX12_say_12 : decode mX12_say.2.1 12 = .ok (.invokevirtual 245, 3) := by decide +kernel
theorem dX12_say_15 : decode mX12_say.2.1 15 = .ok (.ifCond .eq 23, 3) := by decide +kernel
theorem dX12_say_18 : decode mX12_say.2.1 18 = .ok (.aload_n 0, 1) := by decide +kernel
theorem dX12_say_19 : decode mX12_say.2.1 19 = .ok (.iload_n 2, 1) := by decide +kernel
theorem dX12_say_20 : decode mX12_say.2.1 20 = .ok (.invokevirtual 251, 3) := by decide +kernel
theorem dX12_say_23 : decode mX12_say.2.1 23 = .ok (.ifCond .eq 15, 3) := by decide +kernel
theorem dX12_say_26 : decode mX12_say.2.1 26 = .ok (.aload_n 0, 1) := by decide +kernel
theorem dX12_say_27 : decode mX12_say.2.1 27 = .ok (.iload_n 3, 1) := by decide +kernel
theorem dX12_say_28 : decode mX12_say.2.1 28 = .ok (.invokevirtual 287, 3) := by decide +kernel
theorem dX12_say_31 : decode mX12_say.2.1 31 = .ok (.ifCond .eq 7, 3) := by decide +kernel
theorem dX12_say_34 : decode mX12_say.2.1 34 = .ok (.iconst 1, 1) := by decide +kernel
theorem dX12_say_35 : decode mX12_say.2.1 35 = .ok (.goto 4, 3) := by decide +kernel
theorem dX12_say_38 : decode mX12_say.2.1 38 = .ok (.iconst 0, 1) := by decide +kernel
theorem dX12_say_39 : decode mX12_say.2.1 39 = .ok (.invokevirtual 290, 3) := by decide +kernel
theorem dX12_say_42 : decode mX12_say.2.1 42 = .ok (.ireturn, 1) := by decide +kernel
set_option maxRecDepth 4000 in
theorem ev_X12_say {m : Mem} {G : Mem} {d : Nat} {st : Nat} {B : Int} {p : Int} {f : Int} {s : Int} (hb : Bg G d st (m 216)) (hdn : DnOk G d) (hst : StOk G d st B) (hn : 0 ≤ m 214 25 ∧ m 214 25 ≤ 8) (hp : InR p) (hf : InR f) (hs : InR s) (hB : 0 ≤ B ∧ B ≤ 300000000) (hsep : d + 10 ≤ st) : Ev 0 7 mX12_say [vr 214, vi p, vi f, vi s] m (fun r m' => (¬ ((0 ≤ p ∧ p < G d 3) ∧ (0 ≤ f ∧ f < G d 2) ∧ 0 ≤ s ∧ s < 4) ∧ r = -1 ∧ m' = wr m 214 0 0) ∨ (((0 ≤ p ∧ p < G d 3) ∧ (0 ≤ f ∧ f < G d 2) ∧ 0 ≤ s ∧ s < 4) ∧ ActP (wr m 214 0 0) G d st 0 p f s r m')) := by
  refine Ev.of (L := [vr 214, vi p, vi f, vi s]) (by decide +kernel) rfl (Nat.le_of_ble_eq_true rfl) rfl (fun t ht => by cases ht; first | exact Or.inl rfl | exact Or.inr (Or.inl rfl) | exact Or.inr (Or.inr rfl)) (fun hcan => ?_)
  refine go_aload_n dX12_say_0 rfl ?_
  refine go_iconst dX12_say_1 ?_
  refine go_putf_i (ki := 0) dX12_say_2 fw_12_1 ob_214 rfl rfl ⟨by omega, by omega⟩ ?_
  refine go_aload_n dX12_say_5 rfl ?_
  refine go_iconst dX12_say_6 ?_
  refine go_iload_n dX12_say_7 rfl ?_
  refine go_iload_n dX12_say_8 rfl ?_
  refine go_iload_n dX12_say_9 rfl ?_
  refine go_aload_n dX12_say_10 rfl ?_
  refine go_iload_n dX12_say_11 rfl ?_
  refine go_callVp_z (as := [vi p]) (S := [vi s, vi f, vi p, vi 0, vr 214]) (b := 214) (ev_X12_isPerson (m := (wr m 214 0 0)) (f := p) (G := G) (d := d) (st := st) (by first | exact hb | exact hb.w (by decide) | exact (hb.w (by decide)).w (by decide)) (by first | assumption | omega | exact ⟨by omega, by omega⟩ | (constructor <;> omega)) (by first | assumption | omega | exact ⟨by omega, by omega⟩ | (constructor <;> omega))) rfl dX12_say_12 cv_12_245 rfl rfl ob_214 rfl (by decide) (Nat.le_of_ble_eq_true rfl) (fun r_12 hr_12 ho_12 => ?_)
  refine go_if_eq (tgt := 38) dX12_say_15 (by decide) ⟨by omega, by omega⟩ (fun h_15 => ?_) (fun h_15 => ?_)
  · refine go_iconst dX12_say_38 ?_
    refine go_callV_i (as := [vi 0, vi p, vi f, vi s, vi 0]) (S := []) (b := 214) (ev_X12_act (m := (wr m 214 0 0)) (w := 0) (p := p) (f := f) (s := s) (bo := 0) (G := G) (d := d) (st := st) (B := B) (by first | exact hb | exact hb.w (by decide) | exact (hb.w (by decide)).w (by decide)) (by first | assumption | omega | exact ⟨by omega, by omega⟩ | (constructor <;> omega)) (by first | assumption | omega | exact ⟨by omega, by omega⟩ | (constructor <;> omega)) (by rw [wr_ni (by decide)]; exact hn) (by omega) (fun h => by omega) (fun h _ => by omega) (fun h _ => by omega) (by first | assumption | omega | exact ⟨by omega, by omega⟩ | (constructor <;> omega)) (by first | assumption | omega | exact ⟨by omega, by omega⟩ | (constructor <;> omega)) (by first | assumption | omega | exact ⟨by omega, by omega⟩ | (constructor <;> omega))) rfl dX12_say_39 cv_12_290 rfl rfl ob_214 rfl (by decide) (Nat.le_of_ble_eq_true rfl) (fun r_39 m_39 hr_39 ho_39 => ?_)
    exact go_ret (v := r_39) rfl dX12_say_42 (okI ⟨by omega, by omega⟩) (by rcases hr_39 with ⟨a, b, c⟩ | ⟨a, b⟩ <;> first | exact Or.inl ⟨by omega, b, c⟩ | exact Or.inr ⟨by omega, b⟩ | (exfalso; omega))
  · refine go_aload_n dX12_say_18 rfl ?_
    refine go_iload_n dX12_say_19 rfl ?_
    refine go_callVp_z (as := [vi f]) (S := [vi s, vi f, vi p, vi 0, vr 214]) (b := 214) (ev_X12_isFigure (m := (wr m 214 0 0)) (f := f) (G := G) (d := d) (st := st) (by first | exact hb | exact hb.w (by decide) | exact (hb.w (by decide)).w (by decide)) (by first | assumption | omega | exact ⟨by omega, by omega⟩ | (constructor <;> omega)) (by first | assumption | omega | exact ⟨by omega, by omega⟩ | (constructor <;> omega))) rfl dX12_say_20 cv_12_251 rfl rfl ob_214 rfl (by decide) (Nat.le_of_ble_eq_true rfl) (fun r_20 hr_20 ho_20 => ?_)
    refine go_if_eq (tgt := 38) dX12_say_23 (by decide) ⟨by omega, by omega⟩ (fun h_23 => ?_) (fun h_23 => ?_)
    · refine go_iconst dX12_say_38 ?_
      refine go_callV_i (as := [vi 0, vi p, vi f, vi s, vi 0]) (S := []) (b := 214) (ev_X12_act (m := (wr m 214 0 0)) (w := 0) (p := p) (f := f) (s := s) (bo := 0) (G := G) (d := d) (st := st) (B := B) (by first | exact hb | exact hb.w (by decide) | exact (hb.w (by decide)).w (by decide)) (by first | assumption | omega | exact ⟨by omega, by omega⟩ | (constructor <;> omega)) (by first | assumption | omega | exact ⟨by omega, by omega⟩ | (constructor <;> omega)) (by rw [wr_ni (by decide)]; exact hn) (by omega) (fun h => by omega) (fun h _ => by omega) (fun h _ => by omega) (by first | assumption | omega | exact ⟨by omega, by omega⟩ | (constructor <;> omega)) (by first | assumption | omega | exact ⟨by omega, by omega⟩ | (constructor <;> omega)) (by first | assumption | omega | exact ⟨by omega, by omega⟩ | (constructor <;> omega))) rfl dX12_say_39 cv_12_290 rfl rfl ob_214 rfl (by decide) (Nat.le_of_ble_eq_true rfl) (fun r_39 m_39 hr_39 ho_39 => ?_)
      exact go_ret (v := r_39) rfl dX12_say_42 (okI ⟨by omega, by omega⟩) (by rcases hr_39 with ⟨a, b, c⟩ | ⟨a, b⟩ <;> first | exact Or.inl ⟨by omega, b, c⟩ | exact Or.inr ⟨by omega, b⟩ | (exfalso; omega))
    · refine go_aload_n dX12_say_26 rfl ?_
      refine go_iload_n dX12_say_27 rfl ?_
      refine go_callVp_z (as := [vi s]) (S := [vi s, vi f, vi p, vi 0, vr 214]) (b := 214) (ev_X12_isSide (m := (wr m 214 0 0)) (n := s) (by first | assumption | omega | exact ⟨by omega, by omega⟩ | (constructor <;> omega))) rfl dX12_say_28 cv_12_287 rfl rfl ob_214 rfl (by decide) (Nat.le_of_ble_eq_true rfl) (fun r_28 hr_28 ho_28 => ?_)
      refine go_if_eq (tgt := 38) dX12_say_31 (by decide) ⟨by omega, by omega⟩ (fun h_31 => ?_) (fun h_31 => ?_)
      · refine go_iconst dX12_say_38 ?_
        refine go_callV_i (as := [vi 0, vi p, vi f, vi s, vi 0]) (S := []) (b := 214) (ev_X12_act (m := (wr m 214 0 0)) (w := 0) (p := p) (f := f) (s := s) (bo := 0) (G := G) (d := d) (st := st) (B := B) (by first | exact hb | exact hb.w (by decide) | exact (hb.w (by decide)).w (by decide)) (by first | assumption | omega | exact ⟨by omega, by omega⟩ | (constructor <;> omega)) (by first | assumption | omega | exact ⟨by omega, by omega⟩ | (constructor <;> omega)) (by rw [wr_ni (by decide)]; exact hn) (by omega) (fun h => by omega) (fun h _ => by omega) (fun h _ => by omega) (by first | assumption | omega | exact ⟨by omega, by omega⟩ | (constructor <;> omega)) (by first | assumption | omega | exact ⟨by omega, by omega⟩ | (constructor <;> omega)) (by first | assumption | omega | exact ⟨by omega, by omega⟩ | (constructor <;> omega))) rfl dX12_say_39 cv_12_290 rfl rfl ob_214 rfl (by decide) (Nat.le_of_ble_eq_true rfl) (fun r_39 m_39 hr_39 ho_39 => ?_)
        exact go_ret (v := r_39) rfl dX12_say_42 (okI ⟨by omega, by omega⟩) (by rcases hr_39 with ⟨a, b, c⟩ | ⟨a, b⟩ <;> first | exact Or.inl ⟨by omega, b, c⟩ | exact Or.inr ⟨by omega, b⟩ | (exfalso; omega))
      · refine go_iconst dX12_say_34 ?_
        refine go_goto (tgt := 39) dX12_say_35 (by decide) ?_
        refine go_callV_i (as := [vi 0, vi p, vi f, vi s, vi 1]) (S := []) (b := 214) (ev_X12_act (m := (wr m 214 0 0)) (w := 0) (p := p) (f := f) (s := s) (bo := 1) (G := G) (d := d) (st := st) (B := B) (by first | exact hb | exact hb.w (by decide) | exact (hb.w (by decide)).w (by decide)) (by first | assumption | omega | exact ⟨by omega, by omega⟩ | (constructor <;> omega)) (by first | assumption | omega | exact ⟨by omega, by omega⟩ | (constructor <;> omega)) (by rw [wr_ni (by decide)]; exact hn) (by omega) (fun h => by omega) (fun h _ => by omega) (fun h _ => by omega) (by first | assumption | omega | exact ⟨by omega, by omega⟩ | (constructor <;> omega)) (by first | assumption | omega | exact ⟨by omega, by omega⟩ | (constructor <;> omega)) (by first | assumption | omega | exact ⟨by omega, by omega⟩ | (constructor <;> omega))) rfl dX12_say_39 cv_12_290 rfl rfl ob_214 rfl (by decide) (Nat.le_of_ble_eq_true rfl) (fun r_39 m_39 hr_39 ho_39 => ?_)
        exact go_ret (v := r_39) rfl dX12_say_42 (okI ⟨by omega, by omega⟩) (by rcases hr_39 with ⟨a, b, c⟩ | ⟨a, b⟩ <;> first | exact Or.inl ⟨by omega, b, c⟩ | exact Or.inr ⟨by omega, b⟩ | (exfalso; omega))
theorem dX12_kick_0 : decode mX12_kick.2.1 0 = .ok (.aload_n 0, 1) := by decide +kernel
theorem dX12_kick_1 : decode mX12_kick.2.1 1 = .ok (.iconst 0, 1) := by decide +kernel
theorem dX12_kick_2 : decode mX12_kick.2.1 2 = .ok (.putfield 1, 3) := by decide +kernel
theorem dX12_kick_5 : decode mX12_kick.2.1 5 = .ok (.aload_n 0, 1) := by decide +kernel
theorem dX12_kick_6 : decode mX12_kick.2.1 6 = .ok (.iconst 1, 1) := by decide +kernel
theorem dX12_kick_7 : decode mX12_kick.2.1 7 = .ok (.iload_n 1, 1) := by decide +kernel
theorem dX12_kick_8 : decode mX12_kick.2.1 8 = .ok (.iconst 0, 1) := by decide +kernel
theorem dX12_kick_9 : decode mX12_kick.2.1 9 = .ok (.iload_n 2, 1) := by decide +kernel
theorem dX12_kick_10 : decode mX12_kick.2.1 10 = .ok (.aload_n 0, 1) := by decide +kernel
theorem dX12_kick_11 : decode mX12_kick.2.1 11 = .ok (.iload_n 1, 1) := by decide +kernel
theorem dX12_kick_12 : decode mX12_kick.2.1 12 = .ok (.invokevirtual 245, 3) := by decide +kernel
theorem dX12_kick_15 : decode mX12_kick.2.1 15 = .ok (.ifCond .eq 15, 3) := by decide +kernel
theorem dX12_kick_18 : decode mX12_kick.2.1 18 = .ok (.aload_n 0, 1) := by decide +kernel
theorem dX12_kick_19 : decode mX12_kick.2.1 19 = .ok (.iload_n 2, 1) := by decide +kernel
theorem dX12_kick_20 : decode mX12_kick.2.1 20 = .ok (.invokevirtual 287, 3) := by decide +kernel
theorem dX12_kick_23 : decode mX12_kick.2.1 23 = .ok (.ifCond .eq 7, 3) := by decide +kernel
theorem dX12_kick_26 : decode mX12_kick.2.1 26 = .ok (.iconst 1, 1) := by decide +kernel
theorem dX12_kick_27 : decode mX12_kick.2.1 27 = .ok (.goto 4, 3) := by decide +kernel
theorem dX12_kick_30 : decode mX12_kick.2.1 30 = .ok (.iconst 0, 1) := by decide +kernel
theorem dX12_kick_31 : decode mX12_kick.2.1 31 = .ok (.invokevirtual 290, 3) := by decide +kernel
theorem dX12_kick_34 : decode mX12_kick.2.1 34 = .ok (.ireturn, 1) := by decide +kernel
set_option maxRecDepth 4000 in
theorem ev_X12_kick {m : Mem} {G : Mem} {d : Nat} {st : Nat} {B : Int} {p : Int} {s : Int} (hb : Bg G d st (m 216)) (hdn : DnOk G d) (hst : StOk G d st B) (hn : 0 ≤ m 214 25 ∧ m 214 25 ≤ 8) (hp : InR p) (hs : InR s) (hB : 0 ≤ B ∧ B ≤ 300000000) (hsep : d + 10 ≤ st) : Ev 0 7 mX12_kick [vr 214, vi p, vi s] m (fun r m' => (¬ ((0 ≤ p ∧ p < G d 3) ∧ 0 ≤ s ∧ s < 4) ∧ r = -1 ∧ m' = wr m 214 0 0) ∨ (((0 ≤ p ∧ p < G d 3) ∧ 0 ≤ s ∧ s < 4) ∧ ActP (wr m 214 0 0) G d st 1 p 0 s r m')) := by
  refine Ev.of (L := [vr 214, vi p, vi s]) (by decide +kernel) rfl (Nat.le_of_ble_eq_true rfl) rfl (fun t ht => by cases ht; first | exact Or.inl rfl | exact Or.inr (Or.inl rfl) | exact Or.inr (Or.inr rfl)) (fun hcan => ?_)
  refine go_aload_n dX12_kick_0 rfl ?_
  refine go_iconst dX12_kick_1 ?_
  refine go_putf_i (ki := 0) dX12_kick_2 fw_12_1 ob_214 rfl rfl ⟨by omega, by omega⟩ ?_
  refine go_aload_n dX12_kick_5 rfl ?_
  refine go_iconst dX12_kick_6 ?_
  refine go_iload_n dX12_kick_7 rfl ?_
  refine go_iconst dX12_kick_8 ?_
  refine go_iload_n dX12_kick_9 rfl ?_
  refine go_aload_n dX12_kick_10 rfl ?_
  refine go_iload_n dX12_kick_11 rfl ?_
  refine go_callVp_z (as := [vi p]) (S := [vi s, vi 0, vi p, vi 1, vr 214]) (b := 214) (ev_X12_isPerson (m := (wr m 214 0 0)) (f := p) (G := G) (d := d) (st := st) (by first | exact hb | exact hb.w (by decide) | exact (hb.w (by decide)).w (by decide)) (by first | assumption | omega | exact ⟨by omega, by omega⟩ | (constructor <;> omega)) (by first | assumption | omega | exact ⟨by omega, by omega⟩ | (constructor <;> omega))) rfl dX12_kick_12 cv_12_245 rfl rfl ob_214 rfl (by decide) (Nat.le_of_ble_eq_true rfl) (fun r_12 hr_12 ho_12 => ?_)
  refine go_if_eq (tgt := 30) dX12_kick_15 (by decide) ⟨by omega, by omega⟩ (fun h_15 => ?_) (fun h_15 => ?_)
  · refine go_iconst dX12_kick_30 ?_
    refine go_callV_i (as := [vi 1, vi p, vi 0, vi s, vi 0]) (S := []) (b := 214) (ev_X12_act (m := (wr m 214 0 0)) (w := 1) (p := p) (f := 0) (s := s) (bo := 0) (G := G) (d := d) (st := st) (B := B) (by first | exact hb | exact hb.w (by decide) | exact (hb.w (by decide)).w (by decide)) (by first | assumption | omega | exact ⟨by omega, by omega⟩ | (constructor <;> omega)) (by first | assumption | omega | exact ⟨by omega, by omega⟩ | (constructor <;> omega)) (by rw [wr_ni (by decide)]; exact hn) (by omega) (fun h => by omega) (fun _ h => by omega) (fun h _ => by omega) (by first | assumption | omega | exact ⟨by omega, by omega⟩ | (constructor <;> omega)) (by first | assumption | omega | exact ⟨by omega, by omega⟩ | (constructor <;> omega)) (by first | assumption | omega | exact ⟨by omega, by omega⟩ | (constructor <;> omega))) rfl dX12_kick_31 cv_12_290 rfl rfl ob_214 rfl (by decide) (Nat.le_of_ble_eq_true rfl) (fun r_31 m_31 hr_31 ho_31 => ?_)
    exact go_ret (v := r_31) rfl dX12_kick_34 (okI ⟨by omega, by omega⟩) (by rcases hr_31 with ⟨a, b, c⟩ | ⟨a, b⟩ <;> first | exact Or.inl ⟨by omega, b, c⟩ | exact Or.inr ⟨by omega, b⟩ | (exfalso; omega))
  · refine go_aload_n dX12_kick_18 rfl ?_
    refine go_iload_n dX12_kick_19 rfl ?_
    refine go_callVp_z (as := [vi s]) (S := [vi s, vi 0, vi p, vi 1, vr 214]) (b := 214) (ev_X12_isSide (m := (wr m 214 0 0)) (n := s) (by first | assumption | omega | exact ⟨by omega, by omega⟩ | (constructor <;> omega))) rfl dX12_kick_20 cv_12_287 rfl rfl ob_214 rfl (by decide) (Nat.le_of_ble_eq_true rfl) (fun r_20 hr_20 ho_20 => ?_)
    refine go_if_eq (tgt := 30) dX12_kick_23 (by decide) ⟨by omega, by omega⟩ (fun h_23 => ?_) (fun h_23 => ?_)
    · refine go_iconst dX12_kick_30 ?_
      refine go_callV_i (as := [vi 1, vi p, vi 0, vi s, vi 0]) (S := []) (b := 214) (ev_X12_act (m := (wr m 214 0 0)) (w := 1) (p := p) (f := 0) (s := s) (bo := 0) (G := G) (d := d) (st := st) (B := B) (by first | exact hb | exact hb.w (by decide) | exact (hb.w (by decide)).w (by decide)) (by first | assumption | omega | exact ⟨by omega, by omega⟩ | (constructor <;> omega)) (by first | assumption | omega | exact ⟨by omega, by omega⟩ | (constructor <;> omega)) (by rw [wr_ni (by decide)]; exact hn) (by omega) (fun h => by omega) (fun _ h => by omega) (fun h _ => by omega) (by first | assumption | omega | exact ⟨by omega, by omega⟩ | (constructor <;> omega)) (by first | assumption | omega | exact ⟨by omega, by omega⟩ | (constructor <;> omega)) (by first | assumption | omega | exact ⟨by omega, by omega⟩ | (constructor <;> omega))) rfl dX12_kick_31 cv_12_290 rfl rfl ob_214 rfl (by decide) (Nat.le_of_ble_eq_true rfl) (fun r_31 m_31 hr_31 ho_31 => ?_)
      exact go_ret (v := r_31) rfl dX12_kick_34 (okI ⟨by omega, by omega⟩) (by rcases hr_31 with ⟨a, b, c⟩ | ⟨a, b⟩ <;> first | exact Or.inl ⟨by omega, b, c⟩ | exact Or.inr ⟨by omega, b⟩ | (exfalso; omega))
    · refine go_iconst dX12_kick_26 ?_
      refine go_goto (tgt := 31) dX12_kick_27 (by decide) ?_
      refine go_callV_i (as := [vi 1, vi p, vi 0, vi s, vi 1]) (S := []) (b := 214) (ev_X12_act (m := (wr m 214 0 0)) (w := 1) (p := p) (f := 0) (s := s) (bo := 1) (G := G) (d := d) (st := st) (B := B) (by first | exact hb | exact hb.w (by decide) | exact (hb.w (by decide)).w (by decide)) (by first | assumption | omega | exact ⟨by omega, by omega⟩ | (constructor <;> omega)) (by first | assumption | omega | exact ⟨by omega, by omega⟩ | (constructor <;> omega)) (by rw [wr_ni (by decide)]; exact hn) (by omega) (fun h => by omega) (fun _ h => by omega) (fun h _ => by omega) (by first | assumption | omega | exact ⟨by omega, by omega⟩ | (constructor <;> omega)) (by first | assumption | omega | exact ⟨by omega, by omega⟩ | (constructor <;> omega)) (by first | assumption | omega | exact ⟨by omega, by omega⟩ | (constructor <;> omega))) rfl dX12_kick_31 cv_12_290 rfl rfl ob_214 rfl (by decide) (Nat.le_of_ble_eq_true rfl) (fun r_31 m_31 hr_31 ho_31 => ?_)
      exact go_ret (v := r_31) rfl dX12_kick_34 (okI ⟨by omega, by omega⟩) (by rcases hr_31 with ⟨a, b, c⟩ | ⟨a, b⟩ <;> first | exact Or.inl ⟨by omega, b, c⟩ | exact Or.inr ⟨by omega, b⟩ | (exfalso; omega))
theorem dX12_rest_0 : decode mX12_rest.2.1 0 = .ok (.aload_n 0, 1) := by decide +kernel
theorem dX12_rest_1 : decode mX12_rest.2.1 1 = .ok (.iconst 0, 1) := by decide +kernel
theorem dX12_rest_2 : decode mX12_rest.2.1 2 = .ok (.putfield 1, 3) := by decide +kernel
theorem dX12_rest_5 : decode mX12_rest.2.1 5 = .ok (.aload_n 0, 1) := by decide +kernel
theorem dX12_rest_6 : decode mX12_rest.2.1 6 = .ok (.iconst 2, 1) := by decide +kernel
theorem dX12_rest_7 : decode mX12_rest.2.1 7 = .ok (.iload_n 1, 1) := by decide +kernel
theorem dX12_rest_8 : decode mX12_rest.2.1 8 = .ok (.iconst 0, 1) := by decide +kernel
theorem dX12_rest_9 : decode mX12_rest.2.1 9 = .ok (.iconst 0, 1) := by decide +kernel
theorem dX12_rest_10 : decode mX12_rest.2.1 10 = .ok (.aload_n 0, 1) := by decide +kernel
theorem dX12_rest_11 : decode mX12_rest.2.1 11 = .ok (.iload_n 1, 1) := by decide +kernel
theorem dX12_rest_12 : decode mX12_rest.2.1 12 = .ok (.invokevirtual 245, 3) := by decide +kernel
theorem dX12_rest_15 : decode mX12_rest.2.1 15 = .ok (.invokevirtual 290, 3) := by decide +kernel
theorem dX12_rest_18 : decode mX12_rest.2.1 18 = .ok (.ireturn, 1) := by decide +kernel
set_option maxRecDepth 4000 in
theorem ev_X12_rest {m : Mem} {G : Mem} {d : Nat} {st : Nat} {B : Int} {p : Int} (hb : Bg G d st (m 216)) (hdn : DnOk G d) (hst : StOk G d st B) (hn : 0 ≤ m 214 25 ∧ m 214 25 ≤ 8) (hp : InR p) (hB : 0 ≤ B ∧ B ≤ 300000000) (hsep : d + 10 ≤ st) : Ev 0 7 mX12_rest [vr 214, vi p] m (fun r m' => (¬ (0 ≤ p ∧ p < G d 3) ∧ r = -1 ∧ m' = wr m 214 0 0) ∨ ((0 ≤ p ∧ p < G d 3) ∧ ActP (wr m 214 0 0) G d st 2 p 0 0 r m')) := by
  refine Ev.of (L := [vr 214, vi p]) (by decide +kernel) rfl (Nat.le_of_ble_eq_true rfl) rfl (fun t ht => by cases ht; first | exact Or.inl rfl | exact Or.inr (Or.inl rfl) | exact Or.inr (Or.inr rfl)) (fun hcan => ?_)
  refine go_aload_n dX12_rest_0 rfl ?_
  refine go_iconst dX12_rest_1 ?_
  refine go_putf_i (ki := 0) dX12_rest_2 fw_12_1 ob_214 rfl rfl ⟨by omega, by omega⟩ ?_
  refine go_aload_n dX12_rest_5 rfl ?_
  refine go_iconst dX12_rest_6 ?_
  refine go_iload_n dX12_rest_7 rfl ?_
  refine go_iconst dX12_rest_8 ?_
  refine go_iconst dX12_rest_9 ?_
  refine go_aload_n dX12_rest_10 rfl ?_
  refine go_iload_n dX12_rest_11 rfl ?_
  refine go_callVp_z (as := [vi p]) (S := [vi 0, vi 0, vi p, vi 2, vr 214]) (b := 214) (ev_X12_isPerson (m := (wr m 214 0 0)) (f := p) (G := G) (d := d) (st := st) (by first | exact hb | exact hb.w (by decide) | exact (hb.w (by decide)).w (by decide)) (by first | assumption | omega | exact ⟨by omega, by omega⟩ | (constructor <;> omega)) (by first | assumption | omega | exact ⟨by omega, by omega⟩ | (constructor <;> omega))) rfl dX12_rest_12 cv_12_245 rfl rfl ob_214 rfl (by decide) (Nat.le_of_ble_eq_true rfl) (fun r_12 hr_12 ho_12 => ?_)
  refine go_callV_i (as := [vi 2, vi p, vi 0, vi 0, vi r_12]) (S := []) (b := 214) (ev_X12_act (m := (wr m 214 0 0)) (w := 2) (p := p) (f := 0) (s := 0) (bo := r_12) (G := G) (d := d) (st := st) (B := B) (by first | exact hb | exact hb.w (by decide) | exact (hb.w (by decide)).w (by decide)) (by first | assumption | omega | exact ⟨by omega, by omega⟩ | (constructor <;> omega)) (by first | assumption | omega | exact ⟨by omega, by omega⟩ | (constructor <;> omega)) (by rw [wr_ni (by decide)]; exact hn) (by omega) (fun h => by omega) (fun _ h => by omega) (fun _ h => by omega) (by first | assumption | omega | exact ⟨by omega, by omega⟩ | (constructor <;> omega)) (by first | assumption | omega | exact ⟨by omega, by omega⟩ | (constructor <;> omega)) (by first | assumption | omega | exact ⟨by omega, by omega⟩ | (constructor <;> omega))) rfl dX12_rest_15 cv_12_290 rfl rfl ob_214 rfl (by decide) (Nat.le_of_ble_eq_true rfl) (fun r_15 m_15 hr_15 ho_15 => ?_)
  exact go_ret (v := r_15) rfl dX12_rest_18 (okI ⟨by omega, by omega⟩) (by rcases hr_15 with ⟨a, b, c⟩ | ⟨a, b⟩ <;> first | exact Or.inl ⟨by omega, b, c⟩ | exact Or.inr ⟨by omega, b⟩ | (exfalso; omega))
theorem dX12_undo_0 : decode mX12_undo.2.1 0 = .ok (.aload_n 0, 1) := by decide +kernel
theorem dX12_undo_1 : decode mX12_undo.2.1 1 = .ok (.iconst 0, 1) := by decide +kernel
theorem dX12_undo_2 : decode mX12_undo.2.1 2 = .ok (.putfield 1, 3) := by decide +kernel
theorem dX12_undo_5 : decode mX12_undo.2.1 5 = .ok (.aload_n 0, 1) := by decide +kernel
theorem dX12_undo_6 : decode mX12_undo.2.1 6 = .ok (.getfield 229, 3) := by decide +kernel
theorem dX12_undo_9 : decode mX12_undo.2.1 9 = .ok (.ifCond .ne 5, 3) := by decide +kernel
theorem dX12_undo_12 : decode mX12_undo.2.1 12 = .ok (.iconst (-1), 1) := by decide +kernel
theorem dX12_undo_13 : decode mX12_undo.2.1 13 = .ok (.ireturn, 1) := by decide +kernel
theorem dX12_undo_14 : decode mX12_undo.2.1 14 = .ok (.aload_n 0, 1) := by decide +kernel
theorem dX12_undo_15 : decode mX12_undo.2.1 15 = .ok (.dup, 1) := by decide +kernel
theorem dX12_undo_16 : decode mX12_undo.2.1 16 = .ok (.getfield 229, 3) := by decide +kernel
theorem dX12_undo_19 : decode mX12_undo.2.1 19 = .ok (.iconst 1, 1) := by decide +kernel
theorem dX12_undo_20 : decode mX12_undo.2.1 20 = .ok (.isub, 1) := by decide +kernel
theorem dX12_undo_21 : decode mX12_undo.2.1 21 = .ok (.putfield 229, 3) := by decide +kernel
theorem dX12_undo_24 : decode mX12_undo.2.1 24 = .ok (.iconst 0, 1) := by decide +kernel
theorem dX12_undo_25 : decode mX12_undo.2.1 25 = .ok (.istore_n 1, 1) := by decide +kernel
theorem dX12_undo_26 : decode mX12_undo.2.1 26 = .ok (.iload_n 1, 1) := by decide +kernel
theorem dX12_undo_27 : decode mX12_undo.2.1 27 = .ok (.bipush 109, 2) := by decide +kernel
theorem dX12_undo_29 : decode mX12_undo.2.1 29 = .ok (.if_icmp .ge 32, 3) := by decide +kernel
theorem dX12_undo_32 : decode mX12_undo.2.1 32 = .ok (.aload_n 0, 1) := by decide +kernel
theorem dX12_undo_33 : decode mX12_undo.2.1 33 = .ok (.getfield 98, 3) := by decide +kernel
theorem dX12_undo_36 : decode mX12_undo.2.1 36 = .ok (.bipush 123, 2) := by decide +kernel
theorem dX12_undo_38 : decode mX12_undo.2.1 38 = .ok (.iload_n 1, 1) := by decide +kernel
theorem dX12_undo_39 : decode mX12_undo.2.1 39 = .ok (.iadd, 1) := by decide +kernel
theorem dX12_undo_40 : decode mX12_undo.2.1 40 = .ok (.aload_n 0, 1) := by decide +kernel
theorem dX12_undo_41 : decode mX12_undo.2.1 41 = .ok (.getfield 107, 3) := by decide +kernel
theorem dX12_undo_44 : decode mX12_undo.2.1 44 = .ok (.bipush 109, 2) := by decide +kernel
theorem dX12_undo_46 : decode mX12_undo.2.1 46 = .ok (.aload_n 0, 1) := by decide +kernel
theorem dX12_undo_47 : decode mX12_undo.2.1 47 = .ok (.getfield 229, 3) := by decide +kernel
theorem dX12_undo_50 : decode mX12_undo.2.1 50 = .ok (.imul, 1) := by decide +kernel
theorem dX12_undo_51 : decode mX12_undo.2.1 51 = .ok (.iload_n 1, 1) := by decide +kernel
theorem dX12_undo_52 : decode mX12_undo.2.1 52 = .ok (.iadd, 1) := by decide +kernel
theorem dX12_undo_53 : decode mX12_undo.2.1 53 = .ok (.iaload, 1) := by decide +kernel
theorem dX12_undo_54 : decode mX12_undo.2.1 54 = .ok (.iastore, 1) := by decide +kernel
theorem dX12_undo_55 : decode mX12_undo.2.1 55 = .ok (.iinc 1 1, 3) := by decide +kernel
theorem dX12_undo_58 : decode mX12_undo.2.1 58 = .ok (.goto (-32), 3) := by decide +kernel
theorem dX12_undo_61 : decode mX12_undo.2.1 61 = .ok (.aload_n 0, 1) := by decide +kernel
theorem dX12_undo_62 : decode mX12_undo.2.1 62 = .ok (.getfield 229, 3) := by decide +kernel
theorem dX12_undo_65 : decode mX12_undo.2.1 65 = .ok (.ireturn, 1) := by decide +kernel
set_option maxRecDepth 4000 in
theorem ev_X12_undo {m : Mem}  (hn : 0 ≤ m 214 25 ∧ m 214 25 ≤ 8) : Ev 0 1 mX12_undo [vr 214] m (fun r m' => (m 214 25 = 0 ∧ r = -1 ∧ m' = wr m 214 0 0) ∨ (m 214 25 ≠ 0 ∧ r = m 214 25 - 1 ∧ m' = mov (wr (wr m 214 0 0) 214 25 (m 214 25 - 1)) 219 216 (109 * (m 214 25 - 1)) 123 109)) := by
  refine Ev.of (L := [vr 214, un]) (by decide +kernel) rfl (Nat.le_of_ble_eq_true rfl) rfl (fun t ht => by cases ht; first | exact Or.inl rfl | exact Or.inr (Or.inl rfl) | exact Or.inr (Or.inr rfl)) (fun hcan => ?_)
  refine go_aload_n dX12_undo_0 rfl ?_
  refine go_iconst dX12_undo_1 ?_
  refine go_putf_i (ki := 0) dX12_undo_2 fw_12_1 ob_214 rfl rfl ⟨by omega, by omega⟩ ?_
  refine go_aload_n dX12_undo_5 rfl ?_
  refine go_getf_i (ki := 25) dX12_undo_6 fl_12_229 ob_214 rfl rfl (fun hf_6 => ?_)
  rw [show ((wr m 214 0 0) 214 25 : Int) = (m 214 25) from by rw [wr_ni (by decide)]] at hf_6 ⊢
  refine go_if_ne (tgt := 14) dX12_undo_9 (by decide) ⟨by omega, by omega⟩ (fun h_9 => ?_) (fun h_9 => ?_)
  · refine go_aload_n dX12_undo_14 rfl ?_
    refine go_dup_r dX12_undo_15 ?_
    refine go_getf_i (ki := 25) dX12_undo_16 fl_12_229 ob_214 rfl rfl (fun hf_16 => ?_)
    rw [show ((wr m 214 0 0) 214 25 : Int) = (m 214 25) from by rw [wr_ni (by decide)]] at hf_16 ⊢
    refine go_iconst dX12_undo_19 ?_
    refine go_isub dX12_undo_20 ?_
    refine go_putf_i (ki := 25) dX12_undo_21 fw_12_229 ob_214 rfl rfl ⟨by omega, by omega⟩ ?_
    refine go_iconst dX12_undo_24 ?_
    refine go_istore_n (L' := [vr 214, vi 0]) dX12_undo_25 (by decide) rfl rfl ?_
    have lp_26 : ∀ (n_26 : Nat) (m1 : Mem) (i : Int) , (0 ≤ i) → (i ≤ 109) → (m1 = mov (wr (wr m 214 0 0) 214 25 (m 214 25 - 1)) 219 216 (109 * (m 214 25 - 1)) 123 i) → (109 - i).toNat < n_26 → Go 0 1 mX12_undo (fun r m' => (m 214 25 = 0 ∧ r = -1 ∧ m' = wr m 214 0 0) ∨ (m 214 25 ≠ 0 ∧ r = m 214 25 - 1 ∧ m' = mov (wr (wr m 214 0 0) 214 25 (m 214 25 - 1)) 219 216 (109 * (m 214 25 - 1)) 123 109)) 26 [vr 214, vi i] [] m1 := by
      intro n_26
      induction n_26 with
      | zero => intro m1 i hi0 hi1 hm hmu; exact absurd hmu (Nat.not_lt_zero _)
      | succ n_26 ih_26 =>
        intro m1 i hi0 hi1 hm hmu
        have e1 : m1 214 25 = m 214 25 - 1 := by rw [hm, mov_row (by decide), wr_self]
        have e2 : m1 219 (109 * (m 214 25 - 1) + i) = (wr (wr m 214 0 0) 214 25 (m 214 25 - 1)) 219 (109 * (m 214 25 - 1) + i) := by rw [hm, mov_row (by decide)]
        refine go_iload_n dX12_undo_26 rfl ?_
        refine go_bipush dX12_undo_27 (by decide) ?_
        refine go_icmp_ge (tgt := 61) dX12_undo_29 (by decide) ⟨by omega, by omega⟩ ⟨by omega, by omega⟩ (fun h_29 => ?_) (fun h_29 => ?_)
        · refine go_aload_n dX12_undo_61 rfl ?_
          refine go_getf_i (ki := 25) dX12_undo_62 fl_12_229 ob_214 rfl rfl (fun hf_62 => ?_)
          rw [show (m1 214 25 : Int) = (m 214 25 - 1) from e1] at hf_62 ⊢
          exact go_ret (v := (m 214 25 - 1)) rfl dX12_undo_65 (okI ⟨by omega, by omega⟩) (Or.inr ⟨by omega, rfl, by rw [hm, show i = 109 by omega]⟩)
        · refine go_aload_n dX12_undo_32 rfl ?_
          refine go_getf_p (b := 216) dX12_undo_33 fl_12_98 ob_214 rfl pt_214_14 ?_
          refine go_bipush dX12_undo_36 (by decide) ?_
          refine go_iload_n dX12_undo_38 rfl ?_
          refine go_iadd dX12_undo_39 ?_
          refine go_aload_n dX12_undo_40 rfl ?_
          refine go_getf_p (b := 219) dX12_undo_41 fl_12_107 ob_214 rfl pt_214_17 ?_
          refine go_bipush dX12_undo_44 (by decide) ?_
          refine go_aload_n dX12_undo_46 rfl ?_
          refine go_getf_i (ki := 25) dX12_undo_47 fl_12_229 ob_214 rfl rfl (fun hf_47 => ?_)
          rw [show (m1 214 25 : Int) = (m 214 25 - 1) from e1] at hf_47 ⊢
          refine go_imul dX12_undo_50 ?_
          refine go_iload_n dX12_undo_51 rfl ?_
          refine go_iadd dX12_undo_52 ?_
          refine go_iaload dX12_undo_53 ar_219 (by omega) (by omega) (fun he_53 => ?_)
          rw [show (m1 219 ((109 * (m 214 25 - 1)) + i) : Int) = ((wr (wr m 214 0 0) 214 25 (m 214 25 - 1)) 219 (109 * (m 214 25 - 1) + i)) from e2] at he_53 ⊢
          refine go_iastore dX12_undo_54 ar_216 (by omega) (by omega) ⟨by omega, by omega⟩ ?_
          refine go_iinc (L' := [vr 214, vi (i + 1)]) dX12_undo_55 rfl (by decide) rfl rfl ?_
          refine go_goto (tgt := 26) dX12_undo_58 (by decide) ?_
          exact ih_26 (wr m1 216 (123 + i) ((wr (wr m 214 0 0) 214 25 (m 214 25 - 1)) 219 (109 * (m 214 25 - 1) + i))) (i + 1) (by first | assumption | omega | rfl) (by first | assumption | omega | rfl) (by rw [hm]; exact mov_s hi0) (by omega)
    exact lp_26 _ (wr (wr m 214 0 0) 214 25 ((m 214 25) - 1)) 0 (by first | assumption | omega | rfl) (by first | assumption | omega | rfl) (mov_0 _ _ _ _ _).symm (Nat.lt_succ_self _)
  · refine go_iconst dX12_undo_12 ?_
    exact go_ret (v := (-1)) rfl dX12_undo_13 (okI ⟨by omega, by omega⟩) (Or.inl ⟨by omega, rfl, rfl⟩)
theorem dX12_oneHour_0 : decode mX12_oneHour.2.1 0 = .ok (.iconst 0, 1) := by decide +kernel
theorem dX12_oneHour_1 : decode mX12_oneHour.2.1 1 = .ok (.istore_n 1, 1) := by decide +kernel
theorem dX12_oneHour_2 : decode mX12_oneHour.2.1 2 = .ok (.iload_n 1, 1) := by decide +kernel
theorem dX12_oneHour_3 : decode mX12_oneHour.2.1 3 = .ok (.aload_n 0, 1) := by decide +kernel
theorem dX12_oneHour_4 : decode mX12_oneHour.2.1 4 = .ok (.getfield 98, 3) := by decide +kernel
theorem dX12_oneHour_7 : decode mX12_oneHour.2.1 7 = .ok (.iconst 3, 1) := by decide +kernel
theorem dX12_oneHour_8 : decode mX12_oneHour.2.1 8 = .ok (.iaload, 1) := by decide +kernel
theorem dX12_oneHour_9 : decode mX12_oneHour.2.1 9 = .ok (.if_icmp .ge 45, 3) := by decide +kernel
theorem dX12_oneHour_12 : decode mX12_oneHour.2.1 12 = .ok (.aload_n 0, 1) := by decide +kernel
theorem dX12_oneHour_13 : decode mX12_oneHour.2.1 13 = .ok (.getfield 98, 3) := by decide +kernel
theorem dX12_oneHour_16 : decode mX12_oneHour.2.1 16 = .ok (.sipush 136, 3) := by decide +kernel
theorem dX12_oneHour_19 : decode mX12_oneHour.2.1 19 = .ok (.iload_n 1, 1) := by decide +kernel
theorem dX12_oneHour_20 : decode mX12_oneHour.2.1 20 = .ok (.iadd, 1) := by decide +kernel
theorem dX12_oneHour_21 : decode mX12_oneHour.2.1 21 = .ok (.iaload, 1) := by decide +kernel
theorem dX12_oneHour_22 : decode mX12_oneHour.2.1 22 = .ok (.aload_n 0, 1) := by decide +kernel
theorem dX12_oneHour_23 : decode mX12_oneHour.2.1 23 = .ok (.getfield 98, 3) := by decide +kernel
theorem dX12_oneHour_26 : decode mX12_oneHour.2.1 26 = .ok (.bipush 27, 2) := by decide +kernel
theorem dX12_oneHour_28 : decode mX12_oneHour.2.1 28 = .ok (.iload_n 1, 1) := by decide +kernel
theorem dX12_oneHour_29 : decode mX12_oneHour.2.1 29 = .ok (.iadd, 1) := by decide +kernel
theorem dX12_oneHour_30 : decode mX12_oneHour.2.1 30 = .ok (.iaload, 1) := by decide +kernel
theorem dX12_oneHour_31 : decode mX12_oneHour.2.1 31 = .ok (.if_icmp .ge 17, 3) := by decide +kernel
theorem dX12_oneHour_34 : decode mX12_oneHour.2.1 34 = .ok (.aload_n 0, 1) := by decide +kernel
theorem dX12_oneHour_35 : decode mX12_oneHour.2.1 35 = .ok (.getfield 98, 3) := by decide +kernel
theorem dX12_oneHour_38 : decode mX12_oneHour.2.1 38 = .ok (.sipush 136, 3) := by decide +kernel
theorem dX12_oneHour_41 : decode mX12_oneHour.2.1 41 = .ok (.iload_n 1, 1) := by decide +kernel
theorem dX12_oneHour_42 : decode mX12_oneHour.2.1 42 = .ok (.iadd, 1) := by decide +kernel
theorem dX12_oneHour_43 : decode mX12_oneHour.2.1 43 = .ok (.dup2, 1) := by decide +kernel
theorem dX12_oneHour_44 : decode mX12_oneHour.2.1 44 = .ok (.iaload, 1) := by decide +kernel
theorem dX12_oneHour_45 : decode mX12_oneHour.2.1 45 = .ok (.iconst 1, 1) := by decide +kernel
theorem dX12_oneHour_46 : decode mX12_oneHour.2.1 46 = .ok (.iadd, 1) := by decide +kernel
theorem dX12_oneHour_47 : decode mX12_oneHour.2.1 47 = .ok (.iastore, 1) := by decide +kernel
theorem dX12_oneHour_48 : decode mX12_oneHour.2.1 48 = .ok (.iinc 1 1, 3) := by decide +kernel
theorem dX12_oneHour_51 : decode mX12_oneHour.2.1 51 = .ok (.goto (-49), 3) := by decide +kernel
theorem dX12_oneHour_54 : decode mX12_oneHour.2.1 54 = .ok (.aload_n 0, 1) := by decide +kernel
theorem dX12_oneHour_55 : decode mX12_oneHour.2.1 55 = .ok (.getfield 98, 3) := by decide +kernel
theorem dX12_oneHour_58 : decode mX12_oneHour.2.1 58 = .ok (.bipush 123, 2) := by decide +kernel
theorem dX12_oneHour_60 : decode mX12_oneHour.2.1 60 = .ok (.dup2, 1) := by decide +kernel
theorem dX12_oneHour_61 : decode mX12_oneHour.2.1 61 = .ok (.iaload, 1) := by decide +kernel
theorem dX12_oneHour_62 : decode mX12_oneHour.2.1 62 = .ok (.iconst 1, 1) := by decide +kernel
theorem dX12_oneHour_63 : decode mX12_oneHour.2.1 63 = .ok (.iadd, 1) := by decide +kernel
theorem dX12_oneHour_64 : decode mX12_oneHour.2.1 64 = .ok (.iastore, 1) := by decide +kernel
theorem dX12_oneHour_65 : decode mX12_oneHour.2.1 65 = .ok (.return_, 1) := by decide +kernel
set_option maxRecDepth 4000 in
theorem ev_X12_oneHour {m : Mem} {G : Mem} {d : Nat} {st : Nat} {B : Int} (hb : Bg G d st (m 216)) (hdn : DnOk G d) (hst : StOk G d st B) (hsep : d + 10 ≤ st) : Ev 0 1 mX12_oneHour [vr 214] m (fun r m' => So m m' ∧ Bg (passC G d st 1) d st (m' 216)) := by
  refine Ev.of (L := [vr 214, un]) (by decide +kernel) rfl (Nat.le_of_ble_eq_true rfl) rfl (fun t ht => by cases ht) (fun hcan => ?_)
  obtain ⟨⟨hd0, hd1⟩, ⟨hd2, hd3⟩, ⟨hd4, hd5⟩, ⟨hd6, hd7⟩, ⟨hd8, hd9⟩, hdf, hdp, hdq⟩ := id hdn
  obtain ⟨⟨hs0, hs1⟩, ⟨hs2, hs3⟩, hsw, hsp, hsd, hsz⟩ := id hst
  refine go_iconst dX12_oneHour_0 ?_
  refine go_istore_n (L' := [vr 214, vi 0]) dX12_oneHour_1 (by decide) rfl rfl ?_
  have lp_2 : ∀ (n_2 : Nat) (m1 : Mem) (k : Int) , (0 ≤ k) → (k ≤ G d 3) → (m1 = hr1 m G d st k) → (G d 3 - k).toNat < n_2 → Go 0 1 mX12_oneHour (fun r m' => So m m' ∧ Bg (passC G d st 1) d st (m' 216)) 2 [vr 214, vi k] [] m1 := by
    intro n_2
    induction n_2 with
    | zero => intro m1 k hk0 hk1 hm hmu; exact absurd hmu (Nat.not_lt_zero _)
    | succ n_2 ih_2 =>
      intro m1 k hk0 hk1 hm hmu
      have e3 : m1 216 3 = G d 3 := by rw [hm, hr1_o (by omega)]; exact hb.n3
      have e123 : m1 216 123 = G st 0 := by rw [hm, hr1_o (by omega)]; exact hb.hr
      refine go_iload_n dX12_oneHour_2 rfl ?_
      refine go_aload_n dX12_oneHour_3 rfl ?_
      refine go_getf_p (b := 216) dX12_oneHour_4 fl_12_98 ob_214 rfl pt_214_14 ?_
      refine go_iconst dX12_oneHour_7 ?_
      refine go_iaload dX12_oneHour_8 ar_216 (by omega) (by omega) (fun he_8 => ?_)
      rw [show (m1 216 3 : Int) = (G d 3) from e3] at he_8 ⊢
      refine go_icmp_ge (tgt := 54) dX12_oneHour_9 (by decide) ⟨by omega, by omega⟩ ⟨by omega, by omega⟩ (fun h_9 => ?_) (fun h_9 => ?_)
      · refine go_aload_n dX12_oneHour_54 rfl ?_
        refine go_getf_p (b := 216) dX12_oneHour_55 fl_12_98 ob_214 rfl pt_214_14 ?_
        refine go_bipush dX12_oneHour_58 (by decide) ?_
        refine go_dup2_ir dX12_oneHour_60 ?_
        refine go_iaload dX12_oneHour_61 ar_216 (by omega) (by omega) (fun he_61 => ?_)
        rw [show (m1 216 123 : Int) = (G st 0) from e123] at he_61 ⊢
        refine go_iconst dX12_oneHour_62 ?_
        refine go_iadd dX12_oneHour_63 ?_
        refine go_iastore dX12_oneHour_64 ar_216 (by omega) (by omega) ⟨by omega, by omega⟩ ?_
        refine go_ret (v := 0) rfl dX12_oneHour_65 rfl ?_
        rw [hm, show k = G d 3 by omega]
        exact ⟨So.w ⟨fun b hb => by funext j; exact hr1_o (by omega), fun j hj => hr1_o (by omega)⟩ (by omega) (by omega), hb.hour hdn hsep⟩
      · have hpp := hsp k hk0 (by omega)
        have hpd := hdp k hk0 (by omega)
        have eb : m1 216 (136 + k) = G (st + 5) k := by rw [hm, hr1_o (by omega)]; exact hb.br hk0 (by omega)
        have em : m1 216 (27 + k) = G (d + 5) k := by rw [hm, hr1_o (by omega)]; exact hb.mo hk0 (by omega)
        refine go_aload_n dX12_oneHour_12 rfl ?_
        refine go_getf_p (b := 216) dX12_oneHour_13 fl_12_98 ob_214 rfl pt_214_14 ?_
        refine go_sipush dX12_oneHour_16 (by decide) ?_
        refine go_iload_n dX12_oneHour_19 rfl ?_
        refine go_iadd dX12_oneHour_20 ?_
        refine go_iaload dX12_oneHour_21 ar_216 (by omega) (by omega) (fun he_21 => ?_)
        rw [show (m1 216 (136 + k) : Int) = (G (st + 5) k) from eb] at he_21 ⊢
        refine go_aload_n dX12_oneHour_22 rfl ?_
        refine go_getf_p (b := 216) dX12_oneHour_23 fl_12_98 ob_214 rfl pt_214_14 ?_
        refine go_bipush dX12_oneHour_26 (by decide) ?_
        refine go_iload_n dX12_oneHour_28 rfl ?_
        refine go_iadd dX12_oneHour_29 ?_
        refine go_iaload dX12_oneHour_30 ar_216 (by omega) (by omega) (fun he_30 => ?_)
        rw [show (m1 216 (27 + k) : Int) = (G (d + 5) k) from em] at he_30 ⊢
        refine go_icmp_ge (tgt := 48) dX12_oneHour_31 (by decide) ⟨by omega, by omega⟩ ⟨by omega, by omega⟩ (fun h_31 => ?_) (fun h_31 => ?_)
        · refine go_iinc (L' := [vr 214, vi (k + 1)]) dX12_oneHour_48 rfl (by decide) rfl rfl ?_
          refine go_goto (tgt := 2) dX12_oneHour_51 (by decide) ?_
          exact ih_2 m1 (k + 1) (by first | assumption | omega | rfl) (by first | assumption | omega | rfl) (by rw [hm]; first | exact hr1_t hk0 _ (by omega) | (exact hr1_f hk0 (by rw [hb.br hk0 (by omega)]; omega))) (by omega)
        · refine go_aload_n dX12_oneHour_34 rfl ?_
          refine go_getf_p (b := 216) dX12_oneHour_35 fl_12_98 ob_214 rfl pt_214_14 ?_
          refine go_sipush dX12_oneHour_38 (by decide) ?_
          refine go_iload_n dX12_oneHour_41 rfl ?_
          refine go_iadd dX12_oneHour_42 ?_
          refine go_dup2_ir dX12_oneHour_43 ?_
          refine go_iaload dX12_oneHour_44 ar_216 (by omega) (by omega) (fun he_44 => ?_)
          rw [show (m1 216 (136 + k) : Int) = (G (st + 5) k) from eb] at he_44 ⊢
          refine go_iconst dX12_oneHour_45 ?_
          refine go_iadd dX12_oneHour_46 ?_
          refine go_iastore dX12_oneHour_47 ar_216 (by omega) (by omega) ⟨by omega, by omega⟩ ?_
          refine go_iinc (L' := [vr 214, vi (k + 1)]) dX12_oneHour_48 rfl (by decide) rfl rfl ?_
          refine go_goto (tgt := 2) dX12_oneHour_51 (by decide) ?_
          exact ih_2 (wr m1 216 (136 + k) ((G (st + 5) k) + 1)) (k + 1) (by first | assumption | omega | rfl) (by first | assumption | omega | rfl) (by rw [hm]; first | exact hr1_t hk0 _ (by omega) | (exact hr1_f hk0 (by rw [hb.br hk0 (by omega)]; omega))) (by omega)
  exact lp_2 _ m 0 (by first | assumption | omega | rfl) (by first | assumption | omega | rfl) (hr1_0 m G d st).symm (Nat.lt_succ_self _)
theorem dX12_passHours_0 : decode mX12_passHours.2.1 0 = .ok (.iload_n 1, 1) := by decide +kernel
theorem dX12_passHours_1 : decode mX12_passHours.2.1 1 = .ok (.sipush 400, 3) := by decide +kernel
theorem dX12_passHours_4 : decode mX12_passHours.2.1 4 = .ok (.aload_n 0, 1) := by decide +kernel
theorem dX12_passHours_5 : decode mX12_passHours.2.1 5 = .ok (.getfield 98, 3) := by decide +kernel
theorem dX12_passHours_8 : decode mX12_passHours.2.1 8 = .ok (.bipush 123, 2) := by decide +kernel
theorem dX12_passHours_10 : decode mX12_passHours.2.1 10 = .ok (.iaload, 1) := by decide +kernel
theorem dX12_passHours_11 : decode mX12_passHours.2.1 11 = .ok (.isub, 1) := by decide +kernel
theorem dX12_passHours_12 : decode mX12_passHours.2.1 12 = .ok (.invokestatic 294, 3) := by decide +kernel
theorem dX12_passHours_15 : decode mX12_passHours.2.1 15 = .ok (.istore_n 2, 1) := by decide +kernel
theorem dX12_passHours_16 : decode mX12_passHours.2.1 16 = .ok (.iconst 0, 1) := by decide +kernel
theorem dX12_passHours_17 : decode mX12_passHours.2.1 17 = .ok (.istore_n 3, 1) := by decide +kernel
theorem dX12_passHours_18 : decode mX12_passHours.2.1 18 = .ok (.iload_n 3, 1) := by decide +kernel
theorem dX12_passHours_19 : decode mX12_passHours.2.1 19 = .ok (.iload_n 2, 1) := by decide +kernel
theorem dX12_passHours_20 : decode mX12_passHours.2.1 20 = .ok (.if_icmp .ge 13, 3) := by decide +kernel
theorem dX12_passHours_23 : decode mX12_passHours.2.1 23 = .ok (.aload_n 0, 1) := by decide +kernel
theorem dX12_passHours_24 : decode mX12_passHours.2.1 24 = .ok (.invokevirtual 297, 3) := by decide +kernel
theorem dX12_passHours_27 : decode mX12_passHours.2.1 27 = .ok (.iinc 3 1, 3) := by decide +kernel
theorem dX12_passHours_30 : decode mX12_passHours.2.1 30 = .ok (.goto (-12), 3) := by decide +kernel
theorem dX12_passHours_33 : decode mX12_passHours.2.1 33 = .ok (.iload_n 2, 1) := by decide +kernel
theorem dX12_passHours_34 : decode mX12_passHours.2.1 34 = .ok (.ireturn, 1) := by decide +kernel
set_option maxRecDepth 4000 in
theorem ev_X12_passHours {m : Mem} {G : Mem} {d : Nat} {st : Nat} {B : Int} {n : Int} (hb : Bg G d st (m 216)) (hdn : DnOk G d) (hst : StOk G d st B) (hsep : d + 10 ≤ st) (hn : 1 ≤ n ∧ n ≤ 60) : Ev 0 2 mX12_passHours [vr 214, vi n] m (fun r m' => r = min n (400 - G st 0) ∧ So m m' ∧ Bg (passC G d st (min n (400 - G st 0))) d st (m' 216)) := by
  refine Ev.of (L := [vr 214, vi n, un, un]) (by decide +kernel) rfl (Nat.le_of_ble_eq_true rfl) rfl (fun t ht => by cases ht; first | exact Or.inl rfl | exact Or.inr (Or.inl rfl) | exact Or.inr (Or.inr rfl)) (fun hcan => ?_)
  obtain ⟨⟨hd0, hd1⟩, ⟨hd2, hd3⟩, ⟨hd4, hd5⟩, ⟨hd6, hd7⟩, ⟨hd8, hd9⟩, hdf, hdp, hdq⟩ := id hdn
  obtain ⟨⟨hs0, hs1⟩, ⟨hs2, hs3⟩, hsw, hsp, hsd, hsz⟩ := id hst
  refine go_iload_n dX12_passHours_0 rfl ?_
  refine go_sipush dX12_passHours_1 (by decide) ?_
  refine go_aload_n dX12_passHours_4 rfl ?_
  refine go_getf_p (b := 216) dX12_passHours_5 fl_12_98 ob_214 rfl pt_214_14 ?_
  refine go_bipush dX12_passHours_8 (by decide) ?_
  refine go_iaload dX12_passHours_10 ar_216 (by omega) (by omega) (fun he_10 => ?_)
  rw [show (m 216 123 : Int) = (G st 0) from hb.hr] at he_10 ⊢
  refine go_isub dX12_passHours_11 ?_
  refine go_callSp_i (as := [vi n, vi (400 - (G st 0))]) (S := []) (ev_X12_lesser (m := m) (a := n) (b := (400 - (G st 0))) (by first | assumption | omega | exact ⟨by omega, by omega⟩ | (constructor <;> omega)) (by first | assumption | omega | exact ⟨by omega, by omega⟩ | (constructor <;> omega))) rfl dX12_passHours_12 cs_12_294 rfl rfl (by decide) (Nat.le_of_ble_eq_true rfl) (fun r_12 hr_12 ho_12 => ?_)
  refine go_istore_n (L' := [vr 214, vi n, vi r_12, un]) dX12_passHours_15 (by decide) rfl rfl ?_
  refine go_iconst dX12_passHours_16 ?_
  refine go_istore_n (L' := [vr 214, vi n, vi r_12, vi 0]) dX12_passHours_17 (by decide) rfl rfl ?_
  refine go_drop (j := 1) (L' := [vr 214, un, vi r_12, vi 0]) rfl ?_
  have lp_18 : ∀ (n_18 : Nat) (m1 : Mem) (i : Int) , (0 ≤ i) → (i ≤ r_12) → (So m m1) → (Bg (passC G d st i) d st (m1 216)) → (r_12 - i).toNat < n_18 → Go 0 2 mX12_passHours (fun r m' => r = min n (400 - G st 0) ∧ So m m' ∧ Bg (passC G d st (min n (400 - G st 0))) d st (m' 216)) 18 [vr 214, un, vi r_12, vi i] [] m1 := by
    intro n_18
    induction n_18 with
    | zero => intro m1 i hi0 hi1 hso hb1 hmu; exact absurd hmu (Nat.not_lt_zero _)
    | succ n_18 ih_18 =>
      intro m1 i hi0 hi1 hso hb1 hmu
      have hs1 := passC_ok (n := i) hsep hdn hst hi0 (by omega)
      have hd1 : DnOk (passC G d st i) d := hdn.congr (fun k hk => passC_fr _ (by omega))
      refine go_iload_n dX12_passHours_18 rfl ?_
      refine go_iload_n dX12_passHours_19 rfl ?_
      refine go_icmp_ge (tgt := 33) dX12_passHours_20 (by decide) ⟨by omega, by omega⟩ ⟨by omega, by omega⟩ (fun h_20 => ?_) (fun h_20 => ?_)
      · refine go_iload_n dX12_passHours_33 rfl ?_
        exact go_ret (v := r_12) rfl dX12_passHours_34 (okI ⟨by omega, by omega⟩) ⟨by omega, hso, by rw [show min n (400 - G st 0) = i by omega]; exact hb1⟩
      · refine go_aload_n dX12_passHours_23 rfl ?_
        refine go_callV_v (as := []) (S := []) (b := 214) (ev_X12_oneHour (m := m1) (G := (passC G d st i)) (d := d) (st := st) (B := B) hb1 hd1 hs1 (by first | assumption | omega | exact ⟨by omega, by omega⟩ | (constructor <;> omega))) rfl dX12_passHours_24 cv_12_297 rfl rfl ob_214 rfl (by decide) (Nat.le_of_ble_eq_true rfl) (fun m_24 hr_24 => ?_)
        refine go_iinc (L' := [vr 214, un, vi r_12, vi (i + 1)]) dX12_passHours_27 rfl (by decide) rfl rfl ?_
        refine go_goto (tgt := 18) dX12_passHours_30 (by decide) ?_
        exact ih_18 m_24 (i + 1) (by first | assumption | omega | rfl) (by first | assumption | omega | rfl) (hso.tr hr_24.1) (by rw [← passC_add hsep hi0]; exact hr_24.2) (by omega)
  exact lp_18 _ m 0 (by first | assumption | omega | rfl) (by first | assumption | omega | rfl) So.rf (by rw [passC_zero hst]; exact hb) (Nat.lt_succ_self _)
theorem dX12_hours_0 : decode mX12_hours.2.1 0 = .ok (.aload_n 0, 1) := by decide +kernel
theorem dX12_hours_1 : decode mX12_hours.2.1 1 = .ok (.iconst 0, 1) := by decide +kernel
theorem dX12_hours_2 : decode mX12_hours.2.1 2 = .ok (.putfield 1, 3) := by decide +kernel
theorem dX12_hours_5 : decode mX12_hours.2.1 5 = .ok (.iload_n 1, 1) := by decide +kernel
theorem dX12_hours_6 : decode mX12_hours.2.1 6 = .ok (.iconst 1, 1) := by decide +kernel
theorem dX12_hours_7 : decode mX12_hours.2.1 7 = .ok (.bipush 60, 2) := by decide +kernel
theorem dX12_hours_9 : decode mX12_hours.2.1 9 = .ok (.invokestatic 75, 3) := by decide +kernel
theorem dX12_hours_12 : decode mX12_hours.2.1 12 = .ok (.ifCond .ne 5, 3) := by decide +kernel
theorem dX12_hours_15 : decode mX12_hours.2.1 15 = .ok (.iconst (-1), 1) := by decide +kernel
theorem dX12_hours_16 : decode mX12_hours.2.1 16 = .ok (.ireturn, 1) := by decide +kernel
theorem dX12_hours_17 : decode mX12_hours.2.1 17 = .ok (.aload_n 0, 1) := by decide +kernel
theorem dX12_hours_18 : decode mX12_hours.2.1 18 = .ok (.getfield 98, 3) := by decide +kernel
theorem dX12_hours_21 : decode mX12_hours.2.1 21 = .ok (.bipush 123, 2) := by decide +kernel
theorem dX12_hours_23 : decode mX12_hours.2.1 23 = .ok (.iaload, 1) := by decide +kernel
theorem dX12_hours_24 : decode mX12_hours.2.1 24 = .ok (.sipush 400, 3) := by decide +kernel
theorem dX12_hours_27 : decode mX12_hours.2.1 27 = .ok (.if_icmp .ne 5, 3) := by decide +kernel
theorem dX12_hours_30 : decode mX12_hours.2.1 30 = .ok (.iconst 0, 1) := by decide +kernel
theorem dX12_hours_31 : decode mX12_hours.2.1 31 = .ok (.ireturn, 1) := by decide +kernel
theorem dX12_hours_32 : decode mX12_hours.2.1 32 = .ok (.aload_n 0, 1) := by decide +kernel
theorem dX12_hours_33 : decode mX12_hours.2.1 33 = .ok (.invokevirtual 280, 3) := by decide +kernel
theorem dX12_hours_36 : decode mX12_hours.2.1 36 = .ok (.aload_n 0, 1) := by decide +kernel
theorem dX12_hours_37 : decode mX12_hours.2.1 37 = .ok (.iload_n 1, 1) := by decide +kernel
theorem dX12_hours_38 : decode mX12_hours.2.1 38 = .ok (.invokevirtual 300, 3) := by decide +kernel
theorem dX12_hours_41 : decode mX12_hours.2.1 41 = .ok (.ireturn, 1) := by decide +kernel
set_option maxRecDepth 4000 in
theorem ev_X12_hours {m : Mem} {G : Mem} {d : Nat} {st : Nat} {B : Int} {n : Int} (hb : Bg G d st (m 216)) (hdn : DnOk G d) (hst : StOk G d st B) (hn : 0 ≤ m 214 25 ∧ m 214 25 ≤ 8) (hsep : d + 10 ≤ st) (hv : InR n) : Ev 0 3 mX12_hours [vr 214, vi n] m (fun r m' => HrP m G d st n r m') := by
  refine Ev.of (L := [vr 214, vi n]) (by decide +kernel) rfl (Nat.le_of_ble_eq_true rfl) rfl (fun t ht => by cases ht; first | exact Or.inl rfl | exact Or.inr (Or.inl rfl) | exact Or.inr (Or.inr rfl)) (fun hcan => ?_)
  obtain ⟨⟨hd0, hd1⟩, ⟨hd2, hd3⟩, ⟨hd4, hd5⟩, ⟨hd6, hd7⟩, ⟨hd8, hd9⟩, hdf, hdp, hdq⟩ := id hdn
  obtain ⟨⟨hs0, hs1⟩, ⟨hs2, hs3⟩, hsw, hsp, hsd, hsz⟩ := id hst
  refine go_aload_n dX12_hours_0 rfl ?_
  refine go_iconst dX12_hours_1 ?_
  refine go_putf_i (ki := 0) dX12_hours_2 fw_12_1 ob_214 rfl rfl ⟨by omega, by omega⟩ ?_
  refine go_iload_n dX12_hours_5 rfl ?_
  refine go_iconst dX12_hours_6 ?_
  refine go_bipush dX12_hours_7 (by decide) ?_
  refine go_callSp_z (as := [vi n, vi 1, vi 60]) (S := []) (ev_X12_isIn (m := (wr m 214 0 0)) (n := n) (lo := 1) (hi := 60) (by first | assumption | omega | exact ⟨by omega, by omega⟩ | (constructor <;> omega)) (by first | assumption | omega | exact ⟨by omega, by omega⟩ | (constructor <;> omega)) (by first | assumption | omega | exact ⟨by omega, by omega⟩ | (constructor <;> omega))) rfl dX12_hours_9 cs_12_75 rfl rfl (by decide) (Nat.le_of_ble_eq_true rfl) (fun r_9 hr_9 ho_9 => ?_)
  refine go_if_ne (tgt := 17) dX12_hours_12 (by decide) ⟨by omega, by omega⟩ (fun h_12 => ?_) (fun h_12 => ?_)
  · refine go_aload_n dX12_hours_17 rfl ?_
    refine go_getf_p (b := 216) dX12_hours_18 fl_12_98 ob_214 rfl pt_214_14 ?_
    refine go_bipush dX12_hours_21 (by decide) ?_
    refine go_iaload dX12_hours_23 ar_216 (by omega) (by omega) (fun he_23 => ?_)
    rw [show ((wr m 214 0 0) 216 123 : Int) = (G st 0) from by rw [wr_na (by omega)]; exact hb.hr] at he_23 ⊢
    refine go_sipush dX12_hours_24 (by decide) ?_
    refine go_icmp_ne (tgt := 32) dX12_hours_27 (by decide) ⟨by omega, by omega⟩ ⟨by omega, by omega⟩ (fun h_27 => ?_) (fun h_27 => ?_)
    · refine go_aload_n dX12_hours_32 rfl ?_
      refine go_callV_v (as := []) (S := []) (b := 214) (ev_X12_snap (m := (wr m 214 0 0))  (by rw [wr_ni (by decide)]; exact hn)) rfl dX12_hours_33 cv_12_280 rfl rfl ob_214 rfl (by decide) (Nat.le_of_ble_eq_true rfl) (fun m_33 hr_33 => ?_)
      refine go_aload_n dX12_hours_36 rfl ?_
      refine go_iload_n dX12_hours_37 rfl ?_
      refine go_callV_i (as := [vi n]) (S := []) (b := 214) (ev_X12_passHours (m := m_33) (n := n) (G := G) (d := d) (st := st) (B := B) ((hb.w (by decide)).e (hr_33.1 216 (by decide) (by decide))) (by first | assumption | omega | exact ⟨by omega, by omega⟩ | (constructor <;> omega)) (by first | assumption | omega | exact ⟨by omega, by omega⟩ | (constructor <;> omega)) (by first | assumption | omega | exact ⟨by omega, by omega⟩ | (constructor <;> omega)) (by first | assumption | omega | exact ⟨by omega, by omega⟩ | (constructor <;> omega))) rfl dX12_hours_38 cv_12_300 rfl rfl ob_214 rfl (by decide) (Nat.le_of_ble_eq_true rfl) (fun r_38 m_38 hr_38 ho_38 => ?_)
      exact go_ret (v := r_38) rfl dX12_hours_41 (okI ⟨by omega, by omega⟩) (Or.inr ⟨by omega, hr_38.1, Or.inr ⟨by omega, _, hr_33, hr_38.2.1, hr_38.2.2⟩⟩)
    · refine go_iconst dX12_hours_30 ?_
      exact go_ret (v := 0) rfl dX12_hours_31 (okI ⟨by omega, by omega⟩) (Or.inr ⟨by omega, by omega, Or.inl ⟨by omega, rfl⟩⟩)
  · refine go_iconst dX12_hours_15 ?_
    exact go_ret (v := (-1)) rfl dX12_hours_16 (okI ⟨by omega, by omega⟩) (Or.inl ⟨by omega, rfl, rfl⟩)
theorem dX12_could_0 : decode mX12_could.2.1 0 = .ok (.aload_n 0, 1) := by decide +kernel
theorem dX12_could_1 : decode mX12_could.2.1 1 = .ok (.iconst 0, 1) := by decide +kernel
theorem dX12_could_2 : decode mX12_could.2.1 2 = .ok (.putfield 1, 3) := by decide +kernel
theorem dX12_could_5 : decode mX12_could.2.1 5 = .ok (.aload_n 0, 1) := by decide +kernel
theorem dX12_could_6 : decode mX12_could.2.1 6 = .ok (.iload_n 1, 1) := by decide +kernel
theorem dX12_could_7 : decode mX12_could.2.1 7 = .ok (.invokevirtual 245, 3) := by decide +kernel
theorem dX12_could_10 : decode mX12_could.2.1 10 = .ok (.ifCond .eq 11, 3) := by decide +kernel
theorem dX12_could_13 : decode mX12_could.2.1 13 = .ok (.aload_n 0, 1) := by decide +kernel
theorem dX12_could_14 : decode mX12_could.2.1 14 = .ok (.iload_n 2, 1) := by decide +kernel
theorem dX12_could_15 : decode mX12_could.2.1 15 = .ok (.invokevirtual 251, 3) := by decide +kernel
theorem dX12_could_18 : decode mX12_could.2.1 18 = .ok (.ifCond .ne 5, 3) := by decide +kernel
theorem dX12_could_21 : decode mX12_could.2.1 21 = .ok (.iconst (-1), 1) := by decide +kernel
theorem dX12_could_22 : decode mX12_could.2.1 22 = .ok (.ireturn, 1) := by decide +kernel
theorem dX12_could_23 : decode mX12_could.2.1 23 = .ok (.iconst 0, 1) := by decide +kernel
theorem dX12_could_24 : decode mX12_could.2.1 24 = .ok (.istore_n 3, 1) := by decide +kernel
theorem dX12_could_25 : decode mX12_could.2.1 25 = .ok (.iconst 0, 1) := by decide +kernel
theorem dX12_could_26 : decode mX12_could.2.1 26 = .ok (.istore 4, 2) := by decide +kernel
theorem dX12_could_28 : decode mX12_could.2.1 28 = .ok (.iload 4, 2) := by decide +kernel
theorem dX12_could_30 : decode mX12_could.2.1 30 = .ok (.iconst 4, 1) := by decide +kernel
theorem dX12_could_31 : decode mX12_could.2.1 31 = .ok (.if_icmp .ge 28, 3) := by decide +kernel
theorem dX12_could_34 : decode mX12_could.2.1 34 = .ok (.aload_n 0, 1) := by decide +kernel
theorem dX12_could_35 : decode mX12_could.2.1 35 = .ok (.iconst 0, 1) := by decide +kernel
theorem dX12_could_36 : decode mX12_could.2.1 36 = .ok (.iload_n 1, 1) := by decide +kernel
theorem dX12_could_37 : decode mX12_could.2.1 37 = .ok (.iload_n 2, 1) := by decide +kernel
theorem dX12_could_38 : decode mX12_could.2.1 38 = .ok (.iload 4, 2) := by decide +kernel
theorem dX12_could_40 : decode mX12_could.2.1 40 = .ok (.invokevirtual 277, 3) := by decide +kernel
theorem dX12_could_43 : decode mX12_could.2.1 43 = .ok (.ifCond .ne 10, 3) := by decide +kernel
theorem dX12_could_46 : decode mX12_could.2.1 46 = .ok (.iload_n 3, 1) := by decide +kernel
theorem dX12_could_47 : decode mX12_could.2.1 47 = .ok (.iconst 1, 1) := by decide +kernel
theorem dX12_could_48 : decode mX12_could.2.1 48 = .ok (.iload 4, 2) := by decide +kernel
theorem dX12_could_50 : decode mX12_could.2.1 50 = .ok (.ishl, 1) := by decide +kernel
theorem dX12_could_51 : decode mX12_could.2.1 51 = .ok (.ior, 1) := by decide +kernel
theorem dX12_could_52 : decode mX12_could.2.1 52 = .ok (.istore_n 3, 1) := by decide +kernel
theorem dX12_could_53 : decode mX12_could.2.1 53 = .ok (.iinc 4 1, 3) := by decide +kernel
theorem dX12_could_56 : decode mX12_could.2.1 56 = .ok (.goto (-28), 3) := by decide +kernel
theorem dX12_could_59 : decode mX12_could.2.1 59 = .ok (.iload_n 3, 1) := by decide +kernel
theorem dX12_could_60 : decode mX12_could.2.1 60 = .ok (.ireturn, 1) := by decide +kernel
set_option maxRecDepth 4000 in
theorem ev_X12_could {m : Mem} {G : Mem} {d : Nat} {st : Nat} {B : Int} {p : Int} {f : Int} (hb : Bg G d st (m 216)) (hdn : DnOk G d) (hst : StOk G d st B) (hp : InR p) (hf : InR f) : Ev 0 6 mX12_could [vr 214, vi p, vi f] m (fun r m' => m' = wr m 214 0 0 ∧ r = if (0 ≤ p ∧ p < G d 3) ∧ 0 ≤ f ∧ f < G d 2 then comeN 0 (fun s => decide (whySayC G d st p f s = 0)) 4 else -1) := by
  refine Ev.of (L := [vr 214, vi p, vi f, un, un]) (by decide +kernel) rfl (Nat.le_of_ble_eq_true rfl) rfl (fun t ht => by cases ht; first | exact Or.inl rfl | exact Or.inr (Or.inl rfl) | exact Or.inr (Or.inr rfl)) (fun hcan => ?_)
  obtain ⟨⟨hd0, hd1⟩, ⟨hd2, hd3⟩, ⟨hd4, hd5⟩, ⟨hd6, hd7⟩, ⟨hd8, hd9⟩, hdf, hdp, hdq⟩ := id hdn
  obtain ⟨⟨hs0, hs1⟩, ⟨hs2, hs3⟩, hsw, hsp, hsd, hsz⟩ := id hst
  refine go_aload_n dX12_could_0 rfl ?_
  refine go_iconst dX12_could_1 ?_
  refine go_putf_i (ki := 0) dX12_could_2 fw_12_1 ob_214 rfl rfl ⟨by omega, by omega⟩ ?_
  refine go_aload_n dX12_could_5 rfl ?_
  refine go_iload_n dX12_could_6 rfl ?_
  refine go_callVp_z (as := [vi p]) (S := []) (b := 214) (ev_X12_isPerson (m := (wr m 214 0 0)) (f := p) (G := G) (d := d) (st := st) (by first | exact hb | exact hb.w (by decide) | exact (hb.w (by decide)).w (by decide)) (by first | assumption | omega | exact ⟨by omega, by omega⟩ | (constructor <;> omega)) (by first | assumption | omega | exact ⟨by omega, by omega⟩ | (constructor <;> omega))) rfl dX12_could_7 cv_12_245 rfl rfl ob_214 rfl (by decide) (Nat.le_of_ble_eq_true rfl) (fun r_7 hr_7 ho_7 => ?_)
  refine go_if_eq (tgt := 21) dX12_could_10 (by decide) ⟨by omega, by omega⟩ (fun h_10 => ?_) (fun h_10 => ?_)
  · refine go_iconst dX12_could_21 ?_
    exact go_ret (v := (-1)) rfl dX12_could_22 (okI ⟨by omega, by omega⟩) ⟨rfl, by omega⟩
  · refine go_aload_n dX12_could_13 rfl ?_
    refine go_iload_n dX12_could_14 rfl ?_
    refine go_callVp_z (as := [vi f]) (S := []) (b := 214) (ev_X12_isFigure (m := (wr m 214 0 0)) (f := f) (G := G) (d := d) (st := st) (by first | exact hb | exact hb.w (by decide) | exact (hb.w (by decide)).w (by decide)) (by first | assumption | omega | exact ⟨by omega, by omega⟩ | (constructor <;> omega)) (by first | assumption | omega | exact ⟨by omega, by omega⟩ | (constructor <;> omega))) rfl dX12_could_15 cv_12_251 rfl rfl ob_214 rfl (by decide) (Nat.le_of_ble_eq_true rfl) (fun r_15 hr_15 ho_15 => ?_)
    refine go_if_ne (tgt := 23) dX12_could_18 (by decide) ⟨by omega, by omega⟩ (fun h_18 => ?_) (fun h_18 => ?_)
    · refine go_iconst dX12_could_23 ?_
      refine go_istore_n (L' := [vr 214, vi p, vi f, vi 0, un]) dX12_could_24 (by decide) rfl rfl ?_
      refine go_iconst dX12_could_25 ?_
      refine go_istore (L' := [vr 214, vi p, vi f, vi 0, vi 0]) dX12_could_26 (by decide) rfl rfl ?_
      have lp_28 : ∀ (n_28 : Nat) (c : Int) (s : Int) , (0 ≤ s) → (s ≤ 4) → (c = comeN 0 (fun s => decide (whySayC G d st p f s = 0)) s.toNat) → (4 - s).toNat < n_28 → Go 0 6 mX12_could (fun r m' => m' = wr m 214 0 0 ∧ r = if (0 ≤ p ∧ p < G d 3) ∧ 0 ≤ f ∧ f < G d 2 then comeN 0 (fun s => decide (whySayC G d st p f s = 0)) 4 else -1) 28 [vr 214, vi p, vi f, vi c, vi s] [] (wr m 214 0 0) := by
        intro n_28
        induction n_28 with
        | zero => intro c s hq0 hq1 hc hmu; exact absurd hmu (Nat.not_lt_zero _)
        | succ n_28 ih_28 =>
          intro c s hq0 hq1 hc hmu
          have hbR := comeN_R (P := (fun s => decide (whySayC G d st p f s = 0))) s.toNat
          rw [← hc] at hbR
          refine go_iload dX12_could_28 rfl ?_
          refine go_iconst dX12_could_30 ?_
          refine go_icmp_ge (tgt := 59) dX12_could_31 (by decide) ⟨by omega, by omega⟩ ⟨by omega, by omega⟩ (fun h_31 => ?_) (fun h_31 => ?_)
          · refine go_iload_n dX12_could_59 rfl ?_
            exact go_ret (v := c) rfl dX12_could_60 (okI ⟨by omega, by omega⟩) ⟨rfl, by rw [if_pos (by omega), hc, show s = 4 by omega]; rfl⟩
          · refine go_aload_n dX12_could_34 rfl ?_
            refine go_iconst dX12_could_35 ?_
            refine go_iload_n dX12_could_36 rfl ?_
            refine go_iload_n dX12_could_37 rfl ?_
            refine go_iload dX12_could_38 rfl ?_
            refine go_callVp_i (as := [vi 0, vi p, vi f, vi s]) (S := []) (b := 214) (ev_X12_why (m := (wr m 214 0 0)) (w := 0) (p := p) (f := f) (s := s) (G := G) (d := d) (st := st) (B := B) (by first | exact hb | exact hb.w (by decide) | exact (hb.w (by decide)).w (by decide)) (by first | assumption | omega | exact ⟨by omega, by omega⟩ | (constructor <;> omega)) (by first | assumption | omega | exact ⟨by omega, by omega⟩ | (constructor <;> omega)) (by first | assumption | omega | exact ⟨by omega, by omega⟩ | (constructor <;> omega)) (fun _ => by omega) (fun _ => by omega) (by first | assumption | omega | exact ⟨by omega, by omega⟩ | (constructor <;> omega))) rfl dX12_could_40 cv_12_277 rfl rfl ob_214 rfl (by decide) (Nat.le_of_ble_eq_true rfl) (fun r_40 hr_40 ho_40 => ?_)
            have hr_40 : r_40 = whySayC G d st p f s := hr_40
            refine go_if_ne (tgt := 53) dX12_could_43 (by decide) ⟨by omega, by omega⟩ (fun h_43 => ?_) (fun h_43 => ?_)
            · refine go_iinc (L' := [vr 214, vi p, vi f, vi c, vi (s + 1)]) dX12_could_53 rfl (by decide) rfl rfl ?_
              refine go_goto (tgt := 28) dX12_could_56 (by decide) ?_
              exact ih_28 c (s + 1) (by first | assumption | omega | rfl) (by first | assumption | omega | rfl) (by first | (rw [comeN_t hq0 (decide_eq_true (by omega)), ← hc]) | (rw [comeN_f hq0 (decide_eq_false (by omega)), ← hc])) (by omega)
            · refine go_iload_n dX12_could_46 rfl ?_
              refine go_iconst dX12_could_47 ?_
              refine go_iload dX12_could_48 rfl ?_
              refine go_ishl dX12_could_50 ?_
              refine go_ior dX12_could_51 ?_
              refine go_istore_n (L' := [vr 214, vi p, vi f, vi (ior c (ishl 1 s)), vi s]) dX12_could_52 (by decide) rfl rfl ?_
              refine go_iinc (L' := [vr 214, vi p, vi f, vi (ior c (ishl 1 s)), vi (s + 1)]) dX12_could_53 rfl (by decide) rfl rfl ?_
              refine go_goto (tgt := 28) dX12_could_56 (by decide) ?_
              exact ih_28 (ior c (ishl 1 s)) (s + 1) (by first | assumption | omega | rfl) (by first | assumption | omega | rfl) (by first | (rw [comeN_t hq0 (decide_eq_true (by omega)), ← hc]) | (rw [comeN_f hq0 (decide_eq_false (by omega)), ← hc])) (by omega)
      exact lp_28 _ 0 0 (by first | assumption | omega | rfl) (by first | assumption | omega | rfl) rfl (Nat.lt_succ_self _)
    · refine go_iconst dX12_could_21 ?_
      exact go_ret (v := (-1)) rfl dX12_could_22 (okI ⟨by omega, by omega⟩) ⟨rfl, by omega⟩
