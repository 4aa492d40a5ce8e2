/-! ===== the reference: where one can come at all ===== -/
def QS (G : Mem) (p a s0 : Int) (Q : Int → Int) (e : Int) : Prop := (1 ≤ e ∧ e ≤ 324) ∧ (∀ i : Int, 0 ≤ i → i < e → (0 ≤ Q i ∧ Q i < 324) ∧ ∃ n K : Nat, Rch (nx8 G p a) (4 * G 8 2) s0 n (Q i) K) ∧ ∀ (n : Nat) (t : Int) (K : Nat), Rch (nx8 G p a) (4 * G 8 2) s0 n t K → ∃ i : Int, 0 ≤ i ∧ i < e ∧ Q i = t
def BX (G : Mem) (p a s0 : Int) (m : Mem) (e k hc : Int) : Prop := ∃ fr mv : Int → Int, BI (nx8 G p a) (4 * G 8 2) s0 (m 226) (fa m) fr mv e k hc
section
variable {G m : Mem} {p a s0 e k hc : Int}
theorem BX.b (h : BX G p a s0 m e k hc) : (1 ≤ e ∧ e ≤ 324) ∧ 0 ≤ k ∧ k ≤ e := by
  obtain ⟨fr, mv, h⟩ := h
  exact ⟨h.1, h.2.1⟩
theorem BX.q (h : BX G p a s0 m e k hc) (hdn : DnOk G 8) (hs : VS G 8 s0) {i : Int} (h0 : 0 ≤ i) (h1 : i < e) : VS G 8 (m 226 i) ∧ 0 ≤ fa m (m 226 i) ∧ fa m (m 226 i) ≤ i := by
  obtain ⟨fr, mv, -, -, F, g1, -⟩ := h
  have := g1 i h0 h1
  exact ⟨Rch_v (fun x y h => freeB_in h) hdn hs _ _ _ this.2.2, this.2.1⟩
theorem BX.up (h : BX G p a s0 m e k (4 * G 8 2)) (hk : k < e) : BX G p a s0 m e (k + 1) 0 := by
  obtain ⟨fr, mv, h⟩ := h
  exact ⟨fr, mv, BI_up h hk⟩
theorem BX.no (h : BX G p a s0 m e k hc) (hn : nx8 G p a (m 226 k) hc = -1) : BX G p a s0 m e k (hc + 1) := by
  obtain ⟨fr, mv, h⟩ := h
  exact ⟨fr, mv, BI_no h hn⟩
theorem BX.old (h : BX G p a s0 m e k hc) (hC : 4 * G 8 2 ≤ 24) (hq : k < e) (h0 : 0 ≤ hc) (hh : hc < 4 * G 8 2) (hr : 0 ≤ nx8 G p a (m 226 k) hc ∧ nx8 G p a (m 226 k) hc < 324) (hf : fa m (nx8 G p a (m 226 k) hc) ≠ -1) : BX G p a s0 m e k (hc + 1) := by
  obtain ⟨fr, mv, h⟩ := h
  exact ⟨fr, mv, BI_old h hC hq h0 hh hr hf⟩
theorem BX.room (h : BX G p a s0 m e k hc) {t : Int} (h0 : 0 ≤ t) (h1 : t < 324) (hf : fa m t = -1) : e < 324 := by
  obtain ⟨fr, mv, h⟩ := h
  exact BI_room h h0 h1 hf
theorem BX.new (h : BX G p a s0 m e k hc) (hC : 4 * G 8 2 ≤ 24) (hq : k < e) (h0 : 0 ≤ hc) (hh : hc < 4 * G 8 2) {t x : Int} (ht : nx8 G p a (m 226 k) hc = t) (hr : 0 ≤ t ∧ t < 324) (hf : fa m t = -1) (hx : x = fa m (m 226 k) + 1) (hx1 : x ≠ 100000) : BX G p a s0 (wr (wr m 225 t x) 226 e t) (e + 1) k (hc + 1) := by
  obtain ⟨fr, mv, h⟩ := h
  refine ⟨fun j => if j = t then m 226 k else fr j, fun j => if j = t then hc else mv j, ?_⟩
  have h2 := BI_new h hC hq h0 hh ht hr hf
  have e1 : wr (wr m 225 t x) 226 e t 226 = fun j => if j = e then t else m 226 j := by rw [wr_rowat, wr_row (by decide)]
  have e2 : fa (wr (wr m 225 t x) 226 e t) = fun j => if j = t then fa m (m 226 k) + 1 else fa m j := by
    funext j
    unfold fa
    rw [wr_na (by decide)]
    by_cases q : j = t
    · rw [if_pos q, q, wr_self, if_neg hx1, hx]; rfl
    · rw [if_neg q, wr_ni q]
  rw [e1, e2]; exact h2
theorem BX.start {M : Mem} (hs : 0 ≤ s0 ∧ s0 < 324) (hM : ∀ t : Int, 0 ≤ t → t < 324 → M 225 t = 100000) : BX G p a s0 (wr (wr M 225 s0 0) 226 0 s0) 1 0 0 := by
  refine ⟨fun _ => 0, fun _ => 0, BI_start (X := fun _ => 0) hs (wr_self _ _ _ _) (fun s a b => ?_)⟩
  unfold fa
  rw [wr_na (by decide)]
  by_cases q : s = s0
  · rw [q, wr_self, if_neg (by decide), if_pos rfl]
  · rw [wr_ni q, hM s a b, if_pos rfl, if_neg q]
theorem BX.fin (h : BX G p a s0 m e e 0) (hdn : DnOk G 8) (hs : VS G 8 s0) : QS G p a s0 (m 226) e := by
  obtain ⟨fr, mv, h⟩ := h
  have hC : 4 * G 8 2 ≤ 24 := by have := hdn.2.2.1; omega
  have hbf := BI_fin h hC (fun s c a b ⟨n, K, hr⟩ c0 c1 c2 => by
    have hv := Rch_v (fun x y h => freeB_in h) hdn hs _ _ _ hr
    have hv2 := nx8_v hdn hv c0 c1 c2
    exact ⟨hv2.1, hv2.lt hdn⟩)
  obtain ⟨a1, a2, F, g1, g2, -⟩ := h
  refine ⟨a1, fun i i0 i1 => ⟨(g1 i i0 i1).1, _, _, (g1 i i0 i1).2.2⟩, fun n t K hr => ?_⟩
  have hv := Rch_v (fun x y h => freeB_in h) hdn hs _ _ _ hr
  have h2 := hv.lt hdn
  rcases hbf t hv.1 h2 with ⟨-, z⟩ | ⟨z, -⟩
  · exact absurd hr (z n K)
  · exact g2 t hv.1 h2 (by omega)
end
theorem QS.cells {G : Mem} {p a s0 e : Int} {Q : Int → Int} (h : QS G p a s0 Q e) (c : Int) : (fnd (fun k => decide (Q k / 4 = c)) e ≠ -1) ↔ ∃ (u : Int) (n K : Nat), 0 ≤ u ∧ u < 4 ∧ Rch (nx8 G p a) (4 * G 8 2) s0 n (4 * c + u) K := by
  obtain ⟨h1, h2, h3⟩ := h
  constructor
  · intro hf
    rcases fnd_cases (fun k => decide (Q k / 4 = c)) e with ⟨z, -⟩ | ⟨z0, z1, z2, -⟩
    · exact absurd z hf
    · have z2 := of_decide_eq_true z2
      obtain ⟨hb, n, K, hr⟩ := h2 _ z0 z1
      exact ⟨Q (fnd (fun k => decide (Q k / 4 = c)) e) - 4 * c, n, K, by omega, by omega, by rw [show 4 * c + (Q (fnd (fun k => decide (Q k / 4 = c)) e) - 4 * c) = Q (fnd (fun k => decide (Q k / 4 = c)) e) by omega]; exact hr⟩
  · rintro ⟨u, n, K, u0, u1, hr⟩ hf
    obtain ⟨i, i0, i1, i2⟩ := h3 _ _ _ hr
    rcases fnd_cases (fun k => decide (Q k / 4 = c)) e with ⟨-, z⟩ | ⟨z0, -⟩
    · have := of_decide_eq_false (z i i0 i1)
      rw [i2] at this; omega
    · omega

theorem dX12_layFrom_0 : decode mX12_layFrom.2.1 0 = .ok (.iconst 0, 1) := by decide +kernel
theorem dX12_layFrom_1 : decode mX12_layFrom.2.1 1 = .ok (.istore_n 3, 1) := by decide +kernel
theorem dX12_layFrom_2 : decode mX12_layFrom.2.1 2 = .ok (.iload_n 3, 1) := by decide +kernel
theorem dX12_layFrom_3 : decode mX12_layFrom.2.1 3 = .ok (.sipush 324, 3) := by decide +kernel
theorem dX12_layFrom_6 : decode mX12_layFrom.2.1 6 = .ok (.if_icmp .ge 18, 3) := by decide +kernel
theorem dX12_layFrom_9 : decode mX12_layFrom.2.1 9 = .ok (.aload_n 0, 1) := by decide +kernel
theorem dX12_layFrom_10 : decode mX12_layFrom.2.1 10 = .ok (.getfield 127, 3) := by decide +kernel
theorem dX12_layFrom_13 : decode mX12_layFrom.2.1 13 = .ok (.iload_n 3, 1) := by decide +kernel
theorem dX12_layFrom_14 : decode mX12_layFrom.2.1 14 = .ok (.ldc_w 303, 3) := by decide +kernel
theorem dX12_layFrom_17 : decode mX12_layFrom.2.1 17 = .ok (.iastore, 1) := by decide +kernel
theorem dX12_layFrom_18 : decode mX12_layFrom.2.1 18 = .ok (.iinc 3 1, 3) := by decide +kernel
theorem dX12_layFrom_21 : decode mX12_layFrom.2.1 21 = .ok (.goto (-19), 3) := by decide +kernel
theorem dX12_layFrom_24 : decode mX12_layFrom.2.1 24 = .ok (.aload_n 0, 1) := by decide +kernel
theorem dX12_layFrom_25 : decode mX12_layFrom.2.1 25 = .ok (.iload_n 1, 1) := by decide +kernel
theorem dX12_layFrom_26 : decode mX12_layFrom.2.1 26 = .ok (.iconst 0, 1) := by decide +kernel
theorem dX12_layFrom_27 : decode mX12_layFrom.2.1 27 = .ok (.iconst 0, 1) := by decide +kernel
theorem dX12_layFrom_28 : decode mX12_layFrom.2.1 28 = .ok (.invokevirtual 304, 3) := by decide +kernel
theorem dX12_layFrom_31 : decode mX12_layFrom.2.1 31 = .ok (.iconst 1, 1) := by decide +kernel
theorem dX12_layFrom_32 : decode mX12_layFrom.2.1 32 = .ok (.istore_n 3, 1) := by decide +kernel
theorem dX12_layFrom_33 : decode mX12_layFrom.2.1 33 = .ok (.iconst 0, 1) := by decide +kernel
theorem dX12_layFrom_34 : decode mX12_layFrom.2.1 34 = .ok (.istore 4, 2) := by decide +kernel
theorem dX12_layFrom_36 : decode mX12_layFrom.2.1 36 = .ok (.iload 4, 2) := by decide +kernel
theorem dX12_layFrom_38 : decode mX12_layFrom.2.1 38 = .ok (.iload_n 3, 1) := by decide +kernel
theorem dX12_layFrom_39 : decode mX12_layFrom.2.1 39 = .ok (.if_icmp .ge 108, 3) := by decide +kernel
theorem dX12_layFrom_42 : decode mX12_layFrom.2.1 42 = .ok (.iconst 0, 1) := by decide +kernel
theorem dX12_layFrom_43 : decode mX12_layFrom.2.1 43 = .ok (.istore 5, 2) := by decide +kernel
theorem dX12_layFrom_45 : decode mX12_layFrom.2.1 45 = .ok (.iload 5, 2) := by decide +kernel
theorem dX12_layFrom_47 : decode mX12_layFrom.2.1 47 = .ok (.aload_n 0, 1) := by decide +kernel
theorem dX12_layFrom_48 : decode mX12_layFrom.2.1 48 = .ok (.getfield 98, 3) := by decide +kernel
theorem dX12_layFrom_51 : decode mX12_layFrom.2.1 51 = .ok (.iconst 2, 1) := by decide +kernel
theorem dX12_layFrom_52 : decode mX12_layFrom.2.1 52 = .ok (.iaload, 1) := by decide +kernel
theorem dX12_layFrom_53 : decode mX12_layFrom.2.1 53 = .ok (.if_icmp .ge 88, 3) := by decide +kernel
theorem dX12_layFrom_56 : decode mX12_layFrom.2.1 56 = .ok (.iconst 0, 1) := by decide +kernel
theorem dX12_layFrom_57 : decode mX12_layFrom.2.1 57 = .ok (.istore 6, 2) := by decide +kernel
theorem dX12_layFrom_59 : decode mX12_layFrom.2.1 59 = .ok (.iload 6, 2) := by decide +kernel
theorem dX12_layFrom_61 : decode mX12_layFrom.2.1 61 = .ok (.iconst 4, 1) := by decide +kernel
theorem dX12_layFrom_62 : decode mX12_layFrom.2.1 62 = .ok (.if_icmp .ge 73, 3) := by decide +kernel
theorem dX12_layFrom_65 : decode mX12_layFrom.2.1 65 = .ok (.aload_n 0, 1) := by decide +kernel
theorem dX12_layFrom_66 : decode mX12_layFrom.2.1 66 = .ok (.aload_n 0, 1) := by decide +kernel
theorem dX12_layFrom_67 : decode mX12_layFrom.2.1 67 = .ok (.getfield 130, 3) := by decide +kernel
theorem dX12_layFrom_70 : decode mX12_layFrom.2.1 70 = .ok (.iload 4, 2) := by decide +kernel
theorem dX12_layFrom_72 : decode mX12_layFrom.2.1 72 = .ok (.iaload, 1) := by decide +kernel
theorem dX12_layFrom_73 : decode mX12_layFrom.2.1 73 = .ok (.iload 5, 2) := by decide +kernel
theorem dX12_layFrom_75 : decode mX12_layFrom.2.1 75 = .ok (.iload 6, 2) := by decide +kernel
theorem dX12_layFrom_77 : decode mX12_layFrom.2.1 77 = .ok (.iload_n 2, 1) := by decide +kernel
theorem dX12_layFrom_78 : decode mX12_layFrom.2.1 78 = .ok (.invokevirtual 308, 3) := by decide +kernel
theorem dX12_layFrom_81 : decode mX12_layFrom.2.1 81 = .ok (.istore 7, 2) := by decide +kernel
theorem dX12_layFrom_83 : decode mX12_layFrom.2.1 83 = .ok (.iload 7, 2) := by decide +kernel
theorem dX12_layFrom_85 : decode mX12_layFrom.2.1 85 = .ok (.iconst (-1), 1) := by decide +kernel
theorem dX12_layFrom_86 : decode mX12_layFrom.2.1 86 = .ok (.if_icmp .eq 43, 3) := by decide +kernel
theorem dX12_layFrom_89 : decode mX12_layFrom.2.1 89 = .ok (.aload_n 0, 1) := by decide +kernel
theorem dX12_layFrom_90 : decode mX12_layFrom.2.1 90 = .ok (.getfield 127, 3) := by decide +kernel
theorem dX12_layFrom_93 : decode mX12_layFrom.2.1 93 = .ok (.iload 7, 2) := by decide +kernel
theorem dX12_layFrom_95 : decode mX12_layFrom.2.1 95 = .ok (.iaload, 1) := by decide +kernel
theorem dX12_layFrom_96 : decode mX12_layFrom.2.1 96 = .ok (.ldc_w 303, 3) := by decide +kernel
theorem dX12_layFrom_99 : decode mX12_layFrom.2.1 99 = .ok (.if_icmp .ge 6, 3) := by decide +kernel
theorem dX12_layFrom_102 : decode mX12_layFrom.2.1 102 = .ok (.goto 27, 3) := by decide +kernel
theorem dX12_layFrom_105 : decode mX12_layFrom.2.1 105 = .ok (.aload_n 0, 1) := by decide +kernel
theorem dX12_layFrom_106 : decode mX12_layFrom.2.1 106 = .ok (.iload 7, 2) := by decide +kernel
theorem dX12_layFrom_108 : decode mX12_layFrom.2.1 108 = .ok (.aload_n 0, 1) := by decide +kernel
theorem dX12_layFrom_109 : decode mX12_layFrom.2.1 109 = .ok (.getfield 127, 3) := by decide +kernel
theorem dX12_layFrom_112 : decode mX12_layFrom.2.1 112 = .ok (.aload_n 0, 1) := by decide +kernel
theorem dX12_layFrom_113 : decode mX12_layFrom.2.1 113 = .ok (.getfield 130, 3) := by decide +kernel
theorem dX12_layFrom_116 : decode mX12_layFrom.2.1 116 = .ok (.iload 4, 2) := by decide +kernel
theorem dX12_layFrom_118 : decode mX12_layFrom.2.1 118 = .ok (.iaload, 1) := by decide +kernel
theorem dX12_layFrom_119 : decode mX12_layFrom.2.1 119 = .ok (.iaload, 1) := by decide +kernel
theorem dX12_layFrom_120 : decode mX12_layFrom.2.1 120 = .ok (.iconst 1, 1) := by decide +kernel
theorem dX12_layFrom_121 : decode mX12_layFrom.2.1 121 = .ok (.iadd, 1) := by decide +kernel
theorem dX12_layFrom_122 : decode mX12_layFrom.2.1 122 = .ok (.iload_n 3, 1) := by decide +kernel
theorem dX12_layFrom_123 : decode mX12_layFrom.2.1 123 = .ok (.invokevirtual 304, 3) := by decide +kernel
theorem dX12_layFrom_126 : decode mX12_layFrom.2.1 126 = .ok (.iinc 3 1, 3) := by decide +kernel
theorem dX12_layFrom_129 : decode mX12_layFrom.2.1 129 = .ok (.iinc 6 1, 3) := by decide +kernel
theorem dX12_layFrom_132 : decode mX12_layFrom.2.1 132 = .ok (.goto (-73), 3) := by decide +kernel
theorem dX12_layFrom_135 : decode mX12_layFrom.2.1 135 = .ok (.iinc 5 1, 3) := by decide +kernel
theorem dX12_layFrom_138 : decode mX12_layFrom.2.1 138 = .ok (.goto (-93), 3) := by decide +kernel
theorem dX12_layFrom_141 : decode mX12_layFrom.2.1 141 = .ok (.iinc 4 1, 3) := by decide +kernel
theorem dX12_layFrom_144 : decode mX12_layFrom.2.1 144 = .ok (.goto (-108), 3) := by decide +kernel
theorem dX12_layFrom_147 : decode mX12_layFrom.2.1 147 = .ok (.iload_n 3, 1) := by decide +kernel
theorem dX12_layFrom_148 : decode mX12_layFrom.2.1 148 = .ok (.ireturn, 1) := by decide +kernel
set_option maxRecDepth 4000 in
theorem ev_X12_layFrom {m : Mem} {G : Mem} {B : Int} {p : Int} {a : Int} {but : Int} {s0 : Int} (hb : Bg G 8 18 (m 216)) (hdn : DnOk G 8) (hst : StOk G 8 18 B) (hbt : ∀ o : Int, 0 ≤ o → o < G 8 3 → (hasP but o ↔ (o = p ∨ o = a))) (hvs : VS G 8 s0) : Ev 0 6 mX12_layFrom [vr 214, vi s0, vi but] m (fun r m' => (∀ b : Nat, b ≠ 225 → b ≠ 226 → m' b = m b) ∧ QS G p a s0 (m' 226) r) := by
  refine Ev.of (L := [vr 214, vi s0, vi but, un, un, un, un, un]) (by decide +kernel) rfl (Nat.le_of_ble_eq_true rfl) rfl (fun t ht => by cases ht; first | exact Or.inl rfl | exact Or.inr (Or.inl rfl) | exact Or.inr (Or.inr rfl)) (fun hcan => ?_)
  obtain ⟨⟨hd0, hd1⟩, ⟨hd2, hd3⟩, ⟨hd4, hd5⟩, ⟨hd6, hd7⟩, ⟨hd8, hd9⟩, hdf, hdp, hdq⟩ := id hdn
  have hg324 := hvs.lt hdn
  have hg0 := hvs.1
  refine go_iconst dX12_layFrom_0 ?_
  refine go_istore_n (L' := [vr 214, vi s0, vi but, vi 0, un, un, un, un]) dX12_layFrom_1 (by decide) rfl rfl ?_
  have lp_2 : ∀ (n_2 : Nat) (m0 : Mem) (i : Int) , (0 ≤ i) → (i ≤ 324) → (m0 = fill m 225 i 100000) → (324 - i).toNat < n_2 → Go 0 6 mX12_layFrom (fun r m' => (∀ b : Nat, b ≠ 225 → b ≠ 226 → m' b = m b) ∧ QS G p a s0 (m' 226) r) 2 [vr 214, vi s0, vi but, vi i, un, un, un, un] [] m0 := by
    intro n_2
    induction n_2 with
    | zero => intro m0 i hi0 hi1 hm hmu; exact absurd hmu (Nat.not_lt_zero _)
    | succ n_2 ih_2 =>
      intro m0 i hi0 hi1 hm hmu
      refine go_iload_n dX12_layFrom_2 rfl ?_
      refine go_sipush dX12_layFrom_3 (by decide) ?_
      refine go_icmp_ge (tgt := 24) dX12_layFrom_6 (by decide) ⟨by omega, by omega⟩ ⟨by omega, by omega⟩ (fun h_6 => ?_) (fun h_6 => ?_)
      · have e324 : ∀ t : Int, 0 ≤ t → t < 324 → m0 225 t = 100000 := fun t h1 h2 => by rw [hm]; unfold fill; rw [if_pos ⟨rfl, by omega, by omega⟩]
        refine go_aload_n dX12_layFrom_24 rfl ?_
        refine go_iload_n dX12_layFrom_25 rfl ?_
        refine go_iconst dX12_layFrom_26 ?_
        refine go_iconst dX12_layFrom_27 ?_
        refine go_callV_v (as := [vi s0, vi 0, vi 0]) (S := []) (b := 214) (ev_X12_queueUp (m := m0) (t := s0) (n := 0) (i := 0) (by first | assumption | omega | exact ⟨by omega, by omega⟩ | (constructor <;> omega)) (by first | assumption | omega | exact ⟨by omega, by omega⟩ | (constructor <;> omega)) (by omega)) rfl dX12_layFrom_28 cv_12_304 rfl rfl ob_214 rfl (by decide) (Nat.le_of_ble_eq_true rfl) (fun m_28 hr_28 => ?_)
        refine go_iconst dX12_layFrom_31 ?_
        refine go_istore_n (L' := [vr 214, vi s0, vi but, vi 1, un, un, un, un]) dX12_layFrom_32 (by decide) rfl rfl ?_
        refine go_iconst dX12_layFrom_33 ?_
        refine go_istore (L' := [vr 214, vi s0, vi but, vi 1, vi 0, un, un, un]) dX12_layFrom_34 (by decide) rfl rfl ?_
        refine go_drop (j := 1) (L' := [vr 214, un, vi but, vi 1, vi 0, un, un, un]) rfl ?_
        have lp_36 : ∀ (n_36 : Nat) (m1 : Mem) (e : Int) (k : Int) , (BX G p a s0 m1 e k 0) → (∀ b : Nat, b ≠ 225 → b ≠ 226 → m1 b = m b) → (∀ t : Int, 0 ≤ t → t < 324 → 0 ≤ m1 225 t) → (∀ t : Int, 0 ≤ t → t < 324 → m1 225 t ≤ 100000) → (324 - k).toNat < n_36 → Go 0 6 mX12_layFrom (fun r m' => (∀ b : Nat, b ≠ 225 → b ≠ 226 → m' b = m b) ∧ QS G p a s0 (m' 226) r) 36 [vr 214, un, vi but, vi e, vi k, un, un, un] [] m1 := by
          intro n_36
          induction n_36 with
          | zero => intro m1 e k hX hfr hpo hle hmu; exact absurd hmu (Nat.not_lt_zero _)
          | succ n_36 ih_36 =>
            intro m1 e k hX hfr hpo hle hmu
            have hXb := hX.b
            refine go_iload dX12_layFrom_36 rfl ?_
            refine go_iload_n dX12_layFrom_38 rfl ?_
            refine go_icmp_ge (tgt := 147) dX12_layFrom_39 (by decide) ⟨by omega, by omega⟩ ⟨by omega, by omega⟩ (fun h_39 => ?_) (fun h_39 => ?_)
            · refine go_iload_n dX12_layFrom_147 rfl ?_
              exact go_ret (v := e) rfl dX12_layFrom_148 (okI ⟨by omega, by omega⟩) (by refine ⟨hfr, ?_⟩; rw [show k = e by omega] at hX; exact hX.fin hdn hvs)
            · refine go_iconst dX12_layFrom_42 ?_
              refine go_istore (L' := [vr 214, un, vi but, vi e, vi k, vi 0, un, un]) dX12_layFrom_43 (by decide) rfl rfl ?_
              have lp_45 : ∀ (n_45 : Nat) (m2 : Mem) (e : Int) (f : Int) , (0 ≤ f) → (f ≤ G 8 2) → (BX G p a s0 m2 e k (4 * f)) → (∀ b : Nat, b ≠ 225 → b ≠ 226 → m2 b = m b) → (∀ t : Int, 0 ≤ t → t < 324 → 0 ≤ m2 225 t) → (k < e) → (∀ t : Int, 0 ≤ t → t < 324 → m2 225 t ≤ 100000) → (G 8 2 - f).toNat < n_45 → Go 0 6 mX12_layFrom (fun r m' => (∀ b : Nat, b ≠ 225 → b ≠ 226 → m' b = m b) ∧ QS G p a s0 (m' 226) r) 45 [vr 214, un, vi but, vi e, vi k, vi f, un, un] [] m2 := by
                intro n_45
                induction n_45 with
                | zero => intro m2 e f hf0 hf1 hX2 hfr2 hpo2 hke hle2 hmu; exact absurd hmu (Nat.not_lt_zero _)
                | succ n_45 ih_45 =>
                  intro m2 e f hf0 hf1 hX2 hfr2 hpo2 hke hle2 hmu
                  have hXb2 := hX2.b
                  have hb2 : Bg G 8 18 (m2 216) := by rw [hfr2 216 (by decide) (by decide)]; exact hb
                  refine go_iload dX12_layFrom_45 rfl ?_
                  refine go_aload_n dX12_layFrom_47 rfl ?_
                  refine go_getf_p (b := 216) dX12_layFrom_48 fl_12_98 ob_214 rfl pt_214_14 ?_
                  refine go_iconst dX12_layFrom_51 ?_
                  refine go_iaload dX12_layFrom_52 ar_216 (by omega) (by omega) (fun he_52 => ?_)
                  rw [show (m2 216 2 : Int) = (G 8 2) from hb2.n2] at he_52 ⊢
                  refine go_icmp_ge (tgt := 141) dX12_layFrom_53 (by decide) ⟨by omega, by omega⟩ ⟨by omega, by omega⟩ (fun h_53 => ?_) (fun h_53 => ?_)
                  · refine go_iinc (L' := [vr 214, un, vi but, vi e, vi (k + 1), vi f, un, un]) dX12_layFrom_141 rfl (by decide) rfl rfl ?_
                    refine go_goto (tgt := 36) dX12_layFrom_144 (by decide) ?_
                    refine go_drop (j := 5) (L' := [vr 214, un, vi but, vi e, vi (k + 1), un, un, un]) rfl ?_
                    exact ih_36 m2 e (k + 1) (by rw [show f = G 8 2 by omega] at hX2; exact hX2.up hke) hfr2 hpo2 hle2 (by omega)
                  · refine go_iconst dX12_layFrom_56 ?_
                    refine go_istore (L' := [vr 214, un, vi but, vi e, vi k, vi f, vi 0, un]) dX12_layFrom_57 (by decide) rfl rfl ?_
                    have lp_59 : ∀ (n_59 : Nat) (m3 : Mem) (e : Int) (s : Int) , (0 ≤ s) → (s ≤ 4) → (BX G p a s0 m3 e k (4 * f + s)) → (∀ b : Nat, b ≠ 225 → b ≠ 226 → m3 b = m b) → (∀ t : Int, 0 ≤ t → t < 324 → 0 ≤ m3 225 t) → (k < e) → (∀ t : Int, 0 ≤ t → t < 324 → m3 225 t ≤ 100000) → (4 - s).toNat < n_59 → Go 0 6 mX12_layFrom (fun r m' => (∀ b : Nat, b ≠ 225 → b ≠ 226 → m' b = m b) ∧ QS G p a s0 (m' 226) r) 59 [vr 214, un, vi but, vi e, vi k, vi f, vi s, un] [] m3 := by
                      intro n_59
                      induction n_59 with
                      | zero => intro m3 e s hs0 hs1 hX3 hfr3 hpo3 hke3 hle3 hmu; exact absurd hmu (Nat.not_lt_zero _)
                      | succ n_59 ih_59 =>
                        intro m3 e s hs0 hs1 hX3 hfr3 hpo3 hke3 hle3 hmu
                        have hXb3 := hX3.b
                        have hb3 : Bg G 8 18 (m3 216) := by rw [hfr3 216 (by decide) (by decide)]; exact hb
                        have hq3 := hX3.q hdn hvs (i := k) (by omega) (by omega)
                        have hq324 := hq3.1.lt hdn
                        have hq0 := hq3.1.1
                        refine go_iload dX12_layFrom_59 rfl ?_
                        refine go_iconst dX12_layFrom_61 ?_
                        refine go_icmp_ge (tgt := 135) dX12_layFrom_62 (by decide) ⟨by omega, by omega⟩ ⟨by omega, by omega⟩ (fun h_62 => ?_) (fun h_62 => ?_)
                        · refine go_iinc (L' := [vr 214, un, vi but, vi e, vi k, vi (f + 1), vi s, un]) dX12_layFrom_135 rfl (by decide) rfl rfl ?_
                          refine go_goto (tgt := 45) dX12_layFrom_138 (by decide) ?_
                          refine go_drop (j := 6) (L' := [vr 214, un, vi but, vi e, vi k, vi (f + 1), un, un]) rfl ?_
                          exact ih_45 m3 e (f + 1) (by first | assumption | omega | rfl) (by first | assumption | omega | rfl) (by rw [show 4 * (f + 1) = 4 * f + s by omega]; exact hX3) hfr3 hpo3 (by omega) hle3 (by omega)
                        · refine go_aload_n dX12_layFrom_65 rfl ?_
                          refine go_aload_n dX12_layFrom_66 rfl ?_
                          refine go_getf_p (b := 226) dX12_layFrom_67 fl_12_130 ob_214 rfl pt_214_27 ?_
                          refine go_iload dX12_layFrom_70 rfl ?_
                          refine go_iaload dX12_layFrom_72 ar_226 (by omega) (by omega) (fun he_72 => ?_)
                          refine go_iload dX12_layFrom_73 rfl ?_
                          refine go_iload dX12_layFrom_75 rfl ?_
                          refine go_iload_n dX12_layFrom_77 rfl ?_
                          refine go_callVp_i (as := [vi (m3 226 k), vi f, vi s, vi but]) (S := []) (b := 214) (ev_X12_behind (m := m3) (s := (m3 226 k)) (f := f) (sd := s) (but := but) (G := G) (B := B) (p := p) (a := a) (v := (4 * f + s)) hb3 (by first | assumption | omega | exact ⟨by omega, by omega⟩ | (constructor <;> omega)) (by first | assumption | omega | exact ⟨by omega, by omega⟩ | (constructor <;> omega)) hbt hq3.1 (by first | assumption | omega | exact ⟨by omega, by omega⟩ | (constructor <;> omega)) (by omega) (by omega)) rfl dX12_layFrom_78 cv_12_308 rfl rfl ob_214 rfl (by decide) (Nat.le_of_ble_eq_true rfl) (fun r_78 hr_78 ho_78 => ?_)
                          refine go_istore (L' := [vr 214, un, vi but, vi e, vi k, vi f, vi s, vi r_78]) dX12_layFrom_81 (by decide) rfl rfl ?_
                          refine go_iload dX12_layFrom_83 rfl ?_
                          refine go_iconst dX12_layFrom_85 ?_
                          refine go_icmp_eq (tgt := 129) dX12_layFrom_86 (by decide) ⟨by omega, by omega⟩ ⟨by omega, by omega⟩ (fun h_86 => ?_) (fun h_86 => ?_)
                          · refine go_iinc (L' := [vr 214, un, vi but, vi e, vi k, vi f, vi (s + 1), vi r_78]) dX12_layFrom_129 rfl (by decide) rfl rfl ?_
                            refine go_goto (tgt := 59) dX12_layFrom_132 (by decide) ?_
                            refine go_drop (j := 7) (L' := [vr 214, un, vi but, vi e, vi k, vi f, vi (s + 1), un]) rfl ?_
                            exact ih_59 m3 e (s + 1) (by first | assumption | omega | rfl) (by first | assumption | omega | rfl) (by rw [show 4 * f + (s + 1) = 4 * f + s + 1 by omega]; first | exact hX3.no (by omega) | exact hX3.old (by omega) (by omega) (by omega) (by omega) (by rw [← hr_78]; omega) (by rw [← hr_78]; unfold fa; rw [if_neg (by omega)]; omega) | (rw [hr_123]; exact hX3.new (by omega) (by omega) (by omega) (by omega) hr_78.symm (by omega) hfa (by rw [hfq]) (by omega))) (by first | exact hfr3 | exact fun b h1 h2 => by rw [hr_123, wr_row h2, wr_row h1]; exact hfr3 b h1 h2) (by first | exact hpo3 | exact fun t h1 h2 => by rw [hr_123, wr_na (by decide)]; by_cases q : t = r_78; (rw [q, wr_self]; omega); (rw [wr_ni q]; exact hpo3 t h1 h2)) (by omega) (by first | exact hle3 | exact fun t h1 h2 => by rw [hr_123, wr_na (by decide)]; by_cases q : t = r_78; (rw [q, wr_self]; omega); (rw [wr_ni q]; exact hle3 t h1 h2)) (by omega)
                          · have hvn : VS G 8 r_78 := by rw [hr_78]; exact nx8_v hdn hq3.1 (by omega) (by omega) (by rw [← hr_78]; omega)
                            have hn324 := hvn.lt hdn
                            have hn0 := hvn.1
                            have hpn := hpo3 r_78 hn0 hn324
                            have hln := hle3 r_78 hn0 hn324
                            refine go_aload_n dX12_layFrom_89 rfl ?_
                            refine go_getf_p (b := 225) dX12_layFrom_90 fl_12_127 ob_214 rfl pt_214_26 ?_
                            refine go_iload dX12_layFrom_93 rfl ?_
                            refine go_iaload dX12_layFrom_95 ar_225 (by omega) (by omega) (fun he_95 => ?_)
                            refine go_ldcw (x := 100000) dX12_layFrom_96 k_12_303 ?_
                            refine go_icmp_ge (tgt := 105) dX12_layFrom_99 (by decide) ⟨by omega, by omega⟩ ⟨by omega, by omega⟩ (fun h_99 => ?_) (fun h_99 => ?_)
                            · have hfq : fa m3 (m3 226 k) = m3 225 (m3 226 k) := by have := hq3.2; unfold fa at this ⊢; split at this; omega; rw [if_neg (by assumption)]
                              have hfa : fa m3 r_78 = -1 := by unfold fa; rw [if_pos (by omega)]
                              refine go_aload_n dX12_layFrom_105 rfl ?_
                              refine go_iload dX12_layFrom_106 rfl ?_
                              refine go_aload_n dX12_layFrom_108 rfl ?_
                              refine go_getf_p (b := 225) dX12_layFrom_109 fl_12_127 ob_214 rfl pt_214_26 ?_
                              refine go_aload_n dX12_layFrom_112 rfl ?_
                              refine go_getf_p (b := 226) dX12_layFrom_113 fl_12_130 ob_214 rfl pt_214_27 ?_
                              refine go_iload dX12_layFrom_116 rfl ?_
                              refine go_iaload dX12_layFrom_118 ar_226 (by omega) (by omega) (fun he_118 => ?_)
                              refine go_iaload dX12_layFrom_119 ar_225 (by omega) (by omega) (fun he_119 => ?_)
                              refine go_iconst dX12_layFrom_120 ?_
                              refine go_iadd dX12_layFrom_121 ?_
                              refine go_iload_n dX12_layFrom_122 rfl ?_
                              refine go_callV_v (as := [vi r_78, vi ((m3 225 (m3 226 k)) + 1), vi e]) (S := []) (b := 214) (ev_X12_queueUp (m := m3) (t := r_78) (n := ((m3 225 (m3 226 k)) + 1)) (i := e) (by omega) (by first | assumption | omega | exact ⟨by omega, by omega⟩ | (constructor <;> omega)) (by have := hX3.room (t := r_78) (by omega) (by omega) hfa; omega)) rfl dX12_layFrom_123 cv_12_304 rfl rfl ob_214 rfl (by decide) (Nat.le_of_ble_eq_true rfl) (fun m_123 hr_123 => ?_)
                              refine go_iinc (L' := [vr 214, un, vi but, vi (e + 1), vi k, vi f, vi s, vi r_78]) dX12_layFrom_126 rfl (by decide) rfl rfl ?_
                              refine go_iinc (L' := [vr 214, un, vi but, vi (e + 1), vi k, vi f, vi (s + 1), vi r_78]) dX12_layFrom_129 rfl (by decide) rfl rfl ?_
                              refine go_goto (tgt := 59) dX12_layFrom_132 (by decide) ?_
                              refine go_drop (j := 7) (L' := [vr 214, un, vi but, vi (e + 1), vi k, vi f, vi (s + 1), un]) rfl ?_
                              exact ih_59 m_123 (e + 1) (s + 1) (by first | assumption | omega | rfl) (by first | assumption | omega | rfl) (by rw [show 4 * f + (s + 1) = 4 * f + s + 1 by omega]; first | exact hX3.no (by omega) | exact hX3.old (by omega) (by omega) (by omega) (by omega) (by rw [← hr_78]; omega) (by rw [← hr_78]; unfold fa; rw [if_neg (by omega)]; omega) | (rw [hr_123]; exact hX3.new (by omega) (by omega) (by omega) (by omega) hr_78.symm (by omega) hfa (by rw [hfq]) (by omega))) (by first | exact hfr3 | exact fun b h1 h2 => by rw [hr_123, wr_row h2, wr_row h1]; exact hfr3 b h1 h2) (by first | exact hpo3 | exact fun t h1 h2 => by rw [hr_123, wr_na (by decide)]; by_cases q : t = r_78; (rw [q, wr_self]; omega); (rw [wr_ni q]; exact hpo3 t h1 h2)) (by omega) (by first | exact hle3 | exact fun t h1 h2 => by rw [hr_123, wr_na (by decide)]; by_cases q : t = r_78; (rw [q, wr_self]; omega); (rw [wr_ni q]; exact hle3 t h1 h2)) (by omega)
                            · refine go_goto (tgt := 129) dX12_layFrom_102 (by decide) ?_
                              refine go_iinc (L' := [vr 214, un, vi but, vi e, vi k, vi f, vi (s + 1), vi r_78]) dX12_layFrom_129 rfl (by decide) rfl rfl ?_
                              refine go_goto (tgt := 59) dX12_layFrom_132 (by decide) ?_
                              refine go_drop (j := 7) (L' := [vr 214, un, vi but, vi e, vi k, vi f, vi (s + 1), un]) rfl ?_
                              exact ih_59 m3 e (s + 1) (by first | assumption | omega | rfl) (by first | assumption | omega | rfl) (by rw [show 4 * f + (s + 1) = 4 * f + s + 1 by omega]; first | exact hX3.no (by omega) | exact hX3.old (by omega) (by omega) (by omega) (by omega) (by rw [← hr_78]; omega) (by rw [← hr_78]; unfold fa; rw [if_neg (by omega)]; omega) | (rw [hr_123]; exact hX3.new (by omega) (by omega) (by omega) (by omega) hr_78.symm (by omega) hfa (by rw [hfq]) (by omega))) (by first | exact hfr3 | exact fun b h1 h2 => by rw [hr_123, wr_row h2, wr_row h1]; exact hfr3 b h1 h2) (by first | exact hpo3 | exact fun t h1 h2 => by rw [hr_123, wr_na (by decide)]; by_cases q : t = r_78; (rw [q, wr_self]; omega); (rw [wr_ni q]; exact hpo3 t h1 h2)) (by omega) (by first | exact hle3 | exact fun t h1 h2 => by rw [hr_123, wr_na (by decide)]; by_cases q : t = r_78; (rw [q, wr_self]; omega); (rw [wr_ni q]; exact hle3 t h1 h2)) (by omega)
                    exact lp_59 _ m2 e 0 (by first | assumption | omega | rfl) (by first | assumption | omega | rfl) (by rw [show 4 * f + 0 = 4 * f by omega]; exact hX2) hfr2 hpo2 (by omega) hle2 (Nat.lt_succ_self _)
              exact lp_45 _ m1 e 0 (by first | assumption | omega | rfl) (by first | assumption | omega | rfl) hX hfr hpo (by omega) hle (Nat.lt_succ_self _)
        exact lp_36 _ m_28 1 0 (by rw [hr_28]; exact BX.start ⟨hg0, hg324⟩ e324) (fun b h1 h2 => by rw [hr_28, wr_row h2, wr_row h1, hm]; funext j; unfold fill; rw [if_neg (fun q => h1 q.1)]) (fun t h1 h2 => by rw [hr_28, wr_na (by decide)]; by_cases q : t = s0; (rw [q, wr_self]; omega); (rw [wr_ni q, e324 t h1 h2]; omega)) (fun t h1 h2 => by rw [hr_28, wr_na (by decide)]; by_cases q : t = s0; (rw [q, wr_self]; omega); (rw [wr_ni q, e324 t h1 h2]; omega)) (Nat.lt_succ_self _)
      · refine go_aload_n dX12_layFrom_9 rfl ?_
        refine go_getf_p (b := 225) dX12_layFrom_10 fl_12_127 ob_214 rfl pt_214_26 ?_
        refine go_iload_n dX12_layFrom_13 rfl ?_
        refine go_ldcw (x := 100000) dX12_layFrom_14 k_12_303 ?_
        refine go_iastore dX12_layFrom_17 ar_225 (by omega) (by omega) ⟨by omega, by omega⟩ ?_
        refine go_iinc (L' := [vr 214, vi s0, vi but, vi (i + 1), un, un, un, un]) dX12_layFrom_18 rfl (by decide) rfl rfl ?_
        refine go_goto (tgt := 2) dX12_layFrom_21 (by decide) ?_
        exact ih_2 (wr m0 225 i 100000) (i + 1) (by first | assumption | omega | rfl) (by first | assumption | omega | rfl) (by rw [hm]; exact fill_s hi0) (by omega)
  exact lp_2 _ m 0 (by first | assumption | omega | rfl) (by first | assumption | omega | rfl) (fill_0 m 225 100000).symm (Nat.lt_succ_self _)
theorem dX12_sees_0 : decode mX12_sees.2.1 0 = .ok (.aload_n 0, 1) := by decide +kernel
theorem dX12_sees_1 : decode mX12_sees.2.1 1 = .ok (.iconst 0, 1) := by decide +kernel
theorem dX12_sees_2 : decode mX12_sees.2.1 2 = .ok (.putfield 1, 3) := by decide +kernel
theorem dX12_sees_5 : decode mX12_sees.2.1 5 = .ok (.aload_n 0, 1) := by decide +kernel
theorem dX12_sees_6 : decode mX12_sees.2.1 6 = .ok (.iload_n 1, 1) := by decide +kernel
theorem dX12_sees_7 : decode mX12_sees.2.1 7 = .ok (.invokevirtual 245, 3) := by decide +kernel
theorem dX12_sees_10 : decode mX12_sees.2.1 10 = .ok (.ifCond .ne 5, 3) := by decide +kernel
theorem dX12_sees_13 : decode mX12_sees.2.1 13 = .ok (.iconst (-1), 1) := by decide +kernel
theorem dX12_sees_14 : decode mX12_sees.2.1 14 = .ok (.ireturn, 1) := by decide +kernel
theorem dX12_sees_15 : decode mX12_sees.2.1 15 = .ok (.aload_n 0, 1) := by decide +kernel
theorem dX12_sees_16 : decode mX12_sees.2.1 16 = .ok (.aload_n 0, 1) := by decide +kernel
theorem dX12_sees_17 : decode mX12_sees.2.1 17 = .ok (.iload_n 1, 1) := by decide +kernel
theorem dX12_sees_18 : decode mX12_sees.2.1 18 = .ok (.invokevirtual 321, 3) := by decide +kernel
theorem dX12_sees_21 : decode mX12_sees.2.1 21 = .ok (.iconst 1, 1) := by decide +kernel
theorem dX12_sees_22 : decode mX12_sees.2.1 22 = .ok (.iload_n 1, 1) := by decide +kernel
theorem dX12_sees_23 : decode mX12_sees.2.1 23 = .ok (.ishl, 1) := by decide +kernel
theorem dX12_sees_24 : decode mX12_sees.2.1 24 = .ok (.invokevirtual 331, 3) := by decide +kernel
theorem dX12_sees_27 : decode mX12_sees.2.1 27 = .ok (.istore_n 2, 1) := by decide +kernel
theorem dX12_sees_28 : decode mX12_sees.2.1 28 = .ok (.iconst 0, 1) := by decide +kernel
theorem dX12_sees_29 : decode mX12_sees.2.1 29 = .ok (.istore_n 3, 1) := by decide +kernel
theorem dX12_sees_30 : decode mX12_sees.2.1 30 = .ok (.iconst 0, 1) := by decide +kernel
theorem dX12_sees_31 : decode mX12_sees.2.1 31 = .ok (.istore 4, 2) := by decide +kernel
theorem dX12_sees_33 : decode mX12_sees.2.1 33 = .ok (.iload 4, 2) := by decide +kernel
theorem dX12_sees_35 : decode mX12_sees.2.1 35 = .ok (.bipush 81, 2) := by decide +kernel
theorem dX12_sees_37 : decode mX12_sees.2.1 37 = .ok (.if_icmp .ge 61, 3) := by decide +kernel
theorem dX12_sees_40 : decode mX12_sees.2.1 40 = .ok (.iconst 0, 1) := by decide +kernel
theorem dX12_sees_41 : decode mX12_sees.2.1 41 = .ok (.istore 5, 2) := by decide +kernel
theorem dX12_sees_43 : decode mX12_sees.2.1 43 = .ok (.iconst 0, 1) := by decide +kernel
theorem dX12_sees_44 : decode mX12_sees.2.1 44 = .ok (.istore 6, 2) := by decide +kernel
theorem dX12_sees_46 : decode mX12_sees.2.1 46 = .ok (.iload 6, 2) := by decide +kernel
theorem dX12_sees_48 : decode mX12_sees.2.1 48 = .ok (.iload_n 2, 1) := by decide +kernel
theorem dX12_sees_49 : decode mX12_sees.2.1 49 = .ok (.if_icmp .ge 35, 3) := by decide +kernel
theorem dX12_sees_52 : decode mX12_sees.2.1 52 = .ok (.iload 5, 2) := by decide +kernel
theorem dX12_sees_54 : decode mX12_sees.2.1 54 = .ok (.ifCond .ne 17, 3) := by decide +kernel
theorem dX12_sees_57 : decode mX12_sees.2.1 57 = .ok (.aload_n 0, 1) := by decide +kernel
theorem dX12_sees_58 : decode mX12_sees.2.1 58 = .ok (.getfield 130, 3) := by decide +kernel
theorem dX12_sees_61 : decode mX12_sees.2.1 61 = .ok (.iload 6, 2) := by decide +kernel
theorem dX12_sees_63 : decode mX12_sees.2.1 63 = .ok (.iaload, 1) := by decide +kernel
theorem dX12_sees_64 : decode mX12_sees.2.1 64 = .ok (.iconst 4, 1) := by decide +kernel
theorem dX12_sees_65 : decode mX12_sees.2.1 65 = .ok (.idiv, 1) := by decide +kernel
theorem dX12_sees_66 : decode mX12_sees.2.1 66 = .ok (.iload 4, 2) := by decide +kernel
theorem dX12_sees_68 : decode mX12_sees.2.1 68 = .ok (.if_icmp .ne 7, 3) := by decide +kernel
theorem dX12_sees_71 : decode mX12_sees.2.1 71 = .ok (.iconst 1, 1) := by decide +kernel
theorem dX12_sees_72 : decode mX12_sees.2.1 72 = .ok (.goto 4, 3) := by decide +kernel
theorem dX12_sees_75 : decode mX12_sees.2.1 75 = .ok (.iconst 0, 1) := by decide +kernel
theorem dX12_sees_76 : decode mX12_sees.2.1 76 = .ok (.istore 5, 2) := by decide +kernel
theorem dX12_sees_78 : decode mX12_sees.2.1 78 = .ok (.iinc 6 1, 3) := by decide +kernel
theorem dX12_sees_81 : decode mX12_sees.2.1 81 = .ok (.goto (-35), 3) := by decide +kernel
theorem dX12_sees_84 : decode mX12_sees.2.1 84 = .ok (.iload 5, 2) := by decide +kernel
theorem dX12_sees_86 : decode mX12_sees.2.1 86 = .ok (.ifCond .eq 6, 3) := by decide +kernel
theorem dX12_sees_89 : decode mX12_sees.2.1 89 = .ok (.iinc 3 1, 3) := by decide +kernel
theorem dX12_sees_92 : decode mX12_sees.2.1 92 = .ok (.iinc 4 1, 3) := by decide +kernel
theorem dX12_sees_95 : decode mX12_sees.2.1 95 = .ok (.goto (-62), 3) := by decide +kernel
theorem dX12_sees_98 : decode mX12_sees.2.1 98 = .ok (.iload_n 3, 1) := by decide +kernel
theorem dX12_sees_99 : decode mX12_sees.2.1 99 = .ok (.ireturn, 1) := by decide +kernel
set_option maxRecDepth 4000 in
theorem ev_X12_sees {m : Mem} {G : Mem} {B : Int} {p : Int} (hb : Bg G 8 18 (m 216)) (hdn : DnOk G 8) (hst : StOk G 8 18 B) (hp : InR p) : Ev 0 7 mX12_sees [vr 214, vi p] m (fun r m' => SsM m G p r m') := by
  refine Ev.of (L := [vr 214, vi p, un, un, un, un, un]) (by decide +kernel) rfl (Nat.le_of_ble_eq_true rfl) rfl (fun t ht => by cases ht; first | exact Or.inl rfl | exact Or.inr (Or.inl rfl) | exact Or.inr (Or.inr rfl)) (fun hcan => ?_)
  obtain ⟨⟨hd0, hd1⟩, ⟨hd2, hd3⟩, ⟨hd4, hd5⟩, ⟨hd6, hd7⟩, ⟨hd8, hd9⟩, hdf, hdp, hdq⟩ := id hdn
  refine go_aload_n dX12_sees_0 rfl ?_
  refine go_iconst dX12_sees_1 ?_
  refine go_putf_i (ki := 0) dX12_sees_2 fw_12_1 ob_214 rfl rfl ⟨by omega, by omega⟩ ?_
  refine go_aload_n dX12_sees_5 rfl ?_
  refine go_iload_n dX12_sees_6 rfl ?_
  refine go_callVp_z (as := [vi p]) (S := []) (b := 214) (ev_X12_isPerson (m := (wr m 214 0 0)) (f := p) (G := G) (d := 8) (st := 18) (by first | exact hb | exact hb.w (by decide) | exact (hb.w (by decide)).w (by decide)) (by first | assumption | omega | exact ⟨by omega, by omega⟩ | (constructor <;> omega)) (by first | assumption | omega | exact ⟨by omega, by omega⟩ | (constructor <;> omega))) rfl dX12_sees_7 cv_12_245 rfl rfl ob_214 rfl (by decide) (Nat.le_of_ble_eq_true rfl) (fun r_7 hr_7 ho_7 => ?_)
  refine go_if_ne (tgt := 15) dX12_sees_10 (by decide) ⟨by omega, by omega⟩ (fun h_10 => ?_) (fun h_10 => ?_)
  · refine go_aload_n dX12_sees_15 rfl ?_
    refine go_aload_n dX12_sees_16 rfl ?_
    refine go_iload_n dX12_sees_17 rfl ?_
    refine go_callVp_i (as := [vi p]) (S := [vr 214]) (b := 214) (ev_X12_placeOf (m := (wr m 214 0 0)) (p := p) (G := G) (B := B) (by first | exact hb | exact hb.w (by decide) | exact (hb.w (by decide)).w (by decide)) (by first | assumption | omega | exact ⟨by omega, by omega⟩ | (constructor <;> omega)) (by first | assumption | omega | exact ⟨by omega, by omega⟩ | (constructor <;> omega)) (by first | assumption | omega | exact ⟨by omega, by omega⟩ | (constructor <;> omega))) rfl dX12_sees_18 cv_12_321 rfl rfl ob_214 rfl (by decide) (Nat.le_of_ble_eq_true rfl) (fun r_18 hr_18 ho_18 => ?_)
    subst hr_18
    refine go_iconst dX12_sees_21 ?_
    refine go_iload_n dX12_sees_22 rfl ?_
    refine go_ishl dX12_sees_23 ?_
    refine go_callV_i (as := [vi (stdC G p), vi (ishl 1 p)]) (S := []) (b := 214) (ev_X12_layFrom (m := (wr m 214 0 0)) (s0 := (stdC G p)) (but := (ishl 1 p)) (G := G) (B := B) (p := p) (a := (-1)) (by first | exact hb | exact hb.w (by decide) | exact (hb.w (by decide)).w (by decide)) (by first | assumption | omega | exact ⟨by omega, by omega⟩ | (constructor <;> omega)) (by first | assumption | omega | exact ⟨by omega, by omega⟩ | (constructor <;> omega)) (fun o o0 o1 => bit1 (by omega) (by omega) o0 (by omega)) (stdC_v hdn hst (by omega) (by omega))) rfl dX12_sees_24 cv_12_331 rfl rfl ob_214 rfl (by decide) (Nat.le_of_ble_eq_true rfl) (fun r_24 m_24 hr_24 ho_24 => ?_)
    obtain ⟨hf24, hq24⟩ := hr_24
    have hqe := hq24.1
    have hqb : ∀ i : Int, 0 ≤ i → i < r_24 → 0 ≤ m_24 226 i ∧ m_24 226 i < 324 := fun i a b => (hq24.2.1 i a b).1
    refine go_istore_n (L' := [vr 214, vi p, vi r_24, un, un, un, un]) dX12_sees_27 (by decide) rfl rfl ?_
    refine go_iconst dX12_sees_28 ?_
    refine go_istore_n (L' := [vr 214, vi p, vi r_24, vi 0, un, un, un]) dX12_sees_29 (by decide) rfl rfl ?_
    refine go_iconst dX12_sees_30 ?_
    refine go_istore (L' := [vr 214, vi p, vi r_24, vi 0, vi 0, un, un]) dX12_sees_31 (by decide) rfl rfl ?_
    refine go_drop (j := 1) (L' := [vr 214, un, vi r_24, vi 0, vi 0, un, un]) rfl ?_
    have lp_33 : ∀ (n_33 : Nat) (n : Int) (c : Int) , (0 ≤ c) → (c ≤ 81) → (n = cntI (fun c => decide (fnd (fun k => decide (m_24 226 k / 4 = c)) r_24 ≠ -1)) c) → (81 - c).toNat < n_33 → Go 0 7 mX12_sees (fun r m' => SsM m G p r m') 33 [vr 214, un, vi r_24, vi n, vi c, un, un] [] m_24 := by
      intro n_33
      induction n_33 with
      | zero => intro n c hc0 hc1 hn hmu; exact absurd hmu (Nat.not_lt_zero _)
      | succ n_33 ih_33 =>
        intro n c hc0 hc1 hn hmu
        have hnb := cntI_b (fun c => decide (fnd (fun k => decide (m_24 226 k / 4 = c)) r_24 ≠ -1)) hc0
        rw [← hn] at hnb
        refine go_iload dX12_sees_33 rfl ?_
        refine go_bipush dX12_sees_35 (by decide) ?_
        refine go_icmp_ge (tgt := 98) dX12_sees_37 (by decide) ⟨by omega, by omega⟩ ⟨by omega, by omega⟩ (fun h_37 => ?_) (fun h_37 => ?_)
        · refine go_iload_n dX12_sees_98 rfl ?_
          exact go_ret (v := n) rfl dX12_sees_99 (okI ⟨by omega, by omega⟩) ⟨fun b h1 h2 h3 => by rw [hf24 b h2 h3, wr_row h1], hf24 214 (by decide) (by decide), Or.inr ⟨by omega, (fun c => decide (fnd (fun k => decide (m_24 226 k / 4 = c)) r_24 ≠ -1)), fun c _ _ => by rw [decide_eq_true_iff]; exact hq24.cells c, by rw [hn, show c = 81 by omega]⟩⟩
        · refine go_iconst dX12_sees_40 ?_
          refine go_istore (L' := [vr 214, un, vi r_24, vi n, vi c, vi 0, un]) dX12_sees_41 (by decide) rfl rfl ?_
          refine go_iconst dX12_sees_43 ?_
          refine go_istore (L' := [vr 214, un, vi r_24, vi n, vi c, vi 0, vi 0]) dX12_sees_44 (by decide) rfl rfl ?_
          have lp_46 : ∀ (n_46 : Nat) (b : Int) (k : Int) , (0 ≤ k) → (k ≤ r_24) → ((b = 1 ∧ fnd (fun k => decide (m_24 226 k / 4 = c)) k ≠ -1) ∨ (b = 0 ∧ fnd (fun k => decide (m_24 226 k / 4 = c)) k = -1)) → (r_24 - k).toNat < n_46 → Go 0 7 mX12_sees (fun r m' => SsM m G p r m') 46 [vr 214, un, vi r_24, vi n, vi c, vi b, vi k] [] m_24 := by
            intro n_46
            induction n_46 with
            | zero => intro b k hk0 hk1 hb1 hmu; exact absurd hmu (Nat.not_lt_zero _)
            | succ n_46 ih_46 =>
              intro b k hk0 hk1 hb1 hmu
              have hfo := fndN_or (P := (fun k => decide (m_24 226 k / 4 = c))) hk0
              refine go_iload dX12_sees_46 rfl ?_
              refine go_iload_n dX12_sees_48 rfl ?_
              refine go_icmp_ge (tgt := 84) dX12_sees_49 (by decide) ⟨by omega, by omega⟩ ⟨by omega, by omega⟩ (fun h_49 => ?_) (fun h_49 => ?_)
              · refine go_iload dX12_sees_84 rfl ?_
                refine go_if_eq (tgt := 92) dX12_sees_86 (by decide) ⟨by omega, by omega⟩ (fun h_86 => ?_) (fun h_86 => ?_)
                · refine go_iinc (L' := [vr 214, un, vi r_24, vi n, vi (c + 1), vi b, vi k]) dX12_sees_92 rfl (by decide) rfl rfl ?_
                  refine go_goto (tgt := 33) dX12_sees_95 (by decide) ?_
                  refine go_drop (j := 5) (L' := [vr 214, un, vi r_24, vi n, vi (c + 1), un, vi k]) rfl ?_
                  refine go_drop (j := 6) (L' := [vr 214, un, vi r_24, vi n, vi (c + 1), un, un]) rfl ?_
                  exact ih_33 n (c + 1) (by first | assumption | omega | rfl) (by first | assumption | omega | rfl) (by rw [cntI_s _ hc0, ← hn]; first | (rw [if_pos (decide_eq_true (by rcases hb1 with h | h; (rw [show r_24 = k by omega]; exact h.2); omega))]) | (rw [if_neg (fun h => by have h := of_decide_eq_true h; rcases hb1 with z | z; omega; (rw [show r_24 = k by omega] at h; exact h z.2))]; omega)) (by omega)
                · refine go_iinc (L' := [vr 214, un, vi r_24, vi (n + 1), vi c, vi b, vi k]) dX12_sees_89 rfl (by decide) rfl rfl ?_
                  refine go_iinc (L' := [vr 214, un, vi r_24, vi (n + 1), vi (c + 1), vi b, vi k]) dX12_sees_92 rfl (by decide) rfl rfl ?_
                  refine go_goto (tgt := 33) dX12_sees_95 (by decide) ?_
                  refine go_drop (j := 5) (L' := [vr 214, un, vi r_24, vi (n + 1), vi (c + 1), un, vi k]) rfl ?_
                  refine go_drop (j := 6) (L' := [vr 214, un, vi r_24, vi (n + 1), vi (c + 1), un, un]) rfl ?_
                  exact ih_33 (n + 1) (c + 1) (by first | assumption | omega | rfl) (by first | assumption | omega | rfl) (by rw [cntI_s _ hc0, ← hn]; first | (rw [if_pos (decide_eq_true (by rcases hb1 with h | h; (rw [show r_24 = k by omega]; exact h.2); omega))]) | (rw [if_neg (fun h => by have h := of_decide_eq_true h; rcases hb1 with z | z; omega; (rw [show r_24 = k by omega] at h; exact h z.2))]; omega)) (by omega)
              · refine go_iload dX12_sees_52 rfl ?_
                refine go_if_ne (tgt := 71) dX12_sees_54 (by decide) ⟨by omega, by omega⟩ (fun h_54 => ?_) (fun h_54 => ?_)
                · refine go_iconst dX12_sees_71 ?_
                  refine go_goto (tgt := 76) dX12_sees_72 (by decide) ?_
                  refine go_istore (L' := [vr 214, un, vi r_24, vi n, vi c, vi 1, vi k]) dX12_sees_76 (by decide) rfl rfl ?_
                  refine go_iinc (L' := [vr 214, un, vi r_24, vi n, vi c, vi 1, vi (k + 1)]) dX12_sees_78 rfl (by decide) rfl rfl ?_
                  refine go_goto (tgt := 46) dX12_sees_81 (by decide) ?_
                  exact ih_46 1 (k + 1) (by first | assumption | omega | rfl) (by first | assumption | omega | rfl) (by first | (left; refine ⟨rfl, hfo.mpr (Or.inl ?_)⟩; rcases hb1 with h | h; exact h.2; omega) | (left; exact ⟨rfl, hfo.mpr (Or.inr (decide_eq_true (by omega)))⟩) | (right; refine ⟨rfl, ?_⟩; by_cases q : fnd (fun k => decide (m_24 226 k / 4 = c)) (k + 1) = -1; exact q; (rcases hfo.mp q with z | z; (rcases hb1 with h | h; omega; exact absurd h.2 z); (have z := of_decide_eq_true z; omega)))) (by omega)
                · have hqk := hqb k hk0 (by omega)
                  refine go_aload_n dX12_sees_57 rfl ?_
                  refine go_getf_p (b := 226) dX12_sees_58 fl_12_130 ob_214 rfl pt_214_27 ?_
                  refine go_iload dX12_sees_61 rfl ?_
                  refine go_iaload dX12_sees_63 ar_226 (by omega) (by omega) (fun he_63 => ?_)
                  refine go_iconst dX12_sees_64 ?_
                  refine go_idiv dX12_sees_65 ⟨by omega, by omega⟩ ⟨by omega, by omega⟩ (by omega) (by omega) ?_
                  refine go_iload dX12_sees_66 rfl ?_
                  refine go_icmp_ne (tgt := 75) dX12_sees_68 (by decide) ⟨by omega, by omega⟩ ⟨by omega, by omega⟩ (fun h_68 => ?_) (fun h_68 => ?_)
                  · refine go_iconst dX12_sees_75 ?_
                    refine go_istore (L' := [vr 214, un, vi r_24, vi n, vi c, vi 0, vi k]) dX12_sees_76 (by decide) rfl rfl ?_
                    refine go_iinc (L' := [vr 214, un, vi r_24, vi n, vi c, vi 0, vi (k + 1)]) dX12_sees_78 rfl (by decide) rfl rfl ?_
                    refine go_goto (tgt := 46) dX12_sees_81 (by decide) ?_
                    exact ih_46 0 (k + 1) (by first | assumption | omega | rfl) (by first | assumption | omega | rfl) (by first | (left; refine ⟨rfl, hfo.mpr (Or.inl ?_)⟩; rcases hb1 with h | h; exact h.2; omega) | (left; exact ⟨rfl, hfo.mpr (Or.inr (decide_eq_true (by omega)))⟩) | (right; refine ⟨rfl, ?_⟩; by_cases q : fnd (fun k => decide (m_24 226 k / 4 = c)) (k + 1) = -1; exact q; (rcases hfo.mp q with z | z; (rcases hb1 with h | h; omega; exact absurd h.2 z); (have z := of_decide_eq_true z; omega)))) (by omega)
                  · refine go_iconst dX12_sees_71 ?_
                    refine go_goto (tgt := 76) dX12_sees_72 (by decide) ?_
                    refine go_istore (L' := [vr 214, un, vi r_24, vi n, vi c, vi 1, vi k]) dX12_sees_76 (by decide) rfl rfl ?_
                    refine go_iinc (L' := [vr 214, un, vi r_24, vi n, vi c, vi 1, vi (k + 1)]) dX12_sees_78 rfl (by decide) rfl rfl ?_
                    refine go_goto (tgt := 46) dX12_sees_81 (by decide) ?_
                    exact ih_46 1 (k + 1) (by first | assumption | omega | rfl) (by first | assumption | omega | rfl) (by first | (left; refine ⟨rfl, hfo.mpr (Or.inl ?_)⟩; rcases hb1 with h | h; exact h.2; omega) | (left; exact ⟨rfl, hfo.mpr (Or.inr (decide_eq_true (by omega)))⟩) | (right; refine ⟨rfl, ?_⟩; by_cases q : fnd (fun k => decide (m_24 226 k / 4 = c)) (k + 1) = -1; exact q; (rcases hfo.mp q with z | z; (rcases hb1 with h | h; omega; exact absurd h.2 z); (have z := of_decide_eq_true z; omega)))) (by omega)
          exact lp_46 _ 0 0 (by first | assumption | omega | rfl) (by first | assumption | omega | rfl) (Or.inr ⟨rfl, rfl⟩) (Nat.lt_succ_self _)
    exact lp_33 _ 0 0 (by first | assumption | omega | rfl) (by first | assumption | omega | rfl) (sumI_0 _).symm (Nat.lt_succ_self _)
  · refine go_iconst dX12_sees_13 ?_
    exact go_ret (v := (-1)) rfl dX12_sees_14 (okI ⟨by omega, by omega⟩) ⟨fun b h1 _ _ => wr_row h1, rfl, Or.inl ⟨by omega, rfl⟩⟩
