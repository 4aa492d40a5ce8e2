theorem evn_X12_holds {m G : Mem} {B : Int} {N : Int → Int} {nn p : Int} (hb : Bg G 8 18 (m 216)) (hdn : DnOk G 8) (hst : StOk G 8 18 B) (hB : B ≤ 1900000000) (hp : 0 ≤ p ∧ p < G 8 3) (hN : ∀ j : Int, m 216 (234 + j) = N j) (hwf : Wf N (G 8 3) nn) (hnn : nn ≤ 60) : ∀ (n : Nat) {k : Int}, 0 ≤ k → k < n → k < nn → Ev 0 (n + 6) mX12_holds [vr 214, vi k, vi p] m (fun r m' => m' = m ∧ (r = b2i (evT (plA G p) N (k + 1).toNat k))) := by
  intro n
  induction n with
  | zero => intro k h0 h1; omega
  | succ n ih =>
    intro k h0 h1 h2
    exact st_X12_holds hb hdn hst hB hp hN hwf hnn ⟨h0, h2⟩ (by omega) (fun a b => ih a (by omega) (by omega))
theorem ev_X12_holds {m G : Mem} {B : Int} {N : Int → Int} {nn k p : Int} (hb : Bg G 8 18 (m 216)) (hdn : DnOk G 8) (hst : StOk G 8 18 B) (hB : B ≤ 1900000000) (hp : 0 ≤ p ∧ p < G 8 3) (hN : ∀ j : Int, m 216 (234 + j) = N j) (hwf : Wf N (G 8 3) nn) (hnn : nn ≤ 60) (hk : 0 ≤ k ∧ k < nn) : Ev 0 66 mX12_holds [vr 214, vi k, vi p] m (fun r m' => m' = m ∧ (r = b2i (evT (plA G p) N (k + 1).toNat k))) := evn_X12_holds hb hdn hst hB hp hN hwf hnn 60 hk.1 (by omega) hk.2

theorem dX12_said_0 : decode mX12_said.2.1 0 = .ok (.aload_n 0, 1) := by decide +kernel
theorem dX12_said_1 : decode mX12_said.2.1 1 = .ok (.iconst 0, 1) := by decide +kernel
theorem dX12_said_2 : decode mX12_said.2.1 2 = .ok (.putfield 1, 3) := by decide +kernel
theorem dX12_said_5 : decode mX12_said.2.1 5 = .ok (.aload_n 0, 1) := by decide +kernel
theorem dX12_said_6 : decode mX12_said.2.1 6 = .ok (.getfield 98, 3) := by decide +kernel
theorem dX12_said_9 : decode mX12_said.2.1 9 = .ok (.sipush 232, 3) := by decide +kernel
theorem dX12_said_12 : decode mX12_said.2.1 12 = .ok (.iaload, 1) := by decide +kernel
theorem dX12_said_13 : decode mX12_said.2.1 13 = .ok (.ifCond .ne 5, 3) := by decide +kernel
theorem dX12_said_16 : decode mX12_said.2.1 16 = .ok (.iconst (-1), 1) := by decide +kernel
theorem dX12_said_17 : decode mX12_said.2.1 17 = .ok (.ireturn, 1) := by decide +kernel
theorem dX12_said_18 : decode mX12_said.2.1 18 = .ok (.iconst 0, 1) := by decide +kernel
theorem dX12_said_19 : decode mX12_said.2.1 19 = .ok (.istore_n 2, 1) := by decide +kernel
theorem dX12_said_20 : decode mX12_said.2.1 20 = .ok (.iconst 0, 1) := by decide +kernel
theorem dX12_said_21 : decode mX12_said.2.1 21 = .ok (.istore_n 3, 1) := by decide +kernel
theorem dX12_said_22 : decode mX12_said.2.1 22 = .ok (.iload_n 3, 1) := by decide +kernel
theorem dX12_said_23 : decode mX12_said.2.1 23 = .ok (.aload_n 0, 1) := by decide +kernel
theorem dX12_said_24 : decode mX12_said.2.1 24 = .ok (.getfield 98, 3) := by decide +kernel
theorem dX12_said_27 : decode mX12_said.2.1 27 = .ok (.iconst 3, 1) := by decide +kernel
theorem dX12_said_28 : decode mX12_said.2.1 28 = .ok (.iaload, 1) := by decide +kernel
theorem dX12_said_29 : decode mX12_said.2.1 29 = .ok (.if_icmp .ge 38, 3) := by decide +kernel
theorem dX12_said_32 : decode mX12_said.2.1 32 = .ok (.aload_n 0, 1) := by decide +kernel
theorem dX12_said_33 : decode mX12_said.2.1 33 = .ok (.aload_n 0, 1) := by decide +kernel
theorem dX12_said_34 : decode mX12_said.2.1 34 = .ok (.getfield 98, 3) := by decide +kernel
theorem dX12_said_37 : decode mX12_said.2.1 37 = .ok (.sipush 233, 3) := by decide +kernel
theorem dX12_said_40 : decode mX12_said.2.1 40 = .ok (.iaload, 1) := by decide +kernel
theorem dX12_said_41 : decode mX12_said.2.1 41 = .ok (.iload_n 3, 1) := by decide +kernel
theorem dX12_said_42 : decode mX12_said.2.1 42 = .ok (.invokevirtual 463, 3) := by decide +kernel
theorem dX12_said_45 : decode mX12_said.2.1 45 = .ok (.ifCond .ne 6, 3) := by decide +kernel
theorem dX12_said_48 : decode mX12_said.2.1 48 = .ok (.goto 13, 3) := by decide +kernel
theorem dX12_said_51 : decode mX12_said.2.1 51 = .ok (.iload_n 2, 1) := by decide +kernel
theorem dX12_said_52 : decode mX12_said.2.1 52 = .ok (.iload_n 1, 1) := by decide +kernel
theorem dX12_said_53 : decode mX12_said.2.1 53 = .ok (.if_icmp .ne 5, 3) := by decide +kernel
theorem dX12_said_56 : decode mX12_said.2.1 56 = .ok (.iload_n 3, 1) := by decide +kernel
theorem dX12_said_57 : decode mX12_said.2.1 57 = .ok (.ireturn, 1) := by decide +kernel
theorem dX12_said_58 : decode mX12_said.2.1 58 = .ok (.iinc 2 1, 3) := by decide +kernel
theorem dX12_said_61 : decode mX12_said.2.1 61 = .ok (.iinc 3 1, 3) := by decide +kernel
theorem dX12_said_64 : decode mX12_said.2.1 64 = .ok (.goto (-42), 3) := by decide +kernel
theorem dX12_said_67 : decode mX12_said.2.1 67 = .ok (.iload_n 1, 1) := by decide +kernel
theorem dX12_said_68 : decode mX12_said.2.1 68 = .ok (.iconst (-1), 1) := by decide +kernel
theorem dX12_said_69 : decode mX12_said.2.1 69 = .ok (.if_icmp .ne 7, 3) := by decide +kernel
theorem dX12_said_72 : decode mX12_said.2.1 72 = .ok (.iload_n 2, 1) := by decide +kernel
theorem dX12_said_73 : decode mX12_said.2.1 73 = .ok (.goto 4, 3) := by decide +kernel
theorem dX12_said_76 : decode mX12_said.2.1 76 = .ok (.iconst (-1), 1) := by decide +kernel
theorem dX12_said_77 : decode mX12_said.2.1 77 = .ok (.ireturn, 1) := by decide +kernel
set_option maxRecDepth 4000 in
theorem ev_X12_said {m : Mem} {G : Mem} {B : Int} {k : Int} (hb : Bg G 8 18 (m 216)) (hdn : DnOk G 8) (hst : StOk G 8 18 B) (hB : B ≤ 1900000000) (hk : InR k) (hse : m 216 232 ≠ 0 → ∃ nn : Int, nn ≤ 60 ∧ Wf (fun j => m 216 (234 + j)) (G 8 3) nn ∧ 0 ≤ m 216 233 ∧ m 216 233 < nn) : Ev 0 67 mX12_said [vr 214, vi k] m (fun r m' => m' = wr m 214 0 0 ∧ r = if m 216 232 = 0 then -1 else saidF (fun p => evT (plA G p) (fun j => m 216 (234 + j)) (m 216 233 + 1).toNat (m 216 233)) (G 8 3) k) := by
  refine Ev.of (L := [vr 214, vi k, un, un]) (by decide +kernel) rfl (Nat.le_of_ble_eq_true rfl) rfl (fun t ht => by cases ht; first | exact Or.inl rfl | exact Or.inr (Or.inl rfl) | exact Or.inr (Or.inr rfl)) (fun hcan => ?_)
  obtain ⟨⟨hd0, hd1⟩, ⟨hd2, hd3⟩, ⟨hd4, hd5⟩, ⟨hd6, hd7⟩, ⟨hd8, hd9⟩, hdf, hdp, hdq⟩ := id hdn
  refine go_aload_n dX12_said_0 rfl ?_
  refine go_iconst dX12_said_1 ?_
  refine go_putf_i (ki := 0) dX12_said_2 fw_12_1 ob_214 rfl rfl ⟨by omega, by omega⟩ ?_
  refine go_aload_n dX12_said_5 rfl ?_
  refine go_getf_p (b := 216) dX12_said_6 fl_12_98 ob_214 rfl pt_214_14 ?_
  refine go_sipush dX12_said_9 (by decide) ?_
  refine go_iaload dX12_said_12 ar_216 (by omega) (by omega) (fun he_12 => ?_)
  rw [show ((wr m 214 0 0) 216 232 : Int) = (m 216 232) from by rw [wr_na (by omega)]] at he_12 ⊢
  refine go_if_ne (tgt := 18) dX12_said_13 (by decide) ⟨by omega, by omega⟩ (fun h_13 => ?_) (fun h_13 => ?_)
  · obtain ⟨nn, hnn, hwf, hr0, hr1⟩ := hse (by omega)
    obtain ⟨P, hP⟩ : ∃ z : Int → Bool, z = (fun p => evT (plA G p) (fun j => m 216 (234 + j)) (m 216 233 + 1).toNat (m 216 233)) := ⟨_, rfl⟩
    refine go_iconst dX12_said_18 ?_
    refine go_istore_n (L' := [vr 214, vi k, vi 0, un]) dX12_said_19 (by decide) rfl rfl ?_
    refine go_iconst dX12_said_20 ?_
    refine go_istore_n (L' := [vr 214, vi k, vi 0, vi 0]) dX12_said_21 (by decide) rfl rfl ?_
    have lp_22 : ∀ (n_22 : Nat) (n : Int) (p : Int) , (0 ≤ p) → (p ≤ G 8 3) → (n = cntI P p) → (∀ j : Int, 0 ≤ j → j < p → (P j && decide (cntI P j = k)) = false) → (G 8 3 - p).toNat < n_22 → Go 0 67 mX12_said (fun r m' => m' = wr m 214 0 0 ∧ r = if m 216 232 = 0 then -1 else saidF (fun p => evT (plA G p) (fun j => m 216 (234 + j)) (m 216 233 + 1).toNat (m 216 233)) (G 8 3) k) 22 [vr 214, vi k, vi n, vi p] [] (wr m 214 0 0) := by
      intro n_22
      induction n_22 with
      | zero => intro n p hp0 hp1 hn hno hmu; exact absurd hmu (Nat.not_lt_zero _)
      | succ n_22 ih_22 =>
        intro n p hp0 hp1 hn hno hmu
        have hcb := cntI_b P hp0
        rw [← hn] at hcb
        have hcs := cntI_s P hp0
        refine go_iload_n dX12_said_22 rfl ?_
        refine go_aload_n dX12_said_23 rfl ?_
        refine go_getf_p (b := 216) dX12_said_24 fl_12_98 ob_214 rfl pt_214_14 ?_
        refine go_iconst dX12_said_27 ?_
        refine go_iaload dX12_said_28 ar_216 (by omega) (by omega) (fun he_28 => ?_)
        rw [show ((wr m 214 0 0) 216 3 : Int) = (G 8 3) from by rw [wr_na (by omega)]; exact hb.n3] at he_28 ⊢
        refine go_icmp_ge (tgt := 67) dX12_said_29 (by decide) ⟨by omega, by omega⟩ ⟨by omega, by omega⟩ (fun h_29 => ?_) (fun h_29 => ?_)
        · refine go_iload_n dX12_said_67 rfl ?_
          refine go_iconst dX12_said_68 ?_
          refine go_icmp_ne (tgt := 76) dX12_said_69 (by decide) ⟨by omega, by omega⟩ ⟨by omega, by omega⟩ (fun h_69 => ?_) (fun h_69 => ?_)
          · refine go_iconst dX12_said_76 ?_
            refine go_ret (v := (-1)) rfl dX12_said_77 (okI ⟨by omega, by omega⟩) ?_
            refine ⟨rfl, ?_⟩
            have e : fnd (fun p => P p && decide (cntI P p = k)) (G 8 3) = -1 := fnd_none (fun j a b => hno j a (by omega))
            rw [if_neg (by omega), ← hP]
            unfold saidF
            rw [e, if_neg (fun z => z rfl)]
            first
            | (rw [if_pos (by omega), hn, show p = G 8 3 by omega])
            | (rw [if_neg (by omega)])
          · refine go_iload_n dX12_said_72 rfl ?_
            refine go_goto (tgt := 77) dX12_said_73 (by decide) ?_
            refine go_ret (v := n) rfl dX12_said_77 (okI ⟨by omega, by omega⟩) ?_
            refine ⟨rfl, ?_⟩
            have e : fnd (fun p => P p && decide (cntI P p = k)) (G 8 3) = -1 := fnd_none (fun j a b => hno j a (by omega))
            rw [if_neg (by omega), ← hP]
            unfold saidF
            rw [e, if_neg (fun z => z rfl)]
            first
            | (rw [if_pos (by omega), hn, show p = G 8 3 by omega])
            | (rw [if_neg (by omega)])
        · refine go_aload_n dX12_said_32 rfl ?_
          refine go_aload_n dX12_said_33 rfl ?_
          refine go_getf_p (b := 216) dX12_said_34 fl_12_98 ob_214 rfl pt_214_14 ?_
          refine go_sipush dX12_said_37 (by decide) ?_
          refine go_iaload dX12_said_40 ar_216 (by omega) (by omega) (fun he_40 => ?_)
          rw [show ((wr m 214 0 0) 216 233 : Int) = (m 216 233) from by rw [wr_na (by omega)]] at he_40 ⊢
          refine go_iload_n dX12_said_41 rfl ?_
          refine go_callVp_z (as := [vi (m 216 233), vi p]) (S := []) (b := 214) (ev_X12_holds (m := (wr m 214 0 0)) (k := (m 216 233)) (p := p) (G := G) (B := B) (N := (fun j => m 216 (234 + j))) (nn := nn) (by first | exact hb | exact hb.w (by decide) | exact (hb.w (by decide)).w (by decide)) (by first | assumption | omega | exact ⟨by omega, by omega⟩ | (constructor <;> omega)) (by first | assumption | omega | exact ⟨by omega, by omega⟩ | (constructor <;> omega)) hB ⟨hp0, by omega⟩ (fun j => wr_na (by decide)) hwf hnn ⟨hr0, hr1⟩) rfl dX12_said_42 cv_12_463 rfl rfl ob_214 rfl (by decide) (Nat.le_of_ble_eq_true rfl) (fun r_42 hr_42 ho_42 => ?_)
          have hr_42 : r_42 = b2i (P p) := by rw [hP]; exact hr_42
          have hh1 : r_42 = 0 → P p = false := b2i_0 hr_42
          have hh2 : r_42 ≠ 0 → P p = true := b2i_1 hr_42
          refine go_if_ne (tgt := 51) dX12_said_45 (by decide) ⟨by omega, by omega⟩ (fun h_45 => ?_) (fun h_45 => ?_)
          · refine go_iload_n dX12_said_51 rfl ?_
            refine go_iload_n dX12_said_52 rfl ?_
            refine go_icmp_ne (tgt := 58) dX12_said_53 (by decide) ⟨by omega, by omega⟩ ⟨by omega, by omega⟩ (fun h_53 => ?_) (fun h_53 => ?_)
            · refine go_iinc (L' := [vr 214, vi k, vi (n + 1), vi p]) dX12_said_58 rfl (by decide) rfl rfl ?_
              refine go_iinc (L' := [vr 214, vi k, vi (n + 1), vi (p + 1)]) dX12_said_61 rfl (by decide) rfl rfl ?_
              refine go_goto (tgt := 22) dX12_said_64 (by decide) ?_
              exact ih_22 (n + 1) (p + 1) (by first | assumption | omega | rfl) (by first | assumption | omega | rfl) (by rw [hcs, ← hn]; first | (rw [hh1 (by omega)]; simp) | (rw [hh2 (by omega)]; simp)) (stp hno (by first | (rw [hh1 (by omega)]; rfl) | (rw [← hn, decide_eq_false (show ¬ n = k by omega), Bool.and_false]))) (by omega)
            · refine go_iload_n dX12_said_56 rfl ?_
              refine go_ret (v := p) rfl dX12_said_57 (okI ⟨by omega, by omega⟩) ?_
              refine ⟨rfl, ?_⟩
              have e : fnd (fun p => P p && decide (cntI P p = k)) (G 8 3) = p := fnd_some hp0 (by omega) (by rw [hh2 (by omega), ← hn, decide_eq_true (show n = k by omega)]; rfl) hno
              rw [if_neg (by omega), ← hP]
              unfold saidF
              rw [e, if_pos (by omega)]
          · refine go_goto (tgt := 61) dX12_said_48 (by decide) ?_
            refine go_iinc (L' := [vr 214, vi k, vi n, vi (p + 1)]) dX12_said_61 rfl (by decide) rfl rfl ?_
            refine go_goto (tgt := 22) dX12_said_64 (by decide) ?_
            exact ih_22 n (p + 1) (by first | assumption | omega | rfl) (by first | assumption | omega | rfl) (by rw [hcs, ← hn]; first | (rw [hh1 (by omega)]; simp) | (rw [hh2 (by omega)]; simp)) (stp hno (by first | (rw [hh1 (by omega)]; rfl) | (rw [← hn, decide_eq_false (show ¬ n = k by omega), Bool.and_false]))) (by omega)
    exact lp_22 _ 0 0 (by first | assumption | omega | rfl) (by first | assumption | omega | rfl) rfl (fun j a b => by omega) (Nat.lt_succ_self _)
  · refine go_iconst dX12_said_16 ?_
    exact go_ret (v := (-1)) rfl dX12_said_17 (okI ⟨by omega, by omega⟩) ⟨rfl, by rw [if_pos (by omega)]⟩
