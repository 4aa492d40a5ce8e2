/-! ===== the class: a slip ===== -/
def txS (i : Nat) : List Int := (List.range (lnS i)).map (fun (j : Nat) => chS i (j : Int))
theorem txS_len (i : Nat) : (txS i).length = lnS i := by unfold txS; rw [List.length_map, List.length_range]
theorem txS_tk {i : Nat} {k : Int} (h0 : 0 ≤ k) (h1 : k < (lnS i : Nat)) : (txS i).take (k + 1).toNat = (txS i).take k.toNat ++ [chS i k] := by
  have hl := txS_len i
  have hk : k.toNat < (txS i).length := by omega
  have e : (txS i)[k.toNat] = chS i k := by
    simp only [txS, List.getElem_map, List.getElem_range]
    rw [show ((k.toNat : Nat) : Int) = k by omega]
  rw [show (k + 1).toNat = k.toNat + 1 by omega, List.take_add_one, List.getElem?_eq_getElem hk, e]
  rfl
theorem txS_at : txS 0 = [32, 97, 116] ++ [32] := by decide +kernel
theorem txS_up : txS 1 = [32, 117, 112] ++ [32] := by decide +kernel
theorem txS_sp : txS 2 = [32, 115, 112, 101, 110, 116] := by decide +kernel

theorem dX11_slipText_0 : decode mX11_slipText.2.1 0 = .ok (.iconst 0, 1) := by decide +kernel
theorem dX11_slipText_1 : decode mX11_slipText.2.1 1 = .ok (.istore_n 2, 1) := by decide +kernel
theorem dX11_slipText_2 : decode mX11_slipText.2.1 2 = .ok (.iload_n 2, 1) := by decide +kernel
theorem dX11_slipText_3 : decode mX11_slipText.2.1 3 = .ok (.aload_n 1, 1) := by decide +kernel
theorem dX11_slipText_4 : decode mX11_slipText.2.1 4 = .ok (.invokevirtual 407, 3) := by decide +kernel
theorem dX11_slipText_7 : decode mX11_slipText.2.1 7 = .ok (.if_icmp .ge 18, 3) := by decide +kernel
theorem dX11_slipText_10 : decode mX11_slipText.2.1 10 = .ok (.aload_n 0, 1) := by decide +kernel
theorem dX11_slipText_11 : decode mX11_slipText.2.1 11 = .ok (.aload_n 1, 1) := by decide +kernel
theorem dX11_slipText_12 : decode mX11_slipText.2.1 12 = .ok (.iload_n 2, 1) := by decide +kernel
theorem dX11_slipText_13 : decode mX11_slipText.2.1 13 = .ok (.invokevirtual 411, 3) := by decide +kernel
theorem dX11_slipText_16 : decode mX11_slipText.2.1 16 = .ok (.invokevirtual 347, 3) := by decide +kernel
theorem dX11_slipText_19 : decode mX11_slipText.2.1 19 = .ok (.iinc 2 1, 3) := by decide +kernel
theorem dX11_slipText_22 : decode mX11_slipText.2.1 22 = .ok (.goto (-20), 3) := by decide +kernel
theorem dX11_slipText_25 : decode mX11_slipText.2.1 25 = .ok (.return_, 1) := by decide +kernel
set_option maxRecDepth 4000 in
theorem ev_X11_slipText {m : Mem} {i : Nat} (hi : i < 3) (hn : 0 ≤ m 0 13 ∧ m 0 13 + (lnS i : Nat) ≤ 25) : Ev 0 5 mX11_slipText [vr 0, vr (1002 + i)] m (fun r m' => Sl 213 0 13 m (txS i) m') := by
  refine Ev.of (L := [vr 0, vr (1002 + i), un]) (by decide +kernel) rfl (Nat.le_of_ble_eq_true rfl) rfl (fun t ht => by cases ht) (fun hcan => ?_)
  have hl6 := lnS_b i hi
  refine go_iconst dX11_slipText_0 ?_
  refine go_istore_n (L' := [vr 0, vr (1002 + i), vi 0]) dX11_slipText_1 (by decide) rfl rfl ?_
  have lp_2 : ∀ (n_2 : Nat) (m1 : Mem) (k : Int) , (0 ≤ k) → (k ≤ (lnS i : Nat)) → (Sl 213 0 13 m ((txS i).take k.toNat) m1) → ((lnS i : Nat) - k).toNat < n_2 → Go 0 5 mX11_slipText (fun r m' => Sl 213 0 13 m (txS i) m') 2 [vr 0, vr (1002 + i), vi k] [] m1 := by
    intro n_2
    induction n_2 with
    | zero => intro m1 k hk0 hk1 hsl hmu; exact absurd hmu (Nat.not_lt_zero _)
    | succ n_2 ih_2 =>
      intro m1 k hk0 hk1 hsl hmu
      have z1 : m1 0 13 = m 0 13 + k := by rw [hsl.2.2.1, List.length_take, txS_len]; omega
      refine go_iload_n dX11_slipText_2 rfl ?_
      refine go_aload_n dX11_slipText_3 rfl ?_
      refine go_callVS (as := []) (S := [vi k]) (i := i) (ev_J0_length_8abf5 hi) dX11_slipText_4 cs_len rfl rfl hi rfl (by decide) (Nat.le_of_ble_eq_true rfl) (Nat.zero_le _) (fun r_4 m_4 hr_4 ho_4 => ?_)
      have hm_4 := hr_4.1.symm; have hq_4 := hr_4.2; subst hm_4; subst hq_4
      refine go_icmp_ge (tgt := 25) dX11_slipText_7 (by decide) ⟨by omega, by omega⟩ ⟨by omega, by omega⟩ (fun h_7 => ?_) (fun h_7 => ?_)
      · exact go_ret (v := 0) rfl dX11_slipText_25 rfl (by have e : (txS i).take k.toNat = txS i := List.take_of_length_le (by rw [txS_len]; omega); rw [e] at hsl; exact hsl)
      · refine go_aload_n dX11_slipText_10 rfl ?_
        refine go_aload_n dX11_slipText_11 rfl ?_
        refine go_iload_n dX11_slipText_12 rfl ?_
        refine go_callVS (as := [vi k]) (S := [vr 0]) (i := i) (ev_J0_charAt_5068e hi ⟨by omega, by omega⟩) dX11_slipText_13 cs_chr rfl rfl hi rfl (by decide) (Nat.le_of_ble_eq_true rfl) (Nat.zero_le _) (fun r_13 m_13 hr_13 ho_13 => ?_)
        have hm_13 := hr_13.1.symm; have hq_13 := hr_13.2; subst hm_13; subst hq_13
        refine go_callV_v (as := [vi (chS i k)]) (S := []) (b := 0) (ev_X11_slipByte (m := m1) (c := (chS i k)) (by have := (chS_b (j := k) hi ⟨by omega, by omega⟩).1; exact ⟨by omega, by omega⟩) ⟨by omega, by omega⟩) rfl dX11_slipText_16 cv_11_347 rfl rfl ob_0 rfl (by decide) (Nat.le_of_ble_eq_true rfl) (fun m_16 hr_16 => ?_)
        refine go_iinc (L' := [vr 0, vr (1002 + i), vi (k + 1)]) dX11_slipText_19 rfl (by decide) rfl rfl ?_
        refine go_goto (tgt := 2) dX11_slipText_22 (by decide) ?_
        exact ih_2 m_16 (k + 1) (by first | assumption | omega | rfl) (by first | assumption | omega | rfl) (by rw [txS_tk hk0 (by omega)]; exact hsl.app hr_16) (by omega)
  exact lp_2 _ m 0 (by first | assumption | omega | rfl) (by first | assumption | omega | rfl) Sl.nil (Nat.lt_succ_self _)
theorem dX11_slip_0 : decode mX11_slip.2.1 0 = .ok (.aload_n 0, 1) := by decide +kernel
theorem dX11_slip_1 : decode mX11_slip.2.1 1 = .ok (.getfield 24, 3) := by decide +kernel
theorem dX11_slip_4 : decode mX11_slip.2.1 4 = .ok (.iload_n 1, 1) := by decide +kernel
theorem dX11_slip_5 : decode mX11_slip.2.1 5 = .ok (.invokevirtual 129, 3) := by decide +kernel
theorem dX11_slip_8 : decode mX11_slip.2.1 8 = .ok (.ifCond .ne 5, 3) := by decide +kernel
theorem dX11_slip_11 : decode mX11_slip.2.1 11 = .ok (.iconst (-1), 1) := by decide +kernel
theorem dX11_slip_12 : decode mX11_slip.2.1 12 = .ok (.ireturn, 1) := by decide +kernel
theorem dX11_slip_13 : decode mX11_slip.2.1 13 = .ok (.aload_n 0, 1) := by decide +kernel
theorem dX11_slip_14 : decode mX11_slip.2.1 14 = .ok (.iconst 0, 1) := by decide +kernel
theorem dX11_slip_15 : decode mX11_slip.2.1 15 = .ok (.putfield 98, 3) := by decide +kernel
theorem dX11_slip_18 : decode mX11_slip.2.1 18 = .ok (.aload_n 0, 1) := by decide +kernel
theorem dX11_slip_19 : decode mX11_slip.2.1 19 = .ok (.aload_n 0, 1) := by decide +kernel
theorem dX11_slip_20 : decode mX11_slip.2.1 20 = .ok (.getfield 24, 3) := by decide +kernel
theorem dX11_slip_23 : decode mX11_slip.2.1 23 = .ok (.getfield 28, 3) := by decide +kernel
theorem dX11_slip_26 : decode mX11_slip.2.1 26 = .ok (.getfield 333, 3) := by decide +kernel
theorem dX11_slip_29 : decode mX11_slip.2.1 29 = .ok (.iload_n 1, 1) := by decide +kernel
theorem dX11_slip_30 : decode mX11_slip.2.1 30 = .ok (.laload, 1) := by decide +kernel
theorem dX11_slip_31 : decode mX11_slip.2.1 31 = .ok (.invokevirtual 337, 3) := by decide +kernel
theorem dX11_slip_34 : decode mX11_slip.2.1 34 = .ok (.aload_n 0, 1) := by decide +kernel
theorem dX11_slip_35 : decode mX11_slip.2.1 35 = .ok (.ldc_w 341, 3) := by decide +kernel
theorem dX11_slip_38 : decode mX11_slip.2.1 38 = .ok (.invokevirtual 343, 3) := by decide +kernel
theorem dX11_slip_41 : decode mX11_slip.2.1 41 = .ok (.aload_n 0, 1) := by decide +kernel
theorem dX11_slip_42 : decode mX11_slip.2.1 42 = .ok (.bipush 48, 2) := by decide +kernel
theorem dX11_slip_44 : decode mX11_slip.2.1 44 = .ok (.aload_n 0, 1) := by decide +kernel
theorem dX11_slip_45 : decode mX11_slip.2.1 45 = .ok (.getfield 24, 3) := by decide +kernel
theorem dX11_slip_48 : decode mX11_slip.2.1 48 = .ok (.getfield 136, 3) := by decide +kernel
theorem dX11_slip_51 : decode mX11_slip.2.1 51 = .ok (.getfield 140, 3) := by decide +kernel
theorem dX11_slip_54 : decode mX11_slip.2.1 54 = .ok (.iload_n 1, 1) := by decide +kernel
theorem dX11_slip_55 : decode mX11_slip.2.1 55 = .ok (.iaload, 1) := by decide +kernel
theorem dX11_slip_56 : decode mX11_slip.2.1 56 = .ok (.iadd, 1) := by decide +kernel
theorem dX11_slip_57 : decode mX11_slip.2.1 57 = .ok (.invokevirtual 347, 3) := by decide +kernel
theorem dX11_slip_60 : decode mX11_slip.2.1 60 = .ok (.aload_n 0, 1) := by decide +kernel
theorem dX11_slip_61 : decode mX11_slip.2.1 61 = .ok (.bipush 32, 2) := by decide +kernel
theorem dX11_slip_63 : decode mX11_slip.2.1 63 = .ok (.invokevirtual 347, 3) := by decide +kernel
theorem dX11_slip_66 : decode mX11_slip.2.1 66 = .ok (.aload_n 0, 1) := by decide +kernel
theorem dX11_slip_67 : decode mX11_slip.2.1 67 = .ok (.bipush 48, 2) := by decide +kernel
theorem dX11_slip_69 : decode mX11_slip.2.1 69 = .ok (.aload_n 0, 1) := by decide +kernel
theorem dX11_slip_70 : decode mX11_slip.2.1 70 = .ok (.getfield 24, 3) := by decide +kernel
theorem dX11_slip_73 : decode mX11_slip.2.1 73 = .ok (.getfield 136, 3) := by decide +kernel
theorem dX11_slip_76 : decode mX11_slip.2.1 76 = .ok (.getfield 146, 3) := by decide +kernel
theorem dX11_slip_79 : decode mX11_slip.2.1 79 = .ok (.iload_n 1, 1) := by decide +kernel
theorem dX11_slip_80 : decode mX11_slip.2.1 80 = .ok (.iaload, 1) := by decide +kernel
theorem dX11_slip_81 : decode mX11_slip.2.1 81 = .ok (.iadd, 1) := by decide +kernel
theorem dX11_slip_82 : decode mX11_slip.2.1 82 = .ok (.invokevirtual 347, 3) := by decide +kernel
theorem dX11_slip_85 : decode mX11_slip.2.1 85 = .ok (.aload_n 0, 1) := by decide +kernel
theorem dX11_slip_86 : decode mX11_slip.2.1 86 = .ok (.ldc_w 350, 3) := by decide +kernel
theorem dX11_slip_89 : decode mX11_slip.2.1 89 = .ok (.invokevirtual 343, 3) := by decide +kernel
theorem dX11_slip_92 : decode mX11_slip.2.1 92 = .ok (.aload_n 0, 1) := by decide +kernel
theorem dX11_slip_93 : decode mX11_slip.2.1 93 = .ok (.bipush 48, 2) := by decide +kernel
theorem dX11_slip_95 : decode mX11_slip.2.1 95 = .ok (.aload_n 0, 1) := by decide +kernel
theorem dX11_slip_96 : decode mX11_slip.2.1 96 = .ok (.getfield 24, 3) := by decide +kernel
theorem dX11_slip_99 : decode mX11_slip.2.1 99 = .ok (.getfield 136, 3) := by decide +kernel
theorem dX11_slip_102 : decode mX11_slip.2.1 102 = .ok (.getfield 149, 3) := by decide +kernel
theorem dX11_slip_105 : decode mX11_slip.2.1 105 = .ok (.iload_n 1, 1) := by decide +kernel
theorem dX11_slip_106 : decode mX11_slip.2.1 106 = .ok (.iaload, 1) := by decide +kernel
theorem dX11_slip_107 : decode mX11_slip.2.1 107 = .ok (.iadd, 1) := by decide +kernel
theorem dX11_slip_108 : decode mX11_slip.2.1 108 = .ok (.invokevirtual 347, 3) := by decide +kernel
theorem dX11_slip_111 : decode mX11_slip.2.1 111 = .ok (.aload_n 0, 1) := by decide +kernel
theorem dX11_slip_112 : decode mX11_slip.2.1 112 = .ok (.getfield 24, 3) := by decide +kernel
theorem dX11_slip_115 : decode mX11_slip.2.1 115 = .ok (.getfield 136, 3) := by decide +kernel
theorem dX11_slip_118 : decode mX11_slip.2.1 118 = .ok (.getfield 152, 3) := by decide +kernel
theorem dX11_slip_121 : decode mX11_slip.2.1 121 = .ok (.iload_n 1, 1) := by decide +kernel
theorem dX11_slip_122 : decode mX11_slip.2.1 122 = .ok (.iaload, 1) := by decide +kernel
theorem dX11_slip_123 : decode mX11_slip.2.1 123 = .ok (.ifCond .ne 10, 3) := by decide +kernel
theorem dX11_slip_126 : decode mX11_slip.2.1 126 = .ok (.aload_n 0, 1) := by decide +kernel
theorem dX11_slip_127 : decode mX11_slip.2.1 127 = .ok (.ldc_w 352, 3) := by decide +kernel
theorem dX11_slip_130 : decode mX11_slip.2.1 130 = .ok (.invokevirtual 343, 3) := by decide +kernel
theorem dX11_slip_133 : decode mX11_slip.2.1 133 = .ok (.aload_n 0, 1) := by decide +kernel
theorem dX11_slip_134 : decode mX11_slip.2.1 134 = .ok (.getfield 98, 3) := by decide +kernel
theorem dX11_slip_137 : decode mX11_slip.2.1 137 = .ok (.ireturn, 1) := by decide +kernel
set_option maxRecDepth 4000 in
theorem ev_X11_slip {m : Mem} {p : Int} {l : List Int} {B : Int} (hdn : DnOk m 8) (hst : StOk m 8 18 B) (hp : InR p) (hl : 0 ≤ p → p < m 8 3 → ((1 ≤ l.length ∧ l.length ≤ 7) ∧ Lt l ∧ m 12 p = fr 32 l)) : Ev 0 6 mX11_slip [vr 0, vi p] m (fun r m' => (¬ (0 ≤ p ∧ p < m 8 3) ∧ r = -1 ∧ m' = m) ∨ ((0 ≤ p ∧ p < m 8 3) ∧ r = ((slT m l p).length : Int) ∧ Sl 213 0 13 (wr m 0 13 0) (slT m l p) m')) := by
  refine Ev.of (L := [vr 0, vi p]) (by decide +kernel) rfl (Nat.le_of_ble_eq_true rfl) rfl (fun t ht => by cases ht; first | exact Or.inl rfl | exact Or.inr (Or.inl rfl) | exact Or.inr (Or.inr rfl)) (fun hcan => ?_)
  obtain ⟨⟨hd0, hd1⟩, ⟨hd2, hd3⟩, ⟨hd4, hd5⟩, ⟨hd6, hd7⟩, ⟨hd8, hd9⟩, hdf, hdp, hdq⟩ := id hdn
  obtain ⟨⟨hs0, hs1⟩, ⟨hs2, hs3⟩, hsw, hsp, hsd, hsz⟩ := id hst
  refine go_aload_n dX11_slip_0 rfl ?_
  refine go_getf_p (b := 7) dX11_slip_1 fl_11_24 ob_0 rfl pt_0_1 ?_
  refine go_iload_n dX11_slip_4 rfl ?_
  refine go_callVp_z (as := [vi p]) (S := []) (b := 7) (ev_X10_hasPerson (m := m) (w := 7) (f := p) (d := 8) (st := 18) isWd_7 (by first | assumption | omega | exact ⟨by omega, by omega⟩ | (constructor <;> omega))) rfl dX11_slip_5 cv_11_129 rfl rfl ob_7 rfl (by decide) (Nat.le_of_ble_eq_true rfl) (fun r_5 hr_5 ho_5 => ?_)
  refine go_if_ne (tgt := 13) dX11_slip_8 (by decide) ⟨by omega, by omega⟩ (fun h_8 => ?_) (fun h_8 => ?_)
  · obtain ⟨hl1, hl2, hl3⟩ := hl (by omega) (by omega)
    have hpp := hsp p (by omega) (by omega)
    refine go_aload_n dX11_slip_13 rfl ?_
    refine go_iconst dX11_slip_14 ?_
    refine go_putf_i (ki := 13) dX11_slip_15 fw_11_98 ob_0 rfl rfl ⟨by omega, by omega⟩ ?_
    refine go_aload_n dX11_slip_18 rfl ?_
    refine go_aload_n dX11_slip_19 rfl ?_
    refine go_getf_p (b := 7) dX11_slip_20 fl_11_24 ob_0 rfl pt_0_1 ?_
    refine go_getf_p (b := 8) dX11_slip_23 fl_11_28 ob_7 rfl pt_7_0 ?_
    refine go_getf_p (b := 12) dX11_slip_26 fl_11_333 ob_8 rfl pt_8_8 ?_
    refine go_iload_n dX11_slip_29 rfl ?_
    refine go_laload dX11_slip_30 ar_12 (by omega) (by omega) (fun he_30 => ?_)
    rw [show ((wr m 0 13 0) 12 p : Int) = (m 12 p) from by rw [wr_na (by omega)]] at he_30 ⊢
    refine go_callV_v (as := [vl (m 12 p)]) (S := []) (b := 0) (ev_X11_slipName (m := (wr m 0 13 0)) (w := (m 12 p)) (l := l) hl3 hl2 hl1 ⟨by rw [wr_self]; omega, by rw [wr_self]; omega⟩) rfl dX11_slip_31 cv_11_337 rfl rfl ob_0 rfl (by decide) (Nat.le_of_ble_eq_true rfl) (fun m_31 hr_31 => ?_)
    have s_31 := hr_31
    have z_31 : m_31 0 13 = (l.length : Int) := by rw [hr_31.2.2.1, wr_self, wT_len]; omega
    have e_31 : ∀ b : Nat, b ≠ 213 → b ≠ 0 → m_31 b = m b := fun b h1 h2 => by rw [s_31.1 b h1 h2, wr_row h2]
    refine go_aload_n dX11_slip_34 rfl ?_
    refine go_ldcwS (b := 1002 + 0) dX11_slip_35 rfl (fun ad U h => h.1) ?_
    refine go_callV_v (as := [vr (1002 + 0)]) (S := []) (b := 0) (ev_X11_slipText (m := m_31) (i := 0) (by decide) ⟨by omega, by have : lnS 0 = 4 := rfl; omega⟩) rfl dX11_slip_38 cv_11_343 rfl rfl ob_0 rfl (by decide) (Nat.le_of_ble_eq_true rfl) (fun m_38 hr_38 => ?_)
    rw [txS_at] at hr_38
    have s_38 := s_31.app hr_38
    have z_38 : m_38 0 13 = (l.length : Int) + 4 := by have h := hr_38.2.2.1; rw [z_31] at h; rw [h]; simp <;> omega
    have e_38 : ∀ b : Nat, b ≠ 213 → b ≠ 0 → m_38 b = m b := fun b h1 h2 => by rw [s_38.1 b h1 h2, wr_row h2]
    refine go_aload_n dX11_slip_41 rfl ?_
    refine go_bipush dX11_slip_42 (by decide) ?_
    refine go_aload_n dX11_slip_44 rfl ?_
    refine go_getf_p (b := 7) dX11_slip_45 fl_11_24 ob_0 rfl pt_0_1 ?_
    refine go_getf_p (b := 18) dX11_slip_48 fl_11_136 ob_7 rfl pt_7_1 ?_
    refine go_getf_p (b := 20) dX11_slip_51 fl_11_140 ob_18 rfl pt_18_3 ?_
    refine go_iload_n dX11_slip_54 rfl ?_
    refine go_iaload dX11_slip_55 ar_20 (by omega) (by omega) (fun he_55 => ?_)
    rw [show (m_38 20 p : Int) = (m (18 + 2) p) from (congrFun (e_38 20 (by decide) (by decide)) p)] at he_55 ⊢
    refine go_iadd dX11_slip_56 ?_
    refine go_callV_v (as := [vi (48 + (m (18 + 2) p))]) (S := []) (b := 0) (ev_X11_slipByte (m := m_38) (c := (48 + (m (18 + 2) p))) ⟨by omega, by omega⟩ ⟨by omega, by omega⟩) rfl dX11_slip_57 cv_11_347 rfl rfl ob_0 rfl (by decide) (Nat.le_of_ble_eq_true rfl) (fun m_57 hr_57 => ?_)
    have s_57 := s_38.app hr_57
    have z_57 : m_57 0 13 = (l.length : Int) + 5 := by have h := hr_57.2.2.1; rw [z_38] at h; rw [h]; simp <;> omega
    have e_57 : ∀ b : Nat, b ≠ 213 → b ≠ 0 → m_57 b = m b := fun b h1 h2 => by rw [s_57.1 b h1 h2, wr_row h2]
    refine go_aload_n dX11_slip_60 rfl ?_
    refine go_bipush dX11_slip_61 (by decide) ?_
    refine go_callV_v (as := [vi 32]) (S := []) (b := 0) (ev_X11_slipByte (m := m_57) (c := 32) ⟨by omega, by omega⟩ ⟨by omega, by omega⟩) rfl dX11_slip_63 cv_11_347 rfl rfl ob_0 rfl (by decide) (Nat.le_of_ble_eq_true rfl) (fun m_63 hr_63 => ?_)
    have s_63 := s_57.app hr_63
    have z_63 : m_63 0 13 = (l.length : Int) + 6 := by have h := hr_63.2.2.1; rw [z_57] at h; rw [h]; simp <;> omega
    have e_63 : ∀ b : Nat, b ≠ 213 → b ≠ 0 → m_63 b = m b := fun b h1 h2 => by rw [s_63.1 b h1 h2, wr_row h2]
    refine go_aload_n dX11_slip_66 rfl ?_
    refine go_bipush dX11_slip_67 (by decide) ?_
    refine go_aload_n dX11_slip_69 rfl ?_
    refine go_getf_p (b := 7) dX11_slip_70 fl_11_24 ob_0 rfl pt_0_1 ?_
    refine go_getf_p (b := 18) dX11_slip_73 fl_11_136 ob_7 rfl pt_7_1 ?_
    refine go_getf_p (b := 21) dX11_slip_76 fl_11_146 ob_18 rfl pt_18_4 ?_
    refine go_iload_n dX11_slip_79 rfl ?_
    refine go_iaload dX11_slip_80 ar_21 (by omega) (by omega) (fun he_80 => ?_)
    rw [show (m_63 21 p : Int) = (m (18 + 3) p) from (congrFun (e_63 21 (by decide) (by decide)) p)] at he_80 ⊢
    refine go_iadd dX11_slip_81 ?_
    refine go_callV_v (as := [vi (48 + (m (18 + 3) p))]) (S := []) (b := 0) (ev_X11_slipByte (m := m_63) (c := (48 + (m (18 + 3) p))) ⟨by omega, by omega⟩ ⟨by omega, by omega⟩) rfl dX11_slip_82 cv_11_347 rfl rfl ob_0 rfl (by decide) (Nat.le_of_ble_eq_true rfl) (fun m_82 hr_82 => ?_)
    have s_82 := s_63.app hr_82
    have z_82 : m_82 0 13 = (l.length : Int) + 7 := by have h := hr_82.2.2.1; rw [z_63] at h; rw [h]; simp <;> omega
    have e_82 : ∀ b : Nat, b ≠ 213 → b ≠ 0 → m_82 b = m b := fun b h1 h2 => by rw [s_82.1 b h1 h2, wr_row h2]
    refine go_aload_n dX11_slip_85 rfl ?_
    refine go_ldcwS (b := 1002 + 1) dX11_slip_86 rfl (fun ad U h => h.2.1) ?_
    refine go_callV_v (as := [vr (1002 + 1)]) (S := []) (b := 0) (ev_X11_slipText (m := m_82) (i := 1) (by decide) ⟨by omega, by have : lnS 1 = 4 := rfl; omega⟩) rfl dX11_slip_89 cv_11_343 rfl rfl ob_0 rfl (by decide) (Nat.le_of_ble_eq_true rfl) (fun m_89 hr_89 => ?_)
    rw [txS_up] at hr_89
    have s_89 := s_82.app hr_89
    have z_89 : m_89 0 13 = (l.length : Int) + 11 := by have h := hr_89.2.2.1; rw [z_82] at h; rw [h]; simp <;> omega
    have e_89 : ∀ b : Nat, b ≠ 213 → b ≠ 0 → m_89 b = m b := fun b h1 h2 => by rw [s_89.1 b h1 h2, wr_row h2]
    refine go_aload_n dX11_slip_92 rfl ?_
    refine go_bipush dX11_slip_93 (by decide) ?_
    refine go_aload_n dX11_slip_95 rfl ?_
    refine go_getf_p (b := 7) dX11_slip_96 fl_11_24 ob_0 rfl pt_0_1 ?_
    refine go_getf_p (b := 18) dX11_slip_99 fl_11_136 ob_7 rfl pt_7_1 ?_
    refine go_getf_p (b := 22) dX11_slip_102 fl_11_149 ob_18 rfl pt_18_5 ?_
    refine go_iload_n dX11_slip_105 rfl ?_
    refine go_iaload dX11_slip_106 ar_22 (by omega) (by omega) (fun he_106 => ?_)
    rw [show (m_89 22 p : Int) = (m (18 + 4) p) from (congrFun (e_89 22 (by decide) (by decide)) p)] at he_106 ⊢
    refine go_iadd dX11_slip_107 ?_
    refine go_callV_v (as := [vi (48 + (m (18 + 4) p))]) (S := []) (b := 0) (ev_X11_slipByte (m := m_89) (c := (48 + (m (18 + 4) p))) ⟨by omega, by omega⟩ ⟨by omega, by omega⟩) rfl dX11_slip_108 cv_11_347 rfl rfl ob_0 rfl (by decide) (Nat.le_of_ble_eq_true rfl) (fun m_108 hr_108 => ?_)
    have s_108 := s_89.app hr_108
    have z_108 : m_108 0 13 = (l.length : Int) + 12 := by have h := hr_108.2.2.1; rw [z_89] at h; rw [h]; simp <;> omega
    have e_108 : ∀ b : Nat, b ≠ 213 → b ≠ 0 → m_108 b = m b := fun b h1 h2 => by rw [s_108.1 b h1 h2, wr_row h2]
    refine go_aload_n dX11_slip_111 rfl ?_
    refine go_getf_p (b := 7) dX11_slip_112 fl_11_24 ob_0 rfl pt_0_1 ?_
    refine go_getf_p (b := 18) dX11_slip_115 fl_11_136 ob_7 rfl pt_7_1 ?_
    refine go_getf_p (b := 23) dX11_slip_118 fl_11_152 ob_18 rfl pt_18_6 ?_
    refine go_iload_n dX11_slip_121 rfl ?_
    refine go_iaload dX11_slip_122 ar_23 (by omega) (by omega) (fun he_122 => ?_)
    rw [show (m_108 23 p : Int) = (m (18 + 5) p) from (congrFun (e_108 23 (by decide) (by decide)) p)] at he_122 ⊢
    refine go_if_ne (tgt := 133) dX11_slip_123 (by decide) ⟨by omega, by omega⟩ (fun h_123 => ?_) (fun h_123 => ?_)
    · refine go_aload_n dX11_slip_133 rfl ?_
      refine go_getf_i (ki := 13) dX11_slip_134 fl_11_98 ob_0 rfl rfl (fun hf_134 => ?_)
      refine go_ret (v := (m_108 0 13)) rfl dX11_slip_137 (okI ⟨by omega, by omega⟩) ?_
      first
      | (have e : slT m l p = wT l ++ ([32, 97, 116] ++ [32]) ++ [48 + m 20 p] ++ [32] ++ [48 + m 21 p] ++ ([32, 117, 112] ++ [32]) ++ [48 + m 22 p] ++ [32, 115, 112, 101, 110, 116] := by unfold slT; rw [if_pos (by first | omega | assumption)]; simp
         rw [e]
         exact Or.inr ⟨⟨by omega, by omega⟩, by rw [s_130.2.2.1, wr_self, Int.zero_add], s_130⟩)
      | (have e : slT m l p = wT l ++ ([32, 97, 116] ++ [32]) ++ [48 + m 20 p] ++ [32] ++ [48 + m 21 p] ++ ([32, 117, 112] ++ [32]) ++ [48 + m 22 p] := by unfold slT; rw [if_neg (by first | omega | assumption)]; simp
         rw [e]
         exact Or.inr ⟨⟨by omega, by omega⟩, by rw [s_108.2.2.1, wr_self, Int.zero_add], s_108⟩)
    · refine go_aload_n dX11_slip_126 rfl ?_
      refine go_ldcwS (b := 1002 + 2) dX11_slip_127 rfl (fun ad U h => h.2.2.1) ?_
      refine go_callV_v (as := [vr (1002 + 2)]) (S := []) (b := 0) (ev_X11_slipText (m := m_108) (i := 2) (by decide) ⟨by omega, by have : lnS 2 = 6 := rfl; omega⟩) rfl dX11_slip_130 cv_11_343 rfl rfl ob_0 rfl (by decide) (Nat.le_of_ble_eq_true rfl) (fun m_130 hr_130 => ?_)
      rw [txS_sp] at hr_130
      have s_130 := s_108.app hr_130
      have z_130 : m_130 0 13 = (l.length : Int) + 18 := by have h := hr_130.2.2.1; rw [z_108] at h; rw [h]; simp <;> omega
      have e_130 : ∀ b : Nat, b ≠ 213 → b ≠ 0 → m_130 b = m b := fun b h1 h2 => by rw [s_130.1 b h1 h2, wr_row h2]
      refine go_aload_n dX11_slip_133 rfl ?_
      refine go_getf_i (ki := 13) dX11_slip_134 fl_11_98 ob_0 rfl rfl (fun hf_134 => ?_)
      refine go_ret (v := (m_130 0 13)) rfl dX11_slip_137 (okI ⟨by omega, by omega⟩) ?_
      first
      | (have e : slT m l p = wT l ++ ([32, 97, 116] ++ [32]) ++ [48 + m 20 p] ++ [32] ++ [48 + m 21 p] ++ ([32, 117, 112] ++ [32]) ++ [48 + m 22 p] ++ [32, 115, 112, 101, 110, 116] := by unfold slT; rw [if_pos (by first | omega | assumption)]; simp
         rw [e]
         exact Or.inr ⟨⟨by omega, by omega⟩, by rw [s_130.2.2.1, wr_self, Int.zero_add], s_130⟩)
      | (have e : slT m l p = wT l ++ ([32, 97, 116] ++ [32]) ++ [48 + m 20 p] ++ [32] ++ [48 + m 21 p] ++ ([32, 117, 112] ++ [32]) ++ [48 + m 22 p] := by unfold slT; rw [if_neg (by first | omega | assumption)]; simp
         rw [e]
         exact Or.inr ⟨⟨by omega, by omega⟩, by rw [s_108.2.2.1, wr_self, Int.zero_add], s_108⟩)
  · refine go_iconst dX11_slip_11 ?_
    exact go_ret (v := (-1)) rfl dX11_slip_12 (okI ⟨by omega, by omega⟩) (Or.inl ⟨by omega, rfl, rfl⟩)
