theorem liveX_n {m : Mem} {st : Nat} {l : Int} (h : liveR m st l ≠ 0) : liveX m st l = m := by
  unfold liveR at h
  unfold liveX
  by_cases a1 : m 71 l = 205
  · rw [if_pos a1] at h ⊢; unfold sayIf; rw [if_neg h]
  · rw [if_neg a1] at h ⊢
    by_cases a2 : m 71 l = 206
    · rw [if_pos a2] at h ⊢; unfold kickIf; rw [if_neg (fun z => h (by unfold bh; rw [if_pos z]))]
    · rw [if_neg a2] at h ⊢
      by_cases a3 : m 71 l = 207
      · rw [if_pos a3] at h ⊢; unfold restIf
        by_cases c : m (st + 5) (m 72 l) = m (8 + 5) (m 72 l)
        · rw [if_pos c]
        · rw [if_neg c] at h; exact absurd rfl h
      · rw [if_neg a3] at h ⊢
        by_cases c : 400 - m st 0 < m 75 l
        · rw [if_pos c]
        · rw [if_neg c] at h; exact absurd rfl h
def JdPost (m m' : Mem) : Prop := ∃ k : Nat, (k : Int) ≤ m 70 11 ∧ (∀ j : Nat, j < k → liveR (jN m j) 32 (j : Int) = 0) ∧ ((((k : Int) = m 70 11 ∧ m' 70 1 = 0) ∨ ((k : Int) < m 70 11 ∧ m' 70 1 = liveR (jN m k) 32 (k : Int) ∧ liveR (jN m k) 32 (k : Int) ≠ 0))) ∧
  E70 m' (jN m k) ∧ m' 70 0 = 1 ∧ m' 70 2 = k ∧ m' 70 3 = jN m k 32 0 ∧ m' 70 4 = comeN 0 (setlC (jN m k) 8 32) (m 8 3).toNat

theorem dX0_behind_0 : decode mX0_behind.2.1 0 = .ok (.iload_n 1, 1) := by decide +kernel
theorem dX0_behind_1 : decode mX0_behind.2.1 1 = .ok (.ifCond .ne 7, 3) := by decide +kernel
theorem dX0_behind_4 : decode mX0_behind.2.1 4 = .ok (.iconst 0, 1) := by decide +kernel
theorem dX0_behind_5 : decode mX0_behind.2.1 5 = .ok (.goto 6, 3) := by decide +kernel
theorem dX0_behind_8 : decode mX0_behind.2.1 8 = .ok (.iload_n 0, 1) := by decide +kernel
theorem dX0_behind_9 : decode mX0_behind.2.1 9 = .ok (.iload_n 1, 1) := by decide +kernel
theorem dX0_behind_10 : decode mX0_behind.2.1 10 = .ok (.iadd, 1) := by decide +kernel
theorem dX0_behind_11 : decode mX0_behind.2.1 11 = .ok (.ireturn, 1) := by decide +kernel
set_option maxRecDepth 4000 in
theorem ev_X0_behind {m : Mem} {b : Int} {x : Int} (hb : 0 ≤ b ∧ b ≤ 100) (hx : 0 ≤ x ∧ x ≤ 100) : Ev 0 1 mX0_behind [vi b, vi x] m (fun r m' => m' = m ∧ (r = bh b x)) := by
  refine Ev.of (L := [vi b, vi x]) (by decide +kernel) rfl (Nat.le_of_ble_eq_true rfl) rfl (fun t ht => by cases ht; first | exact Or.inl rfl | exact Or.inr (Or.inl rfl) | exact Or.inr (Or.inr rfl)) (fun hcan => ?_)
  refine go_iload_n dX0_behind_0 rfl ?_
  refine go_if_ne (tgt := 8) dX0_behind_1 (by decide) ⟨by omega, by omega⟩ (fun h_1 => ?_) (fun h_1 => ?_)
  · refine go_iload_n dX0_behind_8 rfl ?_
    refine go_iload_n dX0_behind_9 rfl ?_
    refine go_iadd dX0_behind_10 ?_
    exact go_ret (v := (b + x)) rfl dX0_behind_11 (okI ⟨by omega, by omega⟩) ⟨rfl, (by unfold bh; first | rw [if_pos (by omega)] | rw [if_neg (by omega)])⟩
  · refine go_iconst dX0_behind_4 ?_
    refine go_goto (tgt := 11) dX0_behind_5 (by decide) ?_
    exact go_ret (v := 0) rfl dX0_behind_11 (okI ⟨by omega, by omega⟩) ⟨rfl, (by unfold bh; first | rw [if_pos (by omega)] | rw [if_neg (by omega)])⟩
theorem dX0_passIfCan_0 : decode mX0_passIfCan.2.1 0 = .ok (.iload_n 1, 1) := by decide +kernel
theorem dX0_passIfCan_1 : decode mX0_passIfCan.2.1 1 = .ok (.aload_n 0, 1) := by decide +kernel
theorem dX0_passIfCan_2 : decode mX0_passIfCan.2.1 2 = .ok (.invokevirtual 145, 3) := by decide +kernel
theorem dX0_passIfCan_5 : decode mX0_passIfCan.2.1 5 = .ok (.if_icmp .le 6, 3) := by decide +kernel
theorem dX0_passIfCan_8 : decode mX0_passIfCan.2.1 8 = .ok (.bipush 31, 2) := by decide +kernel
theorem dX0_passIfCan_10 : decode mX0_passIfCan.2.1 10 = .ok (.ireturn, 1) := by decide +kernel
theorem dX0_passIfCan_11 : decode mX0_passIfCan.2.1 11 = .ok (.aload_n 0, 1) := by decide +kernel
theorem dX0_passIfCan_12 : decode mX0_passIfCan.2.1 12 = .ok (.iload_n 1, 1) := by decide +kernel
theorem dX0_passIfCan_13 : decode mX0_passIfCan.2.1 13 = .ok (.invokevirtual 148, 3) := by decide +kernel
theorem dX0_passIfCan_16 : decode mX0_passIfCan.2.1 16 = .ok (.iconst 0, 1) := by decide +kernel
theorem dX0_passIfCan_17 : decode mX0_passIfCan.2.1 17 = .ok (.ireturn, 1) := by decide +kernel
set_option maxRecDepth 4000 in
theorem ev_X0_passIfCan {m : Mem} {w : Nat} {d : Nat} {st : Nat} {n : Int} {B : Int} (hw : isWd w d st) (hdn : DnOk m d) (hst : StOk m d st B) (hn : 1 ≤ n ∧ n ≤ 60) : Ev 0 5 mX0_passIfCan [vr w, vi n] m (fun r m' => r = (if 400 - m st 0 < n then 31 else 0) ∧ m' = (if 400 - m st 0 < n then m else passC m d st n)) := by
  refine Ev.of (L := [vr w, vi n]) (by decide +kernel) rfl (Nat.le_of_ble_eq_true rfl) rfl (fun t ht => by cases ht; first | exact Or.inl rfl | exact Or.inr (Or.inl rfl) | exact Or.inr (Or.inr rfl)) (fun hcan => ?_)
  have hs00 := hst.1
  refine go_iload_n dX0_passIfCan_0 rfl ?_
  refine go_aload_n dX0_passIfCan_1 rfl ?_
  refine go_callVp_i (as := []) (S := [vi n]) (b := w) (ev_X10_hoursLeft (m := m) (w := w) (d := d) (st := st) (by first | assumption | omega | exact ⟨by omega, by omega⟩ | (constructor <;> omega)) (by first | assumption | omega | exact ⟨by omega, by omega⟩ | (constructor <;> omega))) rfl dX0_passIfCan_2 cv_0_145 rfl rfl hw.o rfl (by decide) (Nat.le_of_ble_eq_true rfl) (fun r_2 hr_2 ho_2 => ?_)
  refine go_icmp_le (tgt := 11) dX0_passIfCan_5 (by decide) ⟨by omega, by omega⟩ ⟨by omega, by omega⟩ (fun h_5 => ?_) (fun h_5 => ?_)
  · refine go_aload_n dX0_passIfCan_11 rfl ?_
    refine go_iload_n dX0_passIfCan_12 rfl ?_
    refine go_callV_v (as := [vi n]) (S := []) (b := w) (ev_X10_passHours (m := m) (w := w) (n := n) (d := d) (st := st) (B := B) (by first | assumption | omega | exact ⟨by omega, by omega⟩ | (constructor <;> omega)) (by first | assumption | omega | exact ⟨by omega, by omega⟩ | (constructor <;> omega)) (by first | assumption | omega | exact ⟨by omega, by omega⟩ | (constructor <;> omega)) (by first | assumption | omega | exact ⟨by omega, by omega⟩ | (constructor <;> omega))) rfl dX0_passIfCan_13 cv_0_148 rfl rfl hw.o rfl (by decide) (Nat.le_of_ble_eq_true rfl) (fun m_13 hr_13 => ?_)
    refine go_iconst dX0_passIfCan_16 ?_
    exact go_ret (v := 0) rfl dX0_passIfCan_17 (okI ⟨by omega, by omega⟩) ⟨by rw [if_neg (by omega)], by rw [if_neg (by omega)]; exact hr_13⟩
  · refine go_bipush dX0_passIfCan_8 (by decide) ?_
    exact go_ret (v := 31) rfl dX0_passIfCan_10 (okI ⟨by omega, by omega⟩) ⟨by rw [if_pos (by omega)], by rw [if_pos (by omega)]⟩
theorem dX0_live_0 : decode mX0_live.2.1 0 = .ok (.aload_n 0, 1) := by decide +kernel
theorem dX0_live_1 : decode mX0_live.2.1 1 = .ok (.getfield 28, 3) := by decide +kernel
theorem dX0_live_4 : decode mX0_live.2.1 4 = .ok (.iload_n 2, 1) := by decide +kernel
theorem dX0_live_5 : decode mX0_live.2.1 5 = .ok (.iaload, 1) := by decide +kernel
theorem dX0_live_6 : decode mX0_live.2.1 6 = .ok (.tableswitch 87 205 207 #[26, 49, 71], 26) := by decide +kernel
theorem dX0_live_32 : decode mX0_live.2.1 32 = .ok (.aload_n 1, 1) := by decide +kernel
theorem dX0_live_33 : decode mX0_live.2.1 33 = .ok (.aload_n 0, 1) := by decide +kernel
theorem dX0_live_34 : decode mX0_live.2.1 34 = .ok (.getfield 32, 3) := by decide +kernel
theorem dX0_live_37 : decode mX0_live.2.1 37 = .ok (.iload_n 2, 1) := by decide +kernel
theorem dX0_live_38 : decode mX0_live.2.1 38 = .ok (.iaload, 1) := by decide +kernel
theorem dX0_live_39 : decode mX0_live.2.1 39 = .ok (.aload_n 0, 1) := by decide +kernel
theorem dX0_live_40 : decode mX0_live.2.1 40 = .ok (.getfield 35, 3) := by decide +kernel
theorem dX0_live_43 : decode mX0_live.2.1 43 = .ok (.iload_n 2, 1) := by decide +kernel
theorem dX0_live_44 : decode mX0_live.2.1 44 = .ok (.iaload, 1) := by decide +kernel
theorem dX0_live_45 : decode mX0_live.2.1 45 = .ok (.aload_n 0, 1) := by decide +kernel
theorem dX0_live_46 : decode mX0_live.2.1 46 = .ok (.getfield 38, 3) := by decide +kernel
theorem dX0_live_49 : decode mX0_live.2.1 49 = .ok (.iload_n 2, 1) := by decide +kernel
theorem dX0_live_50 : decode mX0_live.2.1 50 = .ok (.iaload, 1) := by decide +kernel
theorem dX0_live_51 : decode mX0_live.2.1 51 = .ok (.invokevirtual 127, 3) := by decide +kernel
theorem dX0_live_54 : decode mX0_live.2.1 54 = .ok (.ireturn, 1) := by decide +kernel
theorem dX0_live_55 : decode mX0_live.2.1 55 = .ok (.bipush 10, 2) := by decide +kernel
theorem dX0_live_57 : decode mX0_live.2.1 57 = .ok (.aload_n 1, 1) := by decide +kernel
theorem dX0_live_58 : decode mX0_live.2.1 58 = .ok (.aload_n 0, 1) := by decide +kernel
theorem dX0_live_59 : decode mX0_live.2.1 59 = .ok (.getfield 32, 3) := by decide +kernel
theorem dX0_live_62 : decode mX0_live.2.1 62 = .ok (.iload_n 2, 1) := by decide +kernel
theorem dX0_live_63 : decode mX0_live.2.1 63 = .ok (.iaload, 1) := by decide +kernel
theorem dX0_live_64 : decode mX0_live.2.1 64 = .ok (.aload_n 0, 1) := by decide +kernel
theorem dX0_live_65 : decode mX0_live.2.1 65 = .ok (.getfield 38, 3) := by decide +kernel
theorem dX0_live_68 : decode mX0_live.2.1 68 = .ok (.iload_n 2, 1) := by decide +kernel
theorem dX0_live_69 : decode mX0_live.2.1 69 = .ok (.iaload, 1) := by decide +kernel
theorem dX0_live_70 : decode mX0_live.2.1 70 = .ok (.invokevirtual 131, 3) := by decide +kernel
theorem dX0_live_73 : decode mX0_live.2.1 73 = .ok (.invokestatic 135, 3) := by decide +kernel
theorem dX0_live_76 : decode mX0_live.2.1 76 = .ok (.ireturn, 1) := by decide +kernel
theorem dX0_live_77 : decode mX0_live.2.1 77 = .ok (.bipush 20, 2) := by decide +kernel
theorem dX0_live_79 : decode mX0_live.2.1 79 = .ok (.aload_n 1, 1) := by decide +kernel
theorem dX0_live_80 : decode mX0_live.2.1 80 = .ok (.aload_n 0, 1) := by decide +kernel
theorem dX0_live_81 : decode mX0_live.2.1 81 = .ok (.getfield 32, 3) := by decide +kernel
theorem dX0_live_84 : decode mX0_live.2.1 84 = .ok (.iload_n 2, 1) := by decide +kernel
theorem dX0_live_85 : decode mX0_live.2.1 85 = .ok (.iaload, 1) := by decide +kernel
theorem dX0_live_86 : decode mX0_live.2.1 86 = .ok (.invokevirtual 138, 3) := by decide +kernel
theorem dX0_live_89 : decode mX0_live.2.1 89 = .ok (.invokestatic 135, 3) := by decide +kernel
theorem dX0_live_92 : decode mX0_live.2.1 92 = .ok (.ireturn, 1) := by decide +kernel
theorem dX0_live_93 : decode mX0_live.2.1 93 = .ok (.aload_n 1, 1) := by decide +kernel
theorem dX0_live_94 : decode mX0_live.2.1 94 = .ok (.aload_n 0, 1) := by decide +kernel
theorem dX0_live_95 : decode mX0_live.2.1 95 = .ok (.getfield 41, 3) := by decide +kernel
theorem dX0_live_98 : decode mX0_live.2.1 98 = .ok (.iload_n 2, 1) := by decide +kernel
theorem dX0_live_99 : decode mX0_live.2.1 99 = .ok (.iaload, 1) := by decide +kernel
theorem dX0_live_100 : decode mX0_live.2.1 100 = .ok (.invokestatic 142, 3) := by decide +kernel
theorem dX0_live_103 : decode mX0_live.2.1 103 = .ok (.ireturn, 1) := by decide +kernel
set_option maxRecDepth 4000 in
theorem ev_X0_live {m : Mem} {w : Nat} {st : Nat} {l : Int} {B : Int} (hw : isWd w 8 st) (hdn : DnOk m 8) (hst : StOk m 8 st B) (hB : B ≤ 1900000000) (hl : 0 ≤ l ∧ l < 40) (hlo : LOk m l) : Ev 0 7 mX0_live [vr 70, vr w, vi l] m (fun r m' => r = liveR m st l ∧ m' = liveX m st l) := by
  refine Ev.of (L := [vr 70, vr w, vi l]) (by decide +kernel) rfl (Nat.le_of_ble_eq_true rfl) rfl (fun t ht => by cases ht; first | exact Or.inl rfl | exact Or.inr (Or.inl rfl) | exact Or.inr (Or.inr rfl)) (fun hcan => ?_)
  obtain ⟨⟨hd0, hd1⟩, ⟨hd2, hd3⟩, ⟨hd4, hd5⟩, ⟨hd6, hd7⟩, ⟨hd8, hd9⟩, hdf, hdp, hdq⟩ := id hdn
  unfold LOk at hlo
  refine go_aload_n dX0_live_0 rfl ?_
  refine go_getf_p (b := 71) dX0_live_1 fl_0_28 ob_70 rfl pt_70_6 ?_
  refine go_iload_n dX0_live_4 rfl ?_
  refine go_iaload dX0_live_5 ar_71 (by omega) (by omega) (fun he_5 => ?_)
  refine go_tswitch (tgt := 93) dX0_live_6 ⟨by omega, by omega⟩ (by decide) (fun n_6 h_6 hb_6 => ?_) (fun h_6 => ?_)
  · match n_6, h_6, hb_6 with
    | 0, h_6, hb_6 =>
      refine ⟨26, 32, rfl, by decide, ?_⟩
      refine go_aload_n dX0_live_32 rfl ?_
      refine go_aload_n dX0_live_33 rfl ?_
      refine go_getf_p (b := 72) dX0_live_34 fl_0_32 ob_70 rfl pt_70_7 ?_
      refine go_iload_n dX0_live_37 rfl ?_
      refine go_iaload dX0_live_38 ar_72 (by omega) (by omega) (fun he_38 => ?_)
      refine go_aload_n dX0_live_39 rfl ?_
      refine go_getf_p (b := 73) dX0_live_40 fl_0_35 ob_70 rfl pt_70_8 ?_
      refine go_iload_n dX0_live_43 rfl ?_
      refine go_iaload dX0_live_44 ar_73 (by omega) (by omega) (fun he_44 => ?_)
      refine go_aload_n dX0_live_45 rfl ?_
      refine go_getf_p (b := 74) dX0_live_46 fl_0_38 ob_70 rfl pt_70_9 ?_
      refine go_iload_n dX0_live_49 rfl ?_
      refine go_iaload dX0_live_50 ar_74 (by omega) (by omega) (fun he_50 => ?_)
      refine go_callV_i (as := [vi (m 72 l), vi (m 73 l), vi (m 74 l)]) (S := []) (b := w) (ev_X10_sayIfCan (m := m) (w := w) (p := (m 72 l)) (f := (m 73 l)) (s := (m 74 l)) (d := 8) (st := st) (B := B) hw (by first | assumption | omega | exact ⟨by omega, by omega⟩ | (constructor <;> omega)) (by first | assumption | omega | exact ⟨by omega, by omega⟩ | (constructor <;> omega)) (by first | assumption | omega | exact ⟨by omega, by omega⟩ | (constructor <;> omega)) (by first | assumption | omega | exact ⟨by omega, by omega⟩ | (constructor <;> omega)) (by first | assumption | omega | exact ⟨by omega, by omega⟩ | (constructor <;> omega)) (by first | assumption | omega | exact ⟨by omega, by omega⟩ | (constructor <;> omega))) rfl dX0_live_51 cv_0_127 rfl rfl hw.o rfl (by decide) (Nat.le_of_ble_eq_true rfl) (fun r_51 m_51 hr_51 ho_51 => ?_)
      exact go_ret (v := r_51) rfl dX0_live_54 (okI ⟨by omega, by omega⟩) ⟨by rw [hr_51.1]; unfold liveR; rw [if_pos (by omega)], by rw [hr_51.2]; unfold liveX; rw [if_pos (by omega)]⟩
    | 1, h_6, hb_6 =>
      refine ⟨49, 55, rfl, by decide, ?_⟩
      refine go_bipush dX0_live_55 (by decide) ?_
      refine go_aload_n dX0_live_57 rfl ?_
      refine go_aload_n dX0_live_58 rfl ?_
      refine go_getf_p (b := 72) dX0_live_59 fl_0_32 ob_70 rfl pt_70_7 ?_
      refine go_iload_n dX0_live_62 rfl ?_
      refine go_iaload dX0_live_63 ar_72 (by omega) (by omega) (fun he_63 => ?_)
      refine go_aload_n dX0_live_64 rfl ?_
      refine go_getf_p (b := 74) dX0_live_65 fl_0_38 ob_70 rfl pt_70_9 ?_
      refine go_iload_n dX0_live_68 rfl ?_
      refine go_iaload dX0_live_69 ar_74 (by omega) (by omega) (fun he_69 => ?_)
      refine go_callV_i (as := [vi (m 72 l), vi (m 74 l)]) (S := [vi 10]) (b := w) (ev_X10_kickIfCan (m := m) (w := w) (p := (m 72 l)) (s := (m 74 l)) (d := 8) (st := st) (B := B) hw (by first | assumption | omega | exact ⟨by omega, by omega⟩ | (constructor <;> omega)) (by first | assumption | omega | exact ⟨by omega, by omega⟩ | (constructor <;> omega)) (by first | assumption | omega | exact ⟨by omega, by omega⟩ | (constructor <;> omega)) (by first | assumption | omega | exact ⟨by omega, by omega⟩ | (constructor <;> omega)) (by first | assumption | omega | exact ⟨by omega, by omega⟩ | (constructor <;> omega))) rfl dX0_live_70 cv_0_131 rfl rfl hw.o rfl (by decide) (Nat.le_of_ble_eq_true rfl) (fun r_70 m_70 hr_70 ho_70 => ?_)
      have hkb : 0 ≤ whyKickC m 8 st (m 72 l) (m 74 l) ∧ whyKickC m 8 st (m 72 l) (m 74 l) ≤ 2 := by unfold whyKickC; split <;> (try split) <;> omega
      refine go_callSp_i (as := [vi 10, vi r_70]) (S := []) (ev_X0_behind (m := m_70) (b := 10) (x := r_70) (by first | assumption | omega | exact ⟨by omega, by omega⟩ | (constructor <;> omega)) (by rw [hr_70.1]; omega)) rfl dX0_live_73 cs_0_135 rfl rfl (by decide) (Nat.le_of_ble_eq_true rfl) (fun r_73 hr_73 ho_73 => ?_)
      exact go_ret (v := r_73) rfl dX0_live_76 (okI ⟨by omega, by omega⟩) ⟨by rw [hr_73, hr_70.1]; unfold liveR; rw [if_neg (by omega), if_pos (by omega)], by rw [hr_70.2]; unfold liveX; rw [if_neg (by omega), if_pos (by omega)]⟩
    | 2, h_6, hb_6 =>
      refine ⟨71, 77, rfl, by decide, ?_⟩
      refine go_bipush dX0_live_77 (by decide) ?_
      refine go_aload_n dX0_live_79 rfl ?_
      refine go_aload_n dX0_live_80 rfl ?_
      refine go_getf_p (b := 72) dX0_live_81 fl_0_32 ob_70 rfl pt_70_7 ?_
      refine go_iload_n dX0_live_84 rfl ?_
      refine go_iaload dX0_live_85 ar_72 (by omega) (by omega) (fun he_85 => ?_)
      refine go_callV_i (as := [vi (m 72 l)]) (S := [vi 20]) (b := w) (ev_X10_restIfCan (m := m) (w := w) (p := (m 72 l)) (d := 8) (st := st) hw (by first | assumption | omega | exact ⟨by omega, by omega⟩ | (constructor <;> omega))) rfl dX0_live_86 cv_0_138 rfl rfl hw.o rfl (by decide) (Nat.le_of_ble_eq_true rfl) (fun r_86 m_86 hr_86 ho_86 => ?_)
      have hrb : 0 ≤ r_86 ∧ r_86 ≤ 1 := by rw [hr_86.1]; split <;> omega
      refine go_callSp_i (as := [vi 20, vi r_86]) (S := []) (ev_X0_behind (m := m_86) (b := 20) (x := r_86) (by first | assumption | omega | exact ⟨by omega, by omega⟩ | (constructor <;> omega)) (by omega)) rfl dX0_live_89 cs_0_135 rfl rfl (by decide) (Nat.le_of_ble_eq_true rfl) (fun r_89 hr_89 ho_89 => ?_)
      exact go_ret (v := r_89) rfl dX0_live_92 (okI ⟨by omega, by omega⟩) ⟨by rw [hr_89, hr_86.1, show liveR m st l = bh 20 (if m (st + 5) (m 72 l) = m (8 + 5) (m 72 l) then 1 else 0) by unfold liveR; rw [if_neg (by omega), if_neg (by omega), if_pos (by omega)]], by rw [hr_86.2]; unfold liveX; rw [if_neg (by omega), if_neg (by omega), if_pos (by omega)]⟩
    | k + 3, h_6, hb_6 => exfalso; omega
  · refine go_aload_n dX0_live_93 rfl ?_
    refine go_aload_n dX0_live_94 rfl ?_
    refine go_getf_p (b := 75) dX0_live_95 fl_0_41 ob_70 rfl pt_70_10 ?_
    refine go_iload_n dX0_live_98 rfl ?_
    refine go_iaload dX0_live_99 ar_75 (by omega) (by omega) (fun he_99 => ?_)
    refine go_callS_i (as := [vr w, vi (m 75 l)]) (S := []) (ev_X0_passIfCan (m := m) (w := w) (n := (m 75 l)) (d := 8) (st := st) (B := B) hw (by first | assumption | omega | exact ⟨by omega, by omega⟩ | (constructor <;> omega)) (by first | assumption | omega | exact ⟨by omega, by omega⟩ | (constructor <;> omega)) (by first | assumption | omega | exact ⟨by omega, by omega⟩ | (constructor <;> omega))) rfl dX0_live_100 cs_0_142 rfl rfl (by decide) (Nat.le_of_ble_eq_true rfl) (fun r_100 m_100 hr_100 ho_100 => ?_)
    exact go_ret (v := r_100) rfl dX0_live_103 (okI ⟨by omega, by omega⟩) ⟨by rw [hr_100.1, show liveR m st l = (if 400 - m st 0 < m 75 l then 31 else 0) by unfold liveR; rw [if_neg (by omega), if_neg (by omega), if_neg (by omega)]], by rw [hr_100.2, show liveX m st l = (if 400 - m st 0 < m 75 l then m else passC m 8 st (m 75 l)) by unfold liveX; rw [if_neg (by omega), if_neg (by omega), if_neg (by omega)]]⟩
theorem dX0_judge_0 : decode mX0_judge.2.1 0 = .ok (.aload_n 0, 1) := by decide +kernel
theorem dX0_judge_1 : decode mX0_judge.2.1 1 = .ok (.iconst 0, 1) := by decide +kernel
theorem dX0_judge_2 : decode mX0_judge.2.1 2 = .ok (.putfield 15, 3) := by decide +kernel
theorem dX0_judge_5 : decode mX0_judge.2.1 5 = .ok (.aload_n 0, 1) := by decide +kernel
theorem dX0_judge_6 : decode mX0_judge.2.1 6 = .ok (.iconst 0, 1) := by decide +kernel
theorem dX0_judge_7 : decode mX0_judge.2.1 7 = .ok (.putfield 19, 3) := by decide +kernel
theorem dX0_judge_10 : decode mX0_judge.2.1 10 = .ok (.iconst 0, 1) := by decide +kernel
theorem dX0_judge_11 : decode mX0_judge.2.1 11 = .ok (.istore_n 2, 1) := by decide +kernel
theorem dX0_judge_12 : decode mX0_judge.2.1 12 = .ok (.iload_n 2, 1) := by decide +kernel
theorem dX0_judge_13 : decode mX0_judge.2.1 13 = .ok (.aload_n 0, 1) := by decide +kernel
theorem dX0_judge_14 : decode mX0_judge.2.1 14 = .ok (.getfield 44, 3) := by decide +kernel
theorem dX0_judge_17 : decode mX0_judge.2.1 17 = .ok (.if_icmp .ge 43, 3) := by decide +kernel
theorem dX0_judge_20 : decode mX0_judge.2.1 20 = .ok (.aload_n 0, 1) := by decide +kernel
theorem dX0_judge_21 : decode mX0_judge.2.1 21 = .ok (.getfield 15, 3) := by decide +kernel
theorem dX0_judge_24 : decode mX0_judge.2.1 24 = .ok (.ifCond .ne 36, 3) := by decide +kernel
theorem dX0_judge_27 : decode mX0_judge.2.1 27 = .ok (.aload_n 0, 1) := by decide +kernel
theorem dX0_judge_28 : decode mX0_judge.2.1 28 = .ok (.aload_n 0, 1) := by decide +kernel
theorem dX0_judge_29 : decode mX0_judge.2.1 29 = .ok (.aload_n 1, 1) := by decide +kernel
theorem dX0_judge_30 : decode mX0_judge.2.1 30 = .ok (.iload_n 2, 1) := by decide +kernel
theorem dX0_judge_31 : decode mX0_judge.2.1 31 = .ok (.invokevirtual 110, 3) := by decide +kernel
theorem dX0_judge_34 : decode mX0_judge.2.1 34 = .ok (.putfield 15, 3) := by decide +kernel
theorem dX0_judge_37 : decode mX0_judge.2.1 37 = .ok (.aload_n 0, 1) := by decide +kernel
theorem dX0_judge_38 : decode mX0_judge.2.1 38 = .ok (.getfield 15, 3) := by decide +kernel
theorem dX0_judge_41 : decode mX0_judge.2.1 41 = .ok (.ifCond .ne 13, 3) := by decide +kernel
theorem dX0_judge_44 : decode mX0_judge.2.1 44 = .ok (.aload_n 0, 1) := by decide +kernel
theorem dX0_judge_45 : decode mX0_judge.2.1 45 = .ok (.dup, 1) := by decide +kernel
theorem dX0_judge_46 : decode mX0_judge.2.1 46 = .ok (.getfield 19, 3) := by decide +kernel
theorem dX0_judge_49 : decode mX0_judge.2.1 49 = .ok (.iconst 1, 1) := by decide +kernel
theorem dX0_judge_50 : decode mX0_judge.2.1 50 = .ok (.iadd, 1) := by decide +kernel
theorem dX0_judge_51 : decode mX0_judge.2.1 51 = .ok (.putfield 19, 3) := by decide +kernel
theorem dX0_judge_54 : decode mX0_judge.2.1 54 = .ok (.iinc 2 1, 3) := by decide +kernel
theorem dX0_judge_57 : decode mX0_judge.2.1 57 = .ok (.goto (-45), 3) := by decide +kernel
theorem dX0_judge_60 : decode mX0_judge.2.1 60 = .ok (.aload_n 0, 1) := by decide +kernel
theorem dX0_judge_61 : decode mX0_judge.2.1 61 = .ok (.aload_n 1, 1) := by decide +kernel
theorem dX0_judge_62 : decode mX0_judge.2.1 62 = .ok (.getfield 114, 3) := by decide +kernel
theorem dX0_judge_65 : decode mX0_judge.2.1 65 = .ok (.getfield 120, 3) := by decide +kernel
theorem dX0_judge_68 : decode mX0_judge.2.1 68 = .ok (.putfield 22, 3) := by decide +kernel
theorem dX0_judge_71 : decode mX0_judge.2.1 71 = .ok (.aload_n 0, 1) := by decide +kernel
theorem dX0_judge_72 : decode mX0_judge.2.1 72 = .ok (.aload_n 1, 1) := by decide +kernel
theorem dX0_judge_73 : decode mX0_judge.2.1 73 = .ok (.invokevirtual 123, 3) := by decide +kernel
theorem dX0_judge_76 : decode mX0_judge.2.1 76 = .ok (.putfield 25, 3) := by decide +kernel
theorem dX0_judge_79 : decode mX0_judge.2.1 79 = .ok (.aload_n 0, 1) := by decide +kernel
theorem dX0_judge_80 : decode mX0_judge.2.1 80 = .ok (.iconst 1, 1) := by decide +kernel
theorem dX0_judge_81 : decode mX0_judge.2.1 81 = .ok (.putfield 9, 3) := by decide +kernel
theorem dX0_judge_84 : decode mX0_judge.2.1 84 = .ok (.return_, 1) := by decide +kernel
set_option maxRecDepth 4000 in
theorem ev_X0_judge {m : Mem} {B : Int} (hdn : DnOk m 8) (hst : StOk m 8 32 B) (hB : B ≤ 100000000) (hn : 0 ≤ m 70 11 ∧ m 70 11 ≤ 40) (hlo : ∀ l : Int, 0 ≤ l → l < m 70 11 → LOk m l) : Ev 0 8 mX0_judge [vr 70, vr 31] m (fun r m' => JdPost m m') := by
  refine Ev.of (L := [vr 70, vr 31, un]) (by decide +kernel) rfl (Nat.le_of_ble_eq_true rfl) rfl (fun t ht => by cases ht) (fun hcan => ?_)
  refine go_aload_n dX0_judge_0 rfl ?_
  refine go_iconst dX0_judge_1 ?_
  refine go_putf_i (ki := 1) dX0_judge_2 fw_0_15 ob_70 rfl rfl ⟨by omega, by omega⟩ ?_
  refine go_aload_n dX0_judge_5 rfl ?_
  refine go_iconst dX0_judge_6 ?_
  refine go_putf_i (ki := 2) dX0_judge_7 fw_0_19 ob_70 rfl rfl ⟨by omega, by omega⟩ ?_
  refine go_iconst dX0_judge_10 ?_
  refine go_istore_n (L' := [vr 70, vr 31, vi 0]) dX0_judge_11 (by decide) rfl rfl ?_
  have lp_12 : ∀ (n_12 : Nat) (m1 : Mem) (l : Int) (y : Int), (0 ≤ l) → (l ≤ m 70 11) → (m1 70 1 = y) → (m1 70 11 = m 70 11) → (E70 m1 (jN m l.toNat)) → (0 ≤ y ∧ y ≤ 40) → ((y = 0 ∧ m1 70 2 = l ∧ ∀ j : Nat, j < l.toNat → liveR (jN m j) 32 (j : Int) = 0) ∨ (y ≠ 0 ∧ 0 < l ∧ m1 70 2 = l - 1 ∧ y = liveR (jN m (l - 1).toNat) 32 (l - 1) ∧ ∀ j : Nat, j < (l - 1).toNat → liveR (jN m j) 32 (j : Int) = 0)) → (m 70 11 - l).toNat < n_12 → Go 0 8 mX0_judge (fun r m' => JdPost m m') 12 [vr 70, vr 31, vi l] [] m1 := by
    intro n_12
    induction n_12 with
    | zero => intro m1 l y hl0 hl1 e1 e11 heq hyb hy hmu; exact absurd hmu (Nat.not_lt_zero _)
    | succ n_12 ih_12 =>
      intro m1 l y hl0 hl1 e1 e11 heq hyb hy hmu
      have hf := jN_fr (m := m) l.toNat
      have hst1 := jN_st hdn hst hlo l.toNat (by omega)
      have hsm := heq.sm (st := 32) (by omega)
      have hdnJ : DnOk (jN m l.toNat) 8 := hdn.fr hf (by omega)
      have e8 : m1 8 = m 8 := by rw [heq 8 (by decide), hf 8 (by omega)]
      refine go_iload_n dX0_judge_12 rfl ?_
      refine go_aload_n dX0_judge_13 rfl ?_
      refine go_getf_i (ki := 11) dX0_judge_14 fl_0_44 ob_70 rfl rfl (fun hf_14 => ?_)
      rw [show (m1 70 11 : Int) = (m 70 11) from e11] at hf_14 ⊢
      refine go_icmp_ge (tgt := 60) dX0_judge_17 (by decide) ⟨by omega, by omega⟩ ⟨by omega, by omega⟩ (fun h_17 => ?_) (fun h_17 => ?_)
      · refine go_aload_n dX0_judge_60 rfl ?_
        refine go_aload_n dX0_judge_61 rfl ?_
        refine go_getf_p (b := 32) dX0_judge_62 fl_0_114 ob_31 rfl pt_31_1 ?_
        refine go_getf_i (ki := 0) dX0_judge_65 fl_0_120 ob_32 rfl rfl (fun hf_65 => ?_)
        rw [show (m1 32 0 : Int) = ((jN m l.toNat) 32 0) from by rw [heq 32 (by decide)]] at hf_65 ⊢
        refine go_putf_i (ki := 3) dX0_judge_68 fw_0_22 ob_70 rfl rfl ⟨by omega, by omega⟩ ?_
        refine go_aload_n dX0_judge_71 rfl ?_
        refine go_aload_n dX0_judge_72 rfl ?_
        refine go_callVp_i (as := []) (S := [vr 70]) (b := 31) (ev_X10_whoIsSettled (m := (wr m1 70 3 ((jN m l.toNat) 32 0))) (w := 31) (d := 8) (st := 32) isWd_31 (by have h := hsm.dn hdnJ; exact h.congr (fun k hk => wr_row (by omega)))) rfl dX0_judge_73 cv_0_123 rfl rfl ob_31 rfl (by decide) (Nat.le_of_ble_eq_true rfl) (fun r_73 hr_73 ho_73 => ?_)
        refine go_putf_i (ki := 4) dX0_judge_76 fw_0_25 ob_70 rfl rfl ⟨by omega, by omega⟩ ?_
        refine go_aload_n dX0_judge_79 rfl ?_
        refine go_iconst dX0_judge_80 ?_
        refine go_putf_z (ki := 0) dX0_judge_81 fw_0_9 ob_70 rfl rfl (by first | exact Or.inl rfl | exact Or.inr rfl | assumption | omega) ?_
        refine go_ret (v := 0) rfl dX0_judge_84 rfl ?_
        have hset : r_73 = comeN 0 (setlC (jN m l.toNat) 8 32) (m 8 3).toNat := by
          have q8 : wr m1 70 3 ((jN m l.toNat) 32 0) 8 = m 8 := by rw [wr_row (by decide), e8]
          have qs : setlC (wr m1 70 3 ((jN m l.toNat) 32 0)) 8 32 = setlC (jN m l.toNat) 8 32 := by funext p; unfold setlC; rw [wr_row (by decide), wr_row (by decide), heq (32 + 6) (by decide), heq 8 (by decide)]
          rw [hr_73, qs, q8]
        rw [hset]
        have eqE : ∀ X : Mem, E70 m1 X → E70 (wr (wr (wr m1 70 3 ((jN m l.toNat) 32 0)) 70 4 (comeN 0 (setlC (jN m l.toNat) 8 32) (m 8 3).toNat)) 70 0 1) X := fun X hX b hb => by rw [wr_row hb, wr_row hb, wr_row hb]; exact hX b hb
        rcases hy with ⟨g1, g2, g3⟩ | ⟨g1, g2, g3, g4, g5⟩
        · refine ⟨l.toNat, by omega, g3, Or.inl ⟨by omega, ?_⟩, eqE _ heq, wr_self _ _ _ _, ?_, ?_, ?_⟩
          · simp (disch := decide) only [wr_ni]; omega
          · simp (disch := decide) only [wr_ni]; omega
          · simp (disch := decide) only [wr_ni, wr_self]
          · simp (disch := decide) only [wr_ni, wr_self]
        · have ej : (jN m l.toNat) = jN m (l - 1).toNat := by
            rw [show l.toNat = (l - 1).toNat + 1 by omega]
            show liveX _ 32 ((l - 1).toNat : Int) = _
            rw [Int.toNat_of_nonneg (by omega)]
            exact liveX_n (by rw [← g4]; exact g1)
          rw [ej] at heq eqE ⊢
          refine ⟨(l - 1).toNat, by omega, g5, Or.inr ⟨by omega, ?_, ?_⟩, eqE _ heq, wr_self _ _ _ _, ?_, ?_, ?_⟩
          · simp (disch := decide) only [wr_ni]; rw [Int.toNat_of_nonneg (by omega), ← g4]; exact e1
          · rw [Int.toNat_of_nonneg (by omega), ← g4]; exact g1
          · simp (disch := decide) only [wr_ni]; omega
          · simp (disch := decide) only [wr_ni, wr_self]
          · simp (disch := decide) only [wr_ni, wr_self]
      · refine go_aload_n dX0_judge_20 rfl ?_
        refine go_getf_i (ki := 1) dX0_judge_21 fl_0_15 ob_70 rfl rfl (fun hf_21 => ?_)
        rw [show (m1 70 1 : Int) = y from e1] at hf_21 ⊢
        refine go_if_ne (tgt := 60) dX0_judge_24 (by decide) ⟨by omega, by omega⟩ (fun h_24 => ?_) (fun h_24 => ?_)
        · refine go_aload_n dX0_judge_60 rfl ?_
          refine go_aload_n dX0_judge_61 rfl ?_
          refine go_getf_p (b := 32) dX0_judge_62 fl_0_114 ob_31 rfl pt_31_1 ?_
          refine go_getf_i (ki := 0) dX0_judge_65 fl_0_120 ob_32 rfl rfl (fun hf_65 => ?_)
          rw [show (m1 32 0 : Int) = ((jN m l.toNat) 32 0) from by rw [heq 32 (by decide)]] at hf_65 ⊢
          refine go_putf_i (ki := 3) dX0_judge_68 fw_0_22 ob_70 rfl rfl ⟨by omega, by omega⟩ ?_
          refine go_aload_n dX0_judge_71 rfl ?_
          refine go_aload_n dX0_judge_72 rfl ?_
          refine go_callVp_i (as := []) (S := [vr 70]) (b := 31) (ev_X10_whoIsSettled (m := (wr m1 70 3 ((jN m l.toNat) 32 0))) (w := 31) (d := 8) (st := 32) isWd_31 (by have h := hsm.dn hdnJ; exact h.congr (fun k hk => wr_row (by omega)))) rfl dX0_judge_73 cv_0_123 rfl rfl ob_31 rfl (by decide) (Nat.le_of_ble_eq_true rfl) (fun r_73 hr_73 ho_73 => ?_)
          refine go_putf_i (ki := 4) dX0_judge_76 fw_0_25 ob_70 rfl rfl ⟨by omega, by omega⟩ ?_
          refine go_aload_n dX0_judge_79 rfl ?_
          refine go_iconst dX0_judge_80 ?_
          refine go_putf_z (ki := 0) dX0_judge_81 fw_0_9 ob_70 rfl rfl (by first | exact Or.inl rfl | exact Or.inr rfl | assumption | omega) ?_
          refine go_ret (v := 0) rfl dX0_judge_84 rfl ?_
          have hset : r_73 = comeN 0 (setlC (jN m l.toNat) 8 32) (m 8 3).toNat := by
            have q8 : wr m1 70 3 ((jN m l.toNat) 32 0) 8 = m 8 := by rw [wr_row (by decide), e8]
            have qs : setlC (wr m1 70 3 ((jN m l.toNat) 32 0)) 8 32 = setlC (jN m l.toNat) 8 32 := by funext p; unfold setlC; rw [wr_row (by decide), wr_row (by decide), heq (32 + 6) (by decide), heq 8 (by decide)]
            rw [hr_73, qs, q8]
          rw [hset]
          have eqE : ∀ X : Mem, E70 m1 X → E70 (wr (wr (wr m1 70 3 ((jN m l.toNat) 32 0)) 70 4 (comeN 0 (setlC (jN m l.toNat) 8 32) (m 8 3).toNat)) 70 0 1) X := fun X hX b hb => by rw [wr_row hb, wr_row hb, wr_row hb]; exact hX b hb
          rcases hy with ⟨g1, g2, g3⟩ | ⟨g1, g2, g3, g4, g5⟩
          · refine ⟨l.toNat, by omega, g3, Or.inl ⟨by omega, ?_⟩, eqE _ heq, wr_self _ _ _ _, ?_, ?_, ?_⟩
            · simp (disch := decide) only [wr_ni]; omega
            · simp (disch := decide) only [wr_ni]; omega
            · simp (disch := decide) only [wr_ni, wr_self]
            · simp (disch := decide) only [wr_ni, wr_self]
          · have ej : (jN m l.toNat) = jN m (l - 1).toNat := by
              rw [show l.toNat = (l - 1).toNat + 1 by omega]
              show liveX _ 32 ((l - 1).toNat : Int) = _
              rw [Int.toNat_of_nonneg (by omega)]
              exact liveX_n (by rw [← g4]; exact g1)
            rw [ej] at heq eqE ⊢
            refine ⟨(l - 1).toNat, by omega, g5, Or.inr ⟨by omega, ?_, ?_⟩, eqE _ heq, wr_self _ _ _ _, ?_, ?_, ?_⟩
            · simp (disch := decide) only [wr_ni]; rw [Int.toNat_of_nonneg (by omega), ← g4]; exact e1
            · rw [Int.toNat_of_nonneg (by omega), ← g4]; exact g1
            · simp (disch := decide) only [wr_ni]; omega
            · simp (disch := decide) only [wr_ni, wr_self]
            · simp (disch := decide) only [wr_ni, wr_self]
        · refine go_aload_n dX0_judge_27 rfl ?_
          refine go_aload_n dX0_judge_28 rfl ?_
          refine go_aload_n dX0_judge_29 rfl ?_
          refine go_iload_n dX0_judge_30 rfl ?_
          refine go_callV_i (as := [vr 31, vi l]) (S := [vr 70]) (b := 70) (ev_X0_live (m := m1) (w := 31) (l := l) (B := (B + (l.toNat : Int))) (st := 32) isWd_31 (hsm.dn hdnJ) (hsm.sto hst1) (by omega) (by first | assumption | omega | exact ⟨by omega, by omega⟩ | (constructor <;> omega)) (by have q := hlo l hl0 h_17; unfold LOk at q ⊢; rw [heq 71 (by decide), heq 72 (by decide), heq 73 (by decide), heq 74 (by decide), heq 75 (by decide), heq 8 (by decide), hf 71 (by omega), hf 72 (by omega), hf 73 (by omega), hf 74 (by omega), hf 75 (by omega), hf 8 (by omega)]; exact q)) rfl dX0_judge_31 cv_0_110 rfl rfl ob_70 rfl (by decide) (Nat.le_of_ble_eq_true rfl) (fun r_31 m_31 hr_31 ho_31 => ?_)
          have hlR : r_31 = liveR (jN m l.toNat) 32 l := by rw [hr_31.1]; exact liveR_e heq (by omega) l
          have hlX : E70 m_31 (jN m l.toNat) ∨ True := Or.inr trivial
          have hX : E70 m_31 (jN m (l + 1).toNat) := by
            rw [hr_31.2, show (l + 1).toNat = l.toNat + 1 by omega]
            show E70 _ (liveX (jN m l.toNat) 32 (l.toNat : Int))
            rw [Int.toNat_of_nonneg hl0]
            exact liveX_e heq (by omega) (by omega) l
          have h70 : m_31 70 = m1 70 := by rw [hr_31.2]; exact liveX_fr 70 (by omega)
          have hlb := liveR_b (m := (jN m l.toNat)) (st := 32) l
          rw [← hlR] at hlb
          have hy0 : m1 70 2 = l ∧ ∀ j : Nat, j < l.toNat → liveR (jN m j) 32 (j : Int) = 0 := by
            rcases hy with h | h
            · exact h.2
            · exact absurd h_24 h.1
          have hy1 := hy0.1
          refine go_putf_i (ki := 1) dX0_judge_34 fw_0_15 ob_70 rfl rfl ⟨by omega, by omega⟩ ?_
          refine go_aload_n dX0_judge_37 rfl ?_
          refine go_getf_i (ki := 1) dX0_judge_38 fl_0_15 ob_70 rfl rfl (fun hf_38 => ?_)
          rw [show ((wr m_31 70 1 r_31) 70 1 : Int) = r_31 from by rw [wr_self]] at hf_38 ⊢
          refine go_if_ne (tgt := 54) dX0_judge_41 (by decide) ⟨by omega, by omega⟩ (fun h_41 => ?_) (fun h_41 => ?_)
          · refine go_iinc (L' := [vr 70, vr 31, vi (l + 1)]) dX0_judge_54 rfl (by decide) rfl rfl ?_
            refine go_goto (tgt := 12) dX0_judge_57 (by decide) ?_
            exact ih_12 (wr m_31 70 1 r_31) (l + 1) r_31 (by first | assumption | omega | rfl) (by first | assumption | omega | rfl) (by first | (rw [wr_ni (by decide), wr_self]) | exact wr_self _ _ _ _) (by first | (rw [wr_ni (by decide), wr_ni (by decide), h70, e11]) | (rw [wr_ni (by decide), h70, e11])) (fun b hb => by first | (rw [wr_row hb, wr_row hb]; exact hX b hb) | (rw [wr_row hb]; exact hX b hb)) hlb (by
                  first
                  | (refine Or.inl ⟨h_41, wr_self _ _ _ _, fun j hj => ?_⟩
                     by_cases e : j < l.toNat
                     · exact hy0.2 j e
                     · have e : j = l.toNat := (by omega)
                       subst e
                       rw [Int.toNat_of_nonneg hl0, ← hlR]; exact h_41)
                  | (refine Or.inr ⟨h_41, by omega, by rw [wr_ni (by decide), h70, show l + 1 - 1 = l by omega]; exact hy1, by rw [show l + 1 - 1 = l by omega]; exact hlR, fun j hj => hy0.2 j (by omega)⟩)) (by omega)
          · refine go_aload_n dX0_judge_44 rfl ?_
            refine go_dup_r dX0_judge_45 ?_
            refine go_getf_i (ki := 2) dX0_judge_46 fl_0_19 ob_70 rfl rfl (fun hf_46 => ?_)
            rw [show ((wr m_31 70 1 r_31) 70 2 : Int) = l from by rw [wr_ni (by decide), h70]; exact hy1] at hf_46 ⊢
            refine go_iconst dX0_judge_49 ?_
            refine go_iadd dX0_judge_50 ?_
            refine go_putf_i (ki := 2) dX0_judge_51 fw_0_19 ob_70 rfl rfl ⟨by omega, by omega⟩ ?_
            refine go_iinc (L' := [vr 70, vr 31, vi (l + 1)]) dX0_judge_54 rfl (by decide) rfl rfl ?_
            refine go_goto (tgt := 12) dX0_judge_57 (by decide) ?_
            exact ih_12 (wr (wr m_31 70 1 r_31) 70 2 (l + 1)) (l + 1) r_31 (by first | assumption | omega | rfl) (by first | assumption | omega | rfl) (by first | (rw [wr_ni (by decide), wr_self]) | exact wr_self _ _ _ _) (by first | (rw [wr_ni (by decide), wr_ni (by decide), h70, e11]) | (rw [wr_ni (by decide), h70, e11])) (fun b hb => by first | (rw [wr_row hb, wr_row hb]; exact hX b hb) | (rw [wr_row hb]; exact hX b hb)) hlb (by
                  first
                  | (refine Or.inl ⟨h_41, wr_self _ _ _ _, fun j hj => ?_⟩
                     by_cases e : j < l.toNat
                     · exact hy0.2 j e
                     · have e : j = l.toNat := (by omega)
                       subst e
                       rw [Int.toNat_of_nonneg hl0, ← hlR]; exact h_41)
                  | (refine Or.inr ⟨h_41, by omega, by rw [wr_ni (by decide), h70, show l + 1 - 1 = l by omega]; exact hy1, by rw [show l + 1 - 1 = l by omega]; exact hlR, fun j hj => hy0.2 j (by omega)⟩)) (by omega)
  exact lp_12 _ (wr (wr m 70 1 0) 70 2 0) 0 0 (by first | assumption | omega | rfl) (by first | assumption | omega | rfl) (by rw [wr_ni (by decide), wr_self]) (by rw [wr_ni (by decide), wr_ni (by decide)]) (fun b hb => by rw [wr_row hb, wr_row hb]; rfl) (by first | assumption | omega | rfl) (Or.inl ⟨rfl, wr_self _ _ _ _, fun j hj => absurd hj (Nat.not_lt_zero _)⟩) (Nat.lt_succ_self _)
