def dl (B : Mem) : Nat → Mem × Int
  | 0 => (B, 1)
  | k + 1 => (lnX (dl B k).1 (dl B k).2, (lnF (dl B k).1 (dl B k).2).2 + 2)
def okSt (B : Mem) (k : Nat) : Prop := B 4 ((dl B k).2 - 1) ≠ 0 ∧ (lnF (dl B k).1 (dl B k).2).1 = 0 ∧ B 4 (lnF (dl B k).1 (dl B k).2).2 = 59
def brN (D : Mem) : Nat → Mem
  | 0 => D
  | p + 1 => bring (brN D p) 47 57 (p : Int)
theorem lnX_out {m : Mem} {i : Int} {b : Nat} (h : b < 45 ∨ 70 ≤ b) : lnX m i b = m b := by
  unfold lnX szX wlX fgX psX ptX
  repeat' split
  all_goals simp (disch := omega) only [wr_row]
theorem dl_out {B : Mem} (k : Nat) {b : Nat} (h : b < 45 ∨ 70 ≤ b) : (dl B k).1 b = B b := by
  induction k with
  | zero => rfl
  | succ k ih => show lnX _ _ b = _; rw [lnX_out h, ih]
theorem brN_row {D : Mem} {b : Nat} (h : b ≠ 63) (p : Nat) : brN D p b = D b := by
  induction p with
  | zero => rfl
  | succ p ih => show bring _ 47 57 _ b = _; unfold bring; rw [wr_row h, ih]
theorem bring_e {M m : Mem} {p : Int} (h : Eq1 M m) : Eq1 (bring M 47 57 p) (bring m 47 57 p) := by
  unfold bring upP
  rw [h 47 (by decide), h (57 + 6) (by decide), h (47 + 7) (by decide), h (47 + 8) (by decide), h (47 + 9) (by decide), h (57 + 2) (by decide), h (57 + 3) (by decide), h (57 + 4) (by decide)]
  exact wr_e h
theorem brN_e {M m : Mem} (h : Eq1 M m) (p : Nat) : Eq1 (brN M p) (brN m p) := by
  induction p with
  | zero => exact h
  | succ p ih => exact bring_e ih
theorem TP.tr {m M N : Mem} {j k : Int} (h : TP m M j) (h' : TP M N k) : TP m N k := by
  obtain ⟨a1, a2, a3, a4, a5, a6⟩ := h
  obtain ⟨b1, b2, b3, b4, b5, ⟨c1, c2, c3, c4, c5, c6, c7⟩⟩ := h'
  rw [a3] at b3 c2
  rw [a4] at b4 c3
  rw [a5] at b5 c4 c5
  exact ⟨b1, b2.trans a2, b3, b4, b5, c1, c2, c3, c4, c5, c6.trans a6.2.2.2.2.2.1, fun x a b c d e f => (c7 x a b c d e f).trans (a6.2.2.2.2.2.2 x a b c d e f)⟩
theorem TkOk.s {m : Mem} {t kw : Int → Int} {n lim : Int} (h : TkOk m t kw n lim) : TkS m := by
  obtain ⟨h1, h2, h3, h4⟩ := h
  refine ⟨h1, ?_, fun k _ _ => w32_R _⟩
  rw [(h2 (m 1 11 - 1) (by omega) (by omega)).1]
  exact h4
def RdPost (B : Mem) (r : Int) (m' : Mem) : Prop := ∃ k : Nat, (∀ j : Nat, j < k → okSt B j) ∧
  ((B 4 ((dl B k).2 - 1) = 0 ∧ r = k ∧ TP B m' (dl B k).2 ∧ Eq1 m' (brN (dl B k).1 ((dl B k).1 47 3).toNat) ∧ DrOk (dl B k).1) ∨
   (r = -1 ∧ B 4 ((dl B k).2 - 1) ≠ 0 ∧ (lnF (dl B k).1 (dl B k).2).1 ≠ 0 ∧ PT B m' ((lnF (dl B k).1 (dl B k).2).2 + 1) (lnF (dl B k).1 (dl B k).2).1 ∧ ∀ b : Nat, b ≠ 1 → (b < 45 ∨ 70 ≤ b) → m' b = B b) ∨
   (r = -1 ∧ B 4 ((dl B k).2 - 1) ≠ 0 ∧ (lnF (dl B k).1 (dl B k).2).1 = 0 ∧ B 4 (lnF (dl B k).1 (dl B k).2).2 ≠ 59 ∧ PT B m' ((lnF (dl B k).1 (dl B k).2).2 + 1) 1 ∧ ∀ b : Nat, b ≠ 1 → (b < 45 ∨ 70 ≤ b) → m' b = B b))
def rd0 (m : Mem) : Mem := wr (wr (zse (zst (zdn m 47) 57) (57 + 8)) 45 2 0) 45 3 0
theorem rd0_ok {m : Mem} (hcan : Can m) : DrOk (rd0 m) := by
  have r : ∀ b : Nat, b ≠ 45 → b ≠ 57 + 8 → rd0 m b = zst (zdn m 47) 57 b := fun b h1 h2 => by unfold rd0; rw [wr_row h1, wr_row h1]; funext j; unfold zse; rw [if_neg h2]
  have z : ∀ b : Nat, (b = 57 ∨ b = 57 + 1 ∨ b = 57 + 6 ∨ b = 57 + 7) → ∀ j : Int, rd0 m b j = 0 := fun b h j => by rw [r b (by omega) (by omega)]; unfold zst; rw [if_pos h]
  have e47 : rd0 m 47 = fun j => if j = 0 ∨ j = 1 then 6 else 0 := by rw [r 47 (by decide) (by decide)]; funext j; unfold zst zdn; rw [if_neg (by decide), if_pos rfl]
  have k0 : rd0 m 47 0 = 6 := by rw [e47]; rfl
  have k1 : rd0 m 47 1 = 6 := by rw [e47]; rfl
  have k2 : rd0 m 47 2 = 0 := by rw [e47]; rfl
  have k3 : rd0 m 47 3 = 0 := by rw [e47]; rfl
  have k4 : rd0 m 47 4 = 0 := by rw [e47]; rfl
  refine ⟨?_, ?_, fun _ => ⟨k3, k4⟩, z 63 (by omega), z 64 (by omega), z 57 (by omega) 0, z 57 (by omega) 1⟩
  · unfold DnOk
    rw [k0, k1, k2, k3, k4]
    exact ⟨by omega, by omega, by omega, by omega, by omega, fun f a b => by omega, fun f a b => by omega, fun f a b => by omega⟩
  · unfold StOk
    rw [k3, z 57 (by omega) 0, z 57 (by omega) 1]
    exact ⟨by omega, by omega, fun c => by rw [z (57 + 1) (by omega) c]; omega, fun f a b => by omega, fun f g a b => by omega, fun f a b => by omega⟩

theorem dX2_readLine_0 : decode mX2_readLine.2.1 0 = .ok (.aload_n 0, 1) := by decide +kernel
theorem dX2_readLine_1 : decode mX2_readLine.2.1 1 = .ok (.getfield 30, 3) := by decide +kernel
theorem dX2_readLine_4 : decode mX2_readLine.2.1 4 = .ok (.getfield 46, 3) := by decide +kernel
theorem dX2_readLine_7 : decode mX2_readLine.2.1 7 = .ok (.tableswitch 58 200 204 #[33, 38, 43, 48, 53], 33) := by decide +kernel
theorem dX2_readLine_40 : decode mX2_readLine.2.1 40 = .ok (.aload_n 0, 1) := by decide +kernel
theorem dX2_readLine_41 : decode mX2_readLine.2.1 41 = .ok (.invokevirtual 68, 3) := by decide +kernel
theorem dX2_readLine_44 : decode mX2_readLine.2.1 44 = .ok (.ireturn, 1) := by decide +kernel
theorem dX2_readLine_45 : decode mX2_readLine.2.1 45 = .ok (.aload_n 0, 1) := by decide +kernel
theorem dX2_readLine_46 : decode mX2_readLine.2.1 46 = .ok (.invokevirtual 71, 3) := by decide +kernel
theorem dX2_readLine_49 : decode mX2_readLine.2.1 49 = .ok (.ireturn, 1) := by decide +kernel
theorem dX2_readLine_50 : decode mX2_readLine.2.1 50 = .ok (.aload_n 0, 1) := by decide +kernel
theorem dX2_readLine_51 : decode mX2_readLine.2.1 51 = .ok (.invokevirtual 74, 3) := by decide +kernel
theorem dX2_readLine_54 : decode mX2_readLine.2.1 54 = .ok (.ireturn, 1) := by decide +kernel
theorem dX2_readLine_55 : decode mX2_readLine.2.1 55 = .ok (.aload_n 0, 1) := by decide +kernel
theorem dX2_readLine_56 : decode mX2_readLine.2.1 56 = .ok (.invokevirtual 77, 3) := by decide +kernel
theorem dX2_readLine_59 : decode mX2_readLine.2.1 59 = .ok (.ireturn, 1) := by decide +kernel
theorem dX2_readLine_60 : decode mX2_readLine.2.1 60 = .ok (.aload_n 0, 1) := by decide +kernel
theorem dX2_readLine_61 : decode mX2_readLine.2.1 61 = .ok (.invokevirtual 80, 3) := by decide +kernel
theorem dX2_readLine_64 : decode mX2_readLine.2.1 64 = .ok (.ireturn, 1) := by decide +kernel
theorem dX2_readLine_65 : decode mX2_readLine.2.1 65 = .ok (.aload_n 0, 1) := by decide +kernel
theorem dX2_readLine_66 : decode mX2_readLine.2.1 66 = .ok (.getfield 30, 3) := by decide +kernel
theorem dX2_readLine_69 : decode mX2_readLine.2.1 69 = .ok (.iconst 1, 1) := by decide +kernel
theorem dX2_readLine_70 : decode mX2_readLine.2.1 70 = .ok (.invokevirtual 83, 3) := by decide +kernel
theorem dX2_readLine_73 : decode mX2_readLine.2.1 73 = .ok (.ireturn, 1) := by decide +kernel
set_option maxRecDepth 4000 in
theorem ev_X2_readLine {m : Mem}  (hcu : PT m m (m 1 12) (m 1 6)) (htk : TkS m) (hi : 1 ≤ m 1 12 ∧ m 1 12 ≤ m 1 11) (hdr : DrOk m) : Ev 0 6 mX2_readLine [vr 45] m (fun r m' => LnPost m r m' (lnF m (m 1 12)) (lnX m (m 1 12))) := by
  refine Ev.of (L := [vr 45]) (by decide +kernel) rfl (Nat.le_of_ble_eq_true rfl) rfl (fun t ht => by cases ht; first | exact Or.inl rfl | exact Or.inr (Or.inl rfl) | exact Or.inr (Or.inr rfl)) (fun hcan => ?_)
  refine go_aload_n dX2_readLine_0 rfl ?_
  refine go_getf_p (b := 1) dX2_readLine_1 fl_2_30 ob_45 rfl pt_45_1 ?_
  refine go_getf_i (ki := 2) dX2_readLine_4 fl_2_46 ob_1 rfl rfl (fun hf_4 => ?_)
  rw [show (m 1 2 : Int) = (m 4 (m 1 12 - 1)) from hcu.2.1] at hf_4 ⊢
  refine go_tswitch (tgt := 65) dX2_readLine_7 ⟨by omega, by omega⟩ (by decide) (fun n_7 h_7 hb_7 => ?_) (fun h_7 => ?_)
  · match n_7, h_7, hb_7 with
    | 0, h_7, hb_7 =>
      refine ⟨33, 40, rfl, by decide, ?_⟩
      refine go_aload_n dX2_readLine_40 rfl ?_
      have hlt : m 1 12 < m 1 11 := by have h := htk.lt (k := m 1 12 - 1) (by omega) (by omega); omega
      refine go_callV_z (as := []) (S := []) (b := 45) (ev_X2_readSize (m := m)  (by first | assumption | omega | exact ⟨by omega, by omega⟩ | (constructor <;> omega)) (by first | assumption | omega | exact ⟨by omega, by omega⟩ | (constructor <;> omega)) (by first | assumption | omega | exact ⟨by omega, by omega⟩ | (constructor <;> omega)) hdr.1 hdr.2.1) rfl dX2_readLine_41 cv_2_68 rfl rfl ob_45 rfl (by decide) (Nat.le_of_ble_eq_true rfl) (fun r_41 m_41 hr_41 ho_41 => ?_)
      refine go_ret (v := r_41) rfl dX2_readLine_44 (okZ (by first | exact Or.inl rfl | exact Or.inr rfl | assumption | omega)) ?_
      have e1 : lnF m (m 1 12) = szF m (m 1 12) := by unfold lnF; rw [if_pos (by omega)]
      have e2 : lnX m (m 1 12) = szX m (m 1 12) := by unfold lnX; rw [if_pos (by omega)]
      rw [e1, e2]
      exact hr_41
    | 1, h_7, hb_7 =>
      refine ⟨38, 45, rfl, by decide, ?_⟩
      refine go_aload_n dX2_readLine_45 rfl ?_
      have hlt : m 1 12 < m 1 11 := by have h := htk.lt (k := m 1 12 - 1) (by omega) (by omega); omega
      refine go_callV_z (as := []) (S := []) (b := 45) (ev_X2_readWall (m := m)  (by first | assumption | omega | exact ⟨by omega, by omega⟩ | (constructor <;> omega)) (by first | assumption | omega | exact ⟨by omega, by omega⟩ | (constructor <;> omega)) (by first | assumption | omega | exact ⟨by omega, by omega⟩ | (constructor <;> omega)) hdr.1 hdr.2.1) rfl dX2_readLine_46 cv_2_71 rfl rfl ob_45 rfl (by decide) (Nat.le_of_ble_eq_true rfl) (fun r_46 m_46 hr_46 ho_46 => ?_)
      refine go_ret (v := r_46) rfl dX2_readLine_49 (okZ (by first | exact Or.inl rfl | exact Or.inr rfl | assumption | omega)) ?_
      have e1 : lnF m (m 1 12) = wlF m (m 1 12) := by unfold lnF; rw [if_neg (by omega), if_pos (by omega)]
      have e2 : lnX m (m 1 12) = wlX m (m 1 12) := by unfold lnX; rw [if_neg (by omega), if_pos (by omega)]
      rw [e1, e2]
      exact hr_46
    | 2, h_7, hb_7 =>
      refine ⟨43, 50, rfl, by decide, ?_⟩
      refine go_aload_n dX2_readLine_50 rfl ?_
      have hlt : m 1 12 < m 1 11 := by have h := htk.lt (k := m 1 12 - 1) (by omega) (by omega); omega
      refine go_callV_z (as := []) (S := []) (b := 45) (ev_X2_readFigure (m := m)  (by first | assumption | omega | exact ⟨by omega, by omega⟩ | (constructor <;> omega)) (by first | assumption | omega | exact ⟨by omega, by omega⟩ | (constructor <;> omega)) (by first | assumption | omega | exact ⟨by omega, by omega⟩ | (constructor <;> omega)) hdr.1 hdr.2.1) rfl dX2_readLine_51 cv_2_74 rfl rfl ob_45 rfl (by decide) (Nat.le_of_ble_eq_true rfl) (fun r_51 m_51 hr_51 ho_51 => ?_)
      refine go_ret (v := r_51) rfl dX2_readLine_54 (okZ (by first | exact Or.inl rfl | exact Or.inr rfl | assumption | omega)) ?_
      have e1 : lnF m (m 1 12) = fgF m (m 1 12) := by unfold lnF; rw [if_neg (by omega), if_neg (by omega), if_pos (by omega)]
      have e2 : lnX m (m 1 12) = fgX m (m 1 12) := by unfold lnX; rw [if_neg (by omega), if_neg (by omega), if_pos (by omega)]
      rw [e1, e2]
      exact hr_51
    | 3, h_7, hb_7 =>
      refine ⟨48, 55, rfl, by decide, ?_⟩
      refine go_aload_n dX2_readLine_55 rfl ?_
      have hlt : m 1 12 < m 1 11 := by have h := htk.lt (k := m 1 12 - 1) (by omega) (by omega); omega
      refine go_callV_z (as := []) (S := []) (b := 45) (ev_X2_readPerson (m := m)  (by first | assumption | omega | exact ⟨by omega, by omega⟩ | (constructor <;> omega)) (by first | assumption | omega | exact ⟨by omega, by omega⟩ | (constructor <;> omega)) (by first | assumption | omega | exact ⟨by omega, by omega⟩ | (constructor <;> omega)) hdr.1 hdr.2.1) rfl dX2_readLine_56 cv_2_77 rfl rfl ob_45 rfl (by decide) (Nat.le_of_ble_eq_true rfl) (fun r_56 m_56 hr_56 ho_56 => ?_)
      refine go_ret (v := r_56) rfl dX2_readLine_59 (okZ (by first | exact Or.inl rfl | exact Or.inr rfl | assumption | omega)) ?_
      have e1 : lnF m (m 1 12) = psF m (m 1 12) := by unfold lnF; rw [if_neg (by omega), if_neg (by omega), if_neg (by omega), if_pos (by omega)]
      have e2 : lnX m (m 1 12) = psX m (m 1 12) := by unfold lnX; rw [if_neg (by omega), if_neg (by omega), if_neg (by omega), if_pos (by omega)]
      rw [e1, e2]
      exact hr_56
    | 4, h_7, hb_7 =>
      refine ⟨53, 60, rfl, by decide, ?_⟩
      refine go_aload_n dX2_readLine_60 rfl ?_
      have hlt : m 1 12 < m 1 11 := by have h := htk.lt (k := m 1 12 - 1) (by omega) (by omega); omega
      refine go_callV_z (as := []) (S := []) (b := 45) (ev_X2_readPoint (m := m)  (by first | assumption | omega | exact ⟨by omega, by omega⟩ | (constructor <;> omega)) (by first | assumption | omega | exact ⟨by omega, by omega⟩ | (constructor <;> omega)) (by first | assumption | omega | exact ⟨by omega, by omega⟩ | (constructor <;> omega)) hdr.1 hdr.2.1) rfl dX2_readLine_61 cv_2_80 rfl rfl ob_45 rfl (by decide) (Nat.le_of_ble_eq_true rfl) (fun r_61 m_61 hr_61 ho_61 => ?_)
      refine go_ret (v := r_61) rfl dX2_readLine_64 (okZ (by first | exact Or.inl rfl | exact Or.inr rfl | assumption | omega)) ?_
      have e1 : lnF m (m 1 12) = ptF m (m 1 12) := by unfold lnF; rw [if_neg (by omega), if_neg (by omega), if_neg (by omega), if_neg (by omega), if_pos (by omega)]
      have e2 : lnX m (m 1 12) = ptX m (m 1 12) := by unfold lnX; rw [if_neg (by omega), if_neg (by omega), if_neg (by omega), if_neg (by omega)]
      rw [e1, e2]
      exact hr_61
    | k + 5, h_7, hb_7 => exfalso; omega
  · refine go_aload_n dX2_readLine_65 rfl ?_
    refine go_getf_p (b := 1) dX2_readLine_66 fl_2_30 ob_45 rfl pt_45_1 ?_
    refine go_iconst dX2_readLine_69 ?_
    refine go_callV_z (as := [vi 1]) (S := []) (b := 1) (ev_X7_refuse (m := m) (k := 1) (by first | assumption | omega | exact ⟨by omega, by omega⟩ | (constructor <;> omega))) rfl dX2_readLine_70 cv_2_83 rfl rfl ob_1 rfl (by decide) (Nat.le_of_ble_eq_true rfl) (fun r_70 m_70 hr_70 ho_70 => ?_)
    refine go_ret (v := r_70) rfl dX2_readLine_73 (okZ (by first | exact Or.inl rfl | exact Or.inr rfl | assumption | omega)) ?_
    rw [hr_70.2]
    refine Or.inr ⟨by omega, ?_⟩
    have e : lnF m (m 1 12) = (1, m 1 12 - 1) := by unfold lnF; rw [if_neg (by omega), if_neg (by omega), if_neg (by omega), if_neg (by omega), if_neg (by omega)]
    rw [e]
    exact ⟨show (1 : Int) ≠ 0 by decide, by rw [show m 1 12 - 1 + 1 = m 1 12 by omega]; exact hcu.flt, fun b hb _ => by rw [wr_row hb]⟩
theorem dX2_read_0 : decode mX2_read.2.1 0 = .ok (.aload_n 0, 1) := by decide +kernel
theorem dX2_read_1 : decode mX2_read.2.1 1 = .ok (.getfield 17, 3) := by decide +kernel
theorem dX2_read_4 : decode mX2_read.2.1 4 = .ok (.invokevirtual 34, 3) := by decide +kernel
theorem dX2_read_7 : decode mX2_read.2.1 7 = .ok (.aload_n 0, 1) := by decide +kernel
theorem dX2_read_8 : decode mX2_read.2.1 8 = .ok (.iconst 0, 1) := by decide +kernel
theorem dX2_read_9 : decode mX2_read.2.1 9 = .ok (.putfield 23, 3) := by decide +kernel
theorem dX2_read_12 : decode mX2_read.2.1 12 = .ok (.aload_n 0, 1) := by decide +kernel
theorem dX2_read_13 : decode mX2_read.2.1 13 = .ok (.iconst 0, 1) := by decide +kernel
theorem dX2_read_14 : decode mX2_read.2.1 14 = .ok (.putfield 27, 3) := by decide +kernel
theorem dX2_read_17 : decode mX2_read.2.1 17 = .ok (.aload_n 0, 1) := by decide +kernel
theorem dX2_read_18 : decode mX2_read.2.1 18 = .ok (.getfield 30, 3) := by decide +kernel
theorem dX2_read_21 : decode mX2_read.2.1 21 = .ok (.sipush 900, 3) := by decide +kernel
theorem dX2_read_24 : decode mX2_read.2.1 24 = .ok (.invokevirtual 37, 3) := by decide +kernel
theorem dX2_read_27 : decode mX2_read.2.1 27 = .ok (.aload_n 0, 1) := by decide +kernel
theorem dX2_read_28 : decode mX2_read.2.1 28 = .ok (.getfield 30, 3) := by decide +kernel
theorem dX2_read_31 : decode mX2_read.2.1 31 = .ok (.invokevirtual 43, 3) := by decide +kernel
theorem dX2_read_34 : decode mX2_read.2.1 34 = .ok (.iconst 0, 1) := by decide +kernel
theorem dX2_read_35 : decode mX2_read.2.1 35 = .ok (.istore_n 1, 1) := by decide +kernel
theorem dX2_read_36 : decode mX2_read.2.1 36 = .ok (.aload_n 0, 1) := by decide +kernel
theorem dX2_read_37 : decode mX2_read.2.1 37 = .ok (.getfield 30, 3) := by decide +kernel
theorem dX2_read_40 : decode mX2_read.2.1 40 = .ok (.getfield 46, 3) := by decide +kernel
theorem dX2_read_43 : decode mX2_read.2.1 43 = .ok (.ifCond .eq 44, 3) := by decide +kernel
theorem dX2_read_46 : decode mX2_read.2.1 46 = .ok (.iload_n 1, 1) := by decide +kernel
theorem dX2_read_47 : decode mX2_read.2.1 47 = .ok (.sipush 900, 3) := by decide +kernel
theorem dX2_read_50 : decode mX2_read.2.1 50 = .ok (.if_icmp .ge 37, 3) := by decide +kernel
theorem dX2_read_53 : decode mX2_read.2.1 53 = .ok (.aload_n 0, 1) := by decide +kernel
theorem dX2_read_54 : decode mX2_read.2.1 54 = .ok (.invokevirtual 50, 3) := by decide +kernel
theorem dX2_read_57 : decode mX2_read.2.1 57 = .ok (.ifCond .eq 15, 3) := by decide +kernel
theorem dX2_read_60 : decode mX2_read.2.1 60 = .ok (.aload_n 0, 1) := by decide +kernel
theorem dX2_read_61 : decode mX2_read.2.1 61 = .ok (.getfield 30, 3) := by decide +kernel
theorem dX2_read_64 : decode mX2_read.2.1 64 = .ok (.bipush 59, 2) := by decide +kernel
theorem dX2_read_66 : decode mX2_read.2.1 66 = .ok (.invokevirtual 54, 3) := by decide +kernel
theorem dX2_read_69 : decode mX2_read.2.1 69 = .ok (.ifCond .ne 5, 3) := by decide +kernel
theorem dX2_read_72 : decode mX2_read.2.1 72 = .ok (.iconst (-1), 1) := by decide +kernel
theorem dX2_read_73 : decode mX2_read.2.1 73 = .ok (.ireturn, 1) := by decide +kernel
theorem dX2_read_74 : decode mX2_read.2.1 74 = .ok (.iinc 1 1, 3) := by decide +kernel
theorem dX2_read_77 : decode mX2_read.2.1 77 = .ok (.aload_n 0, 1) := by decide +kernel
theorem dX2_read_78 : decode mX2_read.2.1 78 = .ok (.getfield 30, 3) := by decide +kernel
theorem dX2_read_81 : decode mX2_read.2.1 81 = .ok (.invokevirtual 43, 3) := by decide +kernel
theorem dX2_read_84 : decode mX2_read.2.1 84 = .ok (.goto (-48), 3) := by decide +kernel
theorem dX2_read_87 : decode mX2_read.2.1 87 = .ok (.iconst 0, 1) := by decide +kernel
theorem dX2_read_88 : decode mX2_read.2.1 88 = .ok (.istore_n 2, 1) := by decide +kernel
theorem dX2_read_89 : decode mX2_read.2.1 89 = .ok (.iload_n 2, 1) := by decide +kernel
theorem dX2_read_90 : decode mX2_read.2.1 90 = .ok (.aload_n 0, 1) := by decide +kernel
theorem dX2_read_91 : decode mX2_read.2.1 91 = .ok (.getfield 17, 3) := by decide +kernel
theorem dX2_read_94 : decode mX2_read.2.1 94 = .ok (.getfield 58, 3) := by decide +kernel
theorem dX2_read_97 : decode mX2_read.2.1 97 = .ok (.getfield 62, 3) := by decide +kernel
theorem dX2_read_100 : decode mX2_read.2.1 100 = .ok (.if_icmp .ge 17, 3) := by decide +kernel
theorem dX2_read_103 : decode mX2_read.2.1 103 = .ok (.aload_n 0, 1) := by decide +kernel
theorem dX2_read_104 : decode mX2_read.2.1 104 = .ok (.getfield 17, 3) := by decide +kernel
theorem dX2_read_107 : decode mX2_read.2.1 107 = .ok (.iload_n 2, 1) := by decide +kernel
theorem dX2_read_108 : decode mX2_read.2.1 108 = .ok (.invokevirtual 65, 3) := by decide +kernel
theorem dX2_read_111 : decode mX2_read.2.1 111 = .ok (.iinc 2 1, 3) := by decide +kernel
theorem dX2_read_114 : decode mX2_read.2.1 114 = .ok (.goto (-25), 3) := by decide +kernel
theorem dX2_read_117 : decode mX2_read.2.1 117 = .ok (.iload_n 1, 1) := by decide +kernel
theorem dX2_read_118 : decode mX2_read.2.1 118 = .ok (.ireturn, 1) := by decide +kernel
set_option maxRecDepth 4000 in
theorem ev_X2_read {m : Mem}  (hsz : 0 ≤ m 1 1 ∧ m 1 1 ≤ 940) : Ev 0 7 mX2_read [vr 45] m (fun r m' => ∃ B : Mem, BgOk (rd0 m) B 900 ∧ RdPost B r m') := by
  refine Ev.of (L := [vr 45, un, un]) (by decide +kernel) rfl (Nat.le_of_ble_eq_true rfl) rfl (fun t ht => by cases ht; first | exact Or.inl rfl | exact Or.inr (Or.inl rfl) | exact Or.inr (Or.inr rfl)) (fun hcan => ?_)
  have hd0 := rd0_ok hcan
  have e11 : rd0 m 1 = m 1 := by unfold rd0; rw [wr_row (by decide), wr_row (by decide)]; funext j; unfold zse zst zdn; rw [if_neg (by decide), if_neg (by decide), if_neg (by decide)]
  refine go_aload_n dX2_read_0 rfl ?_
  refine go_getf_p (b := 46) dX2_read_1 fl_2_17 ob_45 rfl pt_45_0 ?_
  refine go_callV_v (as := []) (S := []) (b := 46) (ev_X10_clear (m := m) (w := 46) (d := 47) (st := 57) isWd_46) rfl dX2_read_4 cv_2_34 rfl rfl ob_46 rfl (by decide) (Nat.le_of_ble_eq_true rfl) (fun m_4 hr_4 => ?_)
  subst hr_4
  refine go_aload_n dX2_read_7 rfl ?_
  refine go_iconst dX2_read_8 ?_
  refine go_putf_z (ki := 2) dX2_read_9 fw_2_23 ob_45 rfl rfl (by first | exact Or.inl rfl | exact Or.inr rfl | assumption | omega) ?_
  refine go_aload_n dX2_read_12 rfl ?_
  refine go_iconst dX2_read_13 ?_
  refine go_putf_z (ki := 3) dX2_read_14 fw_2_27 ob_45 rfl rfl (by first | exact Or.inl rfl | exact Or.inr rfl | assumption | omega) ?_
  refine go_aload_n dX2_read_17 rfl ?_
  refine go_getf_p (b := 1) dX2_read_18 fl_2_30 ob_45 rfl pt_45_1 ?_
  refine go_sipush dX2_read_21 (by decide) ?_
  refine go_callV_v (as := [vi 900]) (S := []) (b := 1) (ev_X7_begin (m := (wr (wr (zse (zst (zdn m 47) 57) (57 + 8)) 45 2 0) 45 3 0)) (lim := 900) (by show 0 ≤ rd0 m 1 1 ∧ rd0 m 1 1 ≤ 940; rw [e11]; exact hsz) (by first | assumption | omega | exact ⟨by omega, by omega⟩ | (constructor <;> omega))) rfl dX2_read_24 cv_2_37 rfl rfl ob_1 rfl (by decide) (Nat.le_of_ble_eq_true rfl) (fun m_24 hr_24 => ?_)
  have hbg : BgOk (rd0 m) m_24 900 := hr_24
  obtain ⟨htkB, hb12, hb6, hb1, hbr⟩ := id hbg
  have htS := htkB.s
  have hdB : DrOk m_24 := by
    obtain ⟨q1, q2, q3, q4, q5, q6, q7⟩ := hd0
    refine ⟨q1.congr (fun k hk => hbr _ (by omega) (by omega) (by omega) (by omega)), q2.congr (hbr _ (by decide) (by decide) (by decide) (by decide)) (hbr _ (by decide) (by decide) (by decide) (by decide)) (fun k hk => hbr _ (by omega) (by omega) (by omega) (by omega)), ?_, ?_, ?_, ?_, ?_⟩
    · rw [hbr 45 (by decide) (by decide) (by decide) (by decide), hbr 47 (by decide) (by decide) (by decide) (by decide)]; exact q3
    · rw [hbr 63 (by decide) (by decide) (by decide) (by decide)]; exact q4
    · rw [hbr 64 (by decide) (by decide) (by decide) (by decide)]; exact q5
    · rw [hbr 57 (by decide) (by decide) (by decide) (by decide)]; exact q6
    · rw [hbr 57 (by decide) (by decide) (by decide) (by decide)]; exact q7
  refine go_aload_n dX2_read_27 rfl ?_
  refine go_getf_p (b := 1) dX2_read_28 fl_2_30 ob_45 rfl pt_45_1 ?_
  refine go_callV_v (as := []) (S := []) (b := 1) (ev_X7_next (m := m_24)  (by have := htS.1; omega)) rfl dX2_read_31 cv_2_43 rfl rfl ob_1 rfl (by decide) (Nat.le_of_ble_eq_true rfl) (fun m_31 hr_31 => ?_)
  have htp0 : TP m_24 m_31 1 := by
    rw [hr_31]
    have h := nxt_adv m_24
    rw [show (1 : Int) = m_24 1 12 + 1 by omega]
    exact ⟨h.1.1, h.1.2.2.2.2.2.2 11 (by decide) (by decide) (by decide) (by decide) (by decide) (by decide), h.2 4 (by decide), h.2 5 (by decide), h.2 6 (by decide), h.1⟩
  have heq0 : Eq1 m_31 m_24 := by rw [hr_31]; exact (nxt_adv m_24).2
  clear hr_31
  refine go_iconst dX2_read_34 ?_
  refine go_istore_n (L' := [vr 45, vi 0, un]) dX2_read_35 (by decide) rfl rfl ?_
  have lp_36 : ∀ (n_36 : Nat) (m1 : Mem) (k : Int) , (0 ≤ k) → (∀ j : Nat, j < k.toNat → okSt m_24 j) → (TP m_24 m1 (dl m_24 k.toNat).2) → (Eq1 m1 (dl m_24 k.toNat).1) → (2 * k + 1 ≤ (dl m_24 k.toNat).2 ∧ (dl m_24 k.toNat).2 ≤ m_24 1 11) → (DrOk (dl m_24 k.toNat).1) → (900 - k).toNat < n_36 → Go 0 7 mX2_read (fun r m' => ∃ B : Mem, BgOk (rd0 m) B 900 ∧ RdPost B r m') 36 [vr 45, vi k, un] [] m1 := by
    intro n_36
    induction n_36 with
    | zero => intro m1 k hk0 hok htp heq hib hdr hmu; exact absurd hmu (Nat.not_lt_zero _)
    | succ n_36 ih_36 =>
      intro m1 k hk0 hok htp heq hib hdr hmu
      have hcu1 : PT m1 m1 (m1 1 12) (m1 1 6) := by
        obtain ⟨a1, a2, a3, a4, a5, b1, b2, b3, b4, b5, b6, b7⟩ := id htp
        rw [a1]
        exact ⟨a1, by rw [b2, a3], by rw [b3, a4], by rw [b4, a5], by rw [b5, a5], rfl, fun _ _ _ _ _ _ _ => rfl⟩
      have hkd : m1 1 2 = m_24 4 ((dl m_24 k.toNat).2 - 1) := htp.2.2.2.2.2.2.1
      have htS1 := htS.1
      refine go_aload_n dX2_read_36 rfl ?_
      refine go_getf_p (b := 1) dX2_read_37 fl_2_30 ob_45 rfl pt_45_1 ?_
      refine go_getf_i (ki := 2) dX2_read_40 fl_2_46 ob_1 rfl rfl (fun hf_40 => ?_)
      rw [show (m1 1 2 : Int) = (m_24 4 ((dl m_24 k.toNat).2 - 1)) from hkd] at hf_40 ⊢
      refine go_if_eq (tgt := 87) dX2_read_43 (by decide) hf_40 (fun h_43 => ?_) (fun h_43 => ?_)
      · refine go_iconst dX2_read_87 ?_
        refine go_istore_n (L' := [vr 45, vi k, vi 0]) dX2_read_88 (by decide) rfl rfl ?_
        have lp_89 : ∀ (n_89 : Nat) (m2 : Mem) (p : Int) , (0 ≤ p) → (p ≤ m1 47 3) → (m2 = brN m1 p.toNat) → (m1 47 3 - p).toNat < n_89 → Go 0 7 mX2_read (fun r m' => ∃ B : Mem, BgOk (rd0 m) B 900 ∧ RdPost B r m') 89 [vr 45, vi k, vi p] [] m2 := by
          intro n_89
          induction n_89 with
          | zero => intro m2 p hp0 hp1 hm2 hmu; exact absurd hmu (Nat.not_lt_zero _)
          | succ n_89 ih_89 =>
            intro m2 p hp0 hp1 hm2 hmu
            subst hm2
            have h53 := hdr.1.2.2.2.1
            rw [← heq 47 (by decide)] at h53
            refine go_iload_n dX2_read_89 rfl ?_
            refine go_aload_n dX2_read_90 rfl ?_
            refine go_getf_p (b := 46) dX2_read_91 fl_2_17 ob_45 rfl pt_45_0 ?_
            refine go_getf_p (b := 47) dX2_read_94 fl_2_58 ob_46 rfl pt_46_0 ?_
            refine go_getf_i (ki := 3) dX2_read_97 fl_2_62 ob_47 rfl rfl (fun hf_97 => ?_)
            rw [show ((brN m1 p.toNat) 47 3 : Int) = (m1 47 3) from by rw [brN_row (by decide)]] at hf_97 ⊢
            refine go_icmp_ge (tgt := 117) dX2_read_100 (by decide) ⟨by omega, by omega⟩ ⟨by omega, by omega⟩ (fun h_100 => ?_) (fun h_100 => ?_)
            · refine go_iload_n dX2_read_117 rfl ?_
              refine go_ret (v := k) rfl dX2_read_118 (okI ⟨by omega, by omega⟩) ?_
              refine ⟨m_24, hbg, k.toNat, hok, Or.inl ⟨h_43, by omega, ?_, ?_, hdr⟩⟩
              · have r1 : ∀ b : Nat, b ≠ 63 → brN m1 p.toNat b = m1 b := fun b hb => brN_row hb _
                obtain ⟨a1, a2, a3, a4, a5, b7⟩ := htp
                unfold TP PT at *
                rw [r1 1 (by decide), r1 4 (by decide), r1 5 (by decide), r1 6 (by decide)]
                exact ⟨a1, a2, a3, a4, a5, b7⟩
              · rw [show p.toNat = ((dl m_24 k.toNat).1 47 3).toNat by rw [← heq 47 (by decide)]; omega]
                exact brN_e heq _
            · refine go_aload_n dX2_read_103 rfl ?_
              refine go_getf_p (b := 46) dX2_read_104 fl_2_17 ob_45 rfl pt_45_0 ?_
              refine go_iload_n dX2_read_107 rfl ?_
              refine go_callV_v (as := [vi p]) (S := []) (b := 46) (ev_X10_bringUpPoints (m := (brN m1 p.toNat)) (w := 46) (p := p) (d := 47) (st := 57) isWd_46 (by rw [show brN m1 p.toNat 47 = m1 47 from brN_row (by decide) _, heq 47 (by decide)]; exact hdr.1.2.2.2.2.1) (by first | assumption | omega | exact ⟨by omega, by omega⟩ | (constructor <;> omega))) rfl dX2_read_108 cv_2_65 rfl rfl ob_46 rfl (by decide) (Nat.le_of_ble_eq_true rfl) (fun m_108 hr_108 => ?_)
              refine go_iinc (L' := [vr 45, vi k, vi (p + 1)]) dX2_read_111 rfl (by decide) rfl rfl ?_
              refine go_goto (tgt := 89) dX2_read_114 (by decide) ?_
              exact ih_89 m_108 (p + 1) (by first | assumption | omega | rfl) (by first | assumption | omega | rfl) (by rw [hr_108, show (p + 1).toNat = p.toNat + 1 by omega]; show _ = bring (brN m1 p.toNat) 47 57 (p.toNat : Int); rw [Int.toNat_of_nonneg hp0]) (by omega)
        exact lp_89 _ m1 0 (by first | assumption | omega | rfl) (by rw [heq 47 (by decide)]; exact hdr.1.2.2.2.1.1) rfl (Nat.lt_succ_self _)
      · refine go_iload_n dX2_read_46 rfl ?_
        refine go_sipush dX2_read_47 (by decide) ?_
        refine go_icmp_ge (tgt := 87) dX2_read_50 (by decide) ⟨by omega, by omega⟩ ⟨by omega, by omega⟩ (fun h_50 => ?_) (fun h_50 => ?_)
        · exfalso; omega
        · refine go_aload_n dX2_read_53 rfl ?_
          refine go_callV_z (as := []) (S := []) (b := 45) (ev_X2_readLine (m := m1)  hcu1 (htS.tp htp) (by rw [htp.1, htp.2.1]; omega) (hdr.e heq)) rfl dX2_read_54 cv_2_50 rfl rfl ob_45 rfl (by decide) (Nat.le_of_ble_eq_true rfl) (fun r_54 m_54 hr_54 ho_54 => ?_)
          rw [htp.1, lnF_e heq] at hr_54
          refine go_if_eq (tgt := 72) dX2_read_57 (by decide) ⟨by omega, by omega⟩ (fun h_57 => ?_) (fun h_57 => ?_)
          · refine go_iconst dX2_read_72 ?_
            refine go_ret (v := (-1)) rfl dX2_read_73 (okI ⟨by omega, by omega⟩) ?_
            refine ⟨m_24, hbg, k.toNat, hok, Or.inr ?_⟩
            have hout : ∀ b : Nat, (b < 45 ∨ 70 ≤ b) → b ≠ 1 → m1 b = m_24 b := fun b h1 h2 => (heq b h2).trans (dl_out _ h1)
            first
            | (obtain ⟨y1, -, y2⟩ := hr_66.resolve_left (fun h => by omega)
               refine Or.inr ⟨rfl, h_43, z1, y1, adv_no tp54 y2, fun b hb h2 => ?_⟩
               rw [y2.2 b hb, z3 b hb, lnX_out h2]
               exact hout b h2 hb)
            | (rcases hr_54 with h | h
               · exact absurd h.1 (by omega)
               · obtain ⟨x1, x2, ⟨c1, c2, c3, c4, c5, c6, c7⟩, x4⟩ := h
                 refine Or.inl ⟨rfl, h_43, x2, ?_, fun b hb h2 => by rw [x4 b hb h2]; exact hout b h2 hb⟩
                 rw [htp.2.2.1] at c2
                 rw [htp.2.2.2.1] at c3
                 rw [htp.2.2.2.2.1] at c4 c5
                 exact ⟨c1, c2, c3, c4, c5, c6, fun x a b c d e f => (c7 x a b c d e f).trans (htp.2.2.2.2.2.2.2.2.2.2.2 x a b c d e f)⟩)
          · obtain ⟨z1, z2, z4, z3⟩ : (lnF (dl m_24 k.toNat).1 (dl m_24 k.toNat).2).1 = 0 ∧ (lnF (dl m_24 k.toNat).1 (dl m_24 k.toNat).2).2 < m1 1 11 ∧ TP m1 m_54 (lnF (dl m_24 k.toNat).1 (dl m_24 k.toNat).2).2 ∧ ∀ b : Nat, b ≠ 1 → m_54 b = lnX m1 (dl m_24 k.toNat).2 b := by
              rcases hr_54 with h | h
              · exact h.2
              · exact absurd h.1 h_57
            have tp54 := htp.tr z4
            rw [htp.2.1] at z2
            have zge := (lnX_ok hdr z1).2.1
            refine go_aload_n dX2_read_60 rfl ?_
            refine go_getf_p (b := 1) dX2_read_61 fl_2_30 ob_45 rfl pt_45_1 ?_
            refine go_bipush dX2_read_64 (by decide) ?_
            refine go_callV_z (as := [vi 59]) (S := []) (b := 1) (ev_X7_wantKind (m := m_54) (k := 59) (by rw [tp54.1, tp54.2.1]; have := htS.1; omega) (by first | assumption | omega | exact ⟨by omega, by omega⟩ | (constructor <;> omega))) rfl dX2_read_66 cv_2_54 rfl rfl ob_1 rfl (by decide) (Nat.le_of_ble_eq_true rfl) (fun r_66 m_66 hr_66 ho_66 => ?_)
            rw [tp54.1, tp54.2.2.1] at hr_66
            refine go_if_ne (tgt := 74) dX2_read_69 (by decide) ⟨by omega, by omega⟩ (fun h_69 => ?_) (fun h_69 => ?_)
            · obtain ⟨y1, -, y2⟩ := hr_66.resolve_right (fun h => h_69 h.2.1)
              have tp66 := adv_ok tp54 y2
              have hlt66 : (lnF (dl m_24 k.toNat).1 (dl m_24 k.toNat).2).2 + 1 < m_24 1 11 := htS.lt z2 (by omega)
              refine go_iinc (L' := [vr 45, vi (k + 1), un]) dX2_read_74 rfl (by decide) rfl rfl ?_
              refine go_aload_n dX2_read_77 rfl ?_
              refine go_getf_p (b := 1) dX2_read_78 fl_2_30 ob_45 rfl pt_45_1 ?_
              refine go_callV_v (as := []) (S := []) (b := 1) (ev_X7_next (m := m_66)  (by rw [tp66.1, tp66.2.1]; have := htS.1; omega)) rfl dX2_read_81 cv_2_43 rfl rfl ob_1 rfl (by decide) (Nat.le_of_ble_eq_true rfl) (fun m_81 hr_81 => ?_)
              refine go_goto (tgt := 36) dX2_read_84 (by decide) ?_
              exact ih_36 m_81 (k + 1) (by first | assumption | omega | rfl) (fun j hj => by
                    by_cases e : j < k.toNat
                    · exact hok j e
                    · have e : j = k.toNat := by omega
                      subst e
                      exact ⟨h_43, z1, y1⟩) (by rw [show (k + 1).toNat = k.toNat + 1 by omega]; show TP m_24 m_81 ((lnF (dl m_24 k.toNat).1 (dl m_24 k.toNat).2).2 + 2); rw [hr_81]; have h := adv_ok tp66 (nxt_adv m_66); rw [show (lnF (dl m_24 k.toNat).1 (dl m_24 k.toNat).2).2 + 1 + 1 = (lnF (dl m_24 k.toNat).1 (dl m_24 k.toNat).2).2 + 2 by omega] at h; exact h) (by rw [show (k + 1).toNat = k.toNat + 1 by omega]; show Eq1 m_81 (lnX (dl m_24 k.toNat).1 (dl m_24 k.toNat).2); intro b hb; rw [hr_81, (nxt_adv m_66).2 b hb, y2.2 b hb, z3 b hb]; exact lnX_e heq b hb) (by rw [show (k + 1).toNat = k.toNat + 1 by omega]; show 2 * (k + 1) + 1 ≤ (lnF (dl m_24 k.toNat).1 (dl m_24 k.toNat).2).2 + 2 ∧ (lnF (dl m_24 k.toNat).1 (dl m_24 k.toNat).2).2 + 2 ≤ m_24 1 11; have := (lnX_ok hdr z1).2.1; omega) (by rw [show (k + 1).toNat = k.toNat + 1 by omega]; exact (lnX_ok hdr z1).1) (by omega)
            · refine go_iconst dX2_read_72 ?_
              refine go_ret (v := (-1)) rfl dX2_read_73 (okI ⟨by omega, by omega⟩) ?_
              refine ⟨m_24, hbg, k.toNat, hok, Or.inr ?_⟩
              have hout : ∀ b : Nat, (b < 45 ∨ 70 ≤ b) → b ≠ 1 → m1 b = m_24 b := fun b h1 h2 => (heq b h2).trans (dl_out _ h1)
              first
              | (obtain ⟨y1, -, y2⟩ := hr_66.resolve_left (fun h => by omega)
                 refine Or.inr ⟨rfl, h_43, z1, y1, adv_no tp54 y2, fun b hb h2 => ?_⟩
                 rw [y2.2 b hb, z3 b hb, lnX_out h2]
                 exact hout b h2 hb)
              | (rcases hr_54 with h | h
                 · exact absurd h.1 (by omega)
                 · obtain ⟨x1, x2, ⟨c1, c2, c3, c4, c5, c6, c7⟩, x4⟩ := h
                   refine Or.inl ⟨rfl, h_43, x2, ?_, fun b hb h2 => by rw [x4 b hb h2]; exact hout b h2 hb⟩
                   rw [htp.2.2.1] at c2
                   rw [htp.2.2.2.1] at c3
                   rw [htp.2.2.2.2.1] at c4 c5
                   exact ⟨c1, c2, c3, c4, c5, c6, fun x a b c d e f => (c7 x a b c d e f).trans (htp.2.2.2.2.2.2.2.2.2.2.2 x a b c d e f)⟩)
  exact lp_36 _ m_31 0 (by first | assumption | omega | rfl) (fun j hj => absurd hj (Nat.not_lt_zero _)) htp0 heq0 (by show 2 * 0 + 1 ≤ (1 : Int) ∧ (1 : Int) ≤ m_24 1 11; have := htS.1; omega) hdB (Nat.lt_succ_self _)
