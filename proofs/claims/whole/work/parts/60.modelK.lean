/-! ===== slips: a text is a list of bytes that were written one behind the other ===== -/
def Sl (a c : Nat) (i : Int) (m : Mem) (L : List Int) (m' : Mem) : Prop := (∀ b : Nat, b ≠ a → b ≠ c → m' b = m b) ∧ (∀ j : Int, j ≠ i → m' c j = m c j) ∧ m' c i = m c i + (L.length : Int) ∧ ∀ j : Int, m' a j = if m c i ≤ j ∧ j < m c i + (L.length : Int) then L.getD (j - m c i).toNat 0 else m a j
theorem getD_app (L K : List Int) (n : Nat) : (L ++ K).getD n 0 = if n < L.length then L.getD n 0 else K.getD (n - L.length) 0 := by
  rw [List.getD_eq_getElem?_getD, List.getElem?_append, List.getD_eq_getElem?_getD, List.getD_eq_getElem?_getD]
  split <;> rfl
theorem Sl.one {a c : Nat} {i : Int} {m : Mem} {v : Int} (h : a ≠ c) : Sl a c i m [v] (wr (wr m a (m c i) v) c i (m c i + 1)) := by
  refine ⟨fun b h1 h2 => by rw [wr_row h2, wr_row h1], fun j hj => by rw [wr_ni hj, wr_na (fun z => h z.symm)], by rw [wr_self]; rfl, fun j => ?_⟩
  rw [wr_na h]
  by_cases e : j = m c i
  · rw [e, wr_self, if_pos (by constructor <;> simp <;> omega), Int.sub_self]; rfl
  · rw [wr_ni e, if_neg (by simp; omega)]
theorem Sl.app {a c : Nat} {i : Int} {m m1 m2 : Mem} {L K : List Int} (h1 : Sl a c i m L m1) (h2 : Sl a c i m1 K m2) : Sl a c i m (L ++ K) m2 := by
  obtain ⟨p1, q1, r1, s1⟩ := h1
  obtain ⟨p2, q2, r2, s2⟩ := h2
  refine ⟨fun b x y => by rw [p2 b x y, p1 b x y], fun j hj => by rw [q2 j hj, q1 j hj], by rw [r2, r1, List.length_append]; omega, fun j => ?_⟩
  rw [s2 j, s1 j, r1, List.length_append, getD_app]
  by_cases x : m c i ≤ j ∧ j < m c i + (L.length : Int)
  · rw [if_neg (by omega), if_pos x, if_pos (by omega), if_pos (by omega)]
  · rw [if_neg x]
    by_cases y : m c i + (L.length : Int) ≤ j ∧ j < m c i + (L.length : Int) + (K.length : Int)
    · rw [if_pos y, if_pos (by omega), if_neg (by omega)]
      congr 1
      omega
    · rw [if_neg y, if_neg (by omega)]
/-- the letters of a word, its last letter first in l -/
def wT : List Int → List Int
  | [] => []
  | c :: l => wT l ++ [96 + c]
theorem wT_len : ∀ l : List Int, (wT l).length = l.length := by
  intro l
  induction l with
  | nil => rfl
  | cons c l ih => show (wT l ++ [96 + c]).length = _; rw [List.length_append, ih]; rfl
theorem fr27 : ∀ {l : List Int}, Lt l → l.length ≤ 7 → (0 ≤ fr 27 l ∧ fr 27 l < 10460353203) ∧ (fr 27 l = 0 → l = []) := by
  intro l hl hn
  have h := fr_nn (B := 27) (by omega) hl
  refine ⟨⟨h.1, ?_⟩, fun z => ?_⟩
  · have : l.length = 0 ∨ l.length = 1 ∨ l.length = 2 ∨ l.length = 3 ∨ l.length = 4 ∨ l.length = 5 ∨ l.length = 6 ∨ l.length = 7 := by omega
    rcases this with e | e | e | e | e | e | e | e <;> rw [e] at h <;> have h2 := h.2 <;> simp at h2 <;> omega
  · cases l with
    | nil => rfl
    | cons c l =>
      exfalso
      have h1 := hl c List.mem_cons_self
      have h2 := fr_nn (B := 27) (by omega) (l := l) (fun w hw => hl w (List.mem_cons_of_mem _ hw))
      have z : 27 * fr 27 l + c = 0 := z
      omega

theorem dX12_write_0 : decode mX12_write.2.1 0 = .ok (.aload_n 0, 1) := by decide +kernel
theorem dX12_write_1 : decode mX12_write.2.1 1 = .ok (.getfield 148, 3) := by decide +kernel
theorem dX12_write_4 : decode mX12_write.2.1 4 = .ok (.aload_n 0, 1) := by decide +kernel
theorem dX12_write_5 : decode mX12_write.2.1 5 = .ok (.getfield 358, 3) := by decide +kernel
theorem dX12_write_8 : decode mX12_write.2.1 8 = .ok (.iload_n 1, 1) := by decide +kernel
theorem dX12_write_9 : decode mX12_write.2.1 9 = .ok (.iastore, 1) := by decide +kernel
theorem dX12_write_10 : decode mX12_write.2.1 10 = .ok (.aload_n 0, 1) := by decide +kernel
theorem dX12_write_11 : decode mX12_write.2.1 11 = .ok (.dup, 1) := by decide +kernel
theorem dX12_write_12 : decode mX12_write.2.1 12 = .ok (.getfield 358, 3) := by decide +kernel
theorem dX12_write_15 : decode mX12_write.2.1 15 = .ok (.iconst 1, 1) := by decide +kernel
theorem dX12_write_16 : decode mX12_write.2.1 16 = .ok (.iadd, 1) := by decide +kernel
theorem dX12_write_17 : decode mX12_write.2.1 17 = .ok (.putfield 358, 3) := by decide +kernel
theorem dX12_write_20 : decode mX12_write.2.1 20 = .ok (.return_, 1) := by decide +kernel
set_option maxRecDepth 4000 in
theorem ev_X12_write {m : Mem} {c : Int} (hc : InR c) (hn : 0 ≤ m 214 37 ∧ m 214 37 < 64) : Ev 0 1 mX12_write [vr 214, vi c] m (fun r m' => Sl 231 214 37 m [c] m') := by
  refine Ev.of (L := [vr 214, vi c]) (by decide +kernel) rfl (Nat.le_of_ble_eq_true rfl) rfl (fun t ht => by cases ht) (fun hcan => ?_)
  refine go_aload_n dX12_write_0 rfl ?_
  refine go_getf_p (b := 231) dX12_write_1 fl_12_148 ob_214 rfl pt_214_36 ?_
  refine go_aload_n dX12_write_4 rfl ?_
  refine go_getf_i (ki := 37) dX12_write_5 fl_12_358 ob_214 rfl rfl (fun hf_5 => ?_)
  refine go_iload_n dX12_write_8 rfl ?_
  refine go_iastore dX12_write_9 ar_231 (by omega) (by omega) ⟨by omega, by omega⟩ ?_
  refine go_aload_n dX12_write_10 rfl ?_
  refine go_dup_r dX12_write_11 ?_
  refine go_getf_i (ki := 37) dX12_write_12 fl_12_358 ob_214 rfl rfl (fun hf_12 => ?_)
  rw [show ((wr m 231 (m 214 37) c) 214 37 : Int) = (m 214 37) from by rw [wr_na (by omega)]] at hf_12 ⊢
  refine go_iconst dX12_write_15 ?_
  refine go_iadd dX12_write_16 ?_
  refine go_putf_i (ki := 37) dX12_write_17 fw_12_358 ob_214 rfl rfl ⟨by omega, by omega⟩ ?_
  exact go_ret (v := 0) rfl dX12_write_20 rfl (Sl.one (by decide))
theorem dX12_writeWord_0 : decode mX12_writeWord.2.1 0 = .ok (.lload_n 1, 1) := by decide +kernel
theorem dX12_writeWord_1 : decode mX12_writeWord.2.1 1 = .ok (.ldc2_w 54, 3) := by decide +kernel
theorem dX12_writeWord_4 : decode mX12_writeWord.2.1 4 = .ok (.lcmp, 1) := by decide +kernel
theorem dX12_writeWord_5 : decode mX12_writeWord.2.1 5 = .ok (.ifCond .lt 12, 3) := by decide +kernel
theorem dX12_writeWord_8 : decode mX12_writeWord.2.1 8 = .ok (.aload_n 0, 1) := by decide +kernel
theorem dX12_writeWord_9 : decode mX12_writeWord.2.1 9 = .ok (.lload_n 1, 1) := by decide +kernel
theorem dX12_writeWord_10 : decode mX12_writeWord.2.1 10 = .ok (.ldc2_w 54, 3) := by decide +kernel
theorem dX12_writeWord_13 : decode mX12_writeWord.2.1 13 = .ok (.ldiv, 1) := by decide +kernel
theorem dX12_writeWord_14 : decode mX12_writeWord.2.1 14 = .ok (.invokevirtual 361, 3) := by decide +kernel
theorem dX12_writeWord_17 : decode mX12_writeWord.2.1 17 = .ok (.aload_n 0, 1) := by decide +kernel
theorem dX12_writeWord_18 : decode mX12_writeWord.2.1 18 = .ok (.bipush 96, 2) := by decide +kernel
theorem dX12_writeWord_20 : decode mX12_writeWord.2.1 20 = .ok (.lload_n 1, 1) := by decide +kernel
theorem dX12_writeWord_21 : decode mX12_writeWord.2.1 21 = .ok (.ldc2_w 54, 3) := by decide +kernel
theorem dX12_writeWord_24 : decode mX12_writeWord.2.1 24 = .ok (.lrem, 1) := by decide +kernel
theorem dX12_writeWord_25 : decode mX12_writeWord.2.1 25 = .ok (.l2i, 1) := by decide +kernel
theorem dX12_writeWord_26 : decode mX12_writeWord.2.1 26 = .ok (.iadd, 1) := by decide +kernel
theorem dX12_writeWord_27 : decode mX12_writeWord.2.1 27 = .ok (.invokevirtual 365, 3) := by decide +kernel
theorem dX12_writeWord_30 : decode mX12_writeWord.2.1 30 = .ok (.return_, 1) := by decide +kernel
set_option maxRecDepth 4000 in
theorem st_X12_writeWord {m : Mem} {c : Int} {l : List Int} {dn : Nat} (hL : Lt (c :: l)) (hlen : l.length ≤ 6) (hn : 0 ≤ m 214 37 ∧ m 214 37 + (l.length : Int) + 1 ≤ 64) (hdn : 3 ≤ dn) (ih : ∀ {m : Mem}, l ≠ [] → (0 ≤ m 214 37 ∧ m 214 37 + (l.length : Int) ≤ 64) → Ev 0 dn mX12_writeWord [vr 214, vl (fr 27 l)] m (fun r m' => Sl 231 214 37 m (wT l) m')) : Ev 0 (dn + 1) mX12_writeWord [vr 214, vl (fr 27 (c :: l))] m (fun r m' => Sl 231 214 37 m (wT (c :: l)) m') := by
  refine Ev.of (L := [vr 214, vl (fr 27 (c :: l)), un]) (by decide +kernel) rfl (Nat.le_of_ble_eq_true rfl) rfl (fun t ht => by cases ht) (fun hcan => ?_)
  have hw : fr 27 (c :: l) = 27 * fr 27 l + c := rfl
  have hc := hL c List.mem_cons_self
  have hl : Lt l := fun w hw => hL w (List.mem_cons_of_mem _ hw)
  obtain ⟨hf, hnl⟩ := fr27 hl (by omega)
  have em : fr 27 (c :: l) % 27 = c := by omega
  have hlc : 27 ≤ fr 27 (c :: l) → l ≠ [] := fun z y => by rw [y] at hw; have h0 : fr 27 [] = 0 := rfl; rw [y] at z; omega
  refine go_lload_n dX12_writeWord_0 rfl ?_
  refine go_ldc2 (x := 27) dX12_writeWord_1 k_12_54 ?_
  have hlcm : lcmpI (fr 27 (c :: l)) 27 < 0 ↔ fr 27 (c :: l) < 27 := by unfold lcmpI; split <;> (try split) <;> omega
  refine go_lcmp dX12_writeWord_4 ⟨by omega, by omega⟩ ⟨by omega, by omega⟩ ?_
  refine go_if_lt (tgt := 17) dX12_writeWord_5 (by decide) (lcmpI_R _ _) (fun h_5 => ?_) (fun h_5 => ?_)
  · refine go_aload_n dX12_writeWord_17 rfl ?_
    refine go_bipush dX12_writeWord_18 (by decide) ?_
    refine go_lload_n dX12_writeWord_20 rfl ?_
    refine go_ldc2 (x := 27) dX12_writeWord_21 k_12_54 ?_
    refine go_lrem dX12_writeWord_24 ⟨by omega, by omega⟩ ⟨by omega, by omega⟩ (by omega) (by omega) ?_
    refine go_l2i dX12_writeWord_25 ?_
    refine go_iadd dX12_writeWord_26 ?_
    refine go_callV_v (as := [vi (96 + ((fr 27 (c :: l)) % 27))]) (S := []) (b := 214) (ev_X12_write (m := m) (c := (96 + ((fr 27 (c :: l)) % 27))) ⟨by omega, by omega⟩ ⟨by omega, by omega⟩) rfl dX12_writeWord_27 cv_12_365 rfl rfl ob_214 rfl (by omega) (Nat.le_of_ble_eq_true rfl) (fun m_27 hr_27 => ?_)
    exact go_ret (v := 0) rfl dX12_writeWord_30 rfl (by rw [em] at hr_27; first | exact hr_14.app hr_27 | (have hl : l = [] := hnl (by omega); subst hl; exact hr_27))
  · refine go_aload_n dX12_writeWord_8 rfl ?_
    refine go_lload_n dX12_writeWord_9 rfl ?_
    refine go_ldc2 (x := 27) dX12_writeWord_10 k_12_54 ?_
    refine go_ldiv dX12_writeWord_13 ⟨by omega, by omega⟩ ⟨by omega, by omega⟩ (by omega) (by omega) ?_
    rw [show ((fr 27 (c :: l)) / 27 : Int) = (fr 27 l) from (by omega)]
    refine go_callV_v (as := [vl (fr 27 l)]) (S := []) (b := 214) (ih   (hlc (by omega)) ⟨by omega, by omega⟩) rfl dX12_writeWord_14 cv_12_361 rfl rfl ob_214 rfl (by omega) (Nat.le_of_ble_eq_true rfl) (fun m_14 hr_14 => ?_)
    have z37 : m_14 214 37 = m 214 37 + (l.length : Int) := by rw [hr_14.2.2.1, wT_len]
    refine go_aload_n dX12_writeWord_17 rfl ?_
    refine go_bipush dX12_writeWord_18 (by decide) ?_
    refine go_lload_n dX12_writeWord_20 rfl ?_
    refine go_ldc2 (x := 27) dX12_writeWord_21 k_12_54 ?_
    refine go_lrem dX12_writeWord_24 ⟨by omega, by omega⟩ ⟨by omega, by omega⟩ (by omega) (by omega) ?_
    refine go_l2i dX12_writeWord_25 ?_
    refine go_iadd dX12_writeWord_26 ?_
    refine go_callV_v (as := [vi (96 + ((fr 27 (c :: l)) % 27))]) (S := []) (b := 214) (ev_X12_write (m := m_14) (c := (96 + ((fr 27 (c :: l)) % 27))) ⟨by omega, by omega⟩ ⟨by omega, by omega⟩) rfl dX12_writeWord_27 cv_12_365 rfl rfl ob_214 rfl (by omega) (Nat.le_of_ble_eq_true rfl) (fun m_27 hr_27 => ?_)
    exact go_ret (v := 0) rfl dX12_writeWord_30 rfl (by rw [em] at hr_27; first | exact hr_14.app hr_27 | (have hl : l = [] := hnl (by omega); subst hl; exact hr_27))
theorem evn_X12_writeWord : ∀ (n : Nat) {l : List Int} {m : Mem}, l.length ≤ n → n ≤ 7 → l ≠ [] → Lt l → (0 ≤ m 214 37 ∧ m 214 37 + (l.length : Int) ≤ 64) → Ev 0 (n + 3) mX12_writeWord [vr 214, vl (fr 27 l)] m (fun r m' => Sl 231 214 37 m (wT l) m') := by
  intro n
  induction n with
  | zero => intro l m h _ h2; exact absurd (List.length_eq_zero_iff.mp (by omega)) h2
  | succ n ih =>
    intro l m h h7 h2 hL hn
    cases l with
    | nil => exact absurd rfl h2
    | cons c l =>
      have e : (c :: l).length = l.length + 1 := rfl
      exact st_X12_writeWord hL (by omega) (by omega) (by omega) (fun a b => ih (by omega) (by omega) a (fun w hw => hL w (List.mem_cons_of_mem _ hw)) b)
theorem ev_X12_writeWord {m : Mem} {w : Int} {l : List Int} (hw : w = fr 27 l) (hL : Lt l) (hl : 1 ≤ l.length ∧ l.length ≤ 7) (hn : 0 ≤ m 214 37 ∧ m 214 37 + (l.length : Int) ≤ 64) : Ev 0 10 mX12_writeWord [vr 214, vl w] m (fun r m' => Sl 231 214 37 m (wT l) m') := by
  rw [hw]
  exact evn_X12_writeWord 7 hl.2 (by omega) (fun z => by rw [z] at hl; exact absurd hl.1 (by decide)) hL hn

theorem dX12_writeNext_0 : decode mX12_writeNext.2.1 0 = .ok (.aload_n 0, 1) := by decide +kernel
theorem dX12_writeNext_1 : decode mX12_writeNext.2.1 1 = .ok (.bipush 32, 2) := by decide +kernel
theorem dX12_writeNext_3 : decode mX12_writeNext.2.1 3 = .ok (.invokevirtual 365, 3) := by decide +kernel
theorem dX12_writeNext_6 : decode mX12_writeNext.2.1 6 = .ok (.aload_n 0, 1) := by decide +kernel
theorem dX12_writeNext_7 : decode mX12_writeNext.2.1 7 = .ok (.lload_n 1, 1) := by decide +kernel
theorem dX12_writeNext_8 : decode mX12_writeNext.2.1 8 = .ok (.invokevirtual 361, 3) := by decide +kernel
theorem dX12_writeNext_11 : decode mX12_writeNext.2.1 11 = .ok (.return_, 1) := by decide +kernel
set_option maxRecDepth 4000 in
theorem ev_X12_writeNext {m : Mem} {w : Int} {l : List Int} (hw : w = fr 27 l) (hL : Lt l) (hl : 1 ≤ l.length ∧ l.length ≤ 7) (hn : 0 ≤ m 214 37 ∧ m 214 37 + (l.length : Int) + 1 ≤ 64) : Ev 0 11 mX12_writeNext [vr 214, vl w] m (fun r m' => Sl 231 214 37 m ([32] ++ wT l) m') := by
  refine Ev.of (L := [vr 214, vl w, un]) (by decide +kernel) rfl (Nat.le_of_ble_eq_true rfl) rfl (fun t ht => by cases ht) (fun hcan => ?_)
  refine go_aload_n dX12_writeNext_0 rfl ?_
  refine go_bipush dX12_writeNext_1 (by decide) ?_
  refine go_callV_v (as := [vi 32]) (S := []) (b := 214) (ev_X12_write (m := m) (c := 32) ⟨by omega, by omega⟩ ⟨by omega, by omega⟩) rfl dX12_writeNext_3 cv_12_365 rfl rfl ob_214 rfl (by decide) (Nat.le_of_ble_eq_true rfl) (fun m_3 hr_3 => ?_)
  have z3 : m_3 214 37 = m 214 37 + 1 := hr_3.2.2.1
  refine go_aload_n dX12_writeNext_6 rfl ?_
  refine go_lload_n dX12_writeNext_7 rfl ?_
  refine go_callV_v (as := [vl w]) (S := []) (b := 214) (ev_X12_writeWord (m := m_3) (w := w) (l := l) (by first | assumption | omega | exact ⟨by omega, by omega⟩ | (constructor <;> omega)) (by first | assumption | omega | exact ⟨by omega, by omega⟩ | (constructor <;> omega)) (by first | assumption | omega | exact ⟨by omega, by omega⟩ | (constructor <;> omega)) ⟨by omega, by omega⟩) rfl dX12_writeNext_8 cv_12_361 rfl rfl ob_214 rfl (by decide) (Nat.le_of_ble_eq_true rfl) (fun m_8 hr_8 => ?_)
  exact go_ret (v := 0) rfl dX12_writeNext_11 rfl (hr_3.app hr_8)
theorem dX12_writeDigit_0 : decode mX12_writeDigit.2.1 0 = .ok (.aload_n 0, 1) := by decide +kernel
theorem dX12_writeDigit_1 : decode mX12_writeDigit.2.1 1 = .ok (.bipush 32, 2) := by decide +kernel
theorem dX12_writeDigit_3 : decode mX12_writeDigit.2.1 3 = .ok (.invokevirtual 365, 3) := by decide +kernel
theorem dX12_writeDigit_6 : decode mX12_writeDigit.2.1 6 = .ok (.aload_n 0, 1) := by decide +kernel
theorem dX12_writeDigit_7 : decode mX12_writeDigit.2.1 7 = .ok (.bipush 48, 2) := by decide +kernel
theorem dX12_writeDigit_9 : decode mX12_writeDigit.2.1 9 = .ok (.iload_n 1, 1) := by decide +kernel
theorem dX12_writeDigit_10 : decode mX12_writeDigit.2.1 10 = .ok (.iadd, 1) := by decide +kernel
theorem dX12_writeDigit_11 : decode mX12_writeDigit.2.1 11 = .ok (.invokevirtual 365, 3) := by decide +kernel
theorem dX12_writeDigit_14 : decode mX12_writeDigit.2.1 14 = .ok (.return_, 1) := by decide +kernel
set_option maxRecDepth 4000 in
theorem ev_X12_writeDigit {m : Mem} {c : Int} (hc : 0 ≤ c ∧ c ≤ 1000) (hn : 0 ≤ m 214 37 ∧ m 214 37 + 2 ≤ 64) : Ev 0 2 mX12_writeDigit [vr 214, vi c] m (fun r m' => Sl 231 214 37 m [32, 48 + c] m') := by
  refine Ev.of (L := [vr 214, vi c]) (by decide +kernel) rfl (Nat.le_of_ble_eq_true rfl) rfl (fun t ht => by cases ht) (fun hcan => ?_)
  refine go_aload_n dX12_writeDigit_0 rfl ?_
  refine go_bipush dX12_writeDigit_1 (by decide) ?_
  refine go_callV_v (as := [vi 32]) (S := []) (b := 214) (ev_X12_write (m := m) (c := 32) ⟨by omega, by omega⟩ ⟨by omega, by omega⟩) rfl dX12_writeDigit_3 cv_12_365 rfl rfl ob_214 rfl (by decide) (Nat.le_of_ble_eq_true rfl) (fun m_3 hr_3 => ?_)
  have z3 : m_3 214 37 = m 214 37 + 1 := hr_3.2.2.1
  refine go_aload_n dX12_writeDigit_6 rfl ?_
  refine go_bipush dX12_writeDigit_7 (by decide) ?_
  refine go_iload_n dX12_writeDigit_9 rfl ?_
  refine go_iadd dX12_writeDigit_10 ?_
  refine go_callV_v (as := [vi (48 + c)]) (S := []) (b := 214) (ev_X12_write (m := m_3) (c := (48 + c)) ⟨by omega, by omega⟩ ⟨by omega, by omega⟩) rfl dX12_writeDigit_11 cv_12_365 rfl rfl ob_214 rfl (by decide) (Nat.le_of_ble_eq_true rfl) (fun m_11 hr_11 => ?_)
  exact go_ret (v := 0) rfl dX12_writeDigit_14 rfl (hr_3.app hr_11)
def slT (G : Mem) (l : List Int) (p : Int) : List Int := wT l ++ [32, 97, 116] ++ [32, 48 + G 20 p] ++ [32, 48 + G 21 p] ++ [32, 117, 112] ++ [32, 48 + G 22 p] ++ (if G 23 p = 0 then [32, 115, 112, 101, 110, 116] else [])
theorem wT_at : [32] ++ wT [20, 1] = [32, 97, 116] := by decide
theorem wT_up : [32] ++ wT [16, 21] = [32, 117, 112] := by decide
theorem wT_sp : [32] ++ wT [20, 14, 5, 16, 19] = [32, 115, 112, 101, 110, 116] := by decide
theorem Lt_at : Lt [20, 1] := by unfold Lt; decide
theorem Lt_up : Lt [16, 21] := by unfold Lt; decide
theorem Lt_sp : Lt [20, 14, 5, 16, 19] := by unfold Lt; decide

theorem dX12_slip_0 : decode mX12_slip.2.1 0 = .ok (.aload_n 0, 1) := by decide +kernel
theorem dX12_slip_1 : decode mX12_slip.2.1 1 = .ok (.iconst 0, 1) := by decide +kernel
theorem dX12_slip_2 : decode mX12_slip.2.1 2 = .ok (.putfield 1, 3) := by decide +kernel
theorem dX12_slip_5 : decode mX12_slip.2.1 5 = .ok (.aload_n 0, 1) := by decide +kernel
theorem dX12_slip_6 : decode mX12_slip.2.1 6 = .ok (.iload_n 1, 1) := by decide +kernel
theorem dX12_slip_7 : decode mX12_slip.2.1 7 = .ok (.invokevirtual 245, 3) := by decide +kernel
theorem dX12_slip_10 : decode mX12_slip.2.1 10 = .ok (.ifCond .ne 5, 3) := by decide +kernel
theorem dX12_slip_13 : decode mX12_slip.2.1 13 = .ok (.iconst (-1), 1) := by decide +kernel
theorem dX12_slip_14 : decode mX12_slip.2.1 14 = .ok (.ireturn, 1) := by decide +kernel
theorem dX12_slip_15 : decode mX12_slip.2.1 15 = .ok (.aload_n 0, 1) := by decide +kernel
theorem dX12_slip_16 : decode mX12_slip.2.1 16 = .ok (.iconst 0, 1) := by decide +kernel
theorem dX12_slip_17 : decode mX12_slip.2.1 17 = .ok (.putfield 358, 3) := by decide +kernel
theorem dX12_slip_20 : decode mX12_slip.2.1 20 = .ok (.aload_n 0, 1) := by decide +kernel
theorem dX12_slip_21 : decode mX12_slip.2.1 21 = .ok (.aload_n 0, 1) := by decide +kernel
theorem dX12_slip_22 : decode mX12_slip.2.1 22 = .ok (.getfield 113, 3) := by decide +kernel
theorem dX12_slip_25 : decode mX12_slip.2.1 25 = .ok (.bipush 6, 2) := by decide +kernel
theorem dX12_slip_27 : decode mX12_slip.2.1 27 = .ok (.iload_n 1, 1) := by decide +kernel
theorem dX12_slip_28 : decode mX12_slip.2.1 28 = .ok (.iadd, 1) := by decide +kernel
theorem dX12_slip_29 : decode mX12_slip.2.1 29 = .ok (.laload, 1) := by decide +kernel
theorem dX12_slip_30 : decode mX12_slip.2.1 30 = .ok (.invokevirtual 361, 3) := by decide +kernel
theorem dX12_slip_33 : decode mX12_slip.2.1 33 = .ok (.aload_n 0, 1) := by decide +kernel
theorem dX12_slip_34 : decode mX12_slip.2.1 34 = .ok (.bipush 97, 2) := by decide +kernel
theorem dX12_slip_36 : decode mX12_slip.2.1 36 = .ok (.bipush 116, 2) := by decide +kernel
theorem dX12_slip_38 : decode mX12_slip.2.1 38 = .ok (.iconst 0, 1) := by decide +kernel
theorem dX12_slip_39 : decode mX12_slip.2.1 39 = .ok (.iconst 0, 1) := by decide +kernel
theorem dX12_slip_40 : decode mX12_slip.2.1 40 = .ok (.iconst 0, 1) := by decide +kernel
theorem dX12_slip_41 : decode mX12_slip.2.1 41 = .ok (.iconst 0, 1) := by decide +kernel
theorem dX12_slip_42 : decode mX12_slip.2.1 42 = .ok (.iconst 0, 1) := by decide +kernel
theorem dX12_slip_43 : decode mX12_slip.2.1 43 = .ok (.invokestatic 58, 3) := by decide +kernel
theorem dX12_slip_46 : decode mX12_slip.2.1 46 = .ok (.invokevirtual 368, 3) := by decide +kernel
theorem dX12_slip_49 : decode mX12_slip.2.1 49 = .ok (.aload_n 0, 1) := by decide +kernel
theorem dX12_slip_50 : decode mX12_slip.2.1 50 = .ok (.aload_n 0, 1) := by decide +kernel
theorem dX12_slip_51 : decode mX12_slip.2.1 51 = .ok (.getfield 98, 3) := by decide +kernel
theorem dX12_slip_54 : decode mX12_slip.2.1 54 = .ok (.bipush 126, 2) := by decide +kernel
theorem dX12_slip_56 : decode mX12_slip.2.1 56 = .ok (.iload_n 1, 1) := by decide +kernel
theorem dX12_slip_57 : decode mX12_slip.2.1 57 = .ok (.iadd, 1) := by decide +kernel
theorem dX12_slip_58 : decode mX12_slip.2.1 58 = .ok (.iaload, 1) := by decide +kernel
theorem dX12_slip_59 : decode mX12_slip.2.1 59 = .ok (.bipush 9, 2) := by decide +kernel
theorem dX12_slip_61 : decode mX12_slip.2.1 61 = .ok (.irem, 1) := by decide +kernel
theorem dX12_slip_62 : decode mX12_slip.2.1 62 = .ok (.invokevirtual 371, 3) := by decide +kernel
theorem dX12_slip_65 : decode mX12_slip.2.1 65 = .ok (.aload_n 0, 1) := by decide +kernel
theorem dX12_slip_66 : decode mX12_slip.2.1 66 = .ok (.aload_n 0, 1) := by decide +kernel
theorem dX12_slip_67 : decode mX12_slip.2.1 67 = .ok (.getfield 98, 3) := by decide +kernel
theorem dX12_slip_70 : decode mX12_slip.2.1 70 = .ok (.bipush 126, 2) := by decide +kernel
theorem dX12_slip_72 : decode mX12_slip.2.1 72 = .ok (.iload_n 1, 1) := by decide +kernel
theorem dX12_slip_73 : decode mX12_slip.2.1 73 = .ok (.iadd, 1) := by decide +kernel
theorem dX12_slip_74 : decode mX12_slip.2.1 74 = .ok (.iaload, 1) := by decide +kernel
theorem dX12_slip_75 : decode mX12_slip.2.1 75 = .ok (.bipush 9, 2) := by decide +kernel
theorem dX12_slip_77 : decode mX12_slip.2.1 77 = .ok (.idiv, 1) := by decide +kernel
theorem dX12_slip_78 : decode mX12_slip.2.1 78 = .ok (.invokevirtual 371, 3) := by decide +kernel
theorem dX12_slip_81 : decode mX12_slip.2.1 81 = .ok (.aload_n 0, 1) := by decide +kernel
theorem dX12_slip_82 : decode mX12_slip.2.1 82 = .ok (.bipush 22, 2) := by decide +kernel
theorem dX12_slip_84 : decode mX12_slip.2.1 84 = .ok (.invokestatic 62, 3) := by decide +kernel
theorem dX12_slip_87 : decode mX12_slip.2.1 87 = .ok (.invokevirtual 368, 3) := by decide +kernel
theorem dX12_slip_90 : decode mX12_slip.2.1 90 = .ok (.aload_n 0, 1) := by decide +kernel
theorem dX12_slip_91 : decode mX12_slip.2.1 91 = .ok (.aload_n 0, 1) := by decide +kernel
theorem dX12_slip_92 : decode mX12_slip.2.1 92 = .ok (.getfield 98, 3) := by decide +kernel
theorem dX12_slip_95 : decode mX12_slip.2.1 95 = .ok (.sipush 131, 3) := by decide +kernel
theorem dX12_slip_98 : decode mX12_slip.2.1 98 = .ok (.iload_n 1, 1) := by decide +kernel
theorem dX12_slip_99 : decode mX12_slip.2.1 99 = .ok (.iadd, 1) := by decide +kernel
theorem dX12_slip_100 : decode mX12_slip.2.1 100 = .ok (.iaload, 1) := by decide +kernel
theorem dX12_slip_101 : decode mX12_slip.2.1 101 = .ok (.invokevirtual 371, 3) := by decide +kernel
theorem dX12_slip_104 : decode mX12_slip.2.1 104 = .ok (.aload_n 0, 1) := by decide +kernel
theorem dX12_slip_105 : decode mX12_slip.2.1 105 = .ok (.getfield 98, 3) := by decide +kernel
theorem dX12_slip_108 : decode mX12_slip.2.1 108 = .ok (.sipush 136, 3) := by decide +kernel
theorem dX12_slip_111 : decode mX12_slip.2.1 111 = .ok (.iload_n 1, 1) := by decide +kernel
theorem dX12_slip_112 : decode mX12_slip.2.1 112 = .ok (.iadd, 1) := by decide +kernel
theorem dX12_slip_113 : decode mX12_slip.2.1 113 = .ok (.iaload, 1) := by decide +kernel
theorem dX12_slip_114 : decode mX12_slip.2.1 114 = .ok (.ifCond .ne 12, 3) := by decide +kernel
theorem dX12_slip_117 : decode mX12_slip.2.1 117 = .ok (.aload_n 0, 1) := by decide +kernel
theorem dX12_slip_118 : decode mX12_slip.2.1 118 = .ok (.bipush 17, 2) := by decide +kernel
theorem dX12_slip_120 : decode mX12_slip.2.1 120 = .ok (.invokestatic 62, 3) := by decide +kernel
theorem dX12_slip_123 : decode mX12_slip.2.1 123 = .ok (.invokevirtual 368, 3) := by decide +kernel
theorem dX12_slip_126 : decode mX12_slip.2.1 126 = .ok (.aload_n 0, 1) := by decide +kernel
theorem dX12_slip_127 : decode mX12_slip.2.1 127 = .ok (.getfield 358, 3) := by decide +kernel
theorem dX12_slip_130 : decode mX12_slip.2.1 130 = .ok (.ireturn, 1) := by decide +kernel
set_option maxRecDepth 4000 in
theorem ev_X12_slip {m : Mem} {G : Mem} {B : Int} {p : Int} {l : List Int} (hb : Bg G 8 18 (m 216)) (hdn : DnOk G 8) (hst : StOk G 8 18 B) (hp : InR p) (hl : 0 ≤ p → p < G 8 3 → ((1 ≤ l.length ∧ l.length ≤ 7) ∧ Lt l ∧ m 221 (6 + p) = fr 27 l)) : Ev 0 12 mX12_slip [vr 214, vi p] m (fun r m' => (¬ (0 ≤ p ∧ p < G 8 3) ∧ r = -1 ∧ m' = wr m 214 0 0) ∨ ((0 ≤ p ∧ p < G 8 3) ∧ r = ((slT G l p).length : Int) ∧ Sl 231 214 37 (wr (wr m 214 0 0) 214 37 0) (slT G l p) m')) := by
  refine Ev.of (L := [vr 214, vi p]) (by decide +kernel) rfl (Nat.le_of_ble_eq_true rfl) rfl (fun t ht => by cases ht; first | exact Or.inl rfl | exact Or.inr (Or.inl rfl) | exact Or.inr (Or.inr rfl)) (fun hcan => ?_)
  obtain ⟨⟨hd0, hd1⟩, ⟨hd2, hd3⟩, ⟨hd4, hd5⟩, ⟨hd6, hd7⟩, ⟨hd8, hd9⟩, hdf, hdp, hdq⟩ := id hdn
  obtain ⟨⟨hs0, hs1⟩, ⟨hs2, hs3⟩, hsw, hsp, hsd, hsz⟩ := id hst
  refine go_aload_n dX12_slip_0 rfl ?_
  refine go_iconst dX12_slip_1 ?_
  refine go_putf_i (ki := 0) dX12_slip_2 fw_12_1 ob_214 rfl rfl ⟨by omega, by omega⟩ ?_
  refine go_aload_n dX12_slip_5 rfl ?_
  refine go_iload_n dX12_slip_6 rfl ?_
  refine go_callVp_z (as := [vi p]) (S := []) (b := 214) (ev_X12_isPerson (m := (wr m 214 0 0)) (f := p) (G := G) (d := 8) (st := 18) (by first | exact hb | exact hb.w (by decide) | exact (hb.w (by decide)).w (by decide)) (by first | assumption | omega | exact ⟨by omega, by omega⟩ | (constructor <;> omega)) (by first | assumption | omega | exact ⟨by omega, by omega⟩ | (constructor <;> omega))) rfl dX12_slip_7 cv_12_245 rfl rfl ob_214 rfl (by decide) (Nat.le_of_ble_eq_true rfl) (fun r_7 hr_7 ho_7 => ?_)
  refine go_if_ne (tgt := 15) dX12_slip_10 (by decide) ⟨by omega, by omega⟩ (fun h_10 => ?_) (fun h_10 => ?_)
  · obtain ⟨hl1, hl2, hl3⟩ := hl (by omega) (by omega)
    have hpp := hsp p (by omega) (by omega)
    refine go_aload_n dX12_slip_15 rfl ?_
    refine go_iconst dX12_slip_16 ?_
    refine go_putf_i (ki := 37) dX12_slip_17 fw_12_358 ob_214 rfl rfl ⟨by omega, by omega⟩ ?_
    refine go_aload_n dX12_slip_20 rfl ?_
    refine go_aload_n dX12_slip_21 rfl ?_
    refine go_getf_p (b := 221) dX12_slip_22 fl_12_113 ob_214 rfl pt_214_19 ?_
    refine go_bipush dX12_slip_25 (by decide) ?_
    refine go_iload_n dX12_slip_27 rfl ?_
    refine go_iadd dX12_slip_28 ?_
    refine go_laload dX12_slip_29 ar_221 (by omega) (by omega) (fun he_29 => ?_)
    rw [show ((wr (wr m 214 0 0) 214 37 0) 221 (6 + p) : Int) = (m 221 (6 + p)) from by rw [wr_na (by omega), wr_na (by omega)]] at he_29 ⊢
    refine go_callV_v (as := [vl (m 221 (6 + p))]) (S := []) (b := 214) (ev_X12_writeWord (m := (wr (wr m 214 0 0) 214 37 0)) (w := (m 221 (6 + p))) (l := l) hl3 hl2 hl1 ⟨by rw [wr_self]; omega, by rw [wr_self]; omega⟩) rfl dX12_slip_30 cv_12_361 rfl rfl ob_214 rfl (by decide) (Nat.le_of_ble_eq_true rfl) (fun m_30 hr_30 => ?_)
    have s_30 := hr_30
    have z_30 : m_30 214 37 = (l.length : Int) := by rw [hr_30.2.2.1, wr_self, wT_len]; omega
    have e_30 : m_30 216 = m 216 := by rw [s_30.1 216 (by decide) (by decide), wr_row (by decide), wr_row (by decide)]
    refine go_aload_n dX12_slip_33 rfl ?_
    refine go_bipush dX12_slip_34 (by decide) ?_
    refine go_bipush dX12_slip_36 (by decide) ?_
    refine go_iconst dX12_slip_38 ?_
    refine go_iconst dX12_slip_39 ?_
    refine go_iconst dX12_slip_40 ?_
    refine go_iconst dX12_slip_41 ?_
    refine go_iconst dX12_slip_42 ?_
    refine go_callSp_l (as := [vi 97, vi 116, vi 0, vi 0, vi 0, vi 0, vi 0]) (S := [vr 214]) (ev_X12_spelt (m := m_30) (a := 97) (b := 116) (c := 0) (d := 0) (e := 0) (f := 0) (g := 0) (by first | assumption | omega | exact ⟨by omega, by omega⟩ | (constructor <;> omega)) (by first | assumption | omega | exact ⟨by omega, by omega⟩ | (constructor <;> omega)) (by first | assumption | omega | exact ⟨by omega, by omega⟩ | (constructor <;> omega)) (by first | assumption | omega | exact ⟨by omega, by omega⟩ | (constructor <;> omega)) (by first | assumption | omega | exact ⟨by omega, by omega⟩ | (constructor <;> omega)) (by first | assumption | omega | exact ⟨by omega, by omega⟩ | (constructor <;> omega)) (by first | assumption | omega | exact ⟨by omega, by omega⟩ | (constructor <;> omega))) rfl dX12_slip_43 cs_12_58 rfl rfl (by decide) (Nat.le_of_ble_eq_true rfl) (fun r_43 hr_43 ho_43 => ?_)
    refine go_callV_v (as := [vl r_43]) (S := []) (b := 214) (ev_X12_writeNext (m := m_30) (w := r_43) (l := [20, 1]) hr_43 Lt_at (by decide) ⟨by omega, by simp; omega⟩) rfl dX12_slip_46 cv_12_368 rfl rfl ob_214 rfl (by decide) (Nat.le_of_ble_eq_true rfl) (fun m_46 hr_46 => ?_)
    rw [wT_at] at hr_46
    have s_46 := s_30.app hr_46
    have z_46 : m_46 214 37 = (l.length : Int) + 3 := by have h := hr_46.2.2.1; rw [z_30] at h; exact h
    have e_46 : m_46 216 = m 216 := by rw [s_46.1 216 (by decide) (by decide), wr_row (by decide), wr_row (by decide)]
    refine go_aload_n dX12_slip_49 rfl ?_
    refine go_aload_n dX12_slip_50 rfl ?_
    refine go_getf_p (b := 216) dX12_slip_51 fl_12_98 ob_214 rfl pt_214_14 ?_
    refine go_bipush dX12_slip_54 (by decide) ?_
    refine go_iload_n dX12_slip_56 rfl ?_
    refine go_iadd dX12_slip_57 ?_
    refine go_iaload dX12_slip_58 ar_216 (by omega) (by omega) (fun he_58 => ?_)
    rw [show (m_46 216 (126 + p) : Int) = (9 * G (18 + 3) p + G (18 + 2) p) from (by rw [e_46]; exact (hb.at (p := p) (by omega) (by omega)))] at he_58 ⊢
    refine go_bipush dX12_slip_59 (by decide) ?_
    refine go_irem dX12_slip_61 ⟨by omega, by omega⟩ ⟨by omega, by omega⟩ (by omega) (by omega) ?_
    rw [show ((9 * G (18 + 3) p + G (18 + 2) p) % 9 : Int) = (G (18 + 2) p) from (by omega)]
    refine go_callV_v (as := [vi (G (18 + 2) p)]) (S := []) (b := 214) (ev_X12_writeDigit (m := m_46) (c := (G (18 + 2) p)) (by first | assumption | omega | exact ⟨by omega, by omega⟩ | (constructor <;> omega)) ⟨by omega, by omega⟩) rfl dX12_slip_62 cv_12_371 rfl rfl ob_214 rfl (by decide) (Nat.le_of_ble_eq_true rfl) (fun m_62 hr_62 => ?_)
    have s_62 := s_46.app hr_62
    have z_62 : m_62 214 37 = (l.length : Int) + 5 := by have h := hr_62.2.2.1; rw [z_46] at h; rw [h]; simp; omega
    have e_62 : m_62 216 = m 216 := by rw [s_62.1 216 (by decide) (by decide), wr_row (by decide), wr_row (by decide)]
    refine go_aload_n dX12_slip_65 rfl ?_
    refine go_aload_n dX12_slip_66 rfl ?_
    refine go_getf_p (b := 216) dX12_slip_67 fl_12_98 ob_214 rfl pt_214_14 ?_
    refine go_bipush dX12_slip_70 (by decide) ?_
    refine go_iload_n dX12_slip_72 rfl ?_
    refine go_iadd dX12_slip_73 ?_
    refine go_iaload dX12_slip_74 ar_216 (by omega) (by omega) (fun he_74 => ?_)
    rw [show (m_62 216 (126 + p) : Int) = (9 * G (18 + 3) p + G (18 + 2) p) from (by rw [e_62]; exact (hb.at (p := p) (by omega) (by omega)))] at he_74 ⊢
    refine go_bipush dX12_slip_75 (by decide) ?_
    refine go_idiv dX12_slip_77 ⟨by omega, by omega⟩ ⟨by omega, by omega⟩ (by omega) (by omega) ?_
    rw [show ((9 * G (18 + 3) p + G (18 + 2) p) / 9 : Int) = (G (18 + 3) p) from (by omega)]
    refine go_callV_v (as := [vi (G (18 + 3) p)]) (S := []) (b := 214) (ev_X12_writeDigit (m := m_62) (c := (G (18 + 3) p)) (by first | assumption | omega | exact ⟨by omega, by omega⟩ | (constructor <;> omega)) ⟨by omega, by omega⟩) rfl dX12_slip_78 cv_12_371 rfl rfl ob_214 rfl (by decide) (Nat.le_of_ble_eq_true rfl) (fun m_78 hr_78 => ?_)
    have s_78 := s_62.app hr_78
    have z_78 : m_78 214 37 = (l.length : Int) + 7 := by have h := hr_78.2.2.1; rw [z_62] at h; rw [h]; simp; omega
    have e_78 : m_78 216 = m 216 := by rw [s_78.1 216 (by decide) (by decide), wr_row (by decide), wr_row (by decide)]
    refine go_aload_n dX12_slip_81 rfl ?_
    refine go_bipush dX12_slip_82 (by decide) ?_
    refine go_callSp_l (as := [vi 22]) (S := [vr 214]) (ev_X12_wordOf (m := m_78) (k := 22) ⟨by omega, by omega⟩) rfl dX12_slip_84 cs_12_62 rfl rfl (by decide) (Nat.le_of_ble_eq_true rfl) (fun r_84 hr_84 ho_84 => ?_)
    refine go_callV_v (as := [vl r_84]) (S := []) (b := 214) (ev_X12_writeNext (m := m_78) (w := r_84) (l := [16, 21]) hr_84 Lt_up (by decide) ⟨by omega, by simp; omega⟩) rfl dX12_slip_87 cv_12_368 rfl rfl ob_214 rfl (by decide) (Nat.le_of_ble_eq_true rfl) (fun m_87 hr_87 => ?_)
    rw [wT_up] at hr_87
    have s_87 := s_78.app hr_87
    have z_87 : m_87 214 37 = (l.length : Int) + 10 := by have h := hr_87.2.2.1; rw [z_78] at h; rw [h]; simp; omega
    have e_87 : m_87 216 = m 216 := by rw [s_87.1 216 (by decide) (by decide), wr_row (by decide), wr_row (by decide)]
    refine go_aload_n dX12_slip_90 rfl ?_
    refine go_aload_n dX12_slip_91 rfl ?_
    refine go_getf_p (b := 216) dX12_slip_92 fl_12_98 ob_214 rfl pt_214_14 ?_
    refine go_sipush dX12_slip_95 (by decide) ?_
    refine go_iload_n dX12_slip_98 rfl ?_
    refine go_iadd dX12_slip_99 ?_
    refine go_iaload dX12_slip_100 ar_216 (by omega) (by omega) (fun he_100 => ?_)
    rw [show (m_87 216 (131 + p) : Int) = (G (18 + 4) p) from (by rw [e_87]; exact (hb.up (p := p) (by omega) (by omega)))] at he_100 ⊢
    refine go_callV_v (as := [vi (G (18 + 4) p)]) (S := []) (b := 214) (ev_X12_writeDigit (m := m_87) (c := (G (18 + 4) p)) (by first | assumption | omega | exact ⟨by omega, by omega⟩ | (constructor <;> omega)) ⟨by omega, by omega⟩) rfl dX12_slip_101 cv_12_371 rfl rfl ob_214 rfl (by decide) (Nat.le_of_ble_eq_true rfl) (fun m_101 hr_101 => ?_)
    have s_101 := s_87.app hr_101
    have z_101 : m_101 214 37 = (l.length : Int) + 12 := by have h := hr_101.2.2.1; rw [z_87] at h; rw [h]; simp; omega
    have e_101 : m_101 216 = m 216 := by rw [s_101.1 216 (by decide) (by decide), wr_row (by decide), wr_row (by decide)]
    refine go_aload_n dX12_slip_104 rfl ?_
    refine go_getf_p (b := 216) dX12_slip_105 fl_12_98 ob_214 rfl pt_214_14 ?_
    refine go_sipush dX12_slip_108 (by decide) ?_
    refine go_iload_n dX12_slip_111 rfl ?_
    refine go_iadd dX12_slip_112 ?_
    refine go_iaload dX12_slip_113 ar_216 (by omega) (by omega) (fun he_113 => ?_)
    rw [show (m_101 216 (136 + p) : Int) = (G (18 + 5) p) from (by rw [e_101]; exact (hb.br (p := p) (by omega) (by omega)))] at he_113 ⊢
    refine go_if_ne (tgt := 126) dX12_slip_114 (by decide) ⟨by omega, by omega⟩ (fun h_114 => ?_) (fun h_114 => ?_)
    · refine go_aload_n dX12_slip_126 rfl ?_
      refine go_getf_i (ki := 37) dX12_slip_127 fl_12_358 ob_214 rfl rfl (fun hf_127 => ?_)
      refine go_ret (v := (m_101 214 37)) rfl dX12_slip_130 (okI ⟨by omega, by omega⟩) ?_
      first
      | (have e : slT G l p = wT l ++ [32, 97, 116] ++ [32, 48 + G 20 p] ++ [32, 48 + G 21 p] ++ [32, 117, 112] ++ [32, 48 + G 22 p] ++ [32, 115, 112, 101, 110, 116] := by unfold slT; rw [if_pos (by first | omega | assumption)]
         rw [e]
         exact Or.inr ⟨⟨by omega, by omega⟩, by rw [s_123.2.2.1, wr_self, Int.zero_add], s_123⟩)
      | (have e : slT G l p = wT l ++ [32, 97, 116] ++ [32, 48 + G 20 p] ++ [32, 48 + G 21 p] ++ [32, 117, 112] ++ [32, 48 + G 22 p] := by unfold slT; rw [if_neg (by first | omega | assumption), List.append_nil]
         rw [e]
         exact Or.inr ⟨⟨by omega, by omega⟩, by rw [s_101.2.2.1, wr_self, Int.zero_add], s_101⟩)
    · refine go_aload_n dX12_slip_117 rfl ?_
      refine go_bipush dX12_slip_118 (by decide) ?_
      refine go_callSp_l (as := [vi 17]) (S := [vr 214]) (ev_X12_wordOf (m := m_101) (k := 17) ⟨by omega, by omega⟩) rfl dX12_slip_120 cs_12_62 rfl rfl (by decide) (Nat.le_of_ble_eq_true rfl) (fun r_120 hr_120 ho_120 => ?_)
      refine go_callV_v (as := [vl r_120]) (S := []) (b := 214) (ev_X12_writeNext (m := m_101) (w := r_120) (l := [20, 14, 5, 16, 19]) hr_120 Lt_sp (by decide) ⟨by omega, by simp; omega⟩) rfl dX12_slip_123 cv_12_368 rfl rfl ob_214 rfl (by decide) (Nat.le_of_ble_eq_true rfl) (fun m_123 hr_123 => ?_)
      rw [wT_sp] at hr_123
      have s_123 := s_101.app hr_123
      have z_123 : m_123 214 37 = (l.length : Int) + 18 := by have h := hr_123.2.2.1; rw [z_101] at h; rw [h]; simp; omega
      have e_123 : m_123 216 = m 216 := by rw [s_123.1 216 (by decide) (by decide), wr_row (by decide), wr_row (by decide)]
      refine go_aload_n dX12_slip_126 rfl ?_
      refine go_getf_i (ki := 37) dX12_slip_127 fl_12_358 ob_214 rfl rfl (fun hf_127 => ?_)
      refine go_ret (v := (m_123 214 37)) rfl dX12_slip_130 (okI ⟨by omega, by omega⟩) ?_
      first
      | (have e : slT G l p = wT l ++ [32, 97, 116] ++ [32, 48 + G 20 p] ++ [32, 48 + G 21 p] ++ [32, 117, 112] ++ [32, 48 + G 22 p] ++ [32, 115, 112, 101, 110, 116] := by unfold slT; rw [if_pos (by first | omega | assumption)]
         rw [e]
         exact Or.inr ⟨⟨by omega, by omega⟩, by rw [s_123.2.2.1, wr_self, Int.zero_add], s_123⟩)
      | (have e : slT G l p = wT l ++ [32, 97, 116] ++ [32, 48 + G 20 p] ++ [32, 48 + G 21 p] ++ [32, 117, 112] ++ [32, 48 + G 22 p] := by unfold slT; rw [if_neg (by first | omega | assumption), List.append_nil]
         rw [e]
         exact Or.inr ⟨⟨by omega, by omega⟩, by rw [s_101.2.2.1, wr_self, Int.zero_add], s_101⟩)
  · refine go_iconst dX12_slip_13 ?_
    exact go_ret (v := (-1)) rfl dX12_slip_14 (okI ⟨by omega, by omega⟩) (Or.inl ⟨by omega, rfl, rfl⟩)
