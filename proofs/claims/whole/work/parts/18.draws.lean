def w32 (x : Int) : Int := (Int32.ofInt x).toInt
theorem w32_R (x : Int) : InR (w32 x) := InR.r _
theorem go_wrap {g d : Nat} {Y : MD} {Q : Int → Mem → Prop} {pc : Nat} {L S : List AV} {m : Mem} {x : Int} (k : Go g d Y Q pc L (vi (w32 x) :: S) m) : Go g d Y Q pc L (vi x :: S) m := by
  intro l D cA ad A p e R s mth args below meth c Z hC hE ls H locs cells slots hR hL hc hs
  have k := (k l D cA ad A p e R s mth args below meth c Z hC hE ls H locs cells slots hR hL hc hs)
  have e : toV ad (vi (w32 x)) = toV ad (vi x) := by show Value.int _ = Value.int _; rw [w32, Int32.ofInt_toInt]
  rw [List.map_cons, e] at k
  exact k
theorem iushr8_b (x : Int) : 0 ≤ iushr x 8 ∧ iushr x 8 < 16777216 := by
  unfold iushr
  generalize (Int32.ofInt x).toUInt32 = u
  have h1 : (u >>> ((Int32.ofInt 8).toUInt32 &&& Int32.toUInt32 31)).toNat = u.toNat / 256 := by
    rw [show (Int32.ofInt 8).toUInt32 &&& Int32.toUInt32 31 = 8 from by decide]
    rw [UInt32.toNat_shiftRight]
    show u.toNat >>> (8 % 32) = _
    rw [Nat.shiftRight_eq_div_pow]
  have h2 := u.toNat_lt
  generalize u >>> ((Int32.ofInt 8).toUInt32 &&& Int32.toUInt32 31) = v at h1 ⊢
  have h3 : v.toNat < 16777216 := by omega
  have h4 : v.toInt32.toInt = (v.toNat : Int) := by
    show v.toBitVec.toInt = _
    rw [BitVec.toInt_eq_toNat_of_lt (by show 2 * v.toNat < 2 ^ 32; omega)]
    rfl
  rw [h4]; omega
theorem StOk.congr {m m' : Mem} {d st : Nat} {B : Int} (h : StOk m d st B) (h0 : m' d = m d) (h5 : m' (d + 5) = m (d + 5)) (hr : ∀ k, k < 8 → m' (st + k) = m (st + k)) : StOk m' d st B := by
  unfold StOk at *
  have r0 : m' st = m st := hr 0 (by omega)
  rw [h0, h5, r0, hr 1 (by omega), hr 2 (by omega), hr 3 (by omega), hr 4 (by omega), hr 5 (by omega), hr 6 (by omega), hr 7 (by omega)]
  exact h
theorem DnOk.congr {m m' : Mem} {d : Nat} (h : DnOk m d) (hr : ∀ k, k < 10 → m' (d + k) = m (d + k)) : DnOk m' d := by
  unfold DnOk at *
  have r0 : m' d = m d := hr 0 (by omega)
  rw [r0, hr 2 (by omega), hr 3 (by omega), hr 5 (by omega), hr 7 (by omega), hr 8 (by omega), hr 9 (by omega)]
  exact h
def lcg (x : Int) : Int := w32 (x * 1103515245 + 12345)
def sayIf (m : Mem) (d st : Nat) (p f s : Int) : Mem := if whySayC m d st p f s = 0 then sayC m d st p f s else m
def kickIf (m : Mem) (d st : Nat) (p s : Int) : Mem := if whyKickC m d st p s = 0 then kickC m st p s else m
def restIf (m : Mem) (d st : Nat) (p : Int) : Mem := if m (st + 5) p = m (d + 5) p then m else restC m d st p
def drw (m : Mem) (w : Nat) : Mem := wr m w 3 (lcg (m w 3))
def drv (m : Mem) (w : Nat) (n : Int) : Int := iushr (lcg (m w 3)) 8 % n
def actC (m : Mem) (w d st : Nat) (p : Int) : Mem :=
  if drv m w 8 < 4 then (if 0 < m d 2 then sayIf (drw (drw m w) w) d st p (drv (drw m w) w (m d 2)) (drv m w 8) else drw m w)
  else if drv m w 8 < 6 then kickIf (drw (drw m w) w) d st p (drv (drw m w) w 4)
  else if drv m w 8 = 6 then restIf (drw m w) d st p else drw m w
def actsC (m : Mem) (w d st : Nat) : Nat → Mem
  | 0 => m
  | n + 1 => actC (actsC m w d st n) w d st (n : Int)
def hoursC (m : Mem) (w d st : Nat) : Nat → Mem
  | 0 => m
  | n + 1 => passC (actsC (hoursC m w d st n) w d st (m d 3).toNat) d st 1
/-- nothing outside a state's rows and one row more has changed -/
def FrW (m m' : Mem) (w st : Nat) : Prop := ∀ b : Nat, b ≠ w → (b < st ∨ st + 8 ≤ b) → m' b = m b
theorem FrW.rf {m : Mem} {w st : Nat} : FrW m m w st := fun _ _ _ => rfl
theorem FrW.tr {m m1 m2 : Mem} {w st : Nat} (h1 : FrW m m1 w st) (h2 : FrW m1 m2 w st) : FrW m m2 w st := fun b h h' => (h2 b h h').trans (h1 b h h')
theorem Fr.w {m m1 : Mem} {w st : Nat} (h : Fr m m1 st) : FrW m m1 w st := fun b _ h' => h b h'
theorem drw_fr {m : Mem} {w st : Nat} : FrW m (drw m w) w st := fun b h _ => wr_row h
theorem sayIf_fr {m : Mem} {d st : Nat} {p f s : Int} : Fr m (sayIf m d st p f s) st := by unfold sayIf; split; exact sayC_fr; exact Fr.rf
theorem kickIf_fr {m : Mem} {d st : Nat} {p s : Int} : Fr m (kickIf m d st p s) st := by unfold kickIf; split; exact kickC_fr; exact Fr.rf
theorem restIf_fr {m : Mem} {d st : Nat} {p : Int} : Fr m (restIf m d st p) st := by unfold restIf; split; exact Fr.rf; exact restC_fr
theorem actC_fr {m : Mem} {w d st : Nat} {p : Int} : FrW m (actC m w d st p) w st := by
  unfold actC
  repeat' split
  · exact FrW.tr (FrW.tr drw_fr drw_fr) sayIf_fr.w
  · exact drw_fr
  · exact FrW.tr (FrW.tr drw_fr drw_fr) kickIf_fr.w
  · exact FrW.tr drw_fr restIf_fr.w
  · exact drw_fr
theorem actsC_fr {m : Mem} {w d st : Nat} (n : Nat) : FrW m (actsC m w d st n) w st := by
  induction n with
  | zero => exact FrW.rf
  | succ n ih => exact FrW.tr ih actC_fr
theorem hoursC_fr {m : Mem} {w d st : Nat} (n : Nat) : FrW m (hoursC m w d st n) w st := by
  induction n with
  | zero => exact FrW.rf
  | succ n ih => exact FrW.tr (FrW.tr ih (actsC_fr _)) passC_fr.w
section
variable {m m' : Mem} {w d st : Nat} {B : Int}
theorem DnOk.frw (h : DnOk m d) (hw : isWd w d st) (hf : FrW m m' w st) : DnOk m' d := by
  have h1 := hw.sw; have h2 := hw.sep
  exact h.congr (fun k hk => hf _ (by omega) (by omega))
theorem drw_st (hw : isWd w d st) (h : StOk m d st B) : StOk (drw m w) d st B := by
  have h1 := hw.sw; have h2 := hw.sep
  exact h.congr (wr_row (by omega)) (wr_row (by omega)) (fun k hk => wr_row (by omega))
theorem sayIf_st (hw : isWd w d st) (hdn : DnOk m d) (h : StOk m d st B) {p f s : Int} (hp : 0 ≤ p ∧ p < m d 3) (hf : 0 ≤ f ∧ f < m d 2) : StOk (sayIf m d st p f s) d st (B + 1) := by
  unfold sayIf
  split
  · rename_i q; exact sayC_ok hw.sep hdn h hp hf q
  · exact h.up (by omega)
theorem kickIf_st (hw : isWd w d st) (h : StOk m d st B) {p s : Int} (hp : 0 ≤ p ∧ p < m d 3) : StOk (kickIf m d st p s) d st (B + 1) := by
  unfold kickIf
  split
  · rename_i q; exact kickC_ok hw.sep h hp q
  · exact h.up (by omega)
theorem restIf_st (hw : isWd w d st) (hdn : DnOk m d) (h : StOk m d st B) {p : Int} (hp : 0 ≤ p ∧ p < m d 3) : StOk (restIf m d st p) d st (B + 1) := by
  unfold restIf
  split
  · exact h.up (by omega)
  · exact (restC_ok hw.sep hdn h hp).up (by omega)
theorem drv_b {n : Int} (h : 0 < n) : 0 ≤ drv m w n ∧ drv m w n < n := ⟨Int.emod_nonneg _ (by omega), Int.emod_lt_of_pos _ h⟩
theorem drw_d (hw : isWd w d st) : drw m w d = m d := wr_row (by have := hw.sw; omega)
theorem actC_st (hw : isWd w d st) (hdn : DnOk m d) (h : StOk m d st B) {p : Int} (hp : 0 ≤ p ∧ p < m d 3) : StOk (actC m w d st p) d st (B + 1) := by
  have e1 := drw_d (m := m) hw
  have e2 := drw_d (m := drw m w) hw
  have k1 := hdn.frw hw drw_fr
  have k2 := k1.frw hw drw_fr
  unfold actC
  repeat' split
  · exact sayIf_st hw k2 (drw_st hw (drw_st hw h)) (by rw [e2, e1]; exact hp) (by rw [e2, e1]; exact drv_b (by assumption))
  · exact (drw_st hw h).up (by omega)
  · exact kickIf_st hw (drw_st hw (drw_st hw h)) (by rw [e2, e1]; exact hp)
  · exact restIf_st hw k1 (drw_st hw h) (by rw [e1]; exact hp)
  · exact (drw_st hw h).up (by omega)
theorem actsC_st (hw : isWd w d st) (hdn : DnOk m d) (h : StOk m d st B) : ∀ n : Nat, (n : Int) ≤ m d 3 → StOk (actsC m w d st n) d st (B + n) := by
  intro n
  induction n with
  | zero => intro _; exact h.up (by omega)
  | succ n ih =>
    intro hn
    have hf := actsC_fr (m := m) (w := w) (d := d) (st := st) n
    have e := hf d (by have := hw.sw; omega) (by have := hw.sep; omega)
    exact (actC_st hw (hdn.frw hw hf) (ih (by omega)) (p := (n : Int)) (by rw [e]; omega)).up (by omega)
theorem hoursC_st (hw : isWd w d st) (hdn : DnOk m d) (h : StOk m d st B) : ∀ n : Nat, m st 0 + n ≤ 400 → StOk (hoursC m w d st n) d st (B + 5 * n) ∧ hoursC m w d st n st 0 = m st 0 + n := by
  intro n
  induction n with
  | zero => intro _; exact ⟨h.up (by omega), by simp [hoursC]⟩
  | succ n ih =>
    intro hn
    obtain ⟨i1, i2⟩ := ih (by omega)
    have hf := hoursC_fr (m := m) (w := w) (d := d) (st := st) n
    have e := hf d (by have := hw.sw; omega) (by have := hw.sep; omega)
    have hdn' := hdn.frw hw hf
    have h3 := hdn.2.2.2.1
    have a1 := actsC_st hw hdn' i1 (m d 3).toNat (by rw [e]; omega)
    have hf2 := actsC_fr (m := hoursC m w d st n) (w := w) (d := d) (st := st) (m d 3).toNat
    have e0 : actsC (hoursC m w d st n) w d st (m d 3).toNat st 0 = hoursC m w d st n st 0 := by
      have key : ∀ k : Nat, actsC (hoursC m w d st n) w d st k st 0 = hoursC m w d st n st 0 := by
        intro k
        induction k with
        | zero => rfl
        | succ k ihk =>
          rw [← ihk]
          show actC (actsC (hoursC m w d st n) w d st k) w d st (k : Int) st 0 = _
          generalize actsC (hoursC m w d st n) w d st k = X
          have hh := hw.sw
          have d0 : ∀ Z : Mem, drw Z w st = Z st := fun Z => wr_row (by omega)
          unfold actC
          repeat' split
          · unfold sayIf; split
            · rw [sayC_0, d0, d0]
            · rw [d0, d0]
          · rw [d0]
          · unfold kickIf; split
            · rw [kickC_0]; simp [d0]
            · rw [d0, d0]
          · unfold restIf; split
            · rw [d0]
            · rw [restC_r (by omega), d0]
          · rw [d0]
      exact key _
    refine ⟨?_, ?_⟩
    · exact (passC_ok hw.sep (hdn'.frw hw hf2) a1 (by omega) (by rw [e0, i2]; omega)).up (by omega)
    · show passC _ d st 1 st 0 = _
      rw [passC_0]; simp only [if_true]; rw [e0, i2]; omega
end

theorem dX10_sayIfCan_0 : decode mX10_sayIfCan.2.1 0 = .ok (.aload_n 0, 1) := by decide +kernel
theorem dX10_sayIfCan_1 : decode mX10_sayIfCan.2.1 1 = .ok (.iload_n 1, 1) := by decide +kernel
theorem dX10_sayIfCan_2 : decode mX10_sayIfCan.2.1 2 = .ok (.iload_n 2, 1) := by decide +kernel
theorem dX10_sayIfCan_3 : decode mX10_sayIfCan.2.1 3 = .ok (.iload_n 3, 1) := by decide +kernel
theorem dX10_sayIfCan_4 : decode mX10_sayIfCan.2.1 4 = .ok (.invokevirtual 141, 3) := by decide +kernel
theorem dX10_sayIfCan_7 : decode mX10_sayIfCan.2.1 7 = .ok (.istore 4, 2) := by decide +kernel
theorem dX10_sayIfCan_9 : decode mX10_sayIfCan.2.1 9 = .ok (.iload 4, 2) := by decide +kernel
theorem dX10_sayIfCan_11 : decode mX10_sayIfCan.2.1 11 = .ok (.ifCond .ne 10, 3) := by decide +kernel
theorem dX10_sayIfCan_14 : decode mX10_sayIfCan.2.1 14 = .ok (.aload_n 0, 1) := by decide +kernel
theorem dX10_sayIfCan_15 : decode mX10_sayIfCan.2.1 15 = .ok (.iload_n 1, 1) := by decide +kernel
theorem dX10_sayIfCan_16 : decode mX10_sayIfCan.2.1 16 = .ok (.iload_n 2, 1) := by decide +kernel
theorem dX10_sayIfCan_17 : decode mX10_sayIfCan.2.1 17 = .ok (.iload_n 3, 1) := by decide +kernel
theorem dX10_sayIfCan_18 : decode mX10_sayIfCan.2.1 18 = .ok (.invokevirtual 145, 3) := by decide +kernel
theorem dX10_sayIfCan_21 : decode mX10_sayIfCan.2.1 21 = .ok (.iload 4, 2) := by decide +kernel
theorem dX10_sayIfCan_23 : decode mX10_sayIfCan.2.1 23 = .ok (.ireturn, 1) := by decide +kernel
set_option maxRecDepth 4000 in
theorem ev_X10_sayIfCan {m : Mem} {w : Nat} {d : Nat} {st : Nat} {p : Int} {f : Int} {s : Int} {B : Int} (hw : isWd w d st) (hdn : DnOk m d) (hst : StOk m d st B) (hp : 0 ≤ p ∧ p < m d 3) (hf : 0 ≤ f ∧ f < m d 2) (hs : 0 ≤ s ∧ s < 4) (hB : B ≤ 1900000000) : Ev 0 6 mX10_sayIfCan [vr w, vi p, vi f, vi s] m (fun r m' => r = whySayC m d st p f s ∧ m' = sayIf m d st p f s) := by
  refine Ev.of (L := [vr w, vi p, vi f, vi s, un]) (by decide +kernel) rfl (Nat.le_of_ble_eq_true rfl) rfl (fun t ht => by cases ht; first | exact Or.inl rfl | exact Or.inr (Or.inl rfl) | exact Or.inr (Or.inr rfl)) (fun hcan => ?_)
  refine go_aload_n dX10_sayIfCan_0 rfl ?_
  refine go_iload_n dX10_sayIfCan_1 rfl ?_
  refine go_iload_n dX10_sayIfCan_2 rfl ?_
  refine go_iload_n dX10_sayIfCan_3 rfl ?_
  refine go_callVp_i (as := [vi p, vi f, vi s]) (S := []) (b := w) (ev_X10_whyNotSay (m := m) (w := w) (p := p) (f := f) (s := s) (d := d) (st := st) (B := B) (by first | assumption | omega | exact ⟨by omega, by omega⟩ | (constructor <;> omega)) (by first | assumption | omega | exact ⟨by omega, by omega⟩ | (constructor <;> omega)) (by first | assumption | omega | exact ⟨by omega, by omega⟩ | (constructor <;> omega)) (by first | assumption | omega | exact ⟨by omega, by omega⟩ | (constructor <;> omega)) (by first | assumption | omega | exact ⟨by omega, by omega⟩ | (constructor <;> omega)) (by first | assumption | omega | exact ⟨by omega, by omega⟩ | (constructor <;> omega))) rfl dX10_sayIfCan_4 cv_10_141 rfl rfl hw.o rfl (by decide) (Nat.le_of_ble_eq_true rfl) (fun r_4 hr_4 ho_4 => ?_)
  refine go_istore (L' := [vr w, vi p, vi f, vi s, vi r_4]) dX10_sayIfCan_7 (by decide) rfl rfl ?_
  refine go_iload dX10_sayIfCan_9 rfl ?_
  refine go_if_ne (tgt := 21) dX10_sayIfCan_11 (by decide) ⟨by omega, by omega⟩ (fun h_11 => ?_) (fun h_11 => ?_)
  · refine go_iload dX10_sayIfCan_21 rfl ?_
    exact go_ret (v := r_4) rfl dX10_sayIfCan_23 (okI ⟨by omega, by omega⟩) ⟨hr_4, by unfold sayIf; first | (rw [hr_18, if_pos (by omega)]) | rw [if_neg (by omega)]⟩
  · refine go_aload_n dX10_sayIfCan_14 rfl ?_
    refine go_iload_n dX10_sayIfCan_15 rfl ?_
    refine go_iload_n dX10_sayIfCan_16 rfl ?_
    refine go_iload_n dX10_sayIfCan_17 rfl ?_
    refine go_callV_v (as := [vi p, vi f, vi s]) (S := []) (b := w) (ev_X10_doSay (m := m) (w := w) (p := p) (f := f) (s := s) (d := d) (st := st) (B := B) (by first | assumption | omega | exact ⟨by omega, by omega⟩ | (constructor <;> omega)) (by first | assumption | omega | exact ⟨by omega, by omega⟩ | (constructor <;> omega)) (by first | assumption | omega | exact ⟨by omega, by omega⟩ | (constructor <;> omega)) (by first | assumption | omega | exact ⟨by omega, by omega⟩ | (constructor <;> omega)) (by first | assumption | omega | exact ⟨by omega, by omega⟩ | (constructor <;> omega)) (by first | assumption | omega | exact ⟨by omega, by omega⟩ | (constructor <;> omega)) (by first | assumption | omega | exact ⟨by omega, by omega⟩ | (constructor <;> omega))) rfl dX10_sayIfCan_18 cv_10_145 rfl rfl hw.o rfl (by decide) (Nat.le_of_ble_eq_true rfl) (fun m_18 hr_18 => ?_)
    refine go_iload dX10_sayIfCan_21 rfl ?_
    exact go_ret (v := r_4) rfl dX10_sayIfCan_23 (okI ⟨by omega, by omega⟩) ⟨hr_4, by unfold sayIf; first | (rw [hr_18, if_pos (by omega)]) | rw [if_neg (by omega)]⟩
theorem dX10_kickIfCan_0 : decode mX10_kickIfCan.2.1 0 = .ok (.aload_n 0, 1) := by decide +kernel
theorem dX10_kickIfCan_1 : decode mX10_kickIfCan.2.1 1 = .ok (.iload_n 1, 1) := by decide +kernel
theorem dX10_kickIfCan_2 : decode mX10_kickIfCan.2.1 2 = .ok (.iload_n 2, 1) := by decide +kernel
theorem dX10_kickIfCan_3 : decode mX10_kickIfCan.2.1 3 = .ok (.invokevirtual 149, 3) := by decide +kernel
theorem dX10_kickIfCan_6 : decode mX10_kickIfCan.2.1 6 = .ok (.istore_n 3, 1) := by decide +kernel
theorem dX10_kickIfCan_7 : decode mX10_kickIfCan.2.1 7 = .ok (.iload_n 3, 1) := by decide +kernel
theorem dX10_kickIfCan_8 : decode mX10_kickIfCan.2.1 8 = .ok (.ifCond .ne 9, 3) := by decide +kernel
theorem dX10_kickIfCan_11 : decode mX10_kickIfCan.2.1 11 = .ok (.aload_n 0, 1) := by decide +kernel
theorem dX10_kickIfCan_12 : decode mX10_kickIfCan.2.1 12 = .ok (.iload_n 1, 1) := by decide +kernel
theorem dX10_kickIfCan_13 : decode mX10_kickIfCan.2.1 13 = .ok (.iload_n 2, 1) := by decide +kernel
theorem dX10_kickIfCan_14 : decode mX10_kickIfCan.2.1 14 = .ok (.invokevirtual 152, 3) := by decide +kernel
theorem dX10_kickIfCan_17 : decode mX10_kickIfCan.2.1 17 = .ok (.iload_n 3, 1) := by decide +kernel
theorem dX10_kickIfCan_18 : decode mX10_kickIfCan.2.1 18 = .ok (.ireturn, 1) := by decide +kernel
set_option maxRecDepth 4000 in
theorem ev_X10_kickIfCan {m : Mem} {w : Nat} {d : Nat} {st : Nat} {p : Int} {s : Int} {B : Int} (hw : isWd w d st) (hdn : DnOk m d) (hst : StOk m d st B) (hp : 0 ≤ p ∧ p < m d 3) (hs : 0 ≤ s ∧ s < 4) (hB : B ≤ 1900000000) : Ev 0 4 mX10_kickIfCan [vr w, vi p, vi s] m (fun r m' => r = whyKickC m d st p s ∧ m' = kickIf m d st p s) := by
  refine Ev.of (L := [vr w, vi p, vi s, un]) (by decide +kernel) rfl (Nat.le_of_ble_eq_true rfl) rfl (fun t ht => by cases ht; first | exact Or.inl rfl | exact Or.inr (Or.inl rfl) | exact Or.inr (Or.inr rfl)) (fun hcan => ?_)
  refine go_aload_n dX10_kickIfCan_0 rfl ?_
  refine go_iload_n dX10_kickIfCan_1 rfl ?_
  refine go_iload_n dX10_kickIfCan_2 rfl ?_
  refine go_callVp_i (as := [vi p, vi s]) (S := []) (b := w) (ev_X10_whyNotKick (m := m) (w := w) (p := p) (s := s) (d := d) (st := st) (B := B) (by first | assumption | omega | exact ⟨by omega, by omega⟩ | (constructor <;> omega)) (by first | assumption | omega | exact ⟨by omega, by omega⟩ | (constructor <;> omega)) (by first | assumption | omega | exact ⟨by omega, by omega⟩ | (constructor <;> omega)) (by first | assumption | omega | exact ⟨by omega, by omega⟩ | (constructor <;> omega)) (by first | assumption | omega | exact ⟨by omega, by omega⟩ | (constructor <;> omega))) rfl dX10_kickIfCan_3 cv_10_149 rfl rfl hw.o rfl (by decide) (Nat.le_of_ble_eq_true rfl) (fun r_3 hr_3 ho_3 => ?_)
  refine go_istore_n (L' := [vr w, vi p, vi s, vi r_3]) dX10_kickIfCan_6 (by decide) rfl rfl ?_
  refine go_iload_n dX10_kickIfCan_7 rfl ?_
  refine go_if_ne (tgt := 17) dX10_kickIfCan_8 (by decide) ⟨by omega, by omega⟩ (fun h_8 => ?_) (fun h_8 => ?_)
  · refine go_iload_n dX10_kickIfCan_17 rfl ?_
    exact go_ret (v := r_3) rfl dX10_kickIfCan_18 (okI ⟨by omega, by omega⟩) ⟨hr_3, by unfold kickIf; first | (rw [hr_14, if_pos (by omega)]) | rw [if_neg (by omega)]⟩
  · refine go_aload_n dX10_kickIfCan_11 rfl ?_
    refine go_iload_n dX10_kickIfCan_12 rfl ?_
    refine go_iload_n dX10_kickIfCan_13 rfl ?_
    refine go_callV_v (as := [vi p, vi s]) (S := []) (b := w) (ev_X10_doKick (m := m) (w := w) (p := p) (s := s) (d := d) (st := st) (B := B) (by first | assumption | omega | exact ⟨by omega, by omega⟩ | (constructor <;> omega)) (by first | assumption | omega | exact ⟨by omega, by omega⟩ | (constructor <;> omega)) (by first | assumption | omega | exact ⟨by omega, by omega⟩ | (constructor <;> omega)) (by first | assumption | omega | exact ⟨by omega, by omega⟩ | (constructor <;> omega)) (by first | assumption | omega | exact ⟨by omega, by omega⟩ | (constructor <;> omega)) (by first | assumption | omega | exact ⟨by omega, by omega⟩ | (constructor <;> omega)) (kick_end (show whyKickC m d st p s = 0 by omega)).2.1) rfl dX10_kickIfCan_14 cv_10_152 rfl rfl hw.o rfl (by decide) (Nat.le_of_ble_eq_true rfl) (fun m_14 hr_14 => ?_)
    refine go_iload_n dX10_kickIfCan_17 rfl ?_
    exact go_ret (v := r_3) rfl dX10_kickIfCan_18 (okI ⟨by omega, by omega⟩) ⟨hr_3, by unfold kickIf; first | (rw [hr_14, if_pos (by omega)]) | rw [if_neg (by omega)]⟩
theorem dX10_restIfCan_0 : decode mX10_restIfCan.2.1 0 = .ok (.aload_n 0, 1) := by decide +kernel
theorem dX10_restIfCan_1 : decode mX10_restIfCan.2.1 1 = .ok (.iload_n 1, 1) := by decide +kernel
theorem dX10_restIfCan_2 : decode mX10_restIfCan.2.1 2 = .ok (.invokevirtual 156, 3) := by decide +kernel
theorem dX10_restIfCan_5 : decode mX10_restIfCan.2.1 5 = .ok (.istore_n 2, 1) := by decide +kernel
theorem dX10_restIfCan_6 : decode mX10_restIfCan.2.1 6 = .ok (.iload_n 2, 1) := by decide +kernel
theorem dX10_restIfCan_7 : decode mX10_restIfCan.2.1 7 = .ok (.ifCond .ne 8, 3) := by decide +kernel
theorem dX10_restIfCan_10 : decode mX10_restIfCan.2.1 10 = .ok (.aload_n 0, 1) := by decide +kernel
theorem dX10_restIfCan_11 : decode mX10_restIfCan.2.1 11 = .ok (.iload_n 1, 1) := by decide +kernel
theorem dX10_restIfCan_12 : decode mX10_restIfCan.2.1 12 = .ok (.invokevirtual 159, 3) := by decide +kernel
theorem dX10_restIfCan_15 : decode mX10_restIfCan.2.1 15 = .ok (.iload_n 2, 1) := by decide +kernel
theorem dX10_restIfCan_16 : decode mX10_restIfCan.2.1 16 = .ok (.ireturn, 1) := by decide +kernel
set_option maxRecDepth 4000 in
theorem ev_X10_restIfCan {m : Mem} {w : Nat} {d : Nat} {st : Nat} {p : Int} (hw : isWd w d st) (hp : 0 ≤ p ∧ p < 5) : Ev 0 2 mX10_restIfCan [vr w, vi p] m (fun r m' => r = (if m (st + 5) p = m (d + 5) p then 1 else 0) ∧ m' = restIf m d st p) := by
  refine Ev.of (L := [vr w, vi p, un]) (by decide +kernel) rfl (Nat.le_of_ble_eq_true rfl) rfl (fun t ht => by cases ht; first | exact Or.inl rfl | exact Or.inr (Or.inl rfl) | exact Or.inr (Or.inr rfl)) (fun hcan => ?_)
  refine go_aload_n dX10_restIfCan_0 rfl ?_
  refine go_iload_n dX10_restIfCan_1 rfl ?_
  refine go_callVp_i (as := [vi p]) (S := []) (b := w) (ev_X10_whyNotRest (m := m) (w := w) (p := p) (d := d) (st := st) (by first | assumption | omega | exact ⟨by omega, by omega⟩ | (constructor <;> omega)) (by first | assumption | omega | exact ⟨by omega, by omega⟩ | (constructor <;> omega))) rfl dX10_restIfCan_2 cv_10_156 rfl rfl hw.o rfl (by decide) (Nat.le_of_ble_eq_true rfl) (fun r_2 hr_2 ho_2 => ?_)
  refine go_istore_n (L' := [vr w, vi p, vi r_2]) dX10_restIfCan_5 (by decide) rfl rfl ?_
  refine go_iload_n dX10_restIfCan_6 rfl ?_
  refine go_if_ne (tgt := 15) dX10_restIfCan_7 (by decide) ⟨by omega, by omega⟩ (fun h_7 => ?_) (fun h_7 => ?_)
  · refine go_iload_n dX10_restIfCan_15 rfl ?_
    exact go_ret (v := r_2) rfl dX10_restIfCan_16 (okI ⟨by omega, by omega⟩) ⟨hr_2, by unfold restIf; first | (rw [hr_12, if_neg (by omega)]) | rw [if_pos (by omega)]⟩
  · refine go_aload_n dX10_restIfCan_10 rfl ?_
    refine go_iload_n dX10_restIfCan_11 rfl ?_
    refine go_callV_v (as := [vi p]) (S := []) (b := w) (ev_X10_doRest (m := m) (w := w) (p := p) (d := d) (st := st) (by first | assumption | omega | exact ⟨by omega, by omega⟩ | (constructor <;> omega)) (by first | assumption | omega | exact ⟨by omega, by omega⟩ | (constructor <;> omega))) rfl dX10_restIfCan_12 cv_10_159 rfl rfl hw.o rfl (by decide) (Nat.le_of_ble_eq_true rfl) (fun m_12 hr_12 => ?_)
    refine go_iload_n dX10_restIfCan_15 rfl ?_
    exact go_ret (v := r_2) rfl dX10_restIfCan_16 (okI ⟨by omega, by omega⟩) ⟨hr_2, by unfold restIf; first | (rw [hr_12, if_neg (by omega)]) | rw [if_pos (by omega)]⟩
theorem dX10_draw_0 : decode mX10_draw.2.1 0 = .ok (.aload_n 0, 1) := by decide +kernel
theorem dX10_draw_1 : decode mX10_draw.2.1 1 = .ok (.aload_n 0, 1) := by decide +kernel
theorem dX10_draw_2 : decode mX10_draw.2.1 2 = .ok (.getfield 25, 3) := by decide +kernel
theorem dX10_draw_5 : decode mX10_draw.2.1 5 = .ok (.ldc 180, 2) := by decide +kernel
theorem dX10_draw_7 : decode mX10_draw.2.1 7 = .ok (.imul, 1) := by decide +kernel
theorem dX10_draw_8 : decode mX10_draw.2.1 8 = .ok (.sipush 12345, 3) := by decide +kernel
theorem dX10_draw_11 : decode mX10_draw.2.1 11 = .ok (.iadd, 1) := by decide +kernel
theorem dX10_draw_12 : decode mX10_draw.2.1 12 = .ok (.putfield 25, 3) := by decide +kernel
theorem dX10_draw_15 : decode mX10_draw.2.1 15 = .ok (.iload_n 1, 1) := by decide +kernel
theorem dX10_draw_16 : decode mX10_draw.2.1 16 = .ok (.ifCond .le 15, 3) := by decide +kernel
theorem dX10_draw_19 : decode mX10_draw.2.1 19 = .ok (.aload_n 0, 1) := by decide +kernel
theorem dX10_draw_20 : decode mX10_draw.2.1 20 = .ok (.getfield 25, 3) := by decide +kernel
theorem dX10_draw_23 : decode mX10_draw.2.1 23 = .ok (.bipush 8, 2) := by decide +kernel
theorem dX10_draw_25 : decode mX10_draw.2.1 25 = .ok (.iushr, 1) := by decide +kernel
theorem dX10_draw_26 : decode mX10_draw.2.1 26 = .ok (.iload_n 1, 1) := by decide +kernel
theorem dX10_draw_27 : decode mX10_draw.2.1 27 = .ok (.irem, 1) := by decide +kernel
theorem dX10_draw_28 : decode mX10_draw.2.1 28 = .ok (.goto 4, 3) := by decide +kernel
theorem dX10_draw_31 : decode mX10_draw.2.1 31 = .ok (.iconst 0, 1) := by decide +kernel
theorem dX10_draw_32 : decode mX10_draw.2.1 32 = .ok (.ireturn, 1) := by decide +kernel
set_option maxRecDepth 4000 in
theorem ev_X10_draw {m : Mem} {w : Nat} {d : Nat} {st : Nat} {n : Int} (hw : isWd w d st) (hn : InR n) : Ev 0 1 mX10_draw [vr w, vi n] m (fun r m' => m' = drw m w ∧ (0 < n → r = drv m w n)) := by
  refine Ev.of (L := [vr w, vi n]) (by decide +kernel) rfl (Nat.le_of_ble_eq_true rfl) rfl (fun t ht => by cases ht; first | exact Or.inl rfl | exact Or.inr (Or.inl rfl) | exact Or.inr (Or.inr rfl)) (fun hcan => ?_)
  refine go_aload_n dX10_draw_0 rfl ?_
  refine go_aload_n dX10_draw_1 rfl ?_
  refine go_getf_i (ki := 3) dX10_draw_2 fl_10_25 hw.o rfl rfl (fun hf_2 => ?_)
  refine go_ldc (x := 1103515245) dX10_draw_5 k_10_180 ?_
  refine go_imul dX10_draw_7 ?_
  refine go_sipush dX10_draw_8 (by decide) ?_
  refine go_iadd dX10_draw_11 ?_
  refine go_wrap ?_
  refine go_putf_i (ki := 3) dX10_draw_12 fw_10_25 hw.o rfl rfl (w32_R _) ?_
  refine go_iload_n dX10_draw_15 rfl ?_
  refine go_if_le (tgt := 31) dX10_draw_16 (by decide) ⟨by omega, by omega⟩ (fun h_16 => ?_) (fun h_16 => ?_)
  · refine go_iconst dX10_draw_31 ?_
    exact go_ret (v := 0) rfl dX10_draw_32 (okI (by first | exact ⟨by omega, by omega⟩ | (have h1 := Int.emod_nonneg (iushr (w32 (m w 3 * 1103515245 + 12345)) 8) (show n ≠ 0 by omega); have h2 := Int.emod_lt_of_pos (iushr (w32 (m w 3 * 1103515245 + 12345)) 8) (show 0 < n by omega); exact ⟨by omega, by omega⟩))) ⟨rfl, fun h => by first | rfl | omega⟩
  · refine go_aload_n dX10_draw_19 rfl ?_
    refine go_getf_i (ki := 3) dX10_draw_20 fl_10_25 hw.o rfl rfl (fun hf_20 => ?_)
    rw [show ((wr m w 3 (w32 (((m w 3) * 1103515245) + 12345))) w 3 : Int) = (w32 (((m w 3) * 1103515245) + 12345)) from by rw [wr_self]] at hf_20 ⊢
    refine go_bipush dX10_draw_23 (by decide) ?_
    refine go_iushr dX10_draw_25 ?_
    refine go_iload_n dX10_draw_26 rfl ?_
    refine go_irem dX10_draw_27 (iushr_R _ _) ⟨by omega, by omega⟩ (iushr8_b _).1 (by omega) ?_
    refine go_goto (tgt := 32) dX10_draw_28 (by decide) ?_
    exact go_ret (v := ((iushr (w32 (((m w 3) * 1103515245) + 12345)) 8) % n)) rfl dX10_draw_32 (okI (by first | exact ⟨by omega, by omega⟩ | (have h1 := Int.emod_nonneg (iushr (w32 (m w 3 * 1103515245 + 12345)) 8) (show n ≠ 0 by omega); have h2 := Int.emod_lt_of_pos (iushr (w32 (m w 3 * 1103515245 + 12345)) 8) (show 0 < n by omega); exact ⟨by omega, by omega⟩))) ⟨rfl, fun h => by first | rfl | omega⟩
theorem dX10_drawAct_0 : decode mX10_drawAct.2.1 0 = .ok (.aload_n 0, 1) := by decide +kernel
theorem dX10_drawAct_1 : decode mX10_drawAct.2.1 1 = .ok (.bipush 8, 2) := by decide +kernel
theorem dX10_drawAct_3 : decode mX10_drawAct.2.1 3 = .ok (.invokevirtual 168, 3) := by decide +kernel
theorem dX10_drawAct_6 : decode mX10_drawAct.2.1 6 = .ok (.istore_n 2, 1) := by decide +kernel
theorem dX10_drawAct_7 : decode mX10_drawAct.2.1 7 = .ok (.iload_n 2, 1) := by decide +kernel
theorem dX10_drawAct_8 : decode mX10_drawAct.2.1 8 = .ok (.iconst 4, 1) := by decide +kernel
theorem dX10_drawAct_9 : decode mX10_drawAct.2.1 9 = .ok (.if_icmp .ge 34, 3) := by decide +kernel
theorem dX10_drawAct_12 : decode mX10_drawAct.2.1 12 = .ok (.aload_n 0, 1) := by decide +kernel
theorem dX10_drawAct_13 : decode mX10_drawAct.2.1 13 = .ok (.getfield 29, 3) := by decide +kernel
theorem dX10_drawAct_16 : decode mX10_drawAct.2.1 16 = .ok (.getfield 50, 3) := by decide +kernel
theorem dX10_drawAct_19 : decode mX10_drawAct.2.1 19 = .ok (.ifCond .le 56, 3) := by decide +kernel
theorem dX10_drawAct_22 : decode mX10_drawAct.2.1 22 = .ok (.aload_n 0, 1) := by decide +kernel
theorem dX10_drawAct_23 : decode mX10_drawAct.2.1 23 = .ok (.iload_n 1, 1) := by decide +kernel
theorem dX10_drawAct_24 : decode mX10_drawAct.2.1 24 = .ok (.aload_n 0, 1) := by decide +kernel
theorem dX10_drawAct_25 : decode mX10_drawAct.2.1 25 = .ok (.aload_n 0, 1) := by decide +kernel
theorem dX10_drawAct_26 : decode mX10_drawAct.2.1 26 = .ok (.getfield 29, 3) := by decide +kernel
theorem dX10_drawAct_29 : decode mX10_drawAct.2.1 29 = .ok (.getfield 50, 3) := by decide +kernel
theorem dX10_drawAct_32 : decode mX10_drawAct.2.1 32 = .ok (.invokevirtual 168, 3) := by decide +kernel
theorem dX10_drawAct_35 : decode mX10_drawAct.2.1 35 = .ok (.iload_n 2, 1) := by decide +kernel
theorem dX10_drawAct_36 : decode mX10_drawAct.2.1 36 = .ok (.invokevirtual 171, 3) := by decide +kernel
theorem dX10_drawAct_39 : decode mX10_drawAct.2.1 39 = .ok (.pop, 1) := by decide +kernel
theorem dX10_drawAct_40 : decode mX10_drawAct.2.1 40 = .ok (.goto 35, 3) := by decide +kernel
theorem dX10_drawAct_43 : decode mX10_drawAct.2.1 43 = .ok (.iload_n 2, 1) := by decide +kernel
theorem dX10_drawAct_44 : decode mX10_drawAct.2.1 44 = .ok (.bipush 6, 2) := by decide +kernel
theorem dX10_drawAct_46 : decode mX10_drawAct.2.1 46 = .ok (.if_icmp .ge 17, 3) := by decide +kernel
theorem dX10_drawAct_49 : decode mX10_drawAct.2.1 49 = .ok (.aload_n 0, 1) := by decide +kernel
theorem dX10_drawAct_50 : decode mX10_drawAct.2.1 50 = .ok (.iload_n 1, 1) := by decide +kernel
theorem dX10_drawAct_51 : decode mX10_drawAct.2.1 51 = .ok (.aload_n 0, 1) := by decide +kernel
theorem dX10_drawAct_52 : decode mX10_drawAct.2.1 52 = .ok (.iconst 4, 1) := by decide +kernel
theorem dX10_drawAct_53 : decode mX10_drawAct.2.1 53 = .ok (.invokevirtual 168, 3) := by decide +kernel
theorem dX10_drawAct_56 : decode mX10_drawAct.2.1 56 = .ok (.invokevirtual 174, 3) := by decide +kernel
theorem dX10_drawAct_59 : decode mX10_drawAct.2.1 59 = .ok (.pop, 1) := by decide +kernel
theorem dX10_drawAct_60 : decode mX10_drawAct.2.1 60 = .ok (.goto 15, 3) := by decide +kernel
theorem dX10_drawAct_63 : decode mX10_drawAct.2.1 63 = .ok (.iload_n 2, 1) := by decide +kernel
theorem dX10_drawAct_64 : decode mX10_drawAct.2.1 64 = .ok (.bipush 6, 2) := by decide +kernel
theorem dX10_drawAct_66 : decode mX10_drawAct.2.1 66 = .ok (.if_icmp .ne 9, 3) := by decide +kernel
theorem dX10_drawAct_69 : decode mX10_drawAct.2.1 69 = .ok (.aload_n 0, 1) := by decide +kernel
theorem dX10_drawAct_70 : decode mX10_drawAct.2.1 70 = .ok (.iload_n 1, 1) := by decide +kernel
theorem dX10_drawAct_71 : decode mX10_drawAct.2.1 71 = .ok (.invokevirtual 177, 3) := by decide +kernel
theorem dX10_drawAct_74 : decode mX10_drawAct.2.1 74 = .ok (.pop, 1) := by decide +kernel
theorem dX10_drawAct_75 : decode mX10_drawAct.2.1 75 = .ok (.return_, 1) := by decide +kernel
set_option maxRecDepth 4000 in
theorem ev_X10_drawAct {m : Mem} {w : Nat} {d : Nat} {st : Nat} {p : Int} {B : Int} (hw : isWd w d st) (hdn : DnOk m d) (hst : StOk m d st B) (hp : 0 ≤ p ∧ p < m d 3) (hB : B ≤ 1900000000) : Ev 0 7 mX10_drawAct [vr w, vi p] m (fun r m' => m' = actC m w d st p) := by
  refine Ev.of (L := [vr w, vi p, un]) (by decide +kernel) rfl (Nat.le_of_ble_eq_true rfl) rfl (fun t ht => by cases ht) (fun hcan => ?_)
  obtain ⟨⟨hd0, hd1⟩, ⟨hd2, hd3⟩, ⟨hd4, hd5⟩, ⟨hd6, hd7⟩, ⟨hd8, hd9⟩, hdf, hdp, hdq⟩ := id hdn
  have hb8 := drv_b (m := m) (w := w) (n := 8) (by omega)
  refine go_aload_n dX10_drawAct_0 rfl ?_
  refine go_bipush dX10_drawAct_1 (by decide) ?_
  refine go_callV_i (as := [vi 8]) (S := []) (b := w) (ev_X10_draw (m := m) (w := w) (n := 8) (d := d) (st := st) (by first | assumption | omega | exact ⟨by omega, by omega⟩ | (constructor <;> omega)) (by first | assumption | omega | exact ⟨by omega, by omega⟩ | (constructor <;> omega))) rfl dX10_drawAct_3 cv_10_168 rfl rfl hw.o rfl (by decide) (Nat.le_of_ble_eq_true rfl) (fun r_3 m_3 hr_3 ho_3 => ?_)
  obtain ⟨hm_3, hr_3⟩ := hr_3
  have hr_3 := hr_3 (by omega)
  subst hm_3
  refine go_istore_n (L' := [vr w, vi p, vi r_3]) dX10_drawAct_6 (by decide) rfl rfl ?_
  refine go_iload_n dX10_drawAct_7 rfl ?_
  refine go_iconst dX10_drawAct_8 ?_
  refine go_icmp_ge (tgt := 43) dX10_drawAct_9 (by decide) ⟨by omega, by omega⟩ ⟨by omega, by omega⟩ (fun h_9 => ?_) (fun h_9 => ?_)
  · refine go_iload_n dX10_drawAct_43 rfl ?_
    refine go_bipush dX10_drawAct_44 (by decide) ?_
    refine go_icmp_ge (tgt := 63) dX10_drawAct_46 (by decide) ⟨by omega, by omega⟩ ⟨by omega, by omega⟩ (fun h_46 => ?_) (fun h_46 => ?_)
    · refine go_iload_n dX10_drawAct_63 rfl ?_
      refine go_bipush dX10_drawAct_64 (by decide) ?_
      refine go_icmp_ne (tgt := 75) dX10_drawAct_66 (by decide) ⟨by omega, by omega⟩ ⟨by omega, by omega⟩ (fun h_66 => ?_) (fun h_66 => ?_)
      · exact go_ret (v := 0) rfl dX10_drawAct_75 rfl (by unfold actC; rw [← hr_3]; first | (rw [hr_36.2, ← hr_32, if_pos (by omega), if_pos (by omega)]) | (rw [hr_56.2, ← hr_53, if_neg (by omega), if_pos (by omega)]) | (rw [hr_71.2, if_neg (by omega), if_neg (by omega), if_pos (by omega)]) | (rw [if_pos (by omega), if_neg (by omega)]) | (rw [if_neg (by omega), if_neg (by omega), if_neg (by omega)]))
      · refine go_aload_n dX10_drawAct_69 rfl ?_
        refine go_iload_n dX10_drawAct_70 rfl ?_
        refine go_callV_i (as := [vi p]) (S := []) (b := w) (ev_X10_restIfCan (m := (drw m w)) (w := w) (p := p) (d := d) (st := st) (by first | assumption | omega | exact ⟨by omega, by omega⟩ | (constructor <;> omega)) (by first | assumption | omega | exact ⟨by omega, by omega⟩ | (constructor <;> omega))) rfl dX10_drawAct_71 cv_10_177 rfl rfl hw.o rfl (by decide) (Nat.le_of_ble_eq_true rfl) (fun r_71 m_71 hr_71 ho_71 => ?_)
        refine go_pop_i dX10_drawAct_74 ?_
        exact go_ret (v := 0) rfl dX10_drawAct_75 rfl (by unfold actC; rw [← hr_3]; first | (rw [hr_36.2, ← hr_32, if_pos (by omega), if_pos (by omega)]) | (rw [hr_56.2, ← hr_53, if_neg (by omega), if_pos (by omega)]) | (rw [hr_71.2, if_neg (by omega), if_neg (by omega), if_pos (by omega)]) | (rw [if_pos (by omega), if_neg (by omega)]) | (rw [if_neg (by omega), if_neg (by omega), if_neg (by omega)]))
    · refine go_aload_n dX10_drawAct_49 rfl ?_
      refine go_iload_n dX10_drawAct_50 rfl ?_
      refine go_aload_n dX10_drawAct_51 rfl ?_
      refine go_iconst dX10_drawAct_52 ?_
      refine go_callV_i (as := [vi 4]) (S := [vi p, vr w]) (b := w) (ev_X10_draw (m := (drw m w)) (w := w) (n := 4) (d := d) (st := st) (by first | assumption | omega | exact ⟨by omega, by omega⟩ | (constructor <;> omega)) (by first | assumption | omega | exact ⟨by omega, by omega⟩ | (constructor <;> omega))) rfl dX10_drawAct_53 cv_10_168 rfl rfl hw.o rfl (by decide) (Nat.le_of_ble_eq_true rfl) (fun r_53 m_53 hr_53 ho_53 => ?_)
      obtain ⟨hm_53, hr_53⟩ := hr_53
      have hr_53 := hr_53 (by omega)
      subst hm_53
      have hb53 := drv_b (m := drw m w) (w := w) (n := 4) (by omega)
      refine go_callV_i (as := [vi p, vi r_53]) (S := []) (b := w) (ev_X10_kickIfCan (m := (drw (drw m w) w)) (w := w) (p := p) (s := r_53) (d := d) (st := st) (B := B) (by first | assumption | omega | exact ⟨by omega, by omega⟩ | (constructor <;> omega)) ((hdn.frw hw drw_fr).frw hw drw_fr) (drw_st hw (drw_st hw hst)) (by rw [drw_d hw, drw_d hw]; exact hp) (by first | assumption | omega | exact ⟨by omega, by omega⟩ | (constructor <;> omega)) (by first | assumption | omega | exact ⟨by omega, by omega⟩ | (constructor <;> omega))) rfl dX10_drawAct_56 cv_10_174 rfl rfl hw.o rfl (by decide) (Nat.le_of_ble_eq_true rfl) (fun r_56 m_56 hr_56 ho_56 => ?_)
      refine go_pop_i dX10_drawAct_59 ?_
      refine go_goto (tgt := 75) dX10_drawAct_60 (by decide) ?_
      exact go_ret (v := 0) rfl dX10_drawAct_75 rfl (by unfold actC; rw [← hr_3]; first | (rw [hr_36.2, ← hr_32, if_pos (by omega), if_pos (by omega)]) | (rw [hr_56.2, ← hr_53, if_neg (by omega), if_pos (by omega)]) | (rw [hr_71.2, if_neg (by omega), if_neg (by omega), if_pos (by omega)]) | (rw [if_pos (by omega), if_neg (by omega)]) | (rw [if_neg (by omega), if_neg (by omega), if_neg (by omega)]))
  · refine go_aload_n dX10_drawAct_12 rfl ?_
    refine go_getf_p (b := d) dX10_drawAct_13 fl_10_29 hw.o rfl hw.p0 ?_
    refine go_getf_i (ki := 2) dX10_drawAct_16 fl_10_50 hw.dn.o rfl rfl (fun hf_16 => ?_)
    rw [show ((drw m w) d 2 : Int) = (m d 2) from by rw [drw_d hw]] at hf_16 ⊢
    refine go_if_le (tgt := 75) dX10_drawAct_19 (by decide) ⟨by omega, by omega⟩ (fun h_19 => ?_) (fun h_19 => ?_)
    · exact go_ret (v := 0) rfl dX10_drawAct_75 rfl (by unfold actC; rw [← hr_3]; first | (rw [hr_36.2, ← hr_32, if_pos (by omega), if_pos (by omega)]) | (rw [hr_56.2, ← hr_53, if_neg (by omega), if_pos (by omega)]) | (rw [hr_71.2, if_neg (by omega), if_neg (by omega), if_pos (by omega)]) | (rw [if_pos (by omega), if_neg (by omega)]) | (rw [if_neg (by omega), if_neg (by omega), if_neg (by omega)]))
    · refine go_aload_n dX10_drawAct_22 rfl ?_
      refine go_iload_n dX10_drawAct_23 rfl ?_
      refine go_aload_n dX10_drawAct_24 rfl ?_
      refine go_aload_n dX10_drawAct_25 rfl ?_
      refine go_getf_p (b := d) dX10_drawAct_26 fl_10_29 hw.o rfl hw.p0 ?_
      refine go_getf_i (ki := 2) dX10_drawAct_29 fl_10_50 hw.dn.o rfl rfl (fun hf_29 => ?_)
      rw [show ((drw m w) d 2 : Int) = (m d 2) from by rw [drw_d hw]] at hf_29 ⊢
      refine go_callV_i (as := [vi (m d 2)]) (S := [vi p, vr w]) (b := w) (ev_X10_draw (m := (drw m w)) (w := w) (n := (m d 2)) (d := d) (st := st) (by first | assumption | omega | exact ⟨by omega, by omega⟩ | (constructor <;> omega)) (by first | assumption | omega | exact ⟨by omega, by omega⟩ | (constructor <;> omega))) rfl dX10_drawAct_32 cv_10_168 rfl rfl hw.o rfl (by decide) (Nat.le_of_ble_eq_true rfl) (fun r_32 m_32 hr_32 ho_32 => ?_)
      obtain ⟨hm_32, hr_32⟩ := hr_32
      have hr_32 := hr_32 (by omega)
      subst hm_32
      have hb32 := drv_b (m := drw m w) (w := w) (n := m d 2) (by omega)
      refine go_iload_n dX10_drawAct_35 rfl ?_
      refine go_callV_i (as := [vi p, vi r_32, vi r_3]) (S := []) (b := w) (ev_X10_sayIfCan (m := (drw (drw m w) w)) (w := w) (p := p) (f := r_32) (s := r_3) (d := d) (st := st) (B := B) (by first | assumption | omega | exact ⟨by omega, by omega⟩ | (constructor <;> omega)) ((hdn.frw hw drw_fr).frw hw drw_fr) (drw_st hw (drw_st hw hst)) (by rw [drw_d hw, drw_d hw]; exact hp) (by rw [drw_d hw, drw_d hw]; omega) (by first | assumption | omega | exact ⟨by omega, by omega⟩ | (constructor <;> omega)) (by first | assumption | omega | exact ⟨by omega, by omega⟩ | (constructor <;> omega))) rfl dX10_drawAct_36 cv_10_171 rfl rfl hw.o rfl (by decide) (Nat.le_of_ble_eq_true rfl) (fun r_36 m_36 hr_36 ho_36 => ?_)
      refine go_pop_i dX10_drawAct_39 ?_
      refine go_goto (tgt := 75) dX10_drawAct_40 (by decide) ?_
      exact go_ret (v := 0) rfl dX10_drawAct_75 rfl (by unfold actC; rw [← hr_3]; first | (rw [hr_36.2, ← hr_32, if_pos (by omega), if_pos (by omega)]) | (rw [hr_56.2, ← hr_53, if_neg (by omega), if_pos (by omega)]) | (rw [hr_71.2, if_neg (by omega), if_neg (by omega), if_pos (by omega)]) | (rw [if_pos (by omega), if_neg (by omega)]) | (rw [if_neg (by omega), if_neg (by omega), if_neg (by omega)]))
theorem dX10_drawHours_0 : decode mX10_drawHours.2.1 0 = .ok (.aload_n 0, 1) := by decide +kernel
theorem dX10_drawHours_1 : decode mX10_drawHours.2.1 1 = .ok (.iload_n 2, 1) := by decide +kernel
theorem dX10_drawHours_2 : decode mX10_drawHours.2.1 2 = .ok (.putfield 25, 3) := by decide +kernel
theorem dX10_drawHours_5 : decode mX10_drawHours.2.1 5 = .ok (.iconst 0, 1) := by decide +kernel
theorem dX10_drawHours_6 : decode mX10_drawHours.2.1 6 = .ok (.istore_n 3, 1) := by decide +kernel
theorem dX10_drawHours_7 : decode mX10_drawHours.2.1 7 = .ok (.iload_n 3, 1) := by decide +kernel
theorem dX10_drawHours_8 : decode mX10_drawHours.2.1 8 = .ok (.iload_n 1, 1) := by decide +kernel
theorem dX10_drawHours_9 : decode mX10_drawHours.2.1 9 = .ok (.if_icmp .ge 41, 3) := by decide +kernel
theorem dX10_drawHours_12 : decode mX10_drawHours.2.1 12 = .ok (.iconst 0, 1) := by decide +kernel
theorem dX10_drawHours_13 : decode mX10_drawHours.2.1 13 = .ok (.istore 4, 2) := by decide +kernel
theorem dX10_drawHours_15 : decode mX10_drawHours.2.1 15 = .ok (.iload 4, 2) := by decide +kernel
theorem dX10_drawHours_17 : decode mX10_drawHours.2.1 17 = .ok (.aload_n 0, 1) := by decide +kernel
theorem dX10_drawHours_18 : decode mX10_drawHours.2.1 18 = .ok (.getfield 29, 3) := by decide +kernel
theorem dX10_drawHours_21 : decode mX10_drawHours.2.1 21 = .ok (.getfield 53, 3) := by decide +kernel
theorem dX10_drawHours_24 : decode mX10_drawHours.2.1 24 = .ok (.if_icmp .ge 15, 3) := by decide +kernel
theorem dX10_drawHours_27 : decode mX10_drawHours.2.1 27 = .ok (.aload_n 0, 1) := by decide +kernel
theorem dX10_drawHours_28 : decode mX10_drawHours.2.1 28 = .ok (.iload 4, 2) := by decide +kernel
theorem dX10_drawHours_30 : decode mX10_drawHours.2.1 30 = .ok (.invokevirtual 162, 3) := by decide +kernel
theorem dX10_drawHours_33 : decode mX10_drawHours.2.1 33 = .ok (.iinc 4 1, 3) := by decide +kernel
theorem dX10_drawHours_36 : decode mX10_drawHours.2.1 36 = .ok (.goto (-21), 3) := by decide +kernel
theorem dX10_drawHours_39 : decode mX10_drawHours.2.1 39 = .ok (.aload_n 0, 1) := by decide +kernel
theorem dX10_drawHours_40 : decode mX10_drawHours.2.1 40 = .ok (.iconst 1, 1) := by decide +kernel
theorem dX10_drawHours_41 : decode mX10_drawHours.2.1 41 = .ok (.invokevirtual 165, 3) := by decide +kernel
theorem dX10_drawHours_44 : decode mX10_drawHours.2.1 44 = .ok (.iinc 3 1, 3) := by decide +kernel
theorem dX10_drawHours_47 : decode mX10_drawHours.2.1 47 = .ok (.goto (-40), 3) := by decide +kernel
theorem dX10_drawHours_50 : decode mX10_drawHours.2.1 50 = .ok (.return_, 1) := by decide +kernel
set_option maxRecDepth 4000 in
theorem ev_X10_drawHours {m : Mem} {w : Nat} {d : Nat} {st : Nat} {n : Int} {seed : Int} {B : Int} (hw : isWd w d st) (hdn : DnOk m d) (hst : StOk m d st B) (hn : 0 ≤ n ∧ m st 0 + n ≤ 400) (hse : InR seed) (hB : B ≤ 1800000000) : Ev 0 8 mX10_drawHours [vr w, vi n, vi seed] m (fun r m' => m' = hoursC (wr m w 3 seed) w d st n.toNat) := by
  refine Ev.of (L := [vr w, vi n, vi seed, un, un]) (by decide +kernel) rfl (Nat.le_of_ble_eq_true rfl) rfl (fun t ht => by cases ht) (fun hcan => ?_)
  obtain ⟨⟨hd0, hd1⟩, ⟨hd2, hd3⟩, ⟨hd4, hd5⟩, ⟨hd6, hd7⟩, ⟨hd8, hd9⟩, hdf, hdp, hdq⟩ := id hdn
  have hsw := hw.sw
  have hsep := hw.sep
  have hs00 := hst.1
  have hdn0 : DnOk (wr m w 3 seed) d := hdn.congr (fun k hk => wr_row (by omega))
  have hst0 : StOk (wr m w 3 seed) d st B := hst.congr (wr_row (by omega)) (wr_row (by omega)) (fun k hk => wr_row (by omega))
  have ed0 : (wr m w 3 seed) d = m d := wr_row (by omega)
  have es0 : (wr m w 3 seed) st = m st := wr_row (by omega)
  refine go_aload_n dX10_drawHours_0 rfl ?_
  refine go_iload_n dX10_drawHours_1 rfl ?_
  refine go_putf_i (ki := 3) dX10_drawHours_2 fw_10_25 hw.o rfl rfl ⟨by omega, by omega⟩ ?_
  refine go_iconst dX10_drawHours_5 ?_
  refine go_istore_n (L' := [vr w, vi n, vi seed, vi 0, un]) dX10_drawHours_6 (by decide) rfl rfl ?_
  refine go_drop (j := 2) (L' := [vr w, vi n, un, vi 0, un]) rfl ?_
  have lp_7 : ∀ (n_7 : Nat) (m1 : Mem) (k : Int), (0 ≤ k) → (k ≤ n) → (m1 = hoursC (wr m w 3 seed) w d st k.toNat) → (n - k).toNat < n_7 → Go 0 8 mX10_drawHours (fun r m' => m' = hoursC (wr m w 3 seed) w d st n.toNat) 7 [vr w, vi n, un, vi k, un] [] m1 := by
    intro n_7
    induction n_7 with
    | zero => intro m1 k hk0 hk1 hm hmu; exact absurd hmu (Nat.not_lt_zero _)
    | succ n_7 ih_7 =>
      intro m1 k hk0 hk1 hm hmu
      have hf1 := hoursC_fr (m := (wr m w 3 seed)) (w := w) (d := d) (st := st) k.toNat
      rw [← hm] at hf1
      have hs1 := hoursC_st hw hdn0 hst0 k.toNat (by rw [es0]; omega)
      rw [← hm, es0] at hs1
      have hdn1 := hdn0.frw hw hf1
      have ed1 : m1 d = m d := (hf1 d (by omega) (by omega)).trans ed0
      refine go_iload_n dX10_drawHours_7 rfl ?_
      refine go_iload_n dX10_drawHours_8 rfl ?_
      refine go_icmp_ge (tgt := 50) dX10_drawHours_9 (by decide) ⟨by omega, by omega⟩ ⟨by omega, by omega⟩ (fun h_9 => ?_) (fun h_9 => ?_)
      · exact go_ret (v := 0) rfl dX10_drawHours_50 rfl (by rw [hm, show k = n by omega])
      · refine go_iconst dX10_drawHours_12 ?_
        refine go_istore (L' := [vr w, vi n, un, vi k, vi 0]) dX10_drawHours_13 (by decide) rfl rfl ?_
        have lp_15 : ∀ (n_15 : Nat) (m2 : Mem) (q : Int), (0 ≤ q) → (q ≤ m d 3) → (m2 = actsC m1 w d st q.toNat) → (m d 3 - q).toNat < n_15 → Go 0 8 mX10_drawHours (fun r m' => m' = hoursC (wr m w 3 seed) w d st n.toNat) 15 [vr w, vi n, un, vi k, vi q] [] m2 := by
          intro n_15
          induction n_15 with
          | zero => intro m2 q hq0 hq1 hm2 hmu; exact absurd hmu (Nat.not_lt_zero _)
          | succ n_15 ih_15 =>
            intro m2 q hq0 hq1 hm2 hmu
            have hf2 := actsC_fr (m := m1) (w := w) (d := d) (st := st) q.toNat
            rw [← hm2] at hf2
            have hs2 := actsC_st hw hdn1 hs1.1 q.toNat (by rw [ed1]; omega)
            rw [← hm2] at hs2
            have hdn2 := hdn1.frw hw hf2
            have ed2 : m2 d = m d := (hf2 d (by omega) (by omega)).trans ed1
            refine go_iload dX10_drawHours_15 rfl ?_
            refine go_aload_n dX10_drawHours_17 rfl ?_
            refine go_getf_p (b := d) dX10_drawHours_18 fl_10_29 hw.o rfl hw.p0 ?_
            refine go_getf_i (ki := 3) dX10_drawHours_21 fl_10_53 hw.dn.o rfl rfl (fun hf_21 => ?_)
            rw [show (m2 d 3 : Int) = (m d 3) from by rw [ed2]] at hf_21 ⊢
            refine go_icmp_ge (tgt := 39) dX10_drawHours_24 (by decide) ⟨by omega, by omega⟩ ⟨by omega, by omega⟩ (fun h_24 => ?_) (fun h_24 => ?_)
            · refine go_aload_n dX10_drawHours_39 rfl ?_
              refine go_iconst dX10_drawHours_40 ?_
              refine go_callV_v (as := [vi 1]) (S := []) (b := w) (ev_X10_passHours (m := m2) (w := w) (n := 1) (d := d) (st := st) (B := (B + 5 * (k.toNat : Int) + (q.toNat : Int))) (by first | assumption | omega | exact ⟨by omega, by omega⟩ | (constructor <;> omega)) hdn2 hs2 (by first | assumption | omega | exact ⟨by omega, by omega⟩ | (constructor <;> omega))) rfl dX10_drawHours_41 cv_10_165 rfl rfl hw.o rfl (by decide) (Nat.le_of_ble_eq_true rfl) (fun m_41 hr_41 => ?_)
              refine go_iinc (L' := [vr w, vi n, un, vi (k + 1), vi q]) dX10_drawHours_44 rfl (by decide) rfl rfl ?_
              refine go_goto (tgt := 7) dX10_drawHours_47 (by decide) ?_
              refine go_drop (j := 4) (L' := [vr w, vi n, un, vi (k + 1), un]) rfl ?_
              exact ih_7 m_41 (k + 1) (by first | assumption | omega | rfl) (by first | assumption | omega | rfl) (by rw [hr_41, hm2, hm, show (k + 1).toNat = k.toNat + 1 by omega]; show _ = passC (actsC _ w d st ((wr m w 3 seed) d 3).toNat) d st 1; rw [ed0, show q = m d 3 by omega]) (by omega)
            · refine go_aload_n dX10_drawHours_27 rfl ?_
              refine go_iload dX10_drawHours_28 rfl ?_
              refine go_callV_v (as := [vi q]) (S := []) (b := w) (ev_X10_drawAct (m := m2) (w := w) (p := q) (d := d) (st := st) (B := (B + 5 * (k.toNat : Int) + (q.toNat : Int))) (by first | assumption | omega | exact ⟨by omega, by omega⟩ | (constructor <;> omega)) hdn2 hs2 (by rw [ed2]; omega) (by first | assumption | omega | exact ⟨by omega, by omega⟩ | (constructor <;> omega))) rfl dX10_drawHours_30 cv_10_162 rfl rfl hw.o rfl (by decide) (Nat.le_of_ble_eq_true rfl) (fun m_30 hr_30 => ?_)
              refine go_iinc (L' := [vr w, vi n, un, vi k, vi (q + 1)]) dX10_drawHours_33 rfl (by decide) rfl rfl ?_
              refine go_goto (tgt := 15) dX10_drawHours_36 (by decide) ?_
              exact ih_15 m_30 (q + 1) (by first | assumption | omega | rfl) (by first | assumption | omega | rfl) (by rw [hr_30, hm2, show (q + 1).toNat = q.toNat + 1 by omega]; show _ = actC _ w d st (q.toNat : Int); rw [Int.toNat_of_nonneg hq0]) (by omega)
        exact lp_15 _ m1 0 (by first | assumption | omega | rfl) (by first | assumption | omega | rfl) rfl (Nat.lt_succ_self _)
  exact lp_7 _ (wr m w 3 seed) 0 (by first | assumption | omega | rfl) (by first | assumption | omega | rfl) rfl (Nat.lt_succ_self _)
