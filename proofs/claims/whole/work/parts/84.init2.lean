/-! ===== the constructors of the class and of the reference ===== -/
theorem wr0 {m : Mem} {a : Nat} {i : Int} (h : m a i = 0) : wr m a i 0 = m := by have := wr_id (m := m) (a := a) (i := i); rw [h] at this; exact this
set_option maxRecDepth 4000 in
theorem evc_startSo {π : Nat → Nat → Nat} {m : Mem} (hp : π 214 14 = 216 + 1) (hz : ∀ j : Int, 2 ≤ j → m 216 j = 0) : EvC 0 1 mX12_startSo [vr 214] (235, π, m) (fun _ w' => w' = (235, π, m)) := by
  refine EvC.of (L := [vr 214, un]) (by decide +kernel) (Nat.le_of_ble_eq_true rfl) rfl (fun t ht => by cases ht) (fun t ht => by cases ht) (fun hcan => ?_)
  have l3 : Gc 0 1 mX12_startSo (fun _ w' => w' = (235, π, m)) 56 [vr 214, vi 81] [] (235, π, m) := by
    refine gc_iconst dX12_startSo_56 ?_
    refine gc_istore_n (L' := [vr 214, vi 0]) dX12_startSo_57 (by decide) rfl rfl ?_
    refine gc_iload_n dX12_startSo_58 rfl ?_
    refine gc_aload_n dX12_startSo_59 rfl ?_
    refine gc_getP (b := 216) dX12_startSo_60 fl_12_98 ob_214 (show 214 < 235 by decide) rfl hp ?_
    refine gc_iconst dX12_startSo_63 ?_
    refine gc_iaload dX12_startSo_64 ar_216 (show 216 < 235 by decide) (by decide) (by decide) (fun _ => ?_)
    rw [show ((235, π, m) : CW).2.2 216 3 = 0 from hz 3 (by decide)]
    refine gc_icmp_ge (tgt := 135) dX12_startSo_65 (by decide) ⟨by omega, by omega⟩ ⟨by omega, by omega⟩ (fun _ => ?_) (fun h => by omega)
    exact gc_ret (v := 0) rfl dX12_startSo_135 rfl rfl
  have l2 : ∀ (f i : Nat), i + f = 81 → Gc 0 1 mX12_startSo (fun _ w' => w' = (235, π, m)) 25 [vr 214, vi (i : Int)] [] (235, π, m) := by
    intro f
    induction f with
    | zero =>
      intro i hi
      have hi : i = 81 := by omega
      subst hi
      refine gc_iload_n dX12_startSo_25 rfl ?_
      refine gc_bipush dX12_startSo_26 (by decide) ?_
      refine gc_icmp_ge (tgt := 56) dX12_startSo_28 (by decide) ⟨by omega, by omega⟩ ⟨by omega, by omega⟩ (fun _ => ?_) (fun h => by omega)
      exact l3
    | succ f ih =>
      intro i hi
      refine gc_iload_n dX12_startSo_25 rfl ?_
      refine gc_bipush dX12_startSo_26 (by decide) ?_
      refine gc_icmp_ge (tgt := 56) dX12_startSo_28 (by decide) ⟨by omega, by omega⟩ ⟨by omega, by omega⟩ (fun h => by omega) (fun _ => ?_)
      refine gc_aload_n dX12_startSo_31 rfl ?_
      refine gc_getP (b := 216) dX12_startSo_32 fl_12_98 ob_214 (show 214 < 235 by decide) rfl hp ?_
      refine gc_sipush dX12_startSo_35 (by decide) ?_
      refine gc_iload_n dX12_startSo_38 rfl ?_
      refine gc_iadd dX12_startSo_39 ?_
      refine gc_aload_n dX12_startSo_40 rfl ?_
      refine gc_getP (b := 216) dX12_startSo_41 fl_12_98 ob_214 (show 214 < 235 by decide) rfl hp ?_
      refine gc_bipush dX12_startSo_44 (by decide) ?_
      refine gc_iload_n dX12_startSo_46 rfl ?_
      refine gc_iadd dX12_startSo_47 ?_
      refine gc_iaload dX12_startSo_48 ar_216 (show 216 < 235 by decide) (by omega) (by omega) (fun _ => ?_)
      rw [show ((235, π, m) : CW).2.2 216 (42 + (i : Int)) = 0 from hz _ (by omega)]
      refine gc_iastore dX12_startSo_49 ar_216 (show 216 < 235 by decide) (by omega) (by omega) ⟨by omega, by omega⟩ ?_
      rw [show (((235, π, m) : CW).1, ((235, π, m) : CW).2.1, wr ((235, π, m) : CW).2.2 216 (151 + (i : Int)) 0) = (235, π, m) by rw [wr0 (hz _ (by omega))]]
      refine gc_iinc (L' := [vr 214, vi ((i + 1 : Nat) : Int)]) dX12_startSo_50 rfl (by decide) rfl rfl ?_
      refine gc_goto (tgt := 25) dX12_startSo_53 (by decide) ?_
      exact ih (i + 1) (by omega)
  have l1 : ∀ (f i : Nat), i + f = 474 → 123 ≤ i → Gc 0 1 mX12_startSo (fun _ w' => w' = (235, π, m)) 3 [vr 214, vi (i : Int)] [] (235, π, m) := by
    intro f
    induction f with
    | zero =>
      intro i hi h1
      have hi : i = 474 := by omega
      subst hi
      refine gc_iload_n dX12_startSo_3 rfl ?_
      refine gc_sipush dX12_startSo_4 (by decide) ?_
      refine gc_icmp_ge (tgt := 23) dX12_startSo_7 (by decide) ⟨by omega, by omega⟩ ⟨by omega, by omega⟩ (fun _ => ?_) (fun h => by omega)
      refine gc_iconst dX12_startSo_23 ?_
      refine gc_istore_n (L' := [vr 214, vi ((0 : Nat) : Int)]) dX12_startSo_24 (by decide) rfl rfl ?_
      exact l2 81 0 (by omega)
    | succ f ih =>
      intro i hi h1
      refine gc_iload_n dX12_startSo_3 rfl ?_
      refine gc_sipush dX12_startSo_4 (by decide) ?_
      refine gc_icmp_ge (tgt := 23) dX12_startSo_7 (by decide) ⟨by omega, by omega⟩ ⟨by omega, by omega⟩ (fun h => by omega) (fun _ => ?_)
      refine gc_aload_n dX12_startSo_10 rfl ?_
      refine gc_getP (b := 216) dX12_startSo_11 fl_12_98 ob_214 (show 214 < 235 by decide) rfl hp ?_
      refine gc_iload_n dX12_startSo_14 rfl ?_
      refine gc_iconst dX12_startSo_15 ?_
      refine gc_iastore dX12_startSo_16 ar_216 (show 216 < 235 by decide) (by omega) (by omega) ⟨by omega, by omega⟩ ?_
      rw [show (((235, π, m) : CW).1, ((235, π, m) : CW).2.1, wr ((235, π, m) : CW).2.2 216 (i : Int) 0) = (235, π, m) by rw [wr0 (hz _ (by omega))]]
      refine gc_iinc (L' := [vr 214, vi ((i + 1 : Nat) : Int)]) dX12_startSo_17 rfl (by decide) rfl rfl ?_
      refine gc_goto (tgt := 3) dX12_startSo_20 (by decide) ?_
      exact ih (i + 1) (by omega) (by omega)
  refine gc_bipush dX12_startSo_0 (by decide) ?_
  refine gc_istore_n (L' := [vr 214, vi ((123 : Nat) : Int)]) dX12_startSo_2 (by decide) rfl rfl ?_
  exact l1 351 123 (by omega) (by omega)
theorem dX12_init_0 : decode mX12_init.2.1 0 = .ok (.aload_n 0, 1) := by decide +kernel
theorem dX12_init_1 : decode mX12_init.2.1 1 = .ok (.invokespecial 93, 3) := by decide +kernel
theorem dX12_init_4 : decode mX12_init.2.1 4 = .ok (.aload_n 0, 1) := by decide +kernel
theorem dX12_init_5 : decode mX12_init.2.1 5 = .ok (.sipush 940, 3) := by decide +kernel
theorem dX12_init_8 : decode mX12_init.2.1 8 = .ok (.newarray .int, 2) := by decide +kernel
theorem dX12_init_10 : decode mX12_init.2.1 10 = .ok (.putfield 7, 3) := by decide +kernel
theorem dX12_init_13 : decode mX12_init.2.1 13 = .ok (.aload_n 0, 1) := by decide +kernel
theorem dX12_init_14 : decode mX12_init.2.1 14 = .ok (.sipush 474, 3) := by decide +kernel
theorem dX12_init_17 : decode mX12_init.2.1 17 = .ok (.newarray .int, 2) := by decide +kernel
theorem dX12_init_19 : decode mX12_init.2.1 19 = .ok (.putfield 98, 3) := by decide +kernel
theorem dX12_init_22 : decode mX12_init.2.1 22 = .ok (.aload_n 0, 1) := by decide +kernel
theorem dX12_init_23 : decode mX12_init.2.1 23 = .ok (.bipush 123, 2) := by decide +kernel
theorem dX12_init_25 : decode mX12_init.2.1 25 = .ok (.newarray .int, 2) := by decide +kernel
theorem dX12_init_27 : decode mX12_init.2.1 27 = .ok (.putfield 101, 3) := by decide +kernel
theorem dX12_init_30 : decode mX12_init.2.1 30 = .ok (.aload_n 0, 1) := by decide +kernel
theorem dX12_init_31 : decode mX12_init.2.1 31 = .ok (.sipush 948, 3) := by decide +kernel
theorem dX12_init_34 : decode mX12_init.2.1 34 = .ok (.newarray .int, 2) := by decide +kernel
theorem dX12_init_36 : decode mX12_init.2.1 36 = .ok (.putfield 104, 3) := by decide +kernel
theorem dX12_init_39 : decode mX12_init.2.1 39 = .ok (.aload_n 0, 1) := by decide +kernel
theorem dX12_init_40 : decode mX12_init.2.1 40 = .ok (.sipush 872, 3) := by decide +kernel
theorem dX12_init_43 : decode mX12_init.2.1 43 = .ok (.newarray .int, 2) := by decide +kernel
theorem dX12_init_45 : decode mX12_init.2.1 45 = .ok (.putfield 107, 3) := by decide +kernel
theorem dX12_init_48 : decode mX12_init.2.1 48 = .ok (.aload_n 0, 1) := by decide +kernel
theorem dX12_init_49 : decode mX12_init.2.1 49 = .ok (.bipush 109, 2) := by decide +kernel
theorem dX12_init_51 : decode mX12_init.2.1 51 = .ok (.newarray .int, 2) := by decide +kernel
theorem dX12_init_53 : decode mX12_init.2.1 53 = .ok (.putfield 110, 3) := by decide +kernel
theorem dX12_init_56 : decode mX12_init.2.1 56 = .ok (.aload_n 0, 1) := by decide +kernel
theorem dX12_init_57 : decode mX12_init.2.1 57 = .ok (.bipush 16, 2) := by decide +kernel
theorem dX12_init_59 : decode mX12_init.2.1 59 = .ok (.newarray .long, 2) := by decide +kernel
theorem dX12_init_61 : decode mX12_init.2.1 61 = .ok (.putfield 113, 3) := by decide +kernel
theorem dX12_init_64 : decode mX12_init.2.1 64 = .ok (.aload_n 0, 1) := by decide +kernel
theorem dX12_init_65 : decode mX12_init.2.1 65 = .ok (.bipush 16, 2) := by decide +kernel
theorem dX12_init_67 : decode mX12_init.2.1 67 = .ok (.newarray .long, 2) := by decide +kernel
theorem dX12_init_69 : decode mX12_init.2.1 69 = .ok (.putfield 117, 3) := by decide +kernel
theorem dX12_init_72 : decode mX12_init.2.1 72 = .ok (.aload_n 0, 1) := by decide +kernel
theorem dX12_init_73 : decode mX12_init.2.1 73 = .ok (.bipush 32, 2) := by decide +kernel
theorem dX12_init_75 : decode mX12_init.2.1 75 = .ok (.newarray .long, 2) := by decide +kernel
theorem dX12_init_77 : decode mX12_init.2.1 77 = .ok (.putfield 120, 3) := by decide +kernel
theorem dX12_init_80 : decode mX12_init.2.1 80 = .ok (.aload_n 0, 1) := by decide +kernel
theorem dX12_init_81 : decode mX12_init.2.1 81 = .ok (.iconst 2, 1) := by decide +kernel
theorem dX12_init_82 : decode mX12_init.2.1 82 = .ok (.newarray .boolean, 2) := by decide +kernel
theorem dX12_init_84 : decode mX12_init.2.1 84 = .ok (.putfield 123, 3) := by decide +kernel
theorem dX12_init_87 : decode mX12_init.2.1 87 = .ok (.aload_n 0, 1) := by decide +kernel
theorem dX12_init_88 : decode mX12_init.2.1 88 = .ok (.sipush 324, 3) := by decide +kernel
theorem dX12_init_91 : decode mX12_init.2.1 91 = .ok (.newarray .int, 2) := by decide +kernel
theorem dX12_init_93 : decode mX12_init.2.1 93 = .ok (.putfield 127, 3) := by decide +kernel
theorem dX12_init_96 : decode mX12_init.2.1 96 = .ok (.aload_n 0, 1) := by decide +kernel
theorem dX12_init_97 : decode mX12_init.2.1 97 = .ok (.sipush 324, 3) := by decide +kernel
theorem dX12_init_100 : decode mX12_init.2.1 100 = .ok (.newarray .int, 2) := by decide +kernel
theorem dX12_init_102 : decode mX12_init.2.1 102 = .ok (.putfield 130, 3) := by decide +kernel
theorem dX12_init_105 : decode mX12_init.2.1 105 = .ok (.aload_n 0, 1) := by decide +kernel
theorem dX12_init_106 : decode mX12_init.2.1 106 = .ok (.sipush 324, 3) := by decide +kernel
theorem dX12_init_109 : decode mX12_init.2.1 109 = .ok (.newarray .int, 2) := by decide +kernel
theorem dX12_init_111 : decode mX12_init.2.1 111 = .ok (.putfield 133, 3) := by decide +kernel
theorem dX12_init_114 : decode mX12_init.2.1 114 = .ok (.aload_n 0, 1) := by decide +kernel
theorem dX12_init_115 : decode mX12_init.2.1 115 = .ok (.iconst 3, 1) := by decide +kernel
theorem dX12_init_116 : decode mX12_init.2.1 116 = .ok (.newarray .int, 2) := by decide +kernel
theorem dX12_init_118 : decode mX12_init.2.1 118 = .ok (.putfield 136, 3) := by decide +kernel
theorem dX12_init_121 : decode mX12_init.2.1 121 = .ok (.aload_n 0, 1) := by decide +kernel
theorem dX12_init_122 : decode mX12_init.2.1 122 = .ok (.iconst 3, 1) := by decide +kernel
theorem dX12_init_123 : decode mX12_init.2.1 123 = .ok (.newarray .int, 2) := by decide +kernel
theorem dX12_init_125 : decode mX12_init.2.1 125 = .ok (.putfield 139, 3) := by decide +kernel
theorem dX12_init_128 : decode mX12_init.2.1 128 = .ok (.aload_n 0, 1) := by decide +kernel
theorem dX12_init_129 : decode mX12_init.2.1 129 = .ok (.bipush 6, 2) := by decide +kernel
theorem dX12_init_131 : decode mX12_init.2.1 131 = .ok (.newarray .int, 2) := by decide +kernel
theorem dX12_init_133 : decode mX12_init.2.1 133 = .ok (.putfield 142, 3) := by decide +kernel
theorem dX12_init_136 : decode mX12_init.2.1 136 = .ok (.aload_n 0, 1) := by decide +kernel
theorem dX12_init_137 : decode mX12_init.2.1 137 = .ok (.iconst (-1), 1) := by decide +kernel
theorem dX12_init_138 : decode mX12_init.2.1 138 = .ok (.putfield 145, 3) := by decide +kernel
theorem dX12_init_141 : decode mX12_init.2.1 141 = .ok (.aload_n 0, 1) := by decide +kernel
theorem dX12_init_142 : decode mX12_init.2.1 142 = .ok (.bipush 64, 2) := by decide +kernel
theorem dX12_init_144 : decode mX12_init.2.1 144 = .ok (.newarray .int, 2) := by decide +kernel
theorem dX12_init_146 : decode mX12_init.2.1 146 = .ok (.putfield 148, 3) := by decide +kernel
theorem dX12_init_149 : decode mX12_init.2.1 149 = .ok (.aload_n 0, 1) := by decide +kernel
theorem dX12_init_150 : decode mX12_init.2.1 150 = .ok (.sipush 160, 3) := by decide +kernel
theorem dX12_init_153 : decode mX12_init.2.1 153 = .ok (.newarray .int, 2) := by decide +kernel
theorem dX12_init_155 : decode mX12_init.2.1 155 = .ok (.putfield 151, 3) := by decide +kernel
theorem dX12_init_158 : decode mX12_init.2.1 158 = .ok (.aload_n 0, 1) := by decide +kernel
theorem dX12_init_159 : decode mX12_init.2.1 159 = .ok (.iconst 4, 1) := by decide +kernel
theorem dX12_init_160 : decode mX12_init.2.1 160 = .ok (.newarray .int, 2) := by decide +kernel
theorem dX12_init_162 : decode mX12_init.2.1 162 = .ok (.putfield 154, 3) := by decide +kernel
theorem dX12_init_165 : decode mX12_init.2.1 165 = .ok (.aload_n 0, 1) := by decide +kernel
theorem dX12_init_166 : decode mX12_init.2.1 166 = .ok (.sipush 240, 3) := by decide +kernel
theorem dX12_init_169 : decode mX12_init.2.1 169 = .ok (.newarray .int, 2) := by decide +kernel
theorem dX12_init_171 : decode mX12_init.2.1 171 = .ok (.putfield 157, 3) := by decide +kernel
theorem dX12_init_174 : decode mX12_init.2.1 174 = .ok (.aload_n 0, 1) := by decide +kernel
theorem dX12_init_175 : decode mX12_init.2.1 175 = .ok (.getfield 98, 3) := by decide +kernel
theorem dX12_init_178 : decode mX12_init.2.1 178 = .ok (.iconst 0, 1) := by decide +kernel
theorem dX12_init_179 : decode mX12_init.2.1 179 = .ok (.bipush 6, 2) := by decide +kernel
theorem dX12_init_181 : decode mX12_init.2.1 181 = .ok (.iastore, 1) := by decide +kernel
theorem dX12_init_182 : decode mX12_init.2.1 182 = .ok (.aload_n 0, 1) := by decide +kernel
theorem dX12_init_183 : decode mX12_init.2.1 183 = .ok (.getfield 98, 3) := by decide +kernel
theorem dX12_init_186 : decode mX12_init.2.1 186 = .ok (.iconst 1, 1) := by decide +kernel
theorem dX12_init_187 : decode mX12_init.2.1 187 = .ok (.bipush 6, 2) := by decide +kernel
theorem dX12_init_189 : decode mX12_init.2.1 189 = .ok (.iastore, 1) := by decide +kernel
theorem dX12_init_190 : decode mX12_init.2.1 190 = .ok (.aload_n 0, 1) := by decide +kernel
theorem dX12_init_191 : decode mX12_init.2.1 191 = .ok (.invokevirtual 160, 3) := by decide +kernel
theorem dX12_init_194 : decode mX12_init.2.1 194 = .ok (.return_, 1) := by decide +kernel
def pMo (π : Nat → Nat → Nat) : Nat → Nat → Nat := (pw (pw (pw (pw (pw (pw (pw (pw (pw (pw (pw (pw (pw (pw (pw (pw (pw (pw (pw (pw π 214 1 (215 + 1)) 214 14 (216 + 1)) 214 15 (217 + 1)) 214 16 (218 + 1)) 214 17 (219 + 1)) 214 18 (220 + 1)) 214 19 (221 + 1)) 214 20 (222 + 1)) 214 21 (223 + 1)) 214 22 (224 + 1)) 214 26 (225 + 1)) 214 27 (226 + 1)) 214 28 (227 + 1)) 214 30 (228 + 1)) 214 32 (229 + 1)) 214 33 (230 + 1)) 214 36 (231 + 1)) 214 39 (232 + 1)) 214 40 (233 + 1)) 214 43 (234 + 1))
def mMo (m : Mem) : Mem := (wr (wr (wr m 214 35 (-1)) 216 0 6) 216 1 6)
set_option maxRecDepth 4000 in
theorem evc_X12 {π : Nat → Nat → Nat} {m : Mem}  (hz : ∀ i : Int, m 214 i = 0) : EvC 20 3 mX12_init [vr 214] (215, π, m) (fun _ w' => w' = (235, pMo π, (mMo m))) := by
  refine EvC.of (L := [vr 214]) (by decide +kernel) (Nat.le_of_ble_eq_true rfl) rfl (fun t ht => by cases ht) (fun t ht => by cases ht) (fun hcan => ?_)
  refine gc_aload_n dX12_init_0 rfl ?_
  show Gc 20 3 mX12_init _ 1 [vr 214] [vr 214] (215, π, m)
  refine gc_obj dX12_init_1 oj_12 ob_in ob_co (by decide) (Nat.le_of_ble_eq_true rfl) ?_
  show Gc 20 3 mX12_init _ 4 [vr 214] [] (215, π, m)
  refine gc_aload_n dX12_init_4 rfl ?_
  show Gc 20 3 mX12_init _ 5 [vr 214] [vr 214] (215, π, m)
  refine gc_sipush dX12_init_5 (by decide) ?_
  show Gc 20 3 mX12_init _ 8 [vr 214] [vi 940, vr 214] (215, π, m)
  refine gc_newI (kd := 0) (N := 940) dX12_init_8 rfl (Or.inl rfl) aw_0 ar_215 (by decide) rfl (by first | rfl | (simp only [okA, List.all_cons, List.all_nil, Bool.and_true, Bool.or_eq_true, Bool.and_eq_true, decide_eq_true_eq]; omega)) (by first | rfl | (simp only [okA, List.all_cons, List.all_nil, Bool.and_true, Bool.or_eq_true, Bool.and_eq_true, decide_eq_true_eq]; omega)) (fun hz1 => ?_)
  show Gc 19 3 mX12_init _ 10 [vr 214] [vr 215, vr 214] (216, π, m)
  refine gc_putP dX12_init_10 fl_12_7 ff_12_7 rfl fk_12_7 ob_214 (show 214 < 216 by omega) (show 215 < 216 by omega) rfl ?_
  show Gc 19 3 mX12_init _ 13 [vr 214] [] (216, (pw π 214 1 (215 + 1)), m)
  refine gc_aload_n dX12_init_13 rfl ?_
  show Gc 19 3 mX12_init _ 14 [vr 214] [vr 214] (216, (pw π 214 1 (215 + 1)), m)
  refine gc_sipush dX12_init_14 (by decide) ?_
  show Gc 19 3 mX12_init _ 17 [vr 214] [vi 474, vr 214] (216, (pw π 214 1 (215 + 1)), m)
  refine gc_newI (kd := 0) (N := 474) dX12_init_17 rfl (Or.inl rfl) aw_0 ar_216 (by decide) rfl (by first | rfl | (simp only [okA, List.all_cons, List.all_nil, Bool.and_true, Bool.or_eq_true, Bool.and_eq_true, decide_eq_true_eq]; omega)) (by first | rfl | (simp only [okA, List.all_cons, List.all_nil, Bool.and_true, Bool.or_eq_true, Bool.and_eq_true, decide_eq_true_eq]; omega)) (fun hz2 => ?_)
  show Gc 18 3 mX12_init _ 19 [vr 214] [vr 216, vr 214] (217, (pw π 214 1 (215 + 1)), m)
  refine gc_putP dX12_init_19 fl_12_98 ff_12_98 rfl fk_12_98 ob_214 (show 214 < 217 by omega) (show 216 < 217 by omega) rfl ?_
  show Gc 18 3 mX12_init _ 22 [vr 214] [] (217, (pw (pw π 214 1 (215 + 1)) 214 14 (216 + 1)), m)
  refine gc_aload_n dX12_init_22 rfl ?_
  show Gc 18 3 mX12_init _ 23 [vr 214] [vr 214] (217, (pw (pw π 214 1 (215 + 1)) 214 14 (216 + 1)), m)
  refine gc_bipush dX12_init_23 (by decide) ?_
  show Gc 18 3 mX12_init _ 25 [vr 214] [vi 123, vr 214] (217, (pw (pw π 214 1 (215 + 1)) 214 14 (216 + 1)), m)
  refine gc_newI (kd := 0) (N := 123) dX12_init_25 rfl (Or.inl rfl) aw_0 ar_217 (by decide) rfl (by first | rfl | (simp only [okA, List.all_cons, List.all_nil, Bool.and_true, Bool.or_eq_true, Bool.and_eq_true, decide_eq_true_eq]; omega)) (by first | rfl | (simp only [okA, List.all_cons, List.all_nil, Bool.and_true, Bool.or_eq_true, Bool.and_eq_true, decide_eq_true_eq]; omega)) (fun hz3 => ?_)
  show Gc 17 3 mX12_init _ 27 [vr 214] [vr 217, vr 214] (218, (pw (pw π 214 1 (215 + 1)) 214 14 (216 + 1)), m)
  refine gc_putP dX12_init_27 fl_12_101 ff_12_101 rfl fk_12_101 ob_214 (show 214 < 218 by omega) (show 217 < 218 by omega) rfl ?_
  show Gc 17 3 mX12_init _ 30 [vr 214] [] (218, (pw (pw (pw π 214 1 (215 + 1)) 214 14 (216 + 1)) 214 15 (217 + 1)), m)
  refine gc_aload_n dX12_init_30 rfl ?_
  show Gc 17 3 mX12_init _ 31 [vr 214] [vr 214] (218, (pw (pw (pw π 214 1 (215 + 1)) 214 14 (216 + 1)) 214 15 (217 + 1)), m)
  refine gc_sipush dX12_init_31 (by decide) ?_
  show Gc 17 3 mX12_init _ 34 [vr 214] [vi 948, vr 214] (218, (pw (pw (pw π 214 1 (215 + 1)) 214 14 (216 + 1)) 214 15 (217 + 1)), m)
  refine gc_newI (kd := 0) (N := 948) dX12_init_34 rfl (Or.inl rfl) aw_0 ar_218 (by decide) rfl (by first | rfl | (simp only [okA, List.all_cons, List.all_nil, Bool.and_true, Bool.or_eq_true, Bool.and_eq_true, decide_eq_true_eq]; omega)) (by first | rfl | (simp only [okA, List.all_cons, List.all_nil, Bool.and_true, Bool.or_eq_true, Bool.and_eq_true, decide_eq_true_eq]; omega)) (fun hz4 => ?_)
  show Gc 16 3 mX12_init _ 36 [vr 214] [vr 218, vr 214] (219, (pw (pw (pw π 214 1 (215 + 1)) 214 14 (216 + 1)) 214 15 (217 + 1)), m)
  refine gc_putP dX12_init_36 fl_12_104 ff_12_104 rfl fk_12_104 ob_214 (show 214 < 219 by omega) (show 218 < 219 by omega) rfl ?_
  show Gc 16 3 mX12_init _ 39 [vr 214] [] (219, (pw (pw (pw (pw π 214 1 (215 + 1)) 214 14 (216 + 1)) 214 15 (217 + 1)) 214 16 (218 + 1)), m)
  refine gc_aload_n dX12_init_39 rfl ?_
  show Gc 16 3 mX12_init _ 40 [vr 214] [vr 214] (219, (pw (pw (pw (pw π 214 1 (215 + 1)) 214 14 (216 + 1)) 214 15 (217 + 1)) 214 16 (218 + 1)), m)
  refine gc_sipush dX12_init_40 (by decide) ?_
  show Gc 16 3 mX12_init _ 43 [vr 214] [vi 872, vr 214] (219, (pw (pw (pw (pw π 214 1 (215 + 1)) 214 14 (216 + 1)) 214 15 (217 + 1)) 214 16 (218 + 1)), m)
  refine gc_newI (kd := 0) (N := 872) dX12_init_43 rfl (Or.inl rfl) aw_0 ar_219 (by decide) rfl (by first | rfl | (simp only [okA, List.all_cons, List.all_nil, Bool.and_true, Bool.or_eq_true, Bool.and_eq_true, decide_eq_true_eq]; omega)) (by first | rfl | (simp only [okA, List.all_cons, List.all_nil, Bool.and_true, Bool.or_eq_true, Bool.and_eq_true, decide_eq_true_eq]; omega)) (fun hz5 => ?_)
  show Gc 15 3 mX12_init _ 45 [vr 214] [vr 219, vr 214] (220, (pw (pw (pw (pw π 214 1 (215 + 1)) 214 14 (216 + 1)) 214 15 (217 + 1)) 214 16 (218 + 1)), m)
  refine gc_putP dX12_init_45 fl_12_107 ff_12_107 rfl fk_12_107 ob_214 (show 214 < 220 by omega) (show 219 < 220 by omega) rfl ?_
  show Gc 15 3 mX12_init _ 48 [vr 214] [] (220, (pw (pw (pw (pw (pw π 214 1 (215 + 1)) 214 14 (216 + 1)) 214 15 (217 + 1)) 214 16 (218 + 1)) 214 17 (219 + 1)), m)
  refine gc_aload_n dX12_init_48 rfl ?_
  show Gc 15 3 mX12_init _ 49 [vr 214] [vr 214] (220, (pw (pw (pw (pw (pw π 214 1 (215 + 1)) 214 14 (216 + 1)) 214 15 (217 + 1)) 214 16 (218 + 1)) 214 17 (219 + 1)), m)
  refine gc_bipush dX12_init_49 (by decide) ?_
  show Gc 15 3 mX12_init _ 51 [vr 214] [vi 109, vr 214] (220, (pw (pw (pw (pw (pw π 214 1 (215 + 1)) 214 14 (216 + 1)) 214 15 (217 + 1)) 214 16 (218 + 1)) 214 17 (219 + 1)), m)
  refine gc_newI (kd := 0) (N := 109) dX12_init_51 rfl (Or.inl rfl) aw_0 ar_220 (by decide) rfl (by first | rfl | (simp only [okA, List.all_cons, List.all_nil, Bool.and_true, Bool.or_eq_true, Bool.and_eq_true, decide_eq_true_eq]; omega)) (by first | rfl | (simp only [okA, List.all_cons, List.all_nil, Bool.and_true, Bool.or_eq_true, Bool.and_eq_true, decide_eq_true_eq]; omega)) (fun hz6 => ?_)
  show Gc 14 3 mX12_init _ 53 [vr 214] [vr 220, vr 214] (221, (pw (pw (pw (pw (pw π 214 1 (215 + 1)) 214 14 (216 + 1)) 214 15 (217 + 1)) 214 16 (218 + 1)) 214 17 (219 + 1)), m)
  refine gc_putP dX12_init_53 fl_12_110 ff_12_110 rfl fk_12_110 ob_214 (show 214 < 221 by omega) (show 220 < 221 by omega) rfl ?_
  show Gc 14 3 mX12_init _ 56 [vr 214] [] (221, (pw (pw (pw (pw (pw (pw π 214 1 (215 + 1)) 214 14 (216 + 1)) 214 15 (217 + 1)) 214 16 (218 + 1)) 214 17 (219 + 1)) 214 18 (220 + 1)), m)
  refine gc_aload_n dX12_init_56 rfl ?_
  show Gc 14 3 mX12_init _ 57 [vr 214] [vr 214] (221, (pw (pw (pw (pw (pw (pw π 214 1 (215 + 1)) 214 14 (216 + 1)) 214 15 (217 + 1)) 214 16 (218 + 1)) 214 17 (219 + 1)) 214 18 (220 + 1)), m)
  refine gc_bipush dX12_init_57 (by decide) ?_
  show Gc 14 3 mX12_init _ 59 [vr 214] [vi 16, vr 214] (221, (pw (pw (pw (pw (pw (pw π 214 1 (215 + 1)) 214 14 (216 + 1)) 214 15 (217 + 1)) 214 16 (218 + 1)) 214 17 (219 + 1)) 214 18 (220 + 1)), m)
  refine gc_newJ (kd := 3) (N := 16) dX12_init_59 rfl rfl aw_3 ar_221 (by decide) rfl (by first | rfl | (simp only [okA, List.all_cons, List.all_nil, Bool.and_true, Bool.or_eq_true, Bool.and_eq_true, decide_eq_true_eq]; omega)) (by first | rfl | (simp only [okA, List.all_cons, List.all_nil, Bool.and_true, Bool.or_eq_true, Bool.and_eq_true, decide_eq_true_eq]; omega)) (fun hz7 => ?_)
  show Gc 13 3 mX12_init _ 61 [vr 214] [vr 221, vr 214] (222, (pw (pw (pw (pw (pw (pw π 214 1 (215 + 1)) 214 14 (216 + 1)) 214 15 (217 + 1)) 214 16 (218 + 1)) 214 17 (219 + 1)) 214 18 (220 + 1)), m)
  refine gc_putP dX12_init_61 fl_12_113 ff_12_113 rfl fk_12_113 ob_214 (show 214 < 222 by omega) (show 221 < 222 by omega) rfl ?_
  show Gc 13 3 mX12_init _ 64 [vr 214] [] (222, (pw (pw (pw (pw (pw (pw (pw π 214 1 (215 + 1)) 214 14 (216 + 1)) 214 15 (217 + 1)) 214 16 (218 + 1)) 214 17 (219 + 1)) 214 18 (220 + 1)) 214 19 (221 + 1)), m)
  refine gc_aload_n dX12_init_64 rfl ?_
  show Gc 13 3 mX12_init _ 65 [vr 214] [vr 214] (222, (pw (pw (pw (pw (pw (pw (pw π 214 1 (215 + 1)) 214 14 (216 + 1)) 214 15 (217 + 1)) 214 16 (218 + 1)) 214 17 (219 + 1)) 214 18 (220 + 1)) 214 19 (221 + 1)), m)
  refine gc_bipush dX12_init_65 (by decide) ?_
  show Gc 13 3 mX12_init _ 67 [vr 214] [vi 16, vr 214] (222, (pw (pw (pw (pw (pw (pw (pw π 214 1 (215 + 1)) 214 14 (216 + 1)) 214 15 (217 + 1)) 214 16 (218 + 1)) 214 17 (219 + 1)) 214 18 (220 + 1)) 214 19 (221 + 1)), m)
  refine gc_newJ (kd := 3) (N := 16) dX12_init_67 rfl rfl aw_3 ar_222 (by decide) rfl (by first | rfl | (simp only [okA, List.all_cons, List.all_nil, Bool.and_true, Bool.or_eq_true, Bool.and_eq_true, decide_eq_true_eq]; omega)) (by first | rfl | (simp only [okA, List.all_cons, List.all_nil, Bool.and_true, Bool.or_eq_true, Bool.and_eq_true, decide_eq_true_eq]; omega)) (fun hz8 => ?_)
  show Gc 12 3 mX12_init _ 69 [vr 214] [vr 222, vr 214] (223, (pw (pw (pw (pw (pw (pw (pw π 214 1 (215 + 1)) 214 14 (216 + 1)) 214 15 (217 + 1)) 214 16 (218 + 1)) 214 17 (219 + 1)) 214 18 (220 + 1)) 214 19 (221 + 1)), m)
  refine gc_putP dX12_init_69 fl_12_117 ff_12_117 rfl fk_12_117 ob_214 (show 214 < 223 by omega) (show 222 < 223 by omega) rfl ?_
  show Gc 12 3 mX12_init _ 72 [vr 214] [] (223, (pw (pw (pw (pw (pw (pw (pw (pw π 214 1 (215 + 1)) 214 14 (216 + 1)) 214 15 (217 + 1)) 214 16 (218 + 1)) 214 17 (219 + 1)) 214 18 (220 + 1)) 214 19 (221 + 1)) 214 20 (222 + 1)), m)
  refine gc_aload_n dX12_init_72 rfl ?_
  show Gc 12 3 mX12_init _ 73 [vr 214] [vr 214] (223, (pw (pw (pw (pw (pw (pw (pw (pw π 214 1 (215 + 1)) 214 14 (216 + 1)) 214 15 (217 + 1)) 214 16 (218 + 1)) 214 17 (219 + 1)) 214 18 (220 + 1)) 214 19 (221 + 1)) 214 20 (222 + 1)), m)
  refine gc_bipush dX12_init_73 (by decide) ?_
  show Gc 12 3 mX12_init _ 75 [vr 214] [vi 32, vr 214] (223, (pw (pw (pw (pw (pw (pw (pw (pw π 214 1 (215 + 1)) 214 14 (216 + 1)) 214 15 (217 + 1)) 214 16 (218 + 1)) 214 17 (219 + 1)) 214 18 (220 + 1)) 214 19 (221 + 1)) 214 20 (222 + 1)), m)
  refine gc_newJ (kd := 3) (N := 32) dX12_init_75 rfl rfl aw_3 ar_223 (by decide) rfl (by first | rfl | (simp only [okA, List.all_cons, List.all_nil, Bool.and_true, Bool.or_eq_true, Bool.and_eq_true, decide_eq_true_eq]; omega)) (by first | rfl | (simp only [okA, List.all_cons, List.all_nil, Bool.and_true, Bool.or_eq_true, Bool.and_eq_true, decide_eq_true_eq]; omega)) (fun hz9 => ?_)
  show Gc 11 3 mX12_init _ 77 [vr 214] [vr 223, vr 214] (224, (pw (pw (pw (pw (pw (pw (pw (pw π 214 1 (215 + 1)) 214 14 (216 + 1)) 214 15 (217 + 1)) 214 16 (218 + 1)) 214 17 (219 + 1)) 214 18 (220 + 1)) 214 19 (221 + 1)) 214 20 (222 + 1)), m)
  refine gc_putP dX12_init_77 fl_12_120 ff_12_120 rfl fk_12_120 ob_214 (show 214 < 224 by omega) (show 223 < 224 by omega) rfl ?_
  show Gc 11 3 mX12_init _ 80 [vr 214] [] (224, (pw (pw (pw (pw (pw (pw (pw (pw (pw π 214 1 (215 + 1)) 214 14 (216 + 1)) 214 15 (217 + 1)) 214 16 (218 + 1)) 214 17 (219 + 1)) 214 18 (220 + 1)) 214 19 (221 + 1)) 214 20 (222 + 1)) 214 21 (223 + 1)), m)
  refine gc_aload_n dX12_init_80 rfl ?_
  show Gc 11 3 mX12_init _ 81 [vr 214] [vr 214] (224, (pw (pw (pw (pw (pw (pw (pw (pw (pw π 214 1 (215 + 1)) 214 14 (216 + 1)) 214 15 (217 + 1)) 214 16 (218 + 1)) 214 17 (219 + 1)) 214 18 (220 + 1)) 214 19 (221 + 1)) 214 20 (222 + 1)) 214 21 (223 + 1)), m)
  refine gc_iconst dX12_init_81 ?_
  show Gc 11 3 mX12_init _ 82 [vr 214] [vi 2, vr 214] (224, (pw (pw (pw (pw (pw (pw (pw (pw (pw π 214 1 (215 + 1)) 214 14 (216 + 1)) 214 15 (217 + 1)) 214 16 (218 + 1)) 214 17 (219 + 1)) 214 18 (220 + 1)) 214 19 (221 + 1)) 214 20 (222 + 1)) 214 21 (223 + 1)), m)
  refine gc_newI (kd := 2) (N := 2) dX12_init_82 rfl (Or.inr (Or.inr rfl)) aw_2 ar_224 (by decide) rfl (by first | rfl | (simp only [okA, List.all_cons, List.all_nil, Bool.and_true, Bool.or_eq_true, Bool.and_eq_true, decide_eq_true_eq]; omega)) (by first | rfl | (simp only [okA, List.all_cons, List.all_nil, Bool.and_true, Bool.or_eq_true, Bool.and_eq_true, decide_eq_true_eq]; omega)) (fun hz10 => ?_)
  show Gc 10 3 mX12_init _ 84 [vr 214] [vr 224, vr 214] (225, (pw (pw (pw (pw (pw (pw (pw (pw (pw π 214 1 (215 + 1)) 214 14 (216 + 1)) 214 15 (217 + 1)) 214 16 (218 + 1)) 214 17 (219 + 1)) 214 18 (220 + 1)) 214 19 (221 + 1)) 214 20 (222 + 1)) 214 21 (223 + 1)), m)
  refine gc_putP dX12_init_84 fl_12_123 ff_12_123 rfl fk_12_123 ob_214 (show 214 < 225 by omega) (show 224 < 225 by omega) rfl ?_
  show Gc 10 3 mX12_init _ 87 [vr 214] [] (225, (pw (pw (pw (pw (pw (pw (pw (pw (pw (pw π 214 1 (215 + 1)) 214 14 (216 + 1)) 214 15 (217 + 1)) 214 16 (218 + 1)) 214 17 (219 + 1)) 214 18 (220 + 1)) 214 19 (221 + 1)) 214 20 (222 + 1)) 214 21 (223 + 1)) 214 22 (224 + 1)), m)
  refine gc_aload_n dX12_init_87 rfl ?_
  show Gc 10 3 mX12_init _ 88 [vr 214] [vr 214] (225, (pw (pw (pw (pw (pw (pw (pw (pw (pw (pw π 214 1 (215 + 1)) 214 14 (216 + 1)) 214 15 (217 + 1)) 214 16 (218 + 1)) 214 17 (219 + 1)) 214 18 (220 + 1)) 214 19 (221 + 1)) 214 20 (222 + 1)) 214 21 (223 + 1)) 214 22 (224 + 1)), m)
  refine gc_sipush dX12_init_88 (by decide) ?_
  show Gc 10 3 mX12_init _ 91 [vr 214] [vi 324, vr 214] (225, (pw (pw (pw (pw (pw (pw (pw (pw (pw (pw π 214 1 (215 + 1)) 214 14 (216 + 1)) 214 15 (217 + 1)) 214 16 (218 + 1)) 214 17 (219 + 1)) 214 18 (220 + 1)) 214 19 (221 + 1)) 214 20 (222 + 1)) 214 21 (223 + 1)) 214 22 (224 + 1)), m)
  refine gc_newI (kd := 0) (N := 324) dX12_init_91 rfl (Or.inl rfl) aw_0 ar_225 (by decide) rfl (by first | rfl | (simp only [okA, List.all_cons, List.all_nil, Bool.and_true, Bool.or_eq_true, Bool.and_eq_true, decide_eq_true_eq]; omega)) (by first | rfl | (simp only [okA, List.all_cons, List.all_nil, Bool.and_true, Bool.or_eq_true, Bool.and_eq_true, decide_eq_true_eq]; omega)) (fun hz11 => ?_)
  show Gc 9 3 mX12_init _ 93 [vr 214] [vr 225, vr 214] (226, (pw (pw (pw (pw (pw (pw (pw (pw (pw (pw π 214 1 (215 + 1)) 214 14 (216 + 1)) 214 15 (217 + 1)) 214 16 (218 + 1)) 214 17 (219 + 1)) 214 18 (220 + 1)) 214 19 (221 + 1)) 214 20 (222 + 1)) 214 21 (223 + 1)) 214 22 (224 + 1)), m)
  refine gc_putP dX12_init_93 fl_12_127 ff_12_127 rfl fk_12_127 ob_214 (show 214 < 226 by omega) (show 225 < 226 by omega) rfl ?_
  show Gc 9 3 mX12_init _ 96 [vr 214] [] (226, (pw (pw (pw (pw (pw (pw (pw (pw (pw (pw (pw π 214 1 (215 + 1)) 214 14 (216 + 1)) 214 15 (217 + 1)) 214 16 (218 + 1)) 214 17 (219 + 1)) 214 18 (220 + 1)) 214 19 (221 + 1)) 214 20 (222 + 1)) 214 21 (223 + 1)) 214 22 (224 + 1)) 214 26 (225 + 1)), m)
  refine gc_aload_n dX12_init_96 rfl ?_
  show Gc 9 3 mX12_init _ 97 [vr 214] [vr 214] (226, (pw (pw (pw (pw (pw (pw (pw (pw (pw (pw (pw π 214 1 (215 + 1)) 214 14 (216 + 1)) 214 15 (217 + 1)) 214 16 (218 + 1)) 214 17 (219 + 1)) 214 18 (220 + 1)) 214 19 (221 + 1)) 214 20 (222 + 1)) 214 21 (223 + 1)) 214 22 (224 + 1)) 214 26 (225 + 1)), m)
  refine gc_sipush dX12_init_97 (by decide) ?_
  show Gc 9 3 mX12_init _ 100 [vr 214] [vi 324, vr 214] (226, (pw (pw (pw (pw (pw (pw (pw (pw (pw (pw (pw π 214 1 (215 + 1)) 214 14 (216 + 1)) 214 15 (217 + 1)) 214 16 (218 + 1)) 214 17 (219 + 1)) 214 18 (220 + 1)) 214 19 (221 + 1)) 214 20 (222 + 1)) 214 21 (223 + 1)) 214 22 (224 + 1)) 214 26 (225 + 1)), m)
  refine gc_newI (kd := 0) (N := 324) dX12_init_100 rfl (Or.inl rfl) aw_0 ar_226 (by decide) rfl (by first | rfl | (simp only [okA, List.all_cons, List.all_nil, Bool.and_true, Bool.or_eq_true, Bool.and_eq_true, decide_eq_true_eq]; omega)) (by first | rfl | (simp only [okA, List.all_cons, List.all_nil, Bool.and_true, Bool.or_eq_true, Bool.and_eq_true, decide_eq_true_eq]; omega)) (fun hz12 => ?_)
  show Gc 8 3 mX12_init _ 102 [vr 214] [vr 226, vr 214] (227, (pw (pw (pw (pw (pw (pw (pw (pw (pw (pw (pw π 214 1 (215 + 1)) 214 14 (216 + 1)) 214 15 (217 + 1)) 214 16 (218 + 1)) 214 17 (219 + 1)) 214 18 (220 + 1)) 214 19 (221 + 1)) 214 20 (222 + 1)) 214 21 (223 + 1)) 214 22 (224 + 1)) 214 26 (225 + 1)), m)
  refine gc_putP dX12_init_102 fl_12_130 ff_12_130 rfl fk_12_130 ob_214 (show 214 < 227 by omega) (show 226 < 227 by omega) rfl ?_
  show Gc 8 3 mX12_init _ 105 [vr 214] [] (227, (pw (pw (pw (pw (pw (pw (pw (pw (pw (pw (pw (pw π 214 1 (215 + 1)) 214 14 (216 + 1)) 214 15 (217 + 1)) 214 16 (218 + 1)) 214 17 (219 + 1)) 214 18 (220 + 1)) 214 19 (221 + 1)) 214 20 (222 + 1)) 214 21 (223 + 1)) 214 22 (224 + 1)) 214 26 (225 + 1)) 214 27 (226 + 1)), m)
  refine gc_aload_n dX12_init_105 rfl ?_
  show Gc 8 3 mX12_init _ 106 [vr 214] [vr 214] (227, (pw (pw (pw (pw (pw (pw (pw (pw (pw (pw (pw (pw π 214 1 (215 + 1)) 214 14 (216 + 1)) 214 15 (217 + 1)) 214 16 (218 + 1)) 214 17 (219 + 1)) 214 18 (220 + 1)) 214 19 (221 + 1)) 214 20 (222 + 1)) 214 21 (223 + 1)) 214 22 (224 + 1)) 214 26 (225 + 1)) 214 27 (226 + 1)), m)
  refine gc_sipush dX12_init_106 (by decide) ?_
  show Gc 8 3 mX12_init _ 109 [vr 214] [vi 324, vr 214] (227, (pw (pw (pw (pw (pw (pw (pw (pw (pw (pw (pw (pw π 214 1 (215 + 1)) 214 14 (216 + 1)) 214 15 (217 + 1)) 214 16 (218 + 1)) 214 17 (219 + 1)) 214 18 (220 + 1)) 214 19 (221 + 1)) 214 20 (222 + 1)) 214 21 (223 + 1)) 214 22 (224 + 1)) 214 26 (225 + 1)) 214 27 (226 + 1)), m)
  refine gc_newI (kd := 0) (N := 324) dX12_init_109 rfl (Or.inl rfl) aw_0 ar_227 (by decide) rfl (by first | rfl | (simp only [okA, List.all_cons, List.all_nil, Bool.and_true, Bool.or_eq_true, Bool.and_eq_true, decide_eq_true_eq]; omega)) (by first | rfl | (simp only [okA, List.all_cons, List.all_nil, Bool.and_true, Bool.or_eq_true, Bool.and_eq_true, decide_eq_true_eq]; omega)) (fun hz13 => ?_)
  show Gc 7 3 mX12_init _ 111 [vr 214] [vr 227, vr 214] (228, (pw (pw (pw (pw (pw (pw (pw (pw (pw (pw (pw (pw π 214 1 (215 + 1)) 214 14 (216 + 1)) 214 15 (217 + 1)) 214 16 (218 + 1)) 214 17 (219 + 1)) 214 18 (220 + 1)) 214 19 (221 + 1)) 214 20 (222 + 1)) 214 21 (223 + 1)) 214 22 (224 + 1)) 214 26 (225 + 1)) 214 27 (226 + 1)), m)
  refine gc_putP dX12_init_111 fl_12_133 ff_12_133 rfl fk_12_133 ob_214 (show 214 < 228 by omega) (show 227 < 228 by omega) rfl ?_
  show Gc 7 3 mX12_init _ 114 [vr 214] [] (228, (pw (pw (pw (pw (pw (pw (pw (pw (pw (pw (pw (pw (pw π 214 1 (215 + 1)) 214 14 (216 + 1)) 214 15 (217 + 1)) 214 16 (218 + 1)) 214 17 (219 + 1)) 214 18 (220 + 1)) 214 19 (221 + 1)) 214 20 (222 + 1)) 214 21 (223 + 1)) 214 22 (224 + 1)) 214 26 (225 + 1)) 214 27 (226 + 1)) 214 28 (227 + 1)), m)
  refine gc_aload_n dX12_init_114 rfl ?_
  show Gc 7 3 mX12_init _ 115 [vr 214] [vr 214] (228, (pw (pw (pw (pw (pw (pw (pw (pw (pw (pw (pw (pw (pw π 214 1 (215 + 1)) 214 14 (216 + 1)) 214 15 (217 + 1)) 214 16 (218 + 1)) 214 17 (219 + 1)) 214 18 (220 + 1)) 214 19 (221 + 1)) 214 20 (222 + 1)) 214 21 (223 + 1)) 214 22 (224 + 1)) 214 26 (225 + 1)) 214 27 (226 + 1)) 214 28 (227 + 1)), m)
  refine gc_iconst dX12_init_115 ?_
  show Gc 7 3 mX12_init _ 116 [vr 214] [vi 3, vr 214] (228, (pw (pw (pw (pw (pw (pw (pw (pw (pw (pw (pw (pw (pw π 214 1 (215 + 1)) 214 14 (216 + 1)) 214 15 (217 + 1)) 214 16 (218 + 1)) 214 17 (219 + 1)) 214 18 (220 + 1)) 214 19 (221 + 1)) 214 20 (222 + 1)) 214 21 (223 + 1)) 214 22 (224 + 1)) 214 26 (225 + 1)) 214 27 (226 + 1)) 214 28 (227 + 1)), m)
  refine gc_newI (kd := 0) (N := 3) dX12_init_116 rfl (Or.inl rfl) aw_0 ar_228 (by decide) rfl (by first | rfl | (simp only [okA, List.all_cons, List.all_nil, Bool.and_true, Bool.or_eq_true, Bool.and_eq_true, decide_eq_true_eq]; omega)) (by first | rfl | (simp only [okA, List.all_cons, List.all_nil, Bool.and_true, Bool.or_eq_true, Bool.and_eq_true, decide_eq_true_eq]; omega)) (fun hz14 => ?_)
  show Gc 6 3 mX12_init _ 118 [vr 214] [vr 228, vr 214] (229, (pw (pw (pw (pw (pw (pw (pw (pw (pw (pw (pw (pw (pw π 214 1 (215 + 1)) 214 14 (216 + 1)) 214 15 (217 + 1)) 214 16 (218 + 1)) 214 17 (219 + 1)) 214 18 (220 + 1)) 214 19 (221 + 1)) 214 20 (222 + 1)) 214 21 (223 + 1)) 214 22 (224 + 1)) 214 26 (225 + 1)) 214 27 (226 + 1)) 214 28 (227 + 1)), m)
  refine gc_putP dX12_init_118 fl_12_136 ff_12_136 rfl fk_12_136 ob_214 (show 214 < 229 by omega) (show 228 < 229 by omega) rfl ?_
  show Gc 6 3 mX12_init _ 121 [vr 214] [] (229, (pw (pw (pw (pw (pw (pw (pw (pw (pw (pw (pw (pw (pw (pw π 214 1 (215 + 1)) 214 14 (216 + 1)) 214 15 (217 + 1)) 214 16 (218 + 1)) 214 17 (219 + 1)) 214 18 (220 + 1)) 214 19 (221 + 1)) 214 20 (222 + 1)) 214 21 (223 + 1)) 214 22 (224 + 1)) 214 26 (225 + 1)) 214 27 (226 + 1)) 214 28 (227 + 1)) 214 30 (228 + 1)), m)
  refine gc_aload_n dX12_init_121 rfl ?_
  show Gc 6 3 mX12_init _ 122 [vr 214] [vr 214] (229, (pw (pw (pw (pw (pw (pw (pw (pw (pw (pw (pw (pw (pw (pw π 214 1 (215 + 1)) 214 14 (216 + 1)) 214 15 (217 + 1)) 214 16 (218 + 1)) 214 17 (219 + 1)) 214 18 (220 + 1)) 214 19 (221 + 1)) 214 20 (222 + 1)) 214 21 (223 + 1)) 214 22 (224 + 1)) 214 26 (225 + 1)) 214 27 (226 + 1)) 214 28 (227 + 1)) 214 30 (228 + 1)), m)
  refine gc_iconst dX12_init_122 ?_
  show Gc 6 3 mX12_init _ 123 [vr 214] [vi 3, vr 214] (229, (pw (pw (pw (pw (pw (pw (pw (pw (pw (pw (pw (pw (pw (pw π 214 1 (215 + 1)) 214 14 (216 + 1)) 214 15 (217 + 1)) 214 16 (218 + 1)) 214 17 (219 + 1)) 214 18 (220 + 1)) 214 19 (221 + 1)) 214 20 (222 + 1)) 214 21 (223 + 1)) 214 22 (224 + 1)) 214 26 (225 + 1)) 214 27 (226 + 1)) 214 28 (227 + 1)) 214 30 (228 + 1)), m)
  refine gc_newI (kd := 0) (N := 3) dX12_init_123 rfl (Or.inl rfl) aw_0 ar_229 (by decide) rfl (by first | rfl | (simp only [okA, List.all_cons, List.all_nil, Bool.and_true, Bool.or_eq_true, Bool.and_eq_true, decide_eq_true_eq]; omega)) (by first | rfl | (simp only [okA, List.all_cons, List.all_nil, Bool.and_true, Bool.or_eq_true, Bool.and_eq_true, decide_eq_true_eq]; omega)) (fun hz15 => ?_)
  show Gc 5 3 mX12_init _ 125 [vr 214] [vr 229, vr 214] (230, (pw (pw (pw (pw (pw (pw (pw (pw (pw (pw (pw (pw (pw (pw π 214 1 (215 + 1)) 214 14 (216 + 1)) 214 15 (217 + 1)) 214 16 (218 + 1)) 214 17 (219 + 1)) 214 18 (220 + 1)) 214 19 (221 + 1)) 214 20 (222 + 1)) 214 21 (223 + 1)) 214 22 (224 + 1)) 214 26 (225 + 1)) 214 27 (226 + 1)) 214 28 (227 + 1)) 214 30 (228 + 1)), m)
  refine gc_putP dX12_init_125 fl_12_139 ff_12_139 rfl fk_12_139 ob_214 (show 214 < 230 by omega) (show 229 < 230 by omega) rfl ?_
  show Gc 5 3 mX12_init _ 128 [vr 214] [] (230, (pw (pw (pw (pw (pw (pw (pw (pw (pw (pw (pw (pw (pw (pw (pw π 214 1 (215 + 1)) 214 14 (216 + 1)) 214 15 (217 + 1)) 214 16 (218 + 1)) 214 17 (219 + 1)) 214 18 (220 + 1)) 214 19 (221 + 1)) 214 20 (222 + 1)) 214 21 (223 + 1)) 214 22 (224 + 1)) 214 26 (225 + 1)) 214 27 (226 + 1)) 214 28 (227 + 1)) 214 30 (228 + 1)) 214 32 (229 + 1)), m)
  refine gc_aload_n dX12_init_128 rfl ?_
  show Gc 5 3 mX12_init _ 129 [vr 214] [vr 214] (230, (pw (pw (pw (pw (pw (pw (pw (pw (pw (pw (pw (pw (pw (pw (pw π 214 1 (215 + 1)) 214 14 (216 + 1)) 214 15 (217 + 1)) 214 16 (218 + 1)) 214 17 (219 + 1)) 214 18 (220 + 1)) 214 19 (221 + 1)) 214 20 (222 + 1)) 214 21 (223 + 1)) 214 22 (224 + 1)) 214 26 (225 + 1)) 214 27 (226 + 1)) 214 28 (227 + 1)) 214 30 (228 + 1)) 214 32 (229 + 1)), m)
  refine gc_bipush dX12_init_129 (by decide) ?_
  show Gc 5 3 mX12_init _ 131 [vr 214] [vi 6, vr 214] (230, (pw (pw (pw (pw (pw (pw (pw (pw (pw (pw (pw (pw (pw (pw (pw π 214 1 (215 + 1)) 214 14 (216 + 1)) 214 15 (217 + 1)) 214 16 (218 + 1)) 214 17 (219 + 1)) 214 18 (220 + 1)) 214 19 (221 + 1)) 214 20 (222 + 1)) 214 21 (223 + 1)) 214 22 (224 + 1)) 214 26 (225 + 1)) 214 27 (226 + 1)) 214 28 (227 + 1)) 214 30 (228 + 1)) 214 32 (229 + 1)), m)
  refine gc_newI (kd := 0) (N := 6) dX12_init_131 rfl (Or.inl rfl) aw_0 ar_230 (by decide) rfl (by first | rfl | (simp only [okA, List.all_cons, List.all_nil, Bool.and_true, Bool.or_eq_true, Bool.and_eq_true, decide_eq_true_eq]; omega)) (by first | rfl | (simp only [okA, List.all_cons, List.all_nil, Bool.and_true, Bool.or_eq_true, Bool.and_eq_true, decide_eq_true_eq]; omega)) (fun hz16 => ?_)
  show Gc 4 3 mX12_init _ 133 [vr 214] [vr 230, vr 214] (231, (pw (pw (pw (pw (pw (pw (pw (pw (pw (pw (pw (pw (pw (pw (pw π 214 1 (215 + 1)) 214 14 (216 + 1)) 214 15 (217 + 1)) 214 16 (218 + 1)) 214 17 (219 + 1)) 214 18 (220 + 1)) 214 19 (221 + 1)) 214 20 (222 + 1)) 214 21 (223 + 1)) 214 22 (224 + 1)) 214 26 (225 + 1)) 214 27 (226 + 1)) 214 28 (227 + 1)) 214 30 (228 + 1)) 214 32 (229 + 1)), m)
  refine gc_putP dX12_init_133 fl_12_142 ff_12_142 rfl fk_12_142 ob_214 (show 214 < 231 by omega) (show 230 < 231 by omega) rfl ?_
  show Gc 4 3 mX12_init _ 136 [vr 214] [] (231, (pw (pw (pw (pw (pw (pw (pw (pw (pw (pw (pw (pw (pw (pw (pw (pw π 214 1 (215 + 1)) 214 14 (216 + 1)) 214 15 (217 + 1)) 214 16 (218 + 1)) 214 17 (219 + 1)) 214 18 (220 + 1)) 214 19 (221 + 1)) 214 20 (222 + 1)) 214 21 (223 + 1)) 214 22 (224 + 1)) 214 26 (225 + 1)) 214 27 (226 + 1)) 214 28 (227 + 1)) 214 30 (228 + 1)) 214 32 (229 + 1)) 214 33 (230 + 1)), m)
  refine gc_aload_n dX12_init_136 rfl ?_
  show Gc 4 3 mX12_init _ 137 [vr 214] [vr 214] (231, (pw (pw (pw (pw (pw (pw (pw (pw (pw (pw (pw (pw (pw (pw (pw (pw π 214 1 (215 + 1)) 214 14 (216 + 1)) 214 15 (217 + 1)) 214 16 (218 + 1)) 214 17 (219 + 1)) 214 18 (220 + 1)) 214 19 (221 + 1)) 214 20 (222 + 1)) 214 21 (223 + 1)) 214 22 (224 + 1)) 214 26 (225 + 1)) 214 27 (226 + 1)) 214 28 (227 + 1)) 214 30 (228 + 1)) 214 32 (229 + 1)) 214 33 (230 + 1)), m)
  refine gc_iconst dX12_init_137 ?_
  show Gc 4 3 mX12_init _ 138 [vr 214] [vi (-1), vr 214] (231, (pw (pw (pw (pw (pw (pw (pw (pw (pw (pw (pw (pw (pw (pw (pw (pw π 214 1 (215 + 1)) 214 14 (216 + 1)) 214 15 (217 + 1)) 214 16 (218 + 1)) 214 17 (219 + 1)) 214 18 (220 + 1)) 214 19 (221 + 1)) 214 20 (222 + 1)) 214 21 (223 + 1)) 214 22 (224 + 1)) 214 26 (225 + 1)) 214 27 (226 + 1)) 214 28 (227 + 1)) 214 30 (228 + 1)) 214 32 (229 + 1)) 214 33 (230 + 1)), m)
  refine gc_putI dX12_init_138 fw_12_145 ob_214 (show 214 < 231 by omega) rfl ⟨by omega, by omega⟩ ?_
  show Gc 4 3 mX12_init _ 141 [vr 214] [] (231, (pw (pw (pw (pw (pw (pw (pw (pw (pw (pw (pw (pw (pw (pw (pw (pw π 214 1 (215 + 1)) 214 14 (216 + 1)) 214 15 (217 + 1)) 214 16 (218 + 1)) 214 17 (219 + 1)) 214 18 (220 + 1)) 214 19 (221 + 1)) 214 20 (222 + 1)) 214 21 (223 + 1)) 214 22 (224 + 1)) 214 26 (225 + 1)) 214 27 (226 + 1)) 214 28 (227 + 1)) 214 30 (228 + 1)) 214 32 (229 + 1)) 214 33 (230 + 1)), (wr m 214 35 (-1)))
  refine gc_aload_n dX12_init_141 rfl ?_
  show Gc 4 3 mX12_init _ 142 [vr 214] [vr 214] (231, (pw (pw (pw (pw (pw (pw (pw (pw (pw (pw (pw (pw (pw (pw (pw (pw π 214 1 (215 + 1)) 214 14 (216 + 1)) 214 15 (217 + 1)) 214 16 (218 + 1)) 214 17 (219 + 1)) 214 18 (220 + 1)) 214 19 (221 + 1)) 214 20 (222 + 1)) 214 21 (223 + 1)) 214 22 (224 + 1)) 214 26 (225 + 1)) 214 27 (226 + 1)) 214 28 (227 + 1)) 214 30 (228 + 1)) 214 32 (229 + 1)) 214 33 (230 + 1)), (wr m 214 35 (-1)))
  refine gc_bipush dX12_init_142 (by decide) ?_
  show Gc 4 3 mX12_init _ 144 [vr 214] [vi 64, vr 214] (231, (pw (pw (pw (pw (pw (pw (pw (pw (pw (pw (pw (pw (pw (pw (pw (pw π 214 1 (215 + 1)) 214 14 (216 + 1)) 214 15 (217 + 1)) 214 16 (218 + 1)) 214 17 (219 + 1)) 214 18 (220 + 1)) 214 19 (221 + 1)) 214 20 (222 + 1)) 214 21 (223 + 1)) 214 22 (224 + 1)) 214 26 (225 + 1)) 214 27 (226 + 1)) 214 28 (227 + 1)) 214 30 (228 + 1)) 214 32 (229 + 1)) 214 33 (230 + 1)), (wr m 214 35 (-1)))
  refine gc_newI (kd := 0) (N := 64) dX12_init_144 rfl (Or.inl rfl) aw_0 ar_231 (by decide) rfl (by first | rfl | (simp only [okA, List.all_cons, List.all_nil, Bool.and_true, Bool.or_eq_true, Bool.and_eq_true, decide_eq_true_eq]; omega)) (by first | rfl | (simp only [okA, List.all_cons, List.all_nil, Bool.and_true, Bool.or_eq_true, Bool.and_eq_true, decide_eq_true_eq]; omega)) (fun hz17 => ?_)
  show Gc 3 3 mX12_init _ 146 [vr 214] [vr 231, vr 214] (232, (pw (pw (pw (pw (pw (pw (pw (pw (pw (pw (pw (pw (pw (pw (pw (pw π 214 1 (215 + 1)) 214 14 (216 + 1)) 214 15 (217 + 1)) 214 16 (218 + 1)) 214 17 (219 + 1)) 214 18 (220 + 1)) 214 19 (221 + 1)) 214 20 (222 + 1)) 214 21 (223 + 1)) 214 22 (224 + 1)) 214 26 (225 + 1)) 214 27 (226 + 1)) 214 28 (227 + 1)) 214 30 (228 + 1)) 214 32 (229 + 1)) 214 33 (230 + 1)), (wr m 214 35 (-1)))
  refine gc_putP dX12_init_146 fl_12_148 ff_12_148 rfl fk_12_148 ob_214 (show 214 < 232 by omega) (show 231 < 232 by omega) rfl ?_
  show Gc 3 3 mX12_init _ 149 [vr 214] [] (232, (pw (pw (pw (pw (pw (pw (pw (pw (pw (pw (pw (pw (pw (pw (pw (pw (pw π 214 1 (215 + 1)) 214 14 (216 + 1)) 214 15 (217 + 1)) 214 16 (218 + 1)) 214 17 (219 + 1)) 214 18 (220 + 1)) 214 19 (221 + 1)) 214 20 (222 + 1)) 214 21 (223 + 1)) 214 22 (224 + 1)) 214 26 (225 + 1)) 214 27 (226 + 1)) 214 28 (227 + 1)) 214 30 (228 + 1)) 214 32 (229 + 1)) 214 33 (230 + 1)) 214 36 (231 + 1)), (wr m 214 35 (-1)))
  refine gc_aload_n dX12_init_149 rfl ?_
  show Gc 3 3 mX12_init _ 150 [vr 214] [vr 214] (232, (pw (pw (pw (pw (pw (pw (pw (pw (pw (pw (pw (pw (pw (pw (pw (pw (pw π 214 1 (215 + 1)) 214 14 (216 + 1)) 214 15 (217 + 1)) 214 16 (218 + 1)) 214 17 (219 + 1)) 214 18 (220 + 1)) 214 19 (221 + 1)) 214 20 (222 + 1)) 214 21 (223 + 1)) 214 22 (224 + 1)) 214 26 (225 + 1)) 214 27 (226 + 1)) 214 28 (227 + 1)) 214 30 (228 + 1)) 214 32 (229 + 1)) 214 33 (230 + 1)) 214 36 (231 + 1)), (wr m 214 35 (-1)))
  refine gc_sipush dX12_init_150 (by decide) ?_
  show Gc 3 3 mX12_init _ 153 [vr 214] [vi 160, vr 214] (232, (pw (pw (pw (pw (pw (pw (pw (pw (pw (pw (pw (pw (pw (pw (pw (pw (pw π 214 1 (215 + 1)) 214 14 (216 + 1)) 214 15 (217 + 1)) 214 16 (218 + 1)) 214 17 (219 + 1)) 214 18 (220 + 1)) 214 19 (221 + 1)) 214 20 (222 + 1)) 214 21 (223 + 1)) 214 22 (224 + 1)) 214 26 (225 + 1)) 214 27 (226 + 1)) 214 28 (227 + 1)) 214 30 (228 + 1)) 214 32 (229 + 1)) 214 33 (230 + 1)) 214 36 (231 + 1)), (wr m 214 35 (-1)))
  refine gc_newI (kd := 0) (N := 160) dX12_init_153 rfl (Or.inl rfl) aw_0 ar_232 (by decide) rfl (by first | rfl | (simp only [okA, List.all_cons, List.all_nil, Bool.and_true, Bool.or_eq_true, Bool.and_eq_true, decide_eq_true_eq]; omega)) (by first | rfl | (simp only [okA, List.all_cons, List.all_nil, Bool.and_true, Bool.or_eq_true, Bool.and_eq_true, decide_eq_true_eq]; omega)) (fun hz18 => ?_)
  show Gc 2 3 mX12_init _ 155 [vr 214] [vr 232, vr 214] (233, (pw (pw (pw (pw (pw (pw (pw (pw (pw (pw (pw (pw (pw (pw (pw (pw (pw π 214 1 (215 + 1)) 214 14 (216 + 1)) 214 15 (217 + 1)) 214 16 (218 + 1)) 214 17 (219 + 1)) 214 18 (220 + 1)) 214 19 (221 + 1)) 214 20 (222 + 1)) 214 21 (223 + 1)) 214 22 (224 + 1)) 214 26 (225 + 1)) 214 27 (226 + 1)) 214 28 (227 + 1)) 214 30 (228 + 1)) 214 32 (229 + 1)) 214 33 (230 + 1)) 214 36 (231 + 1)), (wr m 214 35 (-1)))
  refine gc_putP dX12_init_155 fl_12_151 ff_12_151 rfl fk_12_151 ob_214 (show 214 < 233 by omega) (show 232 < 233 by omega) rfl ?_
  show Gc 2 3 mX12_init _ 158 [vr 214] [] (233, (pw (pw (pw (pw (pw (pw (pw (pw (pw (pw (pw (pw (pw (pw (pw (pw (pw (pw π 214 1 (215 + 1)) 214 14 (216 + 1)) 214 15 (217 + 1)) 214 16 (218 + 1)) 214 17 (219 + 1)) 214 18 (220 + 1)) 214 19 (221 + 1)) 214 20 (222 + 1)) 214 21 (223 + 1)) 214 22 (224 + 1)) 214 26 (225 + 1)) 214 27 (226 + 1)) 214 28 (227 + 1)) 214 30 (228 + 1)) 214 32 (229 + 1)) 214 33 (230 + 1)) 214 36 (231 + 1)) 214 39 (232 + 1)), (wr m 214 35 (-1)))
  refine gc_aload_n dX12_init_158 rfl ?_
  show Gc 2 3 mX12_init _ 159 [vr 214] [vr 214] (233, (pw (pw (pw (pw (pw (pw (pw (pw (pw (pw (pw (pw (pw (pw (pw (pw (pw (pw π 214 1 (215 + 1)) 214 14 (216 + 1)) 214 15 (217 + 1)) 214 16 (218 + 1)) 214 17 (219 + 1)) 214 18 (220 + 1)) 214 19 (221 + 1)) 214 20 (222 + 1)) 214 21 (223 + 1)) 214 22 (224 + 1)) 214 26 (225 + 1)) 214 27 (226 + 1)) 214 28 (227 + 1)) 214 30 (228 + 1)) 214 32 (229 + 1)) 214 33 (230 + 1)) 214 36 (231 + 1)) 214 39 (232 + 1)), (wr m 214 35 (-1)))
  refine gc_iconst dX12_init_159 ?_
  show Gc 2 3 mX12_init _ 160 [vr 214] [vi 4, vr 214] (233, (pw (pw (pw (pw (pw (pw (pw (pw (pw (pw (pw (pw (pw (pw (pw (pw (pw (pw π 214 1 (215 + 1)) 214 14 (216 + 1)) 214 15 (217 + 1)) 214 16 (218 + 1)) 214 17 (219 + 1)) 214 18 (220 + 1)) 214 19 (221 + 1)) 214 20 (222 + 1)) 214 21 (223 + 1)) 214 22 (224 + 1)) 214 26 (225 + 1)) 214 27 (226 + 1)) 214 28 (227 + 1)) 214 30 (228 + 1)) 214 32 (229 + 1)) 214 33 (230 + 1)) 214 36 (231 + 1)) 214 39 (232 + 1)), (wr m 214 35 (-1)))
  refine gc_newI (kd := 0) (N := 4) dX12_init_160 rfl (Or.inl rfl) aw_0 ar_233 (by decide) rfl (by first | rfl | (simp only [okA, List.all_cons, List.all_nil, Bool.and_true, Bool.or_eq_true, Bool.and_eq_true, decide_eq_true_eq]; omega)) (by first | rfl | (simp only [okA, List.all_cons, List.all_nil, Bool.and_true, Bool.or_eq_true, Bool.and_eq_true, decide_eq_true_eq]; omega)) (fun hz19 => ?_)
  show Gc 1 3 mX12_init _ 162 [vr 214] [vr 233, vr 214] (234, (pw (pw (pw (pw (pw (pw (pw (pw (pw (pw (pw (pw (pw (pw (pw (pw (pw (pw π 214 1 (215 + 1)) 214 14 (216 + 1)) 214 15 (217 + 1)) 214 16 (218 + 1)) 214 17 (219 + 1)) 214 18 (220 + 1)) 214 19 (221 + 1)) 214 20 (222 + 1)) 214 21 (223 + 1)) 214 22 (224 + 1)) 214 26 (225 + 1)) 214 27 (226 + 1)) 214 28 (227 + 1)) 214 30 (228 + 1)) 214 32 (229 + 1)) 214 33 (230 + 1)) 214 36 (231 + 1)) 214 39 (232 + 1)), (wr m 214 35 (-1)))
  refine gc_putP dX12_init_162 fl_12_154 ff_12_154 rfl fk_12_154 ob_214 (show 214 < 234 by omega) (show 233 < 234 by omega) rfl ?_
  show Gc 1 3 mX12_init _ 165 [vr 214] [] (234, (pw (pw (pw (pw (pw (pw (pw (pw (pw (pw (pw (pw (pw (pw (pw (pw (pw (pw (pw π 214 1 (215 + 1)) 214 14 (216 + 1)) 214 15 (217 + 1)) 214 16 (218 + 1)) 214 17 (219 + 1)) 214 18 (220 + 1)) 214 19 (221 + 1)) 214 20 (222 + 1)) 214 21 (223 + 1)) 214 22 (224 + 1)) 214 26 (225 + 1)) 214 27 (226 + 1)) 214 28 (227 + 1)) 214 30 (228 + 1)) 214 32 (229 + 1)) 214 33 (230 + 1)) 214 36 (231 + 1)) 214 39 (232 + 1)) 214 40 (233 + 1)), (wr m 214 35 (-1)))
  refine gc_aload_n dX12_init_165 rfl ?_
  show Gc 1 3 mX12_init _ 166 [vr 214] [vr 214] (234, (pw (pw (pw (pw (pw (pw (pw (pw (pw (pw (pw (pw (pw (pw (pw (pw (pw (pw (pw π 214 1 (215 + 1)) 214 14 (216 + 1)) 214 15 (217 + 1)) 214 16 (218 + 1)) 214 17 (219 + 1)) 214 18 (220 + 1)) 214 19 (221 + 1)) 214 20 (222 + 1)) 214 21 (223 + 1)) 214 22 (224 + 1)) 214 26 (225 + 1)) 214 27 (226 + 1)) 214 28 (227 + 1)) 214 30 (228 + 1)) 214 32 (229 + 1)) 214 33 (230 + 1)) 214 36 (231 + 1)) 214 39 (232 + 1)) 214 40 (233 + 1)), (wr m 214 35 (-1)))
  refine gc_sipush dX12_init_166 (by decide) ?_
  show Gc 1 3 mX12_init _ 169 [vr 214] [vi 240, vr 214] (234, (pw (pw (pw (pw (pw (pw (pw (pw (pw (pw (pw (pw (pw (pw (pw (pw (pw (pw (pw π 214 1 (215 + 1)) 214 14 (216 + 1)) 214 15 (217 + 1)) 214 16 (218 + 1)) 214 17 (219 + 1)) 214 18 (220 + 1)) 214 19 (221 + 1)) 214 20 (222 + 1)) 214 21 (223 + 1)) 214 22 (224 + 1)) 214 26 (225 + 1)) 214 27 (226 + 1)) 214 28 (227 + 1)) 214 30 (228 + 1)) 214 32 (229 + 1)) 214 33 (230 + 1)) 214 36 (231 + 1)) 214 39 (232 + 1)) 214 40 (233 + 1)), (wr m 214 35 (-1)))
  refine gc_newI (kd := 0) (N := 240) dX12_init_169 rfl (Or.inl rfl) aw_0 ar_234 (by decide) rfl (by first | rfl | (simp only [okA, List.all_cons, List.all_nil, Bool.and_true, Bool.or_eq_true, Bool.and_eq_true, decide_eq_true_eq]; omega)) (by first | rfl | (simp only [okA, List.all_cons, List.all_nil, Bool.and_true, Bool.or_eq_true, Bool.and_eq_true, decide_eq_true_eq]; omega)) (fun hz20 => ?_)
  show Gc 0 3 mX12_init _ 171 [vr 214] [vr 234, vr 214] (235, (pw (pw (pw (pw (pw (pw (pw (pw (pw (pw (pw (pw (pw (pw (pw (pw (pw (pw (pw π 214 1 (215 + 1)) 214 14 (216 + 1)) 214 15 (217 + 1)) 214 16 (218 + 1)) 214 17 (219 + 1)) 214 18 (220 + 1)) 214 19 (221 + 1)) 214 20 (222 + 1)) 214 21 (223 + 1)) 214 22 (224 + 1)) 214 26 (225 + 1)) 214 27 (226 + 1)) 214 28 (227 + 1)) 214 30 (228 + 1)) 214 32 (229 + 1)) 214 33 (230 + 1)) 214 36 (231 + 1)) 214 39 (232 + 1)) 214 40 (233 + 1)), (wr m 214 35 (-1)))
  refine gc_putP dX12_init_171 fl_12_157 ff_12_157 rfl fk_12_157 ob_214 (show 214 < 235 by omega) (show 234 < 235 by omega) rfl ?_
  show Gc 0 3 mX12_init _ 174 [vr 214] [] (235, (pw (pw (pw (pw (pw (pw (pw (pw (pw (pw (pw (pw (pw (pw (pw (pw (pw (pw (pw (pw π 214 1 (215 + 1)) 214 14 (216 + 1)) 214 15 (217 + 1)) 214 16 (218 + 1)) 214 17 (219 + 1)) 214 18 (220 + 1)) 214 19 (221 + 1)) 214 20 (222 + 1)) 214 21 (223 + 1)) 214 22 (224 + 1)) 214 26 (225 + 1)) 214 27 (226 + 1)) 214 28 (227 + 1)) 214 30 (228 + 1)) 214 32 (229 + 1)) 214 33 (230 + 1)) 214 36 (231 + 1)) 214 39 (232 + 1)) 214 40 (233 + 1)) 214 43 (234 + 1)), (wr m 214 35 (-1)))
  refine gc_aload_n dX12_init_174 rfl ?_
  show Gc 0 3 mX12_init _ 175 [vr 214] [vr 214] (235, (pw (pw (pw (pw (pw (pw (pw (pw (pw (pw (pw (pw (pw (pw (pw (pw (pw (pw (pw (pw π 214 1 (215 + 1)) 214 14 (216 + 1)) 214 15 (217 + 1)) 214 16 (218 + 1)) 214 17 (219 + 1)) 214 18 (220 + 1)) 214 19 (221 + 1)) 214 20 (222 + 1)) 214 21 (223 + 1)) 214 22 (224 + 1)) 214 26 (225 + 1)) 214 27 (226 + 1)) 214 28 (227 + 1)) 214 30 (228 + 1)) 214 32 (229 + 1)) 214 33 (230 + 1)) 214 36 (231 + 1)) 214 39 (232 + 1)) 214 40 (233 + 1)) 214 43 (234 + 1)), (wr m 214 35 (-1)))
  refine gc_getP (b := 216) dX12_init_175 fl_12_98 ob_214 (show 214 < 235 by omega) rfl rfl ?_
  show Gc 0 3 mX12_init _ 178 [vr 214] [vr 216] (235, (pw (pw (pw (pw (pw (pw (pw (pw (pw (pw (pw (pw (pw (pw (pw (pw (pw (pw (pw (pw π 214 1 (215 + 1)) 214 14 (216 + 1)) 214 15 (217 + 1)) 214 16 (218 + 1)) 214 17 (219 + 1)) 214 18 (220 + 1)) 214 19 (221 + 1)) 214 20 (222 + 1)) 214 21 (223 + 1)) 214 22 (224 + 1)) 214 26 (225 + 1)) 214 27 (226 + 1)) 214 28 (227 + 1)) 214 30 (228 + 1)) 214 32 (229 + 1)) 214 33 (230 + 1)) 214 36 (231 + 1)) 214 39 (232 + 1)) 214 40 (233 + 1)) 214 43 (234 + 1)), (wr m 214 35 (-1)))
  refine gc_iconst dX12_init_178 ?_
  show Gc 0 3 mX12_init _ 179 [vr 214] [vi 0, vr 216] (235, (pw (pw (pw (pw (pw (pw (pw (pw (pw (pw (pw (pw (pw (pw (pw (pw (pw (pw (pw (pw π 214 1 (215 + 1)) 214 14 (216 + 1)) 214 15 (217 + 1)) 214 16 (218 + 1)) 214 17 (219 + 1)) 214 18 (220 + 1)) 214 19 (221 + 1)) 214 20 (222 + 1)) 214 21 (223 + 1)) 214 22 (224 + 1)) 214 26 (225 + 1)) 214 27 (226 + 1)) 214 28 (227 + 1)) 214 30 (228 + 1)) 214 32 (229 + 1)) 214 33 (230 + 1)) 214 36 (231 + 1)) 214 39 (232 + 1)) 214 40 (233 + 1)) 214 43 (234 + 1)), (wr m 214 35 (-1)))
  refine gc_bipush dX12_init_179 (by decide) ?_
  show Gc 0 3 mX12_init _ 181 [vr 214] [vi 6, vi 0, vr 216] (235, (pw (pw (pw (pw (pw (pw (pw (pw (pw (pw (pw (pw (pw (pw (pw (pw (pw (pw (pw (pw π 214 1 (215 + 1)) 214 14 (216 + 1)) 214 15 (217 + 1)) 214 16 (218 + 1)) 214 17 (219 + 1)) 214 18 (220 + 1)) 214 19 (221 + 1)) 214 20 (222 + 1)) 214 21 (223 + 1)) 214 22 (224 + 1)) 214 26 (225 + 1)) 214 27 (226 + 1)) 214 28 (227 + 1)) 214 30 (228 + 1)) 214 32 (229 + 1)) 214 33 (230 + 1)) 214 36 (231 + 1)) 214 39 (232 + 1)) 214 40 (233 + 1)) 214 43 (234 + 1)), (wr m 214 35 (-1)))
  refine gc_iastore dX12_init_181 ar_216 (show 216 < 235 by omega) (by decide) (by decide) ⟨by omega, by omega⟩ ?_
  show Gc 0 3 mX12_init _ 182 [vr 214] [] (235, (pw (pw (pw (pw (pw (pw (pw (pw (pw (pw (pw (pw (pw (pw (pw (pw (pw (pw (pw (pw π 214 1 (215 + 1)) 214 14 (216 + 1)) 214 15 (217 + 1)) 214 16 (218 + 1)) 214 17 (219 + 1)) 214 18 (220 + 1)) 214 19 (221 + 1)) 214 20 (222 + 1)) 214 21 (223 + 1)) 214 22 (224 + 1)) 214 26 (225 + 1)) 214 27 (226 + 1)) 214 28 (227 + 1)) 214 30 (228 + 1)) 214 32 (229 + 1)) 214 33 (230 + 1)) 214 36 (231 + 1)) 214 39 (232 + 1)) 214 40 (233 + 1)) 214 43 (234 + 1)), (wr (wr m 214 35 (-1)) 216 0 6))
  refine gc_aload_n dX12_init_182 rfl ?_
  show Gc 0 3 mX12_init _ 183 [vr 214] [vr 214] (235, (pw (pw (pw (pw (pw (pw (pw (pw (pw (pw (pw (pw (pw (pw (pw (pw (pw (pw (pw (pw π 214 1 (215 + 1)) 214 14 (216 + 1)) 214 15 (217 + 1)) 214 16 (218 + 1)) 214 17 (219 + 1)) 214 18 (220 + 1)) 214 19 (221 + 1)) 214 20 (222 + 1)) 214 21 (223 + 1)) 214 22 (224 + 1)) 214 26 (225 + 1)) 214 27 (226 + 1)) 214 28 (227 + 1)) 214 30 (228 + 1)) 214 32 (229 + 1)) 214 33 (230 + 1)) 214 36 (231 + 1)) 214 39 (232 + 1)) 214 40 (233 + 1)) 214 43 (234 + 1)), (wr (wr m 214 35 (-1)) 216 0 6))
  refine gc_getP (b := 216) dX12_init_183 fl_12_98 ob_214 (show 214 < 235 by omega) rfl rfl ?_
  show Gc 0 3 mX12_init _ 186 [vr 214] [vr 216] (235, (pw (pw (pw (pw (pw (pw (pw (pw (pw (pw (pw (pw (pw (pw (pw (pw (pw (pw (pw (pw π 214 1 (215 + 1)) 214 14 (216 + 1)) 214 15 (217 + 1)) 214 16 (218 + 1)) 214 17 (219 + 1)) 214 18 (220 + 1)) 214 19 (221 + 1)) 214 20 (222 + 1)) 214 21 (223 + 1)) 214 22 (224 + 1)) 214 26 (225 + 1)) 214 27 (226 + 1)) 214 28 (227 + 1)) 214 30 (228 + 1)) 214 32 (229 + 1)) 214 33 (230 + 1)) 214 36 (231 + 1)) 214 39 (232 + 1)) 214 40 (233 + 1)) 214 43 (234 + 1)), (wr (wr m 214 35 (-1)) 216 0 6))
  refine gc_iconst dX12_init_186 ?_
  show Gc 0 3 mX12_init _ 187 [vr 214] [vi 1, vr 216] (235, (pw (pw (pw (pw (pw (pw (pw (pw (pw (pw (pw (pw (pw (pw (pw (pw (pw (pw (pw (pw π 214 1 (215 + 1)) 214 14 (216 + 1)) 214 15 (217 + 1)) 214 16 (218 + 1)) 214 17 (219 + 1)) 214 18 (220 + 1)) 214 19 (221 + 1)) 214 20 (222 + 1)) 214 21 (223 + 1)) 214 22 (224 + 1)) 214 26 (225 + 1)) 214 27 (226 + 1)) 214 28 (227 + 1)) 214 30 (228 + 1)) 214 32 (229 + 1)) 214 33 (230 + 1)) 214 36 (231 + 1)) 214 39 (232 + 1)) 214 40 (233 + 1)) 214 43 (234 + 1)), (wr (wr m 214 35 (-1)) 216 0 6))
  refine gc_bipush dX12_init_187 (by decide) ?_
  show Gc 0 3 mX12_init _ 189 [vr 214] [vi 6, vi 1, vr 216] (235, (pw (pw (pw (pw (pw (pw (pw (pw (pw (pw (pw (pw (pw (pw (pw (pw (pw (pw (pw (pw π 214 1 (215 + 1)) 214 14 (216 + 1)) 214 15 (217 + 1)) 214 16 (218 + 1)) 214 17 (219 + 1)) 214 18 (220 + 1)) 214 19 (221 + 1)) 214 20 (222 + 1)) 214 21 (223 + 1)) 214 22 (224 + 1)) 214 26 (225 + 1)) 214 27 (226 + 1)) 214 28 (227 + 1)) 214 30 (228 + 1)) 214 32 (229 + 1)) 214 33 (230 + 1)) 214 36 (231 + 1)) 214 39 (232 + 1)) 214 40 (233 + 1)) 214 43 (234 + 1)), (wr (wr m 214 35 (-1)) 216 0 6))
  refine gc_iastore dX12_init_189 ar_216 (show 216 < 235 by omega) (by decide) (by decide) ⟨by omega, by omega⟩ ?_
  show Gc 0 3 mX12_init _ 190 [vr 214] [] (235, (pw (pw (pw (pw (pw (pw (pw (pw (pw (pw (pw (pw (pw (pw (pw (pw (pw (pw (pw (pw π 214 1 (215 + 1)) 214 14 (216 + 1)) 214 15 (217 + 1)) 214 16 (218 + 1)) 214 17 (219 + 1)) 214 18 (220 + 1)) 214 19 (221 + 1)) 214 20 (222 + 1)) 214 21 (223 + 1)) 214 22 (224 + 1)) 214 26 (225 + 1)) 214 27 (226 + 1)) 214 28 (227 + 1)) 214 30 (228 + 1)) 214 32 (229 + 1)) 214 33 (230 + 1)) 214 36 (231 + 1)) 214 39 (232 + 1)) 214 40 (233 + 1)) 214 43 (234 + 1)), (wr (wr (wr m 214 35 (-1)) 216 0 6) 216 1 6))
  refine gc_aload_n dX12_init_190 rfl ?_
  show Gc 0 3 mX12_init _ 191 [vr 214] [vr 214] (235, (pw (pw (pw (pw (pw (pw (pw (pw (pw (pw (pw (pw (pw (pw (pw (pw (pw (pw (pw (pw π 214 1 (215 + 1)) 214 14 (216 + 1)) 214 15 (217 + 1)) 214 16 (218 + 1)) 214 17 (219 + 1)) 214 18 (220 + 1)) 214 19 (221 + 1)) 214 20 (222 + 1)) 214 21 (223 + 1)) 214 22 (224 + 1)) 214 26 (225 + 1)) 214 27 (226 + 1)) 214 28 (227 + 1)) 214 30 (228 + 1)) 214 32 (229 + 1)) 214 33 (230 + 1)) 214 36 (231 + 1)) 214 39 (232 + 1)) 214 40 (233 + 1)) 214 43 (234 + 1)), (wr (wr (wr m 214 35 (-1)) 216 0 6) 216 1 6))
  refine gc_callV (as := []) (S := []) (b := 214) (evc_startSo (m := (wr (wr (wr m 214 35 (-1)) 216 0 6) 216 1 6)) rfl (fun j hj => by rw [wr_ni (by omega), wr_ni (by omega), wr_row (by decide)]; exact hz2 j)) dX12_init_191 cv_12_160 rfl rfl ob_214 (show 214 < 235 by omega) rfl (by decide) (Nat.le_of_ble_eq_true rfl) (by decide) (fun _ _ h => by rw [h]; show 235 ≤ 235; omega) (by first | rfl | (simp only [okA, List.all_cons, List.all_nil, Bool.and_true, Bool.or_eq_true, Bool.and_eq_true, decide_eq_true_eq]; omega)) (by first | rfl | (simp only [okA, List.all_cons, List.all_nil, Bool.and_true, Bool.or_eq_true, Bool.and_eq_true, decide_eq_true_eq]; omega)) (fun r9 w9 hq9 _ => ?_)
  subst hq9
  show Gc 0 3 mX12_init _ 194 [vr 214] [] (235, (pw (pw (pw (pw (pw (pw (pw (pw (pw (pw (pw (pw (pw (pw (pw (pw (pw (pw (pw (pw π 214 1 (215 + 1)) 214 14 (216 + 1)) 214 15 (217 + 1)) 214 16 (218 + 1)) 214 17 (219 + 1)) 214 18 (220 + 1)) 214 19 (221 + 1)) 214 20 (222 + 1)) 214 21 (223 + 1)) 214 22 (224 + 1)) 214 26 (225 + 1)) 214 27 (226 + 1)) 214 28 (227 + 1)) 214 30 (228 + 1)) 214 32 (229 + 1)) 214 33 (230 + 1)) 214 36 (231 + 1)) 214 39 (232 + 1)) 214 40 (233 + 1)) 214 43 (234 + 1)), (wr (wr (wr m 214 35 (-1)) 216 0 6) 216 1 6))
  exact gc_ret (v := 0) rfl dX12_init_194 rfl rfl
theorem dX11_init_0 : decode mX11_init.2.1 0 = .ok (.aload_n 0, 1) := by decide +kernel
theorem dX11_init_1 : decode mX11_init.2.1 1 = .ok (.invokespecial 3, 3) := by decide +kernel
theorem dX11_init_4 : decode mX11_init.2.1 4 = .ok (.aload_n 0, 1) := by decide +kernel
theorem dX11_init_5 : decode mX11_init.2.1 5 = .ok (.new 9, 3) := by decide +kernel
theorem dX11_init_8 : decode mX11_init.2.1 8 = .ok (.dup, 1) := by decide +kernel
theorem dX11_init_9 : decode mX11_init.2.1 9 = .ok (.invokespecial 11, 3) := by decide +kernel
theorem dX11_init_12 : decode mX11_init.2.1 12 = .ok (.putfield 12, 3) := by decide +kernel
theorem dX11_init_15 : decode mX11_init.2.1 15 = .ok (.aload_n 0, 1) := by decide +kernel
theorem dX11_init_16 : decode mX11_init.2.1 16 = .ok (.new 16, 3) := by decide +kernel
theorem dX11_init_19 : decode mX11_init.2.1 19 = .ok (.dup, 1) := by decide +kernel
theorem dX11_init_20 : decode mX11_init.2.1 20 = .ok (.new 18, 3) := by decide +kernel
theorem dX11_init_23 : decode mX11_init.2.1 23 = .ok (.dup, 1) := by decide +kernel
theorem dX11_init_24 : decode mX11_init.2.1 24 = .ok (.invokespecial 20, 3) := by decide +kernel
theorem dX11_init_27 : decode mX11_init.2.1 27 = .ok (.invokespecial 21, 3) := by decide +kernel
theorem dX11_init_30 : decode mX11_init.2.1 30 = .ok (.putfield 24, 3) := by decide +kernel
theorem dX11_init_33 : decode mX11_init.2.1 33 = .ok (.aload_n 0, 1) := by decide +kernel
theorem dX11_init_34 : decode mX11_init.2.1 34 = .ok (.new 16, 3) := by decide +kernel
theorem dX11_init_37 : decode mX11_init.2.1 37 = .ok (.dup, 1) := by decide +kernel
theorem dX11_init_38 : decode mX11_init.2.1 38 = .ok (.aload_n 0, 1) := by decide +kernel
theorem dX11_init_39 : decode mX11_init.2.1 39 = .ok (.getfield 24, 3) := by decide +kernel
theorem dX11_init_42 : decode mX11_init.2.1 42 = .ok (.getfield 28, 3) := by decide +kernel
theorem dX11_init_45 : decode mX11_init.2.1 45 = .ok (.invokespecial 21, 3) := by decide +kernel
theorem dX11_init_48 : decode mX11_init.2.1 48 = .ok (.putfield 32, 3) := by decide +kernel
theorem dX11_init_51 : decode mX11_init.2.1 51 = .ok (.aload_n 0, 1) := by decide +kernel
theorem dX11_init_52 : decode mX11_init.2.1 52 = .ok (.new 35, 3) := by decide +kernel
theorem dX11_init_55 : decode mX11_init.2.1 55 = .ok (.dup, 1) := by decide +kernel
theorem dX11_init_56 : decode mX11_init.2.1 56 = .ok (.aload_n 0, 1) := by decide +kernel
theorem dX11_init_57 : decode mX11_init.2.1 57 = .ok (.getfield 12, 3) := by decide +kernel
theorem dX11_init_60 : decode mX11_init.2.1 60 = .ok (.invokespecial 37, 3) := by decide +kernel
theorem dX11_init_63 : decode mX11_init.2.1 63 = .ok (.putfield 40, 3) := by decide +kernel
theorem dX11_init_66 : decode mX11_init.2.1 66 = .ok (.aload_n 0, 1) := by decide +kernel
theorem dX11_init_67 : decode mX11_init.2.1 67 = .ok (.new 44, 3) := by decide +kernel
theorem dX11_init_70 : decode mX11_init.2.1 70 = .ok (.dup, 1) := by decide +kernel
theorem dX11_init_71 : decode mX11_init.2.1 71 = .ok (.aload_n 0, 1) := by decide +kernel
theorem dX11_init_72 : decode mX11_init.2.1 72 = .ok (.getfield 12, 3) := by decide +kernel
theorem dX11_init_75 : decode mX11_init.2.1 75 = .ok (.invokespecial 46, 3) := by decide +kernel
theorem dX11_init_78 : decode mX11_init.2.1 78 = .ok (.putfield 47, 3) := by decide +kernel
theorem dX11_init_81 : decode mX11_init.2.1 81 = .ok (.aload_n 0, 1) := by decide +kernel
theorem dX11_init_82 : decode mX11_init.2.1 82 = .ok (.new 51, 3) := by decide +kernel
theorem dX11_init_85 : decode mX11_init.2.1 85 = .ok (.dup, 1) := by decide +kernel
theorem dX11_init_86 : decode mX11_init.2.1 86 = .ok (.invokespecial 53, 3) := by decide +kernel
theorem dX11_init_89 : decode mX11_init.2.1 89 = .ok (.putfield 54, 3) := by decide +kernel
theorem dX11_init_92 : decode mX11_init.2.1 92 = .ok (.aload_n 0, 1) := by decide +kernel
theorem dX11_init_93 : decode mX11_init.2.1 93 = .ok (.new 58, 3) := by decide +kernel
theorem dX11_init_96 : decode mX11_init.2.1 96 = .ok (.dup, 1) := by decide +kernel
theorem dX11_init_97 : decode mX11_init.2.1 97 = .ok (.invokespecial 60, 3) := by decide +kernel
theorem dX11_init_100 : decode mX11_init.2.1 100 = .ok (.putfield 61, 3) := by decide +kernel
theorem dX11_init_103 : decode mX11_init.2.1 103 = .ok (.aload_n 0, 1) := by decide +kernel
theorem dX11_init_104 : decode mX11_init.2.1 104 = .ok (.new 65, 3) := by decide +kernel
theorem dX11_init_107 : decode mX11_init.2.1 107 = .ok (.dup, 1) := by decide +kernel
theorem dX11_init_108 : decode mX11_init.2.1 108 = .ok (.invokespecial 67, 3) := by decide +kernel
theorem dX11_init_111 : decode mX11_init.2.1 111 = .ok (.putfield 68, 3) := by decide +kernel
theorem dX11_init_114 : decode mX11_init.2.1 114 = .ok (.aload_n 0, 1) := by decide +kernel
theorem dX11_init_115 : decode mX11_init.2.1 115 = .ok (.new 72, 3) := by decide +kernel
theorem dX11_init_118 : decode mX11_init.2.1 118 = .ok (.dup, 1) := by decide +kernel
theorem dX11_init_119 : decode mX11_init.2.1 119 = .ok (.invokespecial 74, 3) := by decide +kernel
theorem dX11_init_122 : decode mX11_init.2.1 122 = .ok (.putfield 75, 3) := by decide +kernel
theorem dX11_init_125 : decode mX11_init.2.1 125 = .ok (.aload_n 0, 1) := by decide +kernel
theorem dX11_init_126 : decode mX11_init.2.1 126 = .ok (.new 79, 3) := by decide +kernel
theorem dX11_init_129 : decode mX11_init.2.1 129 = .ok (.dup, 1) := by decide +kernel
theorem dX11_init_130 : decode mX11_init.2.1 130 = .ok (.invokespecial 81, 3) := by decide +kernel
theorem dX11_init_133 : decode mX11_init.2.1 133 = .ok (.putfield 82, 3) := by decide +kernel
theorem dX11_init_136 : decode mX11_init.2.1 136 = .ok (.aload_n 0, 1) := by decide +kernel
theorem dX11_init_137 : decode mX11_init.2.1 137 = .ok (.iconst 2, 1) := by decide +kernel
theorem dX11_init_138 : decode mX11_init.2.1 138 = .ok (.anewarray 16, 3) := by decide +kernel
theorem dX11_init_141 : decode mX11_init.2.1 141 = .ok (.dup, 1) := by decide +kernel
theorem dX11_init_142 : decode mX11_init.2.1 142 = .ok (.iconst 0, 1) := by decide +kernel
theorem dX11_init_143 : decode mX11_init.2.1 143 = .ok (.new 16, 3) := by decide +kernel
theorem dX11_init_146 : decode mX11_init.2.1 146 = .ok (.dup, 1) := by decide +kernel
theorem dX11_init_147 : decode mX11_init.2.1 147 = .ok (.new 18, 3) := by decide +kernel
theorem dX11_init_150 : decode mX11_init.2.1 150 = .ok (.dup, 1) := by decide +kernel
theorem dX11_init_151 : decode mX11_init.2.1 151 = .ok (.invokespecial 20, 3) := by decide +kernel
theorem dX11_init_154 : decode mX11_init.2.1 154 = .ok (.invokespecial 21, 3) := by decide +kernel
theorem dX11_init_157 : decode mX11_init.2.1 157 = .ok (.aastore, 1) := by decide +kernel
theorem dX11_init_158 : decode mX11_init.2.1 158 = .ok (.dup, 1) := by decide +kernel
theorem dX11_init_159 : decode mX11_init.2.1 159 = .ok (.iconst 1, 1) := by decide +kernel
theorem dX11_init_160 : decode mX11_init.2.1 160 = .ok (.new 16, 3) := by decide +kernel
theorem dX11_init_163 : decode mX11_init.2.1 163 = .ok (.dup, 1) := by decide +kernel
theorem dX11_init_164 : decode mX11_init.2.1 164 = .ok (.new 18, 3) := by decide +kernel
theorem dX11_init_167 : decode mX11_init.2.1 167 = .ok (.dup, 1) := by decide +kernel
theorem dX11_init_168 : decode mX11_init.2.1 168 = .ok (.invokespecial 20, 3) := by decide +kernel
theorem dX11_init_171 : decode mX11_init.2.1 171 = .ok (.invokespecial 21, 3) := by decide +kernel
theorem dX11_init_174 : decode mX11_init.2.1 174 = .ok (.aastore, 1) := by decide +kernel
theorem dX11_init_175 : decode mX11_init.2.1 175 = .ok (.putfield 86, 3) := by decide +kernel
theorem dX11_init_178 : decode mX11_init.2.1 178 = .ok (.aload_n 0, 1) := by decide +kernel
theorem dX11_init_179 : decode mX11_init.2.1 179 = .ok (.iconst 2, 1) := by decide +kernel
theorem dX11_init_180 : decode mX11_init.2.1 180 = .ok (.newarray .boolean, 2) := by decide +kernel
theorem dX11_init_182 : decode mX11_init.2.1 182 = .ok (.putfield 90, 3) := by decide +kernel
theorem dX11_init_185 : decode mX11_init.2.1 185 = .ok (.aload_n 0, 1) := by decide +kernel
theorem dX11_init_186 : decode mX11_init.2.1 186 = .ok (.bipush 25, 2) := by decide +kernel
theorem dX11_init_188 : decode mX11_init.2.1 188 = .ok (.newarray .byte, 2) := by decide +kernel
theorem dX11_init_190 : decode mX11_init.2.1 190 = .ok (.putfield 94, 3) := by decide +kernel
theorem dX11_init_193 : decode mX11_init.2.1 193 = .ok (.aload_n 0, 1) := by decide +kernel
theorem dX11_init_194 : decode mX11_init.2.1 194 = .ok (.iconst 0, 1) := by decide +kernel
theorem dX11_init_195 : decode mX11_init.2.1 195 = .ok (.putfield 98, 3) := by decide +kernel
theorem dX11_init_198 : decode mX11_init.2.1 198 = .ok (.return_, 1) := by decide +kernel
def pCt (π : Nat → Nat → Nat) : Nat → Nat → Nat := (pw (pw (pw (pw (pWo (pDn (pw (pWo (pDn (pw (pHi (pw (pTr (pw (pUd (pw (pSr (pw (pSe (pw (pBk (pw (pDt (pw (pWo (pw (pWo (pDn (pw (pTp π) 0 0 (1 + 1)) 8) 7 8 18) 0 1 (7 + 1)) 31 8 32) 0 2 (31 + 1))) 0 3 (45 + 1))) 0 4 (70 + 1)) 76) 0 5 (76 + 1))) 0 6 (81 + 1))) 0 7 (89 + 1))) 0 8 (92 + 1))) 0 9 (97 + 1)) 165) 164 165 175) 163 0 (164 + 1)) 189) 188 189 199) 163 1 (188 + 1)) 0 10 (163 + 1)) 0 11 (212 + 1)) 0 12 (213 + 1))
def mCt (m : Mem) : Mem := (mDn (mDn (mDt (mDn (mTp m) 8)) 165) 189)
set_option maxRecDepth 4000 in
theorem evc_X11 {π : Nat → Nat → Nat} {m : Mem}  (hz : ∀ i : Int, m 0 i = 0) : EvC 213 8 mX11_init [vr 0] (1, π, m) (fun _ w' => w' = (214, pCt π, (mCt m))) := by
  refine EvC.of (L := [vr 0]) (by decide +kernel) (Nat.le_of_ble_eq_true rfl) rfl (fun t ht => by cases ht) (fun t ht => by cases ht) (fun hcan => ?_)
  refine gc_aload_n dX11_init_0 rfl ?_
  show Gc 213 8 mX11_init _ 1 [vr 0] [vr 0] (1, π, m)
  refine gc_obj dX11_init_1 oj_11 ob_in ob_co (by decide) (Nat.le_of_ble_eq_true rfl) ?_
  show Gc 213 8 mX11_init _ 4 [vr 0] [] (1, π, m)
  refine gc_aload_n dX11_init_4 rfl ?_
  show Gc 213 8 mX11_init _ 5 [vr 0] [vr 0] (1, π, m)
  refine gc_new dX11_init_5 nw_11_9 (fun j _ => tg_7 j) ob_1 (by first | rfl | (simp only [okA, List.all_cons, List.all_nil, Bool.and_true, Bool.or_eq_true, Bool.and_eq_true, decide_eq_true_eq]; omega)) (by first | rfl | (simp only [okA, List.all_cons, List.all_nil, Bool.and_true, Bool.or_eq_true, Bool.and_eq_true, decide_eq_true_eq]; omega)) (fun hz1 => ?_)
  show Gc 212 8 mX11_init _ 8 [vr 0] [vr 1, vr 0] (2, π, m)
  refine gc_dup_r dX11_init_8 ?_
  show Gc 212 8 mX11_init _ 9 [vr 0] [vr 1, vr 1, vr 0] (2, π, m)
  refine gc_callI (as := []) (S := [vr 1, vr 0]) (b := 1) (evc_X7 (m := m) (fun i => hz1 i)) dX11_init_9 ci_11_11 rfl rfl (by decide) (Nat.le_of_ble_eq_true rfl) (by decide) (fun _ _ h => by rw [h]; show 2 ≤ 7; omega) (by first | rfl | (simp only [okA, List.all_cons, List.all_nil, Bool.and_true, Bool.or_eq_true, Bool.and_eq_true, decide_eq_true_eq]; omega)) (by first | rfl | (simp only [okA, List.all_cons, List.all_nil, Bool.and_true, Bool.or_eq_true, Bool.and_eq_true, decide_eq_true_eq]; omega)) (fun r9 w9 hq9 _ => ?_)
  subst hq9
  show Gc 207 8 mX11_init _ 12 [vr 0] [vr 1, vr 0] (7, (pTp π), (mTp m))
  refine gc_putP dX11_init_12 fl_11_12 ff_11_12 rfl fk_11_12 ob_0 (show 0 < 7 by omega) (show 1 < 7 by omega) rfl ?_
  show Gc 207 8 mX11_init _ 15 [vr 0] [] (7, (pw (pTp π) 0 0 (1 + 1)), (mTp m))
  refine gc_aload_n dX11_init_15 rfl ?_
  show Gc 207 8 mX11_init _ 16 [vr 0] [vr 0] (7, (pw (pTp π) 0 0 (1 + 1)), (mTp m))
  refine gc_new dX11_init_16 nw_11_16 (fun j _ => tg_10 j) ob_7 (by first | rfl | (simp only [okA, List.all_cons, List.all_nil, Bool.and_true, Bool.or_eq_true, Bool.and_eq_true, decide_eq_true_eq]; omega)) (by first | rfl | (simp only [okA, List.all_cons, List.all_nil, Bool.and_true, Bool.or_eq_true, Bool.and_eq_true, decide_eq_true_eq]; omega)) (fun hz2 => ?_)
  show Gc 206 8 mX11_init _ 19 [vr 0] [vr 7, vr 0] (8, (pw (pTp π) 0 0 (1 + 1)), (mTp m))
  refine gc_dup_r dX11_init_19 ?_
  show Gc 206 8 mX11_init _ 20 [vr 0] [vr 7, vr 7, vr 0] (8, (pw (pTp π) 0 0 (1 + 1)), (mTp m))
  refine gc_new dX11_init_20 nw_11_18 (fun j _ => tg_1 j) ob_8 (by first | rfl | (simp only [okA, List.all_cons, List.all_nil, Bool.and_true, Bool.or_eq_true, Bool.and_eq_true, decide_eq_true_eq]; omega)) (by first | rfl | (simp only [okA, List.all_cons, List.all_nil, Bool.and_true, Bool.or_eq_true, Bool.and_eq_true, decide_eq_true_eq]; omega)) (fun hz3 => ?_)
  show Gc 205 8 mX11_init _ 23 [vr 0] [vr 8, vr 7, vr 7, vr 0] (9, (pw (pTp π) 0 0 (1 + 1)), (mTp m))
  refine gc_dup_r dX11_init_23 ?_
  show Gc 205 8 mX11_init _ 24 [vr 0] [vr 8, vr 8, vr 7, vr 7, vr 0] (9, (pw (pTp π) 0 0 (1 + 1)), (mTp m))
  refine gc_callI (as := []) (S := [vr 8, vr 7, vr 7, vr 0]) (b := 8) (evc_X1 (a := 8) (m := (mTp m)) isDn_8 (fun i => hz3 i)) dX11_init_24 ci_11_20 rfl rfl (by decide) (Nat.le_of_ble_eq_true rfl) (by decide) (fun _ _ h => by rw [h]; show 9 ≤ 18; omega) (by first | rfl | (simp only [okA, List.all_cons, List.all_nil, Bool.and_true, Bool.or_eq_true, Bool.and_eq_true, decide_eq_true_eq]; omega)) (by first | rfl | (simp only [okA, List.all_cons, List.all_nil, Bool.and_true, Bool.or_eq_true, Bool.and_eq_true, decide_eq_true_eq]; omega)) (fun r9 w9 hq9 _ => ?_)
  subst hq9
  show Gc 196 8 mX11_init _ 27 [vr 0] [vr 8, vr 7, vr 7, vr 0] (18, (pDn (pw (pTp π) 0 0 (1 + 1)) 8), (mDn (mTp m) 8))
  refine gc_callI (as := [vr 8]) (S := [vr 7, vr 0]) (b := 7) (evc_X10 (a := 7) (b := 8) (n := 18) (m := (mDn (mTp m) 8)) ob_7 (by decide) (by decide) isSt_18 isSe_26 (fun i => hz2 i)) dX11_init_27 ci_11_21 rfl rfl (by decide) (Nat.le_of_ble_eq_true rfl) (by decide) (fun _ _ h => by rw [h]; show 18 ≤ 31; omega) (by first | rfl | (simp only [okA, List.all_cons, List.all_nil, Bool.and_true, Bool.or_eq_true, Bool.and_eq_true, decide_eq_true_eq]; omega)) (by first | rfl | (simp only [okA, List.all_cons, List.all_nil, Bool.and_true, Bool.or_eq_true, Bool.and_eq_true, decide_eq_true_eq]; omega)) (fun r9 w9 hq9 _ => ?_)
  subst hq9
  show Gc 183 8 mX11_init _ 30 [vr 0] [vr 7, vr 0] (31, (pWo (pDn (pw (pTp π) 0 0 (1 + 1)) 8) 7 8 18), (mDn (mTp m) 8))
  refine gc_putP dX11_init_30 fl_11_24 ff_11_24 rfl fk_11_24 ob_0 (show 0 < 31 by omega) (show 7 < 31 by omega) rfl ?_
  show Gc 183 8 mX11_init _ 33 [vr 0] [] (31, (pw (pWo (pDn (pw (pTp π) 0 0 (1 + 1)) 8) 7 8 18) 0 1 (7 + 1)), (mDn (mTp m) 8))
  refine gc_aload_n dX11_init_33 rfl ?_
  show Gc 183 8 mX11_init _ 34 [vr 0] [vr 0] (31, (pw (pWo (pDn (pw (pTp π) 0 0 (1 + 1)) 8) 7 8 18) 0 1 (7 + 1)), (mDn (mTp m) 8))
  refine gc_new dX11_init_34 nw_11_16 (fun j _ => tg_10 j) ob_31 (by first | rfl | (simp only [okA, List.all_cons, List.all_nil, Bool.and_true, Bool.or_eq_true, Bool.and_eq_true, decide_eq_true_eq]; omega)) (by first | rfl | (simp only [okA, List.all_cons, List.all_nil, Bool.and_true, Bool.or_eq_true, Bool.and_eq_true, decide_eq_true_eq]; omega)) (fun hz4 => ?_)
  show Gc 182 8 mX11_init _ 37 [vr 0] [vr 31, vr 0] (32, (pw (pWo (pDn (pw (pTp π) 0 0 (1 + 1)) 8) 7 8 18) 0 1 (7 + 1)), (mDn (mTp m) 8))
  refine gc_dup_r dX11_init_37 ?_
  show Gc 182 8 mX11_init _ 38 [vr 0] [vr 31, vr 31, vr 0] (32, (pw (pWo (pDn (pw (pTp π) 0 0 (1 + 1)) 8) 7 8 18) 0 1 (7 + 1)), (mDn (mTp m) 8))
  refine gc_aload_n dX11_init_38 rfl ?_
  show Gc 182 8 mX11_init _ 39 [vr 0] [vr 0, vr 31, vr 31, vr 0] (32, (pw (pWo (pDn (pw (pTp π) 0 0 (1 + 1)) 8) 7 8 18) 0 1 (7 + 1)), (mDn (mTp m) 8))
  refine gc_getP (b := 7) dX11_init_39 fl_11_24 ob_0 (show 0 < 32 by omega) rfl rfl ?_
  show Gc 182 8 mX11_init _ 42 [vr 0] [vr 7, vr 31, vr 31, vr 0] (32, (pw (pWo (pDn (pw (pTp π) 0 0 (1 + 1)) 8) 7 8 18) 0 1 (7 + 1)), (mDn (mTp m) 8))
  refine gc_getP (b := 8) dX11_init_42 fl_11_28 ob_7 (show 7 < 32 by omega) rfl rfl ?_
  show Gc 182 8 mX11_init _ 45 [vr 0] [vr 8, vr 31, vr 31, vr 0] (32, (pw (pWo (pDn (pw (pTp π) 0 0 (1 + 1)) 8) 7 8 18) 0 1 (7 + 1)), (mDn (mTp m) 8))
  refine gc_callI (as := [vr 8]) (S := [vr 31, vr 0]) (b := 31) (evc_X10 (a := 31) (b := 8) (n := 32) (m := (mDn (mTp m) 8)) ob_31 (by decide) (by decide) isSt_32 isSe_40 (fun i => hz4 i)) dX11_init_45 ci_11_21 rfl rfl (by decide) (Nat.le_of_ble_eq_true rfl) (by decide) (fun _ _ h => by rw [h]; show 32 ≤ 45; omega) (by first | rfl | (simp only [okA, List.all_cons, List.all_nil, Bool.and_true, Bool.or_eq_true, Bool.and_eq_true, decide_eq_true_eq]; omega)) (by first | rfl | (simp only [okA, List.all_cons, List.all_nil, Bool.and_true, Bool.or_eq_true, Bool.and_eq_true, decide_eq_true_eq]; omega)) (fun r9 w9 hq9 _ => ?_)
  subst hq9
  show Gc 169 8 mX11_init _ 48 [vr 0] [vr 31, vr 0] (45, (pWo (pw (pWo (pDn (pw (pTp π) 0 0 (1 + 1)) 8) 7 8 18) 0 1 (7 + 1)) 31 8 32), (mDn (mTp m) 8))
  refine gc_putP dX11_init_48 fl_11_32 ff_11_32 rfl fk_11_32 ob_0 (show 0 < 45 by omega) (show 31 < 45 by omega) rfl ?_
  show Gc 169 8 mX11_init _ 51 [vr 0] [] (45, (pw (pWo (pw (pWo (pDn (pw (pTp π) 0 0 (1 + 1)) 8) 7 8 18) 0 1 (7 + 1)) 31 8 32) 0 2 (31 + 1)), (mDn (mTp m) 8))
  refine gc_aload_n dX11_init_51 rfl ?_
  show Gc 169 8 mX11_init _ 52 [vr 0] [vr 0] (45, (pw (pWo (pw (pWo (pDn (pw (pTp π) 0 0 (1 + 1)) 8) 7 8 18) 0 1 (7 + 1)) 31 8 32) 0 2 (31 + 1)), (mDn (mTp m) 8))
  refine gc_new dX11_init_52 nw_11_35 (fun j _ => tg_2 j) ob_45 (by first | rfl | (simp only [okA, List.all_cons, List.all_nil, Bool.and_true, Bool.or_eq_true, Bool.and_eq_true, decide_eq_true_eq]; omega)) (by first | rfl | (simp only [okA, List.all_cons, List.all_nil, Bool.and_true, Bool.or_eq_true, Bool.and_eq_true, decide_eq_true_eq]; omega)) (fun hz5 => ?_)
  show Gc 168 8 mX11_init _ 55 [vr 0] [vr 45, vr 0] (46, (pw (pWo (pw (pWo (pDn (pw (pTp π) 0 0 (1 + 1)) 8) 7 8 18) 0 1 (7 + 1)) 31 8 32) 0 2 (31 + 1)), (mDn (mTp m) 8))
  refine gc_dup_r dX11_init_55 ?_
  show Gc 168 8 mX11_init _ 56 [vr 0] [vr 45, vr 45, vr 0] (46, (pw (pWo (pw (pWo (pDn (pw (pTp π) 0 0 (1 + 1)) 8) 7 8 18) 0 1 (7 + 1)) 31 8 32) 0 2 (31 + 1)), (mDn (mTp m) 8))
  refine gc_aload_n dX11_init_56 rfl ?_
  show Gc 168 8 mX11_init _ 57 [vr 0] [vr 0, vr 45, vr 45, vr 0] (46, (pw (pWo (pw (pWo (pDn (pw (pTp π) 0 0 (1 + 1)) 8) 7 8 18) 0 1 (7 + 1)) 31 8 32) 0 2 (31 + 1)), (mDn (mTp m) 8))
  refine gc_getP (b := 1) dX11_init_57 fl_11_12 ob_0 (show 0 < 46 by omega) rfl rfl ?_
  show Gc 168 8 mX11_init _ 60 [vr 0] [vr 1, vr 45, vr 45, vr 0] (46, (pw (pWo (pw (pWo (pDn (pw (pTp π) 0 0 (1 + 1)) 8) 7 8 18) 0 1 (7 + 1)) 31 8 32) 0 2 (31 + 1)), (mDn (mTp m) 8))
  refine gc_callI (as := [vr 1]) (S := [vr 45, vr 0]) (b := 45) (evc_X2 (m := (mDn (mTp m) 8)) (fun i => hz5 i)) dX11_init_60 ci_11_37 rfl rfl (by decide) (Nat.le_of_ble_eq_true rfl) (by decide) (fun _ _ h => by rw [h]; show 46 ≤ 70; omega) (by first | rfl | (simp only [okA, List.all_cons, List.all_nil, Bool.and_true, Bool.or_eq_true, Bool.and_eq_true, decide_eq_true_eq]; omega)) (by first | rfl | (simp only [okA, List.all_cons, List.all_nil, Bool.and_true, Bool.or_eq_true, Bool.and_eq_true, decide_eq_true_eq]; omega)) (fun r9 w9 hq9 _ => ?_)
  subst hq9
  show Gc 144 8 mX11_init _ 63 [vr 0] [vr 45, vr 0] (70, (pDt (pw (pWo (pw (pWo (pDn (pw (pTp π) 0 0 (1 + 1)) 8) 7 8 18) 0 1 (7 + 1)) 31 8 32) 0 2 (31 + 1))), (mDt (mDn (mTp m) 8)))
  refine gc_putP dX11_init_63 fl_11_40 ff_11_40 rfl fk_11_40 ob_0 (show 0 < 70 by omega) (show 45 < 70 by omega) rfl ?_
  show Gc 144 8 mX11_init _ 66 [vr 0] [] (70, (pw (pDt (pw (pWo (pw (pWo (pDn (pw (pTp π) 0 0 (1 + 1)) 8) 7 8 18) 0 1 (7 + 1)) 31 8 32) 0 2 (31 + 1))) 0 3 (45 + 1)), (mDt (mDn (mTp m) 8)))
  refine gc_aload_n dX11_init_66 rfl ?_
  show Gc 144 8 mX11_init _ 67 [vr 0] [vr 0] (70, (pw (pDt (pw (pWo (pw (pWo (pDn (pw (pTp π) 0 0 (1 + 1)) 8) 7 8 18) 0 1 (7 + 1)) 31 8 32) 0 2 (31 + 1))) 0 3 (45 + 1)), (mDt (mDn (mTp m) 8)))
  refine gc_new dX11_init_67 nw_11_44 (fun j _ => tg_0 j) ob_70 (by first | rfl | (simp only [okA, List.all_cons, List.all_nil, Bool.and_true, Bool.or_eq_true, Bool.and_eq_true, decide_eq_true_eq]; omega)) (by first | rfl | (simp only [okA, List.all_cons, List.all_nil, Bool.and_true, Bool.or_eq_true, Bool.and_eq_true, decide_eq_true_eq]; omega)) (fun hz6 => ?_)
  show Gc 143 8 mX11_init _ 70 [vr 0] [vr 70, vr 0] (71, (pw (pDt (pw (pWo (pw (pWo (pDn (pw (pTp π) 0 0 (1 + 1)) 8) 7 8 18) 0 1 (7 + 1)) 31 8 32) 0 2 (31 + 1))) 0 3 (45 + 1)), (mDt (mDn (mTp m) 8)))
  refine gc_dup_r dX11_init_70 ?_
  show Gc 143 8 mX11_init _ 71 [vr 0] [vr 70, vr 70, vr 0] (71, (pw (pDt (pw (pWo (pw (pWo (pDn (pw (pTp π) 0 0 (1 + 1)) 8) 7 8 18) 0 1 (7 + 1)) 31 8 32) 0 2 (31 + 1))) 0 3 (45 + 1)), (mDt (mDn (mTp m) 8)))
  refine gc_aload_n dX11_init_71 rfl ?_
  show Gc 143 8 mX11_init _ 72 [vr 0] [vr 0, vr 70, vr 70, vr 0] (71, (pw (pDt (pw (pWo (pw (pWo (pDn (pw (pTp π) 0 0 (1 + 1)) 8) 7 8 18) 0 1 (7 + 1)) 31 8 32) 0 2 (31 + 1))) 0 3 (45 + 1)), (mDt (mDn (mTp m) 8)))
  refine gc_getP (b := 1) dX11_init_72 fl_11_12 ob_0 (show 0 < 71 by omega) rfl rfl ?_
  show Gc 143 8 mX11_init _ 75 [vr 0] [vr 1, vr 70, vr 70, vr 0] (71, (pw (pDt (pw (pWo (pw (pWo (pDn (pw (pTp π) 0 0 (1 + 1)) 8) 7 8 18) 0 1 (7 + 1)) 31 8 32) 0 2 (31 + 1))) 0 3 (45 + 1)), (mDt (mDn (mTp m) 8)))
  refine gc_callI (as := [vr 1]) (S := [vr 70, vr 0]) (b := 70) (evc_X0 (m := (mDt (mDn (mTp m) 8))) (fun i => hz6 i)) dX11_init_75 ci_11_46 rfl rfl (by decide) (Nat.le_of_ble_eq_true rfl) (by decide) (fun _ _ h => by rw [h]; show 71 ≤ 76; omega) (by first | rfl | (simp only [okA, List.all_cons, List.all_nil, Bool.and_true, Bool.or_eq_true, Bool.and_eq_true, decide_eq_true_eq]; omega)) (by first | rfl | (simp only [okA, List.all_cons, List.all_nil, Bool.and_true, Bool.or_eq_true, Bool.and_eq_true, decide_eq_true_eq]; omega)) (fun r9 w9 hq9 _ => ?_)
  subst hq9
  show Gc 138 8 mX11_init _ 78 [vr 0] [vr 70, vr 0] (76, (pBk (pw (pDt (pw (pWo (pw (pWo (pDn (pw (pTp π) 0 0 (1 + 1)) 8) 7 8 18) 0 1 (7 + 1)) 31 8 32) 0 2 (31 + 1))) 0 3 (45 + 1))), (mDt (mDn (mTp m) 8)))
  refine gc_putP dX11_init_78 fl_11_47 ff_11_47 rfl fk_11_47 ob_0 (show 0 < 76 by omega) (show 70 < 76 by omega) rfl ?_
  show Gc 138 8 mX11_init _ 81 [vr 0] [] (76, (pw (pBk (pw (pDt (pw (pWo (pw (pWo (pDn (pw (pTp π) 0 0 (1 + 1)) 8) 7 8 18) 0 1 (7 + 1)) 31 8 32) 0 2 (31 + 1))) 0 3 (45 + 1))) 0 4 (70 + 1)), (mDt (mDn (mTp m) 8)))
  refine gc_aload_n dX11_init_81 rfl ?_
  show Gc 138 8 mX11_init _ 82 [vr 0] [vr 0] (76, (pw (pBk (pw (pDt (pw (pWo (pw (pWo (pDn (pw (pTp π) 0 0 (1 + 1)) 8) 7 8 18) 0 1 (7 + 1)) 31 8 32) 0 2 (31 + 1))) 0 3 (45 + 1))) 0 4 (70 + 1)), (mDt (mDn (mTp m) 8)))
  refine gc_new dX11_init_82 nw_11_51 (fun j _ => tg_5 j) ob_76 (by first | rfl | (simp only [okA, List.all_cons, List.all_nil, Bool.and_true, Bool.or_eq_true, Bool.and_eq_true, decide_eq_true_eq]; omega)) (by first | rfl | (simp only [okA, List.all_cons, List.all_nil, Bool.and_true, Bool.or_eq_true, Bool.and_eq_true, decide_eq_true_eq]; omega)) (fun hz7 => ?_)
  show Gc 137 8 mX11_init _ 85 [vr 0] [vr 76, vr 0] (77, (pw (pBk (pw (pDt (pw (pWo (pw (pWo (pDn (pw (pTp π) 0 0 (1 + 1)) 8) 7 8 18) 0 1 (7 + 1)) 31 8 32) 0 2 (31 + 1))) 0 3 (45 + 1))) 0 4 (70 + 1)), (mDt (mDn (mTp m) 8)))
  refine gc_dup_r dX11_init_85 ?_
  show Gc 137 8 mX11_init _ 86 [vr 0] [vr 76, vr 76, vr 0] (77, (pw (pBk (pw (pDt (pw (pWo (pw (pWo (pDn (pw (pTp π) 0 0 (1 + 1)) 8) 7 8 18) 0 1 (7 + 1)) 31 8 32) 0 2 (31 + 1))) 0 3 (45 + 1))) 0 4 (70 + 1)), (mDt (mDn (mTp m) 8)))
  refine gc_callI (as := []) (S := [vr 76, vr 0]) (b := 76) (evc_X5 (a := 76) (m := (mDt (mDn (mTp m) 8))) isSe_76 (fun i => hz7 i)) dX11_init_86 ci_11_53 rfl rfl (by decide) (Nat.le_of_ble_eq_true rfl) (by decide) (fun _ _ h => by rw [h]; show 77 ≤ 81; omega) (by first | rfl | (simp only [okA, List.all_cons, List.all_nil, Bool.and_true, Bool.or_eq_true, Bool.and_eq_true, decide_eq_true_eq]; omega)) (by first | rfl | (simp only [okA, List.all_cons, List.all_nil, Bool.and_true, Bool.or_eq_true, Bool.and_eq_true, decide_eq_true_eq]; omega)) (fun r9 w9 hq9 _ => ?_)
  subst hq9
  show Gc 133 8 mX11_init _ 89 [vr 0] [vr 76, vr 0] (81, (pSe (pw (pBk (pw (pDt (pw (pWo (pw (pWo (pDn (pw (pTp π) 0 0 (1 + 1)) 8) 7 8 18) 0 1 (7 + 1)) 31 8 32) 0 2 (31 + 1))) 0 3 (45 + 1))) 0 4 (70 + 1)) 76), (mDt (mDn (mTp m) 8)))
  refine gc_putP dX11_init_89 fl_11_54 ff_11_54 rfl fk_11_54 ob_0 (show 0 < 81 by omega) (show 76 < 81 by omega) rfl ?_
  show Gc 133 8 mX11_init _ 92 [vr 0] [] (81, (pw (pSe (pw (pBk (pw (pDt (pw (pWo (pw (pWo (pDn (pw (pTp π) 0 0 (1 + 1)) 8) 7 8 18) 0 1 (7 + 1)) 31 8 32) 0 2 (31 + 1))) 0 3 (45 + 1))) 0 4 (70 + 1)) 76) 0 5 (76 + 1)), (mDt (mDn (mTp m) 8)))
  refine gc_aload_n dX11_init_92 rfl ?_
  show Gc 133 8 mX11_init _ 93 [vr 0] [vr 0] (81, (pw (pSe (pw (pBk (pw (pDt (pw (pWo (pw (pWo (pDn (pw (pTp π) 0 0 (1 + 1)) 8) 7 8 18) 0 1 (7 + 1)) 31 8 32) 0 2 (31 + 1))) 0 3 (45 + 1))) 0 4 (70 + 1)) 76) 0 5 (76 + 1)), (mDt (mDn (mTp m) 8)))
  refine gc_new dX11_init_93 nw_11_58 (fun j _ => tg_4 j) ob_81 (by first | rfl | (simp only [okA, List.all_cons, List.all_nil, Bool.and_true, Bool.or_eq_true, Bool.and_eq_true, decide_eq_true_eq]; omega)) (by first | rfl | (simp only [okA, List.all_cons, List.all_nil, Bool.and_true, Bool.or_eq_true, Bool.and_eq_true, decide_eq_true_eq]; omega)) (fun hz8 => ?_)
  show Gc 132 8 mX11_init _ 96 [vr 0] [vr 81, vr 0] (82, (pw (pSe (pw (pBk (pw (pDt (pw (pWo (pw (pWo (pDn (pw (pTp π) 0 0 (1 + 1)) 8) 7 8 18) 0 1 (7 + 1)) 31 8 32) 0 2 (31 + 1))) 0 3 (45 + 1))) 0 4 (70 + 1)) 76) 0 5 (76 + 1)), (mDt (mDn (mTp m) 8)))
  refine gc_dup_r dX11_init_96 ?_
  show Gc 132 8 mX11_init _ 97 [vr 0] [vr 81, vr 81, vr 0] (82, (pw (pSe (pw (pBk (pw (pDt (pw (pWo (pw (pWo (pDn (pw (pTp π) 0 0 (1 + 1)) 8) 7 8 18) 0 1 (7 + 1)) 31 8 32) 0 2 (31 + 1))) 0 3 (45 + 1))) 0 4 (70 + 1)) 76) 0 5 (76 + 1)), (mDt (mDn (mTp m) 8)))
  refine gc_callI (as := []) (S := [vr 81, vr 0]) (b := 81) (evc_X4 (m := (mDt (mDn (mTp m) 8))) (fun i => hz8 i)) dX11_init_97 ci_11_60 rfl rfl (by decide) (Nat.le_of_ble_eq_true rfl) (by decide) (fun _ _ h => by rw [h]; show 82 ≤ 89; omega) (by first | rfl | (simp only [okA, List.all_cons, List.all_nil, Bool.and_true, Bool.or_eq_true, Bool.and_eq_true, decide_eq_true_eq]; omega)) (by first | rfl | (simp only [okA, List.all_cons, List.all_nil, Bool.and_true, Bool.or_eq_true, Bool.and_eq_true, decide_eq_true_eq]; omega)) (fun r9 w9 hq9 _ => ?_)
  subst hq9
  show Gc 125 8 mX11_init _ 100 [vr 0] [vr 81, vr 0] (89, (pSr (pw (pSe (pw (pBk (pw (pDt (pw (pWo (pw (pWo (pDn (pw (pTp π) 0 0 (1 + 1)) 8) 7 8 18) 0 1 (7 + 1)) 31 8 32) 0 2 (31 + 1))) 0 3 (45 + 1))) 0 4 (70 + 1)) 76) 0 5 (76 + 1))), (mDt (mDn (mTp m) 8)))
  refine gc_putP dX11_init_100 fl_11_61 ff_11_61 rfl fk_11_61 ob_0 (show 0 < 89 by omega) (show 81 < 89 by omega) rfl ?_
  show Gc 125 8 mX11_init _ 103 [vr 0] [] (89, (pw (pSr (pw (pSe (pw (pBk (pw (pDt (pw (pWo (pw (pWo (pDn (pw (pTp π) 0 0 (1 + 1)) 8) 7 8 18) 0 1 (7 + 1)) 31 8 32) 0 2 (31 + 1))) 0 3 (45 + 1))) 0 4 (70 + 1)) 76) 0 5 (76 + 1))) 0 6 (81 + 1)), (mDt (mDn (mTp m) 8)))
  refine gc_aload_n dX11_init_103 rfl ?_
  show Gc 125 8 mX11_init _ 104 [vr 0] [vr 0] (89, (pw (pSr (pw (pSe (pw (pBk (pw (pDt (pw (pWo (pw (pWo (pDn (pw (pTp π) 0 0 (1 + 1)) 8) 7 8 18) 0 1 (7 + 1)) 31 8 32) 0 2 (31 + 1))) 0 3 (45 + 1))) 0 4 (70 + 1)) 76) 0 5 (76 + 1))) 0 6 (81 + 1)), (mDt (mDn (mTp m) 8)))
  refine gc_new dX11_init_104 nw_11_65 (fun j _ => tg_9 j) ob_89 (by first | rfl | (simp only [okA, List.all_cons, List.all_nil, Bool.and_true, Bool.or_eq_true, Bool.and_eq_true, decide_eq_true_eq]; omega)) (by first | rfl | (simp only [okA, List.all_cons, List.all_nil, Bool.and_true, Bool.or_eq_true, Bool.and_eq_true, decide_eq_true_eq]; omega)) (fun hz9 => ?_)
  show Gc 124 8 mX11_init _ 107 [vr 0] [vr 89, vr 0] (90, (pw (pSr (pw (pSe (pw (pBk (pw (pDt (pw (pWo (pw (pWo (pDn (pw (pTp π) 0 0 (1 + 1)) 8) 7 8 18) 0 1 (7 + 1)) 31 8 32) 0 2 (31 + 1))) 0 3 (45 + 1))) 0 4 (70 + 1)) 76) 0 5 (76 + 1))) 0 6 (81 + 1)), (mDt (mDn (mTp m) 8)))
  refine gc_dup_r dX11_init_107 ?_
  show Gc 124 8 mX11_init _ 108 [vr 0] [vr 89, vr 89, vr 0] (90, (pw (pSr (pw (pSe (pw (pBk (pw (pDt (pw (pWo (pw (pWo (pDn (pw (pTp π) 0 0 (1 + 1)) 8) 7 8 18) 0 1 (7 + 1)) 31 8 32) 0 2 (31 + 1))) 0 3 (45 + 1))) 0 4 (70 + 1)) 76) 0 5 (76 + 1))) 0 6 (81 + 1)), (mDt (mDn (mTp m) 8)))
  refine gc_callI (as := []) (S := [vr 89, vr 0]) (b := 89) (evc_X9 (m := (mDt (mDn (mTp m) 8))) (fun i => hz9 i)) dX11_init_108 ci_11_67 rfl rfl (by decide) (Nat.le_of_ble_eq_true rfl) (by decide) (fun _ _ h => by rw [h]; show 90 ≤ 92; omega) (by first | rfl | (simp only [okA, List.all_cons, List.all_nil, Bool.and_true, Bool.or_eq_true, Bool.and_eq_true, decide_eq_true_eq]; omega)) (by first | rfl | (simp only [okA, List.all_cons, List.all_nil, Bool.and_true, Bool.or_eq_true, Bool.and_eq_true, decide_eq_true_eq]; omega)) (fun r9 w9 hq9 _ => ?_)
  subst hq9
  show Gc 122 8 mX11_init _ 111 [vr 0] [vr 89, vr 0] (92, (pUd (pw (pSr (pw (pSe (pw (pBk (pw (pDt (pw (pWo (pw (pWo (pDn (pw (pTp π) 0 0 (1 + 1)) 8) 7 8 18) 0 1 (7 + 1)) 31 8 32) 0 2 (31 + 1))) 0 3 (45 + 1))) 0 4 (70 + 1)) 76) 0 5 (76 + 1))) 0 6 (81 + 1))), (mDt (mDn (mTp m) 8)))
  refine gc_putP dX11_init_111 fl_11_68 ff_11_68 rfl fk_11_68 ob_0 (show 0 < 92 by omega) (show 89 < 92 by omega) rfl ?_
  show Gc 122 8 mX11_init _ 114 [vr 0] [] (92, (pw (pUd (pw (pSr (pw (pSe (pw (pBk (pw (pDt (pw (pWo (pw (pWo (pDn (pw (pTp π) 0 0 (1 + 1)) 8) 7 8 18) 0 1 (7 + 1)) 31 8 32) 0 2 (31 + 1))) 0 3 (45 + 1))) 0 4 (70 + 1)) 76) 0 5 (76 + 1))) 0 6 (81 + 1))) 0 7 (89 + 1)), (mDt (mDn (mTp m) 8)))
  refine gc_aload_n dX11_init_114 rfl ?_
  show Gc 122 8 mX11_init _ 115 [vr 0] [vr 0] (92, (pw (pUd (pw (pSr (pw (pSe (pw (pBk (pw (pDt (pw (pWo (pw (pWo (pDn (pw (pTp π) 0 0 (1 + 1)) 8) 7 8 18) 0 1 (7 + 1)) 31 8 32) 0 2 (31 + 1))) 0 3 (45 + 1))) 0 4 (70 + 1)) 76) 0 5 (76 + 1))) 0 6 (81 + 1))) 0 7 (89 + 1)), (mDt (mDn (mTp m) 8)))
  refine gc_new dX11_init_115 nw_11_72 (fun j _ => tg_8 j) ob_92 (by first | rfl | (simp only [okA, List.all_cons, List.all_nil, Bool.and_true, Bool.or_eq_true, Bool.and_eq_true, decide_eq_true_eq]; omega)) (by first | rfl | (simp only [okA, List.all_cons, List.all_nil, Bool.and_true, Bool.or_eq_true, Bool.and_eq_true, decide_eq_true_eq]; omega)) (fun hz10 => ?_)
  show Gc 121 8 mX11_init _ 118 [vr 0] [vr 92, vr 0] (93, (pw (pUd (pw (pSr (pw (pSe (pw (pBk (pw (pDt (pw (pWo (pw (pWo (pDn (pw (pTp π) 0 0 (1 + 1)) 8) 7 8 18) 0 1 (7 + 1)) 31 8 32) 0 2 (31 + 1))) 0 3 (45 + 1))) 0 4 (70 + 1)) 76) 0 5 (76 + 1))) 0 6 (81 + 1))) 0 7 (89 + 1)), (mDt (mDn (mTp m) 8)))
  refine gc_dup_r dX11_init_118 ?_
  show Gc 121 8 mX11_init _ 119 [vr 0] [vr 92, vr 92, vr 0] (93, (pw (pUd (pw (pSr (pw (pSe (pw (pBk (pw (pDt (pw (pWo (pw (pWo (pDn (pw (pTp π) 0 0 (1 + 1)) 8) 7 8 18) 0 1 (7 + 1)) 31 8 32) 0 2 (31 + 1))) 0 3 (45 + 1))) 0 4 (70 + 1)) 76) 0 5 (76 + 1))) 0 6 (81 + 1))) 0 7 (89 + 1)), (mDt (mDn (mTp m) 8)))
  refine gc_callI (as := []) (S := [vr 92, vr 0]) (b := 92) (evc_X8 (m := (mDt (mDn (mTp m) 8))) (fun i => hz10 i)) dX11_init_119 ci_11_74 rfl rfl (by decide) (Nat.le_of_ble_eq_true rfl) (by decide) (fun _ _ h => by rw [h]; show 93 ≤ 97; omega) (by first | rfl | (simp only [okA, List.all_cons, List.all_nil, Bool.and_true, Bool.or_eq_true, Bool.and_eq_true, decide_eq_true_eq]; omega)) (by first | rfl | (simp only [okA, List.all_cons, List.all_nil, Bool.and_true, Bool.or_eq_true, Bool.and_eq_true, decide_eq_true_eq]; omega)) (fun r9 w9 hq9 _ => ?_)
  subst hq9
  show Gc 117 8 mX11_init _ 122 [vr 0] [vr 92, vr 0] (97, (pTr (pw (pUd (pw (pSr (pw (pSe (pw (pBk (pw (pDt (pw (pWo (pw (pWo (pDn (pw (pTp π) 0 0 (1 + 1)) 8) 7 8 18) 0 1 (7 + 1)) 31 8 32) 0 2 (31 + 1))) 0 3 (45 + 1))) 0 4 (70 + 1)) 76) 0 5 (76 + 1))) 0 6 (81 + 1))) 0 7 (89 + 1))), (mDt (mDn (mTp m) 8)))
  refine gc_putP dX11_init_122 fl_11_75 ff_11_75 rfl fk_11_75 ob_0 (show 0 < 97 by omega) (show 92 < 97 by omega) rfl ?_
  show Gc 117 8 mX11_init _ 125 [vr 0] [] (97, (pw (pTr (pw (pUd (pw (pSr (pw (pSe (pw (pBk (pw (pDt (pw (pWo (pw (pWo (pDn (pw (pTp π) 0 0 (1 + 1)) 8) 7 8 18) 0 1 (7 + 1)) 31 8 32) 0 2 (31 + 1))) 0 3 (45 + 1))) 0 4 (70 + 1)) 76) 0 5 (76 + 1))) 0 6 (81 + 1))) 0 7 (89 + 1))) 0 8 (92 + 1)), (mDt (mDn (mTp m) 8)))
  refine gc_aload_n dX11_init_125 rfl ?_
  show Gc 117 8 mX11_init _ 126 [vr 0] [vr 0] (97, (pw (pTr (pw (pUd (pw (pSr (pw (pSe (pw (pBk (pw (pDt (pw (pWo (pw (pWo (pDn (pw (pTp π) 0 0 (1 + 1)) 8) 7 8 18) 0 1 (7 + 1)) 31 8 32) 0 2 (31 + 1))) 0 3 (45 + 1))) 0 4 (70 + 1)) 76) 0 5 (76 + 1))) 0 6 (81 + 1))) 0 7 (89 + 1))) 0 8 (92 + 1)), (mDt (mDn (mTp m) 8)))
  refine gc_new dX11_init_126 nw_11_79 (fun j _ => tg_3 j) ob_97 (by first | rfl | (simp only [okA, List.all_cons, List.all_nil, Bool.and_true, Bool.or_eq_true, Bool.and_eq_true, decide_eq_true_eq]; omega)) (by first | rfl | (simp only [okA, List.all_cons, List.all_nil, Bool.and_true, Bool.or_eq_true, Bool.and_eq_true, decide_eq_true_eq]; omega)) (fun hz11 => ?_)
  show Gc 116 8 mX11_init _ 129 [vr 0] [vr 97, vr 0] (98, (pw (pTr (pw (pUd (pw (pSr (pw (pSe (pw (pBk (pw (pDt (pw (pWo (pw (pWo (pDn (pw (pTp π) 0 0 (1 + 1)) 8) 7 8 18) 0 1 (7 + 1)) 31 8 32) 0 2 (31 + 1))) 0 3 (45 + 1))) 0 4 (70 + 1)) 76) 0 5 (76 + 1))) 0 6 (81 + 1))) 0 7 (89 + 1))) 0 8 (92 + 1)), (mDt (mDn (mTp m) 8)))
  refine gc_dup_r dX11_init_129 ?_
  show Gc 116 8 mX11_init _ 130 [vr 0] [vr 97, vr 97, vr 0] (98, (pw (pTr (pw (pUd (pw (pSr (pw (pSe (pw (pBk (pw (pDt (pw (pWo (pw (pWo (pDn (pw (pTp π) 0 0 (1 + 1)) 8) 7 8 18) 0 1 (7 + 1)) 31 8 32) 0 2 (31 + 1))) 0 3 (45 + 1))) 0 4 (70 + 1)) 76) 0 5 (76 + 1))) 0 6 (81 + 1))) 0 7 (89 + 1))) 0 8 (92 + 1)), (mDt (mDn (mTp m) 8)))
  refine gc_callI (as := []) (S := [vr 97, vr 0]) (b := 97) (evc_X3 (m := (mDt (mDn (mTp m) 8))) (fun i => hz11 i)) dX11_init_130 ci_11_81 rfl rfl (by decide) (Nat.le_of_ble_eq_true rfl) (by decide) (fun _ _ h => by rw [h]; show 98 ≤ 163; omega) (by first | rfl | (simp only [okA, List.all_cons, List.all_nil, Bool.and_true, Bool.or_eq_true, Bool.and_eq_true, decide_eq_true_eq]; omega)) (by first | rfl | (simp only [okA, List.all_cons, List.all_nil, Bool.and_true, Bool.or_eq_true, Bool.and_eq_true, decide_eq_true_eq]; omega)) (fun r9 w9 hq9 _ => ?_)
  subst hq9
  show Gc 51 8 mX11_init _ 133 [vr 0] [vr 97, vr 0] (163, (pHi (pw (pTr (pw (pUd (pw (pSr (pw (pSe (pw (pBk (pw (pDt (pw (pWo (pw (pWo (pDn (pw (pTp π) 0 0 (1 + 1)) 8) 7 8 18) 0 1 (7 + 1)) 31 8 32) 0 2 (31 + 1))) 0 3 (45 + 1))) 0 4 (70 + 1)) 76) 0 5 (76 + 1))) 0 6 (81 + 1))) 0 7 (89 + 1))) 0 8 (92 + 1))), (mDt (mDn (mTp m) 8)))
  refine gc_putP dX11_init_133 fl_11_82 ff_11_82 rfl fk_11_82 ob_0 (show 0 < 163 by omega) (show 97 < 163 by omega) rfl ?_
  show Gc 51 8 mX11_init _ 136 [vr 0] [] (163, (pw (pHi (pw (pTr (pw (pUd (pw (pSr (pw (pSe (pw (pBk (pw (pDt (pw (pWo (pw (pWo (pDn (pw (pTp π) 0 0 (1 + 1)) 8) 7 8 18) 0 1 (7 + 1)) 31 8 32) 0 2 (31 + 1))) 0 3 (45 + 1))) 0 4 (70 + 1)) 76) 0 5 (76 + 1))) 0 6 (81 + 1))) 0 7 (89 + 1))) 0 8 (92 + 1))) 0 9 (97 + 1)), (mDt (mDn (mTp m) 8)))
  refine gc_aload_n dX11_init_136 rfl ?_
  show Gc 51 8 mX11_init _ 137 [vr 0] [vr 0] (163, (pw (pHi (pw (pTr (pw (pUd (pw (pSr (pw (pSe (pw (pBk (pw (pDt (pw (pWo (pw (pWo (pDn (pw (pTp π) 0 0 (1 + 1)) 8) 7 8 18) 0 1 (7 + 1)) 31 8 32) 0 2 (31 + 1))) 0 3 (45 + 1))) 0 4 (70 + 1)) 76) 0 5 (76 + 1))) 0 6 (81 + 1))) 0 7 (89 + 1))) 0 8 (92 + 1))) 0 9 (97 + 1)), (mDt (mDn (mTp m) 8)))
  refine gc_iconst dX11_init_137 ?_
  show Gc 51 8 mX11_init _ 138 [vr 0] [vi 2, vr 0] (163, (pw (pHi (pw (pTr (pw (pUd (pw (pSr (pw (pSe (pw (pBk (pw (pDt (pw (pWo (pw (pWo (pDn (pw (pTp π) 0 0 (1 + 1)) 8) 7 8 18) 0 1 (7 + 1)) 31 8 32) 0 2 (31 + 1))) 0 3 (45 + 1))) 0 4 (70 + 1)) 76) 0 5 (76 + 1))) 0 6 (81 + 1))) 0 7 (89 + 1))) 0 8 (92 + 1))) 0 9 (97 + 1)), (mDt (mDn (mTp m) 8)))
  refine gc_anew (kd := 5) (N := 2) (C := "CartTurns$World") dX11_init_138 (Or.inr ⟨rfl, rfl⟩) cl_11_16 ar_163 (by decide) rfl (by first | rfl | (simp only [okA, List.all_cons, List.all_nil, Bool.and_true, Bool.or_eq_true, Bool.and_eq_true, decide_eq_true_eq]; omega)) (by first | rfl | (simp only [okA, List.all_cons, List.all_nil, Bool.and_true, Bool.or_eq_true, Bool.and_eq_true, decide_eq_true_eq]; omega)) (fun hz12 => ?_)
  show Gc 50 8 mX11_init _ 141 [vr 0] [vr 163, vr 0] (164, (pw (pHi (pw (pTr (pw (pUd (pw (pSr (pw (pSe (pw (pBk (pw (pDt (pw (pWo (pw (pWo (pDn (pw (pTp π) 0 0 (1 + 1)) 8) 7 8 18) 0 1 (7 + 1)) 31 8 32) 0 2 (31 + 1))) 0 3 (45 + 1))) 0 4 (70 + 1)) 76) 0 5 (76 + 1))) 0 6 (81 + 1))) 0 7 (89 + 1))) 0 8 (92 + 1))) 0 9 (97 + 1)), (mDt (mDn (mTp m) 8)))
  refine gc_dup_r dX11_init_141 ?_
  show Gc 50 8 mX11_init _ 142 [vr 0] [vr 163, vr 163, vr 0] (164, (pw (pHi (pw (pTr (pw (pUd (pw (pSr (pw (pSe (pw (pBk (pw (pDt (pw (pWo (pw (pWo (pDn (pw (pTp π) 0 0 (1 + 1)) 8) 7 8 18) 0 1 (7 + 1)) 31 8 32) 0 2 (31 + 1))) 0 3 (45 + 1))) 0 4 (70 + 1)) 76) 0 5 (76 + 1))) 0 6 (81 + 1))) 0 7 (89 + 1))) 0 8 (92 + 1))) 0 9 (97 + 1)), (mDt (mDn (mTp m) 8)))
  refine gc_iconst dX11_init_142 ?_
  show Gc 50 8 mX11_init _ 143 [vr 0] [vi 0, vr 163, vr 163, vr 0] (164, (pw (pHi (pw (pTr (pw (pUd (pw (pSr (pw (pSe (pw (pBk (pw (pDt (pw (pWo (pw (pWo (pDn (pw (pTp π) 0 0 (1 + 1)) 8) 7 8 18) 0 1 (7 + 1)) 31 8 32) 0 2 (31 + 1))) 0 3 (45 + 1))) 0 4 (70 + 1)) 76) 0 5 (76 + 1))) 0 6 (81 + 1))) 0 7 (89 + 1))) 0 8 (92 + 1))) 0 9 (97 + 1)), (mDt (mDn (mTp m) 8)))
  refine gc_new dX11_init_143 nw_11_16 (fun j _ => tg_10 j) ob_164 (by first | rfl | (simp only [okA, List.all_cons, List.all_nil, Bool.and_true, Bool.or_eq_true, Bool.and_eq_true, decide_eq_true_eq]; omega)) (by first | rfl | (simp only [okA, List.all_cons, List.all_nil, Bool.and_true, Bool.or_eq_true, Bool.and_eq_true, decide_eq_true_eq]; omega)) (fun hz13 => ?_)
  show Gc 49 8 mX11_init _ 146 [vr 0] [vr 164, vi 0, vr 163, vr 163, vr 0] (165, (pw (pHi (pw (pTr (pw (pUd (pw (pSr (pw (pSe (pw (pBk (pw (pDt (pw (pWo (pw (pWo (pDn (pw (pTp π) 0 0 (1 + 1)) 8) 7 8 18) 0 1 (7 + 1)) 31 8 32) 0 2 (31 + 1))) 0 3 (45 + 1))) 0 4 (70 + 1)) 76) 0 5 (76 + 1))) 0 6 (81 + 1))) 0 7 (89 + 1))) 0 8 (92 + 1))) 0 9 (97 + 1)), (mDt (mDn (mTp m) 8)))
  refine gc_dup_r dX11_init_146 ?_
  show Gc 49 8 mX11_init _ 147 [vr 0] [vr 164, vr 164, vi 0, vr 163, vr 163, vr 0] (165, (pw (pHi (pw (pTr (pw (pUd (pw (pSr (pw (pSe (pw (pBk (pw (pDt (pw (pWo (pw (pWo (pDn (pw (pTp π) 0 0 (1 + 1)) 8) 7 8 18) 0 1 (7 + 1)) 31 8 32) 0 2 (31 + 1))) 0 3 (45 + 1))) 0 4 (70 + 1)) 76) 0 5 (76 + 1))) 0 6 (81 + 1))) 0 7 (89 + 1))) 0 8 (92 + 1))) 0 9 (97 + 1)), (mDt (mDn (mTp m) 8)))
  refine gc_new dX11_init_147 nw_11_18 (fun j _ => tg_1 j) ob_165 (by first | rfl | (simp only [okA, List.all_cons, List.all_nil, Bool.and_true, Bool.or_eq_true, Bool.and_eq_true, decide_eq_true_eq]; omega)) (by first | rfl | (simp only [okA, List.all_cons, List.all_nil, Bool.and_true, Bool.or_eq_true, Bool.and_eq_true, decide_eq_true_eq]; omega)) (fun hz14 => ?_)
  show Gc 48 8 mX11_init _ 150 [vr 0] [vr 165, vr 164, vr 164, vi 0, vr 163, vr 163, vr 0] (166, (pw (pHi (pw (pTr (pw (pUd (pw (pSr (pw (pSe (pw (pBk (pw (pDt (pw (pWo (pw (pWo (pDn (pw (pTp π) 0 0 (1 + 1)) 8) 7 8 18) 0 1 (7 + 1)) 31 8 32) 0 2 (31 + 1))) 0 3 (45 + 1))) 0 4 (70 + 1)) 76) 0 5 (76 + 1))) 0 6 (81 + 1))) 0 7 (89 + 1))) 0 8 (92 + 1))) 0 9 (97 + 1)), (mDt (mDn (mTp m) 8)))
  refine gc_dup_r dX11_init_150 ?_
  show Gc 48 8 mX11_init _ 151 [vr 0] [vr 165, vr 165, vr 164, vr 164, vi 0, vr 163, vr 163, vr 0] (166, (pw (pHi (pw (pTr (pw (pUd (pw (pSr (pw (pSe (pw (pBk (pw (pDt (pw (pWo (pw (pWo (pDn (pw (pTp π) 0 0 (1 + 1)) 8) 7 8 18) 0 1 (7 + 1)) 31 8 32) 0 2 (31 + 1))) 0 3 (45 + 1))) 0 4 (70 + 1)) 76) 0 5 (76 + 1))) 0 6 (81 + 1))) 0 7 (89 + 1))) 0 8 (92 + 1))) 0 9 (97 + 1)), (mDt (mDn (mTp m) 8)))
  refine gc_callI (as := []) (S := [vr 165, vr 164, vr 164, vi 0, vr 163, vr 163, vr 0]) (b := 165) (evc_X1 (a := 165) (m := (mDt (mDn (mTp m) 8))) isDn_165 (fun i => hz14 i)) dX11_init_151 ci_11_20 rfl rfl (by decide) (Nat.le_of_ble_eq_true rfl) (by decide) (fun _ _ h => by rw [h]; show 166 ≤ 175; omega) (by first | rfl | (simp only [okA, List.all_cons, List.all_nil, Bool.and_true, Bool.or_eq_true, Bool.and_eq_true, decide_eq_true_eq]; omega)) (by first | rfl | (simp only [okA, List.all_cons, List.all_nil, Bool.and_true, Bool.or_eq_true, Bool.and_eq_true, decide_eq_true_eq]; omega)) (fun r9 w9 hq9 _ => ?_)
  subst hq9
  show Gc 39 8 mX11_init _ 154 [vr 0] [vr 165, vr 164, vr 164, vi 0, vr 163, vr 163, vr 0] (175, (pDn (pw (pHi (pw (pTr (pw (pUd (pw (pSr (pw (pSe (pw (pBk (pw (pDt (pw (pWo (pw (pWo (pDn (pw (pTp π) 0 0 (1 + 1)) 8) 7 8 18) 0 1 (7 + 1)) 31 8 32) 0 2 (31 + 1))) 0 3 (45 + 1))) 0 4 (70 + 1)) 76) 0 5 (76 + 1))) 0 6 (81 + 1))) 0 7 (89 + 1))) 0 8 (92 + 1))) 0 9 (97 + 1)) 165), (mDn (mDt (mDn (mTp m) 8)) 165))
  refine gc_callI (as := [vr 165]) (S := [vr 164, vi 0, vr 163, vr 163, vr 0]) (b := 164) (evc_X10 (a := 164) (b := 165) (n := 175) (m := (mDn (mDt (mDn (mTp m) 8)) 165)) ob_164 (by decide) (by decide) isSt_175 isSe_183 (fun i => hz13 i)) dX11_init_154 ci_11_21 rfl rfl (by decide) (Nat.le_of_ble_eq_true rfl) (by decide) (fun _ _ h => by rw [h]; show 175 ≤ 188; omega) (by first | rfl | (simp only [okA, List.all_cons, List.all_nil, Bool.and_true, Bool.or_eq_true, Bool.and_eq_true, decide_eq_true_eq]; omega)) (by first | rfl | (simp only [okA, List.all_cons, List.all_nil, Bool.and_true, Bool.or_eq_true, Bool.and_eq_true, decide_eq_true_eq]; omega)) (fun r9 w9 hq9 _ => ?_)
  subst hq9
  show Gc 26 8 mX11_init _ 157 [vr 0] [vr 164, vi 0, vr 163, vr 163, vr 0] (188, (pWo (pDn (pw (pHi (pw (pTr (pw (pUd (pw (pSr (pw (pSe (pw (pBk (pw (pDt (pw (pWo (pw (pWo (pDn (pw (pTp π) 0 0 (1 + 1)) 8) 7 8 18) 0 1 (7 + 1)) 31 8 32) 0 2 (31 + 1))) 0 3 (45 + 1))) 0 4 (70 + 1)) 76) 0 5 (76 + 1))) 0 6 (81 + 1))) 0 7 (89 + 1))) 0 8 (92 + 1))) 0 9 (97 + 1)) 165) 164 165 175), (mDn (mDt (mDn (mTp m) 8)) 165))
  refine gc_aastore (kd := 5) dX11_init_157 (Or.inr ⟨rfl, rfl⟩) ar_163 (show 163 < 188 by omega) ob_164 (show 164 < 188 by omega) (by decide) (by decide) ?_
  show Gc 26 8 mX11_init _ 158 [vr 0] [vr 163, vr 0] (188, (pw (pWo (pDn (pw (pHi (pw (pTr (pw (pUd (pw (pSr (pw (pSe (pw (pBk (pw (pDt (pw (pWo (pw (pWo (pDn (pw (pTp π) 0 0 (1 + 1)) 8) 7 8 18) 0 1 (7 + 1)) 31 8 32) 0 2 (31 + 1))) 0 3 (45 + 1))) 0 4 (70 + 1)) 76) 0 5 (76 + 1))) 0 6 (81 + 1))) 0 7 (89 + 1))) 0 8 (92 + 1))) 0 9 (97 + 1)) 165) 164 165 175) 163 0 (164 + 1)), (mDn (mDt (mDn (mTp m) 8)) 165))
  refine gc_dup_r dX11_init_158 ?_
  show Gc 26 8 mX11_init _ 159 [vr 0] [vr 163, vr 163, vr 0] (188, (pw (pWo (pDn (pw (pHi (pw (pTr (pw (pUd (pw (pSr (pw (pSe (pw (pBk (pw (pDt (pw (pWo (pw (pWo (pDn (pw (pTp π) 0 0 (1 + 1)) 8) 7 8 18) 0 1 (7 + 1)) 31 8 32) 0 2 (31 + 1))) 0 3 (45 + 1))) 0 4 (70 + 1)) 76) 0 5 (76 + 1))) 0 6 (81 + 1))) 0 7 (89 + 1))) 0 8 (92 + 1))) 0 9 (97 + 1)) 165) 164 165 175) 163 0 (164 + 1)), (mDn (mDt (mDn (mTp m) 8)) 165))
  refine gc_iconst dX11_init_159 ?_
  show Gc 26 8 mX11_init _ 160 [vr 0] [vi 1, vr 163, vr 163, vr 0] (188, (pw (pWo (pDn (pw (pHi (pw (pTr (pw (pUd (pw (pSr (pw (pSe (pw (pBk (pw (pDt (pw (pWo (pw (pWo (pDn (pw (pTp π) 0 0 (1 + 1)) 8) 7 8 18) 0 1 (7 + 1)) 31 8 32) 0 2 (31 + 1))) 0 3 (45 + 1))) 0 4 (70 + 1)) 76) 0 5 (76 + 1))) 0 6 (81 + 1))) 0 7 (89 + 1))) 0 8 (92 + 1))) 0 9 (97 + 1)) 165) 164 165 175) 163 0 (164 + 1)), (mDn (mDt (mDn (mTp m) 8)) 165))
  refine gc_new dX11_init_160 nw_11_16 (fun j _ => tg_10 j) ob_188 (by first | rfl | (simp only [okA, List.all_cons, List.all_nil, Bool.and_true, Bool.or_eq_true, Bool.and_eq_true, decide_eq_true_eq]; omega)) (by first | rfl | (simp only [okA, List.all_cons, List.all_nil, Bool.and_true, Bool.or_eq_true, Bool.and_eq_true, decide_eq_true_eq]; omega)) (fun hz15 => ?_)
  show Gc 25 8 mX11_init _ 163 [vr 0] [vr 188, vi 1, vr 163, vr 163, vr 0] (189, (pw (pWo (pDn (pw (pHi (pw (pTr (pw (pUd (pw (pSr (pw (pSe (pw (pBk (pw (pDt (pw (pWo (pw (pWo (pDn (pw (pTp π) 0 0 (1 + 1)) 8) 7 8 18) 0 1 (7 + 1)) 31 8 32) 0 2 (31 + 1))) 0 3 (45 + 1))) 0 4 (70 + 1)) 76) 0 5 (76 + 1))) 0 6 (81 + 1))) 0 7 (89 + 1))) 0 8 (92 + 1))) 0 9 (97 + 1)) 165) 164 165 175) 163 0 (164 + 1)), (mDn (mDt (mDn (mTp m) 8)) 165))
  refine gc_dup_r dX11_init_163 ?_
  show Gc 25 8 mX11_init _ 164 [vr 0] [vr 188, vr 188, vi 1, vr 163, vr 163, vr 0] (189, (pw (pWo (pDn (pw (pHi (pw (pTr (pw (pUd (pw (pSr (pw (pSe (pw (pBk (pw (pDt (pw (pWo (pw (pWo (pDn (pw (pTp π) 0 0 (1 + 1)) 8) 7 8 18) 0 1 (7 + 1)) 31 8 32) 0 2 (31 + 1))) 0 3 (45 + 1))) 0 4 (70 + 1)) 76) 0 5 (76 + 1))) 0 6 (81 + 1))) 0 7 (89 + 1))) 0 8 (92 + 1))) 0 9 (97 + 1)) 165) 164 165 175) 163 0 (164 + 1)), (mDn (mDt (mDn (mTp m) 8)) 165))
  refine gc_new dX11_init_164 nw_11_18 (fun j _ => tg_1 j) ob_189 (by first | rfl | (simp only [okA, List.all_cons, List.all_nil, Bool.and_true, Bool.or_eq_true, Bool.and_eq_true, decide_eq_true_eq]; omega)) (by first | rfl | (simp only [okA, List.all_cons, List.all_nil, Bool.and_true, Bool.or_eq_true, Bool.and_eq_true, decide_eq_true_eq]; omega)) (fun hz16 => ?_)
  show Gc 24 8 mX11_init _ 167 [vr 0] [vr 189, vr 188, vr 188, vi 1, vr 163, vr 163, vr 0] (190, (pw (pWo (pDn (pw (pHi (pw (pTr (pw (pUd (pw (pSr (pw (pSe (pw (pBk (pw (pDt (pw (pWo (pw (pWo (pDn (pw (pTp π) 0 0 (1 + 1)) 8) 7 8 18) 0 1 (7 + 1)) 31 8 32) 0 2 (31 + 1))) 0 3 (45 + 1))) 0 4 (70 + 1)) 76) 0 5 (76 + 1))) 0 6 (81 + 1))) 0 7 (89 + 1))) 0 8 (92 + 1))) 0 9 (97 + 1)) 165) 164 165 175) 163 0 (164 + 1)), (mDn (mDt (mDn (mTp m) 8)) 165))
  refine gc_dup_r dX11_init_167 ?_
  show Gc 24 8 mX11_init _ 168 [vr 0] [vr 189, vr 189, vr 188, vr 188, vi 1, vr 163, vr 163, vr 0] (190, (pw (pWo (pDn (pw (pHi (pw (pTr (pw (pUd (pw (pSr (pw (pSe (pw (pBk (pw (pDt (pw (pWo (pw (pWo (pDn (pw (pTp π) 0 0 (1 + 1)) 8) 7 8 18) 0 1 (7 + 1)) 31 8 32) 0 2 (31 + 1))) 0 3 (45 + 1))) 0 4 (70 + 1)) 76) 0 5 (76 + 1))) 0 6 (81 + 1))) 0 7 (89 + 1))) 0 8 (92 + 1))) 0 9 (97 + 1)) 165) 164 165 175) 163 0 (164 + 1)), (mDn (mDt (mDn (mTp m) 8)) 165))
  refine gc_callI (as := []) (S := [vr 189, vr 188, vr 188, vi 1, vr 163, vr 163, vr 0]) (b := 189) (evc_X1 (a := 189) (m := (mDn (mDt (mDn (mTp m) 8)) 165)) isDn_189 (fun i => hz16 i)) dX11_init_168 ci_11_20 rfl rfl (by decide) (Nat.le_of_ble_eq_true rfl) (by decide) (fun _ _ h => by rw [h]; show 190 ≤ 199; omega) (by first | rfl | (simp only [okA, List.all_cons, List.all_nil, Bool.and_true, Bool.or_eq_true, Bool.and_eq_true, decide_eq_true_eq]; omega)) (by first | rfl | (simp only [okA, List.all_cons, List.all_nil, Bool.and_true, Bool.or_eq_true, Bool.and_eq_true, decide_eq_true_eq]; omega)) (fun r9 w9 hq9 _ => ?_)
  subst hq9
  show Gc 15 8 mX11_init _ 171 [vr 0] [vr 189, vr 188, vr 188, vi 1, vr 163, vr 163, vr 0] (199, (pDn (pw (pWo (pDn (pw (pHi (pw (pTr (pw (pUd (pw (pSr (pw (pSe (pw (pBk (pw (pDt (pw (pWo (pw (pWo (pDn (pw (pTp π) 0 0 (1 + 1)) 8) 7 8 18) 0 1 (7 + 1)) 31 8 32) 0 2 (31 + 1))) 0 3 (45 + 1))) 0 4 (70 + 1)) 76) 0 5 (76 + 1))) 0 6 (81 + 1))) 0 7 (89 + 1))) 0 8 (92 + 1))) 0 9 (97 + 1)) 165) 164 165 175) 163 0 (164 + 1)) 189), (mDn (mDn (mDt (mDn (mTp m) 8)) 165) 189))
  refine gc_callI (as := [vr 189]) (S := [vr 188, vi 1, vr 163, vr 163, vr 0]) (b := 188) (evc_X10 (a := 188) (b := 189) (n := 199) (m := (mDn (mDn (mDt (mDn (mTp m) 8)) 165) 189)) ob_188 (by decide) (by decide) isSt_199 isSe_207 (fun i => hz15 i)) dX11_init_171 ci_11_21 rfl rfl (by decide) (Nat.le_of_ble_eq_true rfl) (by decide) (fun _ _ h => by rw [h]; show 199 ≤ 212; omega) (by first | rfl | (simp only [okA, List.all_cons, List.all_nil, Bool.and_true, Bool.or_eq_true, Bool.and_eq_true, decide_eq_true_eq]; omega)) (by first | rfl | (simp only [okA, List.all_cons, List.all_nil, Bool.and_true, Bool.or_eq_true, Bool.and_eq_true, decide_eq_true_eq]; omega)) (fun r9 w9 hq9 _ => ?_)
  subst hq9
  show Gc 2 8 mX11_init _ 174 [vr 0] [vr 188, vi 1, vr 163, vr 163, vr 0] (212, (pWo (pDn (pw (pWo (pDn (pw (pHi (pw (pTr (pw (pUd (pw (pSr (pw (pSe (pw (pBk (pw (pDt (pw (pWo (pw (pWo (pDn (pw (pTp π) 0 0 (1 + 1)) 8) 7 8 18) 0 1 (7 + 1)) 31 8 32) 0 2 (31 + 1))) 0 3 (45 + 1))) 0 4 (70 + 1)) 76) 0 5 (76 + 1))) 0 6 (81 + 1))) 0 7 (89 + 1))) 0 8 (92 + 1))) 0 9 (97 + 1)) 165) 164 165 175) 163 0 (164 + 1)) 189) 188 189 199), (mDn (mDn (mDt (mDn (mTp m) 8)) 165) 189))
  refine gc_aastore (kd := 5) dX11_init_174 (Or.inr ⟨rfl, rfl⟩) ar_163 (show 163 < 212 by omega) ob_188 (show 188 < 212 by omega) (by decide) (by decide) ?_
  show Gc 2 8 mX11_init _ 175 [vr 0] [vr 163, vr 0] (212, (pw (pWo (pDn (pw (pWo (pDn (pw (pHi (pw (pTr (pw (pUd (pw (pSr (pw (pSe (pw (pBk (pw (pDt (pw (pWo (pw (pWo (pDn (pw (pTp π) 0 0 (1 + 1)) 8) 7 8 18) 0 1 (7 + 1)) 31 8 32) 0 2 (31 + 1))) 0 3 (45 + 1))) 0 4 (70 + 1)) 76) 0 5 (76 + 1))) 0 6 (81 + 1))) 0 7 (89 + 1))) 0 8 (92 + 1))) 0 9 (97 + 1)) 165) 164 165 175) 163 0 (164 + 1)) 189) 188 189 199) 163 1 (188 + 1)), (mDn (mDn (mDt (mDn (mTp m) 8)) 165) 189))
  refine gc_putP dX11_init_175 fl_11_86 ff_11_86 rfl fk_11_86 ob_0 (show 0 < 212 by omega) (show 163 < 212 by omega) rfl ?_
  show Gc 2 8 mX11_init _ 178 [vr 0] [] (212, (pw (pw (pWo (pDn (pw (pWo (pDn (pw (pHi (pw (pTr (pw (pUd (pw (pSr (pw (pSe (pw (pBk (pw (pDt (pw (pWo (pw (pWo (pDn (pw (pTp π) 0 0 (1 + 1)) 8) 7 8 18) 0 1 (7 + 1)) 31 8 32) 0 2 (31 + 1))) 0 3 (45 + 1))) 0 4 (70 + 1)) 76) 0 5 (76 + 1))) 0 6 (81 + 1))) 0 7 (89 + 1))) 0 8 (92 + 1))) 0 9 (97 + 1)) 165) 164 165 175) 163 0 (164 + 1)) 189) 188 189 199) 163 1 (188 + 1)) 0 10 (163 + 1)), (mDn (mDn (mDt (mDn (mTp m) 8)) 165) 189))
  refine gc_aload_n dX11_init_178 rfl ?_
  show Gc 2 8 mX11_init _ 179 [vr 0] [vr 0] (212, (pw (pw (pWo (pDn (pw (pWo (pDn (pw (pHi (pw (pTr (pw (pUd (pw (pSr (pw (pSe (pw (pBk (pw (pDt (pw (pWo (pw (pWo (pDn (pw (pTp π) 0 0 (1 + 1)) 8) 7 8 18) 0 1 (7 + 1)) 31 8 32) 0 2 (31 + 1))) 0 3 (45 + 1))) 0 4 (70 + 1)) 76) 0 5 (76 + 1))) 0 6 (81 + 1))) 0 7 (89 + 1))) 0 8 (92 + 1))) 0 9 (97 + 1)) 165) 164 165 175) 163 0 (164 + 1)) 189) 188 189 199) 163 1 (188 + 1)) 0 10 (163 + 1)), (mDn (mDn (mDt (mDn (mTp m) 8)) 165) 189))
  refine gc_iconst dX11_init_179 ?_
  show Gc 2 8 mX11_init _ 180 [vr 0] [vi 2, vr 0] (212, (pw (pw (pWo (pDn (pw (pWo (pDn (pw (pHi (pw (pTr (pw (pUd (pw (pSr (pw (pSe (pw (pBk (pw (pDt (pw (pWo (pw (pWo (pDn (pw (pTp π) 0 0 (1 + 1)) 8) 7 8 18) 0 1 (7 + 1)) 31 8 32) 0 2 (31 + 1))) 0 3 (45 + 1))) 0 4 (70 + 1)) 76) 0 5 (76 + 1))) 0 6 (81 + 1))) 0 7 (89 + 1))) 0 8 (92 + 1))) 0 9 (97 + 1)) 165) 164 165 175) 163 0 (164 + 1)) 189) 188 189 199) 163 1 (188 + 1)) 0 10 (163 + 1)), (mDn (mDn (mDt (mDn (mTp m) 8)) 165) 189))
  refine gc_newI (kd := 2) (N := 2) dX11_init_180 rfl (Or.inr (Or.inr rfl)) aw_2 ar_212 (by decide) rfl (by first | rfl | (simp only [okA, List.all_cons, List.all_nil, Bool.and_true, Bool.or_eq_true, Bool.and_eq_true, decide_eq_true_eq]; omega)) (by first | rfl | (simp only [okA, List.all_cons, List.all_nil, Bool.and_true, Bool.or_eq_true, Bool.and_eq_true, decide_eq_true_eq]; omega)) (fun hz17 => ?_)
  show Gc 1 8 mX11_init _ 182 [vr 0] [vr 212, vr 0] (213, (pw (pw (pWo (pDn (pw (pWo (pDn (pw (pHi (pw (pTr (pw (pUd (pw (pSr (pw (pSe (pw (pBk (pw (pDt (pw (pWo (pw (pWo (pDn (pw (pTp π) 0 0 (1 + 1)) 8) 7 8 18) 0 1 (7 + 1)) 31 8 32) 0 2 (31 + 1))) 0 3 (45 + 1))) 0 4 (70 + 1)) 76) 0 5 (76 + 1))) 0 6 (81 + 1))) 0 7 (89 + 1))) 0 8 (92 + 1))) 0 9 (97 + 1)) 165) 164 165 175) 163 0 (164 + 1)) 189) 188 189 199) 163 1 (188 + 1)) 0 10 (163 + 1)), (mDn (mDn (mDt (mDn (mTp m) 8)) 165) 189))
  refine gc_putP dX11_init_182 fl_11_90 ff_11_90 rfl fk_11_90 ob_0 (show 0 < 213 by omega) (show 212 < 213 by omega) rfl ?_
  show Gc 1 8 mX11_init _ 185 [vr 0] [] (213, (pw (pw (pw (pWo (pDn (pw (pWo (pDn (pw (pHi (pw (pTr (pw (pUd (pw (pSr (pw (pSe (pw (pBk (pw (pDt (pw (pWo (pw (pWo (pDn (pw (pTp π) 0 0 (1 + 1)) 8) 7 8 18) 0 1 (7 + 1)) 31 8 32) 0 2 (31 + 1))) 0 3 (45 + 1))) 0 4 (70 + 1)) 76) 0 5 (76 + 1))) 0 6 (81 + 1))) 0 7 (89 + 1))) 0 8 (92 + 1))) 0 9 (97 + 1)) 165) 164 165 175) 163 0 (164 + 1)) 189) 188 189 199) 163 1 (188 + 1)) 0 10 (163 + 1)) 0 11 (212 + 1)), (mDn (mDn (mDt (mDn (mTp m) 8)) 165) 189))
  refine gc_aload_n dX11_init_185 rfl ?_
  show Gc 1 8 mX11_init _ 186 [vr 0] [vr 0] (213, (pw (pw (pw (pWo (pDn (pw (pWo (pDn (pw (pHi (pw (pTr (pw (pUd (pw (pSr (pw (pSe (pw (pBk (pw (pDt (pw (pWo (pw (pWo (pDn (pw (pTp π) 0 0 (1 + 1)) 8) 7 8 18) 0 1 (7 + 1)) 31 8 32) 0 2 (31 + 1))) 0 3 (45 + 1))) 0 4 (70 + 1)) 76) 0 5 (76 + 1))) 0 6 (81 + 1))) 0 7 (89 + 1))) 0 8 (92 + 1))) 0 9 (97 + 1)) 165) 164 165 175) 163 0 (164 + 1)) 189) 188 189 199) 163 1 (188 + 1)) 0 10 (163 + 1)) 0 11 (212 + 1)), (mDn (mDn (mDt (mDn (mTp m) 8)) 165) 189))
  refine gc_bipush dX11_init_186 (by decide) ?_
  show Gc 1 8 mX11_init _ 188 [vr 0] [vi 25, vr 0] (213, (pw (pw (pw (pWo (pDn (pw (pWo (pDn (pw (pHi (pw (pTr (pw (pUd (pw (pSr (pw (pSe (pw (pBk (pw (pDt (pw (pWo (pw (pWo (pDn (pw (pTp π) 0 0 (1 + 1)) 8) 7 8 18) 0 1 (7 + 1)) 31 8 32) 0 2 (31 + 1))) 0 3 (45 + 1))) 0 4 (70 + 1)) 76) 0 5 (76 + 1))) 0 6 (81 + 1))) 0 7 (89 + 1))) 0 8 (92 + 1))) 0 9 (97 + 1)) 165) 164 165 175) 163 0 (164 + 1)) 189) 188 189 199) 163 1 (188 + 1)) 0 10 (163 + 1)) 0 11 (212 + 1)), (mDn (mDn (mDt (mDn (mTp m) 8)) 165) 189))
  refine gc_newI (kd := 1) (N := 25) dX11_init_188 rfl (Or.inr (Or.inl rfl)) aw_1 ar_213 (by decide) rfl (by first | rfl | (simp only [okA, List.all_cons, List.all_nil, Bool.and_true, Bool.or_eq_true, Bool.and_eq_true, decide_eq_true_eq]; omega)) (by first | rfl | (simp only [okA, List.all_cons, List.all_nil, Bool.and_true, Bool.or_eq_true, Bool.and_eq_true, decide_eq_true_eq]; omega)) (fun hz18 => ?_)
  show Gc 0 8 mX11_init _ 190 [vr 0] [vr 213, vr 0] (214, (pw (pw (pw (pWo (pDn (pw (pWo (pDn (pw (pHi (pw (pTr (pw (pUd (pw (pSr (pw (pSe (pw (pBk (pw (pDt (pw (pWo (pw (pWo (pDn (pw (pTp π) 0 0 (1 + 1)) 8) 7 8 18) 0 1 (7 + 1)) 31 8 32) 0 2 (31 + 1))) 0 3 (45 + 1))) 0 4 (70 + 1)) 76) 0 5 (76 + 1))) 0 6 (81 + 1))) 0 7 (89 + 1))) 0 8 (92 + 1))) 0 9 (97 + 1)) 165) 164 165 175) 163 0 (164 + 1)) 189) 188 189 199) 163 1 (188 + 1)) 0 10 (163 + 1)) 0 11 (212 + 1)), (mDn (mDn (mDt (mDn (mTp m) 8)) 165) 189))
  refine gc_putP dX11_init_190 fl_11_94 ff_11_94 rfl fk_11_94 ob_0 (show 0 < 214 by omega) (show 213 < 214 by omega) rfl ?_
  show Gc 0 8 mX11_init _ 193 [vr 0] [] (214, (pw (pw (pw (pw (pWo (pDn (pw (pWo (pDn (pw (pHi (pw (pTr (pw (pUd (pw (pSr (pw (pSe (pw (pBk (pw (pDt (pw (pWo (pw (pWo (pDn (pw (pTp π) 0 0 (1 + 1)) 8) 7 8 18) 0 1 (7 + 1)) 31 8 32) 0 2 (31 + 1))) 0 3 (45 + 1))) 0 4 (70 + 1)) 76) 0 5 (76 + 1))) 0 6 (81 + 1))) 0 7 (89 + 1))) 0 8 (92 + 1))) 0 9 (97 + 1)) 165) 164 165 175) 163 0 (164 + 1)) 189) 188 189 199) 163 1 (188 + 1)) 0 10 (163 + 1)) 0 11 (212 + 1)) 0 12 (213 + 1)), (mDn (mDn (mDt (mDn (mTp m) 8)) 165) 189))
  refine gc_aload_n dX11_init_193 rfl ?_
  show Gc 0 8 mX11_init _ 194 [vr 0] [vr 0] (214, (pw (pw (pw (pw (pWo (pDn (pw (pWo (pDn (pw (pHi (pw (pTr (pw (pUd (pw (pSr (pw (pSe (pw (pBk (pw (pDt (pw (pWo (pw (pWo (pDn (pw (pTp π) 0 0 (1 + 1)) 8) 7 8 18) 0 1 (7 + 1)) 31 8 32) 0 2 (31 + 1))) 0 3 (45 + 1))) 0 4 (70 + 1)) 76) 0 5 (76 + 1))) 0 6 (81 + 1))) 0 7 (89 + 1))) 0 8 (92 + 1))) 0 9 (97 + 1)) 165) 164 165 175) 163 0 (164 + 1)) 189) 188 189 199) 163 1 (188 + 1)) 0 10 (163 + 1)) 0 11 (212 + 1)) 0 12 (213 + 1)), (mDn (mDn (mDt (mDn (mTp m) 8)) 165) 189))
  refine gc_iconst dX11_init_194 ?_
  show Gc 0 8 mX11_init _ 195 [vr 0] [vi 0, vr 0] (214, (pw (pw (pw (pw (pWo (pDn (pw (pWo (pDn (pw (pHi (pw (pTr (pw (pUd (pw (pSr (pw (pSe (pw (pBk (pw (pDt (pw (pWo (pw (pWo (pDn (pw (pTp π) 0 0 (1 + 1)) 8) 7 8 18) 0 1 (7 + 1)) 31 8 32) 0 2 (31 + 1))) 0 3 (45 + 1))) 0 4 (70 + 1)) 76) 0 5 (76 + 1))) 0 6 (81 + 1))) 0 7 (89 + 1))) 0 8 (92 + 1))) 0 9 (97 + 1)) 165) 164 165 175) 163 0 (164 + 1)) 189) 188 189 199) 163 1 (188 + 1)) 0 10 (163 + 1)) 0 11 (212 + 1)) 0 12 (213 + 1)), (mDn (mDn (mDt (mDn (mTp m) 8)) 165) 189))
  refine gc_put0 dX11_init_195 fw_11_98 ob_0 (show 0 < 214 by omega) (Or.inl ⟨rfl, Or.inl rfl⟩) (by first | exact hz _ | (dsimp only; rw [wr_ni (by omega), wr_ni (by omega)]; exact hz _)) ?_
  show Gc 0 8 mX11_init _ 198 [vr 0] [] (214, (pw (pw (pw (pw (pWo (pDn (pw (pWo (pDn (pw (pHi (pw (pTr (pw (pUd (pw (pSr (pw (pSe (pw (pBk (pw (pDt (pw (pWo (pw (pWo (pDn (pw (pTp π) 0 0 (1 + 1)) 8) 7 8 18) 0 1 (7 + 1)) 31 8 32) 0 2 (31 + 1))) 0 3 (45 + 1))) 0 4 (70 + 1)) 76) 0 5 (76 + 1))) 0 6 (81 + 1))) 0 7 (89 + 1))) 0 8 (92 + 1))) 0 9 (97 + 1)) 165) 164 165 175) 163 0 (164 + 1)) 189) 188 189 199) 163 1 (188 + 1)) 0 10 (163 + 1)) 0 11 (212 + 1)) 0 12 (213 + 1)), (mDn (mDn (mDt (mDn (mTp m) 8)) 165) 189))
  exact gc_ret (v := 0) rfl dX11_init_198 rfl rfl
