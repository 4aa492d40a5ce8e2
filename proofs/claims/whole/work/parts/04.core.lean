/-! ===== the judgement Go: a method's body over a memory of numbers; Ev: a method's contract ===== -/
abbrev Mem : Type := Nat → Int → Int
abbrev AV : Type := Int ⊕ (Int ⊕ (Nat ⊕ Unit))
abbrev vi (x : Int) : AV := Sum.inl x
abbrev vl (x : Int) : AV := Sum.inr (Sum.inl x)
abbrev vr (a : Nat) : AV := Sum.inr (Sum.inr (Sum.inl a))
abbrev un : AV := Sum.inr (Sum.inr (Sum.inr ()))
abbrev MD : Type := MethodName × ByteArray × Nat × Option FieldType
def toV (ad : Nat → Nat) (v : AV) : Value := match v with
  | .inl x => .int (Int32.ofInt x)
  | .inr (.inl x) => .long (Int64.ofInt x)
  | .inr (.inr (.inl a)) => .ref (ad a)
  | .inr (.inr (.inr _)) => .null
def isUn (v : AV) : Bool := match v with
  | .inr (.inr (.inr _)) => true
  | _ => false
def isLg (v : AV) : Bool := match v with
  | .inr (.inl _) => true
  | _ => false
abbrev InR (x : Int) : Prop := -2147483648 ≤ x ∧ x < 2147483648
abbrev InL (x : Int) : Prop := -9223372036854775808 ≤ x ∧ x < 9223372036854775808
/-- a cell's field or element, by its type -/
def fval (ty : FieldType) (ad : Nat → Nat) (x : Int) (q : Nat) : Value := match ty with
  | .long => .long (Int64.ofInt x)
  | .object _ => .ref (ad q)
  | .array _ => .ref (ad q)
  | _ => .int (Int32.ofInt x)
def inTy (ty : FieldType) (x : Int) : Prop := match ty with
  | .long => InL x
  | .object _ => x = 0
  | .array _ => x = 0
  | .boolean => x = 0 ∨ x = 1
  | .byte => -128 ≤ x ∧ x < 128
  | _ => InR x
def ety (k : Nat) : FieldType := match k with
  | 0 => .int
  | 1 => .byte
  | 2 => .boolean
  | 3 => .long
  | 4 => .object "CartTurns$State"
  | _ => .object "CartTurns$World"
def tyOf (a : Nat) (i : Int) : FieldType := if sk a < 100 then cty (sk a) i.toNat else ety (sk a - 100)
def Can (m : Mem) : Prop := ∀ (a : Nat) (i : Int), inTy (tyOf a i) (m a i) ∧ ((i < 0 ∨ (sn a : Int) ≤ i ∨ NC ≤ a) → m a i = 0)
def objFs (ad : Nat → Nat) (m : Mem) (a : Nat) : List Value := (List.range (sn a)).map (fun k => fval (cty (sk a) k) ad (m a (k : Int)) (sp a k))
def cellE (cA : Nat → ClassId) (ad : Nat → Nat) (m : Mem) (a : Nat) : va_E :=
  if sk a < 100 then .inr (sk a, objFs ad m a)
  else if sk a < 103 then .inl (cA (sk a - 100), sn a, .inl (fun j => Int32.ofInt (m a (j : Int))))
  else if sk a = 103 then .inl (cA 3, sn a, .inr (.inl (fun j => Int64.ofInt (m a (j : Int)))))
  else .inl (cA (sk a - 100), sn a, .inr (.inr (.inr (.inr (fun j => some (ad (sp a j)))))))
def Wd (cA : Nat → ClassId) (ad : Nat → Nat) (m : Mem) : va_W := (List.range NC).map (fun a => (ad a, cellE cA ad m a))
def tys (cA : Nat → ClassId) : List (ClassId × FieldType) := (List.range 6).map (fun k => (cA k, ety k))
def stepX (j : Nat) : Int := match j with
  | 0 => 1
  | 1 => 0
  | 2 => -1
  | _ => 0
def stepY (j : Nat) : Int := match j with
  | 0 => 0
  | 1 => 1
  | 2 => 0
  | _ => -1
def strB : List (List Int32) := [[32, 97, 116, 32], [32, 117, 112, 32], [32, 115, 112, 101, 110, 116]]
/-- the String constants of a slip, and the statics of the JDK that their reading and a throw go by -/
def Sxt (ad : Nat → Nat) (A : Nat → Prop) (U : State) (H : Heap) : Prop :=
  vk_S 3 [4, 4, 6] strB (fun i => ad (1002 + i)) (fun i => ad (1005 + i)) A U H ∧ va_Z "java/lang/String" "COMPACT_STRINGS" "Z" (.int 1) A U H ∧
  (va_Z "jdk/internal/util/Preconditions" "SIOOBE_FORMATTER" "Ljava/util/function/BiFunction;" .null A U H ∨ va_Z "jdk/internal/util/Preconditions" "SIOOBE_FORMATTER" "Ljava/util/function/BiFunction;" (.ref (ad 1010)) A U H) ∧
  vx_Zq Bundle.tN "UNASSIGNED_STACK" Bundle.steD A U H ∧ vx_Zq Bundle.tN "SUPPRESSED_SENTINEL" Bundle.listD A U H
/-- the words of a throw that calls carry one by one -/
def thrW : List Cond := (vx_at0 "CartTurns" 135 "java/util/NoSuchElementException" ["java/lang/RuntimeException", "java/lang/Exception"]).filter (fun w => !goodWord w)
def isTh (w : Cond) : Bool := match w with
  | .declares _ => true
  | .castable _ _ => true
  | _ => false
theorem thrW_is : thrW.all isTh = true := by decide +kernel
theorem th_warm {w : Cond} (h : isTh w = true) {s U : State} (hW : s.WarmedH U.vm) (hs : va_Nw w s) : va_Nw w U := by
  cases w <;> first | exact va_Nw.warmD hW hs | exact va_Nw.warmC hW hs | cases h
theorem th_onTables {w : Cond} (h : isTh w = true) : w.onTables = true := by
  cases w <;> first | rfl | cases h
def Srf (ad : Nat → Nat) (U : State) : Prop := vk_R "CartTurns" 341 " at " (ad 1002) U ∧ vk_R "CartTurns" 350 " up " (ad 1003) U ∧ vk_R "CartTurns" 352 " spent" (ad 1004) U ∧ ∀ w ∈ thrW, va_Nw w U
def Stt (ad : Nat → Nat) (A : Nat → Prop) (U : State) (H : Heap) : Prop :=
  va_Z "CartTurns" "STEP_X" "[I" (.ref (ad 1000)) A U H ∧ va_T .int (ad 1000) 4 (fun j => .int (Int32.ofInt (stepX j))) A U H ∧
  va_Z "CartTurns" "STEP_Y" "[I" (.ref (ad 1001)) A U H ∧ va_T .int (ad 1001) 4 (fun j => .int (Int32.ofInt (stepY j))) A U H ∧ Sxt ad A U H ∧ Srf ad U
theorem Sxt.down {ad : Nat → Nat} {A B : Nat → Prop} {u U : State} {H0 H : Heap} (h : Sxt ad A u H0) (hvm : u.vm.Alike U.vm) (hAB : ∀ q, B q → A q) (hk : ∀ q : Nat, q < H0.size → ¬ A q → H[q]? = H0[q]?) : Sxt ad B U H :=
  ⟨((h.1.kept hk).narrow hAB).moved hvm, ((h.2.1.kept hk).narrow hAB).moved hvm, h.2.2.1.imp (fun z => ((z.kept hk).narrow hAB).moved hvm) (fun z => ((z.kept hk).narrow hAB).moved hvm), ((h.2.2.2.1.kept hk).narrow hAB).moved hvm, ((h.2.2.2.2.kept hk).narrow hAB).moved hvm⟩
theorem Srf.warm {ad : Nat → Nat} {u U : State} (hW : u.WarmedH U.vm) (h : Srf ad u) : Srf ad U := ⟨h.1.warm hW, h.2.1.warm hW, h.2.2.1.warm hW, fun w hw => th_warm (List.all_eq_true.mp thrW_is w hw) hW (h.2.2.2 w hw)⟩
theorem Srf.same {ad : Nat → Nat} {u U : State} (hv : U.vm = u.vm) (h : Srf ad u) : Srf ad U := ⟨h.1.same hv, h.2.1.same hv, h.2.2.1.same hv, fun w hw => va_Nw.same (th_onTables (List.all_eq_true.mp thrW_is w hw)) hv.symm (h.2.2.2 w hw)⟩
theorem Stt.same {ad : Nat → Nat} {A : Nat → Prop} {u U : State} {H : Heap} (hv : U.vm = u.vm) (h : Stt ad A u H) : Stt ad A U H := by
  have hvm : u.vm.Alike U.vm := by rw [hv]; exact Vm.Alike.refl _
  exact ⟨h.1.moved hvm, h.2.1.moved hvm, h.2.2.1.moved hvm, h.2.2.2.1.moved hvm, h.2.2.2.2.1.down hvm (fun _ z => z) (fun _ _ _ => rfl), h.2.2.2.2.2.same hv⟩
def tblG : List Cond := lw_tbl.filter goodWord
theorem tblG_in {w : Cond} (h : w ∈ lw_tbl) (hg : goodWord w = true) : w ∈ tblG := List.mem_filter.mpr ⟨h, hg⟩
theorem tblG_good {ws : List Cond} (h : ∀ w ∈ ws, w ∈ tblG) : GoodIn tblG ws := fun w hw => ⟨h w hw, good_of_word (List.mem_filter.mp (h w hw)).2⟩
def Cx (d : Nat) (Y : MD) (D : va_G) (cA : Nat → ClassId) (ad : Nat → Nat) (A : Nat → Prop) (l : Launch) (p : Program) (R : Room) (s : State) (mth : MethodId) (args : Array Value) (c : Code) : Prop :=
  p.tables.exec = Jvm.exec ∧ c.code = Y.2.1 ∧ c.maxLocals = Y.2.2.1 ∧ s.vm.findClass Y.1.cls = some mth.cls ∧ (∀ w ∈ tblG, w.before args s = true) ∧ (∀ w ∈ nestW, va_Nw w s) ∧
  va_K D cls (tys cA) s ∧ (∀ q, s.heap.size ≤ q → A q) ∧ Stt ad A s s.heap ∧ d ≤ R.frames ∧ 40 * d ≤ R.locals ∧ l.flags = flags0
def Rl (cA : Nat → ClassId) (D : va_G) (ad : Nat → Nat) (A : Nat → Prop) (s : State) (m : Mem) (H : Heap) (locs : List Loc) : Prop :=
  va_P D cls (Wd cA ad m) H ∧ va_D A (Wd cA ad m) ∧ va_S A s.heap H locs ∧ Can m
def lvL (ad : Nat → Nat) (L : List AV) : List (Nat × Value) := (L.zipIdx).filterMap (fun q => if isUn q.1 then none else some (q.2, toV ad q.1))
def rSt (rt : Option FieldType) (v : Int) : List AV := match rt with
  | none => []
  | some .long => [vl v]
  | _ => [vi v]
def rIn (rt : Option FieldType) : Instr := match rt with
  | none => .return_
  | some .long => .lreturn
  | _ => .ireturn
def rOk (rt : Option FieldType) (v : Int) : Prop := match rt with
  | none => v = 0
  | some t => inTy t v
def Go (g d : Nat) (Y : MD) (Q : Int → Mem → Prop) (pc : Nat) (L S : List AV) (m : Mem) : Prop :=
  ∀ (l : Launch) (D : va_G) (cA : Nat → ClassId) (ad : Nat → Nat) (A : Nat → Prop) (p : Program) (e : Env) (R : Room) (s : State) (mth : MethodId) (args : Array Value) (below : List Frame) (meth : Method) (c : Code) (Z : State → Prop),
    Cx d Y D cA ad A l p R s mth args c →
    (∀ (v : Int) (m' : Mem) (pc' : Nat) (ls : Array Slot) (H : Heap) (locs : List Loc) (cells slots : Nat), Q v m' → rOk Y.2.2.2 v → Rl cA D ad A s m' H locs → cells ≤ R.cells → slots ≤ R.slots → decode Y.2.1 pc' = .ok (rIn Y.2.2.2, 1) →
      W p l e R s mth args below meth c H locs cells slots Z (F0 mth pc' ls ((rSt Y.2.2.2 v).map (toV ad)))) →
    ∀ (ls : Array Slot) (H : Heap) (locs : List Loc) (cells slots : Nat), Rl cA D ad A s m H locs → lv_has ls Y.2.2.1 (lvL ad L) → cells + g ≤ R.cells → slots + 20 * g ≤ R.slots →
      W p l e R s mth args below meth c H locs cells slots Z (F0 mth pc ls (S.map (toV ad)))
def wsY (Y : MD) : List Cond := .code Y.1 Y.2.1 Y.2.2.1 Y.2.2.2 :: tblG
def rmY (g d : Nat) : Room := { frames := d, cells := g, slots := 20 * g, locals := 40 * d }
def PcY (cA : Nat → ClassId) (D : va_G) (ad : Nat → Nat) (sz : Nat) (as : List AV) (m : Mem) : Array Value → State → Prop :=
  va_Pc (as.map (toV ad)) (fun U => U.heap.size = sz ∧ va_P D cls (Wd cA ad m) U.heap ∧ va_K D cls (tys cA) U ∧ va_D (fun _ => True) (Wd cA ad m) ∧ Can m ∧ (∀ w ∈ nestW, va_Nw w U) ∧ Stt ad (va_A (Wd cA ad m) sz) U U.heap)
def BY (cA : Nat → ClassId) (D : va_G) (ad : Nat → Nat) (A : Nat → Prop) (m' : Mem) (t : State) : Prop :=
  va_P D cls (Wd cA ad m') t.heap ∧ va_D A (Wd cA ad m') ∧ Can m'
def QcY (rt : Option FieldType) (Q : Int → Mem → Prop) (B : Mem → State → Prop) (A : Nat → Prop) : Array Value → State → Outcome → State → Prop := match rt with
  | none => va_Qv (fun m' => Q 0 m') B A
  | some .long => va_Ql (fun r m' => Q r.toInt m' ∧ InL r.toInt) B A
  | some t => va_Qi (fun r m' => Q r.toInt m' ∧ inTy t r.toInt) B A
def Ev (g d : Nat) (Y : MD) (as : List AV) (m : Mem) (Q : Int → Mem → Prop) : Prop :=
  ∀ (l : Launch) (D : va_G) (cA : Nat → ClassId) (ad : Nat → Nat) (sz : Nat), l.flags = flags0 →
    Met l Y.1 (wsY Y) (rmY g d) (PcY cA D ad sz as m) (QcY Y.2.2.2 Q (BY cA D ad (va_A (Wd cA ad m) sz)) (va_A (Wd cA ad m) sz)) g (20 * g) (va_A (Wd cA ad m) sz)
