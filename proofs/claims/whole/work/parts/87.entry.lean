/-! THE CLAIM OUT OF ONE WALK OF THE LAW'S BODY. Your part is whole_start (and what it stands on); all else here is the same for every law, but numbers. -/
def R_law : String := "CartTurnsLaw"
def lw_P (b : Addr) (xs : List Int32) (args : Array Value) (s : State) : Prop := args = #[.ref b] ∧ s.IntsAt b xs ∧ xs.length ≤ 3072 ∧ (Jvm.Cond.and given_1 narrow_1).before args s = true
def lw_Q (_ : Array Value) (s : State) (o : Outcome) (t : State) : Prop := o = .returned (some (.int 1)) ∧ Framed s o t [] 601024 7293034
def lw_Z (below : List Frame) (a : Array Value) (s : State) : State → Prop := fun t => ∃ o, t.status = .running ∧ Ended t below o ∧ lw_Q a s o t
/-- the law's own end, with 1 on the stack, nothing written that was there before, its room as the claim has it -/
theorem lw_ret {p : Program} {l : Launch} {e : Env} {s : State} {m : MethodId} {below : List Frame} {meth : Method} {c : Code} {b : Nat} (hx : p.tables.exec = Jvm.exec) (hb : c.code = code) (hr : meth.sig.returnType = ret) (hlocks : meth.locks = false) {pc : Nat} {H : Heap} {ls : Array Slot} (hdg : decode code pc = .ok (.ireturn, 1)) : W p l e room_1 s m #[Value.ref b] below meth c H [] 601024 7293034 (lw_Z below #[Value.ref b] s) (F0 m pc ls [.int 1]) := by
  intro T hT X
  obtain ⟨fs, hret, hrun, hended, hW, hframe⟩ := X.leave (v := some (.int 1)) (hlocks := hlocks) (fun h => by rw [hr] at h; cases h)
  have hmeth' : T.vm.method? m = some meth := X.method'
  refine ⟨T.setFrames fs, ?_, .returned (some (.int 1)), hrun, hended, rfl, ⟨_, rfl⟩, hW, hframe⟩
  jvm_step X.here [X.here.top, hx, hb, hdg, hmeth', hr, ret, narrow_b1]
  (try refine ⟨rfl, ?_⟩); (try refine ⟨rfl, ?_⟩)
  first | (intro acts; rw [hret _ acts rfl rfl rfl]) | rw [hret _ _ rfl rfl rfl]
  exact Steps.refl _
/-- what holds at the law's entry: the machine, the code, the tables' words (any of lw_tbl by 'hts w (by decide +kernel)'), the script of L ints xs at the cell b, what the Statement gives of the start (any of its parts by flat_of_before) -/
def lw_At (p : Program) (s : State) (m : MethodId) (meth : Method) (c : Code) (b L : Nat) (xs : Nat → Int32) : Prop :=
  p.tables.exec = Jvm.exec ∧ c.code = code ∧ meth.sig.returnType = ret ∧ c.maxLocals = 7 ∧ s.vm.findClass R_law = some m.cls ∧ (∀ w ∈ lw_tbl, w.before #[Value.ref b] s = true) ∧ va_X b L xs s s.heap ∧ b < s.heap.size ∧ meth.locks = false ∧ (Jvm.Cond.and given_1 narrow_1).before #[Value.ref b] s = true
theorem whole_start {p : Program} {e : Env} {s : State} {m : MethodId} {below : List Frame} {meth : Method} {c : Code} (l : Launch) (hflags : l.flags = flags0) {b L : Nat} {xs : Nat → Int32} (hL : L ≤ 3072) (C0 : lw_At p s m meth c b L xs) : W p l e room_1 s m #[Value.ref b] below meth c s.heap [] 0 0 (lw_Z below #[Value.ref b] s) (entryFrame m ([Value.ref b] : List Value).toArray 7) := by
  obtain ⟨hx, hb, hr, hml, hown, hts, hX, hbl, hlocks, hgv⟩ := id C0
  have hs : ∀ w ∈ gvL, w.before #[Value.ref b] s = true := flat_of_before _ hgv
  have hnA : ∀ a : Nat, a < s.heap.size → ¬ (fun q : Nat => s.heap.size ≤ q) a := fun a h => Nat.not_le.mpr h
  obtain ⟨D, hD⟩ := st_D hts
  obtain ⟨cA, hcA⟩ := st_cA hts
  obtain ⟨ad, had, hStt, hSkw⟩ := st_all hts hs hnA b
  have hC : Cx 72 mL_law D cA ad (fun q : Nat => s.heap.size ≤ q) l p room_1 s m #[Value.ref b] c :=
    ⟨hx, hb, hml, hown, fun w hw => hts w (List.mem_filter.mp hw).1, fun w hw => va_Nw.of (nw_onTables (List.all_eq_true.mp nestW_is w hw)) (hts w (nest_tbl w hw)), ⟨hD, hcA⟩, fun _ h => h, hStt, by decide, by decide, hflags⟩
  have hst : l.stackTraces = false := by
    unfold Launch.stackTraces
    rw [hflags]
    decide +kernel
  have hK : KX mL_law ad (fun q : Nat => s.heap.size ≤ q) l s meth :=
    ⟨hSkw, fun h => absurd h (by decide +kernel), fun _ => ⟨L, xs, hL, by rw [had]; exact hX, by rw [had]; exact hbl, by rw [had]; exact hnA b hbl, hst⟩⟩
  have hR : RlC cA D ad (fun q : Nat => s.heap.size ≤ q) s (0, (fun _ _ => 0), (fun _ _ => 0)) s.heap [] :=
    ⟨fun k q h => by simp [Wc] at h, ⟨fun i j p q h => by simp [Wc] at h, fun k q h => by simp [Wc] at h⟩, va_S.rf, can_0⟩
  have hl := lv_entry ([.ref b]) (n := 7) (Nat.le_of_ble_eq_true rfl)
  rw [lg_entry_eq]
  generalize (lg_sl ([.ref b]) ++ List.replicate (7 - (lg_sl ([.ref b])).length) Slot.unset).toArray = ls at hl ⊢
  have hl : lv_has ls 7 [(0, .ref b)] := hl
  have hl2 : lv_has ls mL_law.2.2.1 (lvL ad [vr 1011, un, un, un, un, un, un]) := by
    have e : lvL ad [vr 1011, un, un, un, un, un, un] = [(0, .ref (ad 1011))] := rfl
    rw [e, had]
    exact hl
  refine law_all l D cA ad (fun q : Nat => s.heap.size ≤ q) p e room_1 s m #[Value.ref b] below meth c (lw_Z below #[Value.ref b] s) hC hK (fun v m' ad' pc' ls H locs cells slots _ hv _ hR9 hc9 hs9 hd9 => ?_) ls s.heap [] 0 0 hR hl2 (by decide) (by decide)
  have hv : v = 1 := hv
  subst hv
  refine va_forget (fun q hq => hR9.2.2.1.2.2 q hq) ?_
  refine W.widen (k := 601024) (n := 7293034) hc9 hs9 ?_
  exact lw_ret hx hb hr hlocks hd9
