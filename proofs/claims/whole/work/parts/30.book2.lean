theorem PT.base {M m m' : Mem} {j f : Int} (h1 : M 1 = m 1) (h4 : M 4 = m 4) (h5 : M 5 = m 5) (h6 : M 6 = m 6) (h : PT M m' j f) : PT m m' j f := by
  unfold PT at *
  rw [h1, h4, h5, h6] at h
  exact h
theorem BkPost.base {M m m' X : Mem} {r : Int} {F : Int × Int} (h1 : M 1 = m 1) (h4 : M 4 = m 4) (h5 : M 5 = m 5) (h6 : M 6 = m 6) (hfr : ∀ b : Nat, (b < 71 ∨ 76 ≤ b) → M b = m b) (h : BkPost M r m' F X) : BkPost m r m' F X := by
  rcases h with ⟨a1, a2, a3, a4, a5⟩ | ⟨a1, a2, a3, a4⟩
  · rw [h1] at a3 a4
    exact Or.inl ⟨a1, a2, a3, PT.base h1 h4 h5 h6 a4, a5⟩
  · exact Or.inr ⟨a1, a2, PT.base h1 h4 h5 h6 a3, fun b hb h2 => (a4 b hb h2).trans (hfr b h2)⟩
def LOk (m : Mem) (l : Int) : Prop := (m 71 l = 208 ∧ 1 ≤ m 75 l ∧ m 75 l ≤ 60) ∨ ((0 ≤ m 72 l ∧ m 72 l < m 8 3) ∧ ((m 71 l = 205 ∧ (0 ≤ m 73 l ∧ m 73 l < m 8 2) ∧ 0 ≤ m 74 l ∧ m 74 l ≤ 3) ∨ (m 71 l = 206 ∧ 0 ≤ m 74 l ∧ m 74 l ≤ 3) ∨ m 71 l = 207))
def bl (B : Mem) : Nat → Mem × Int
  | 0 => (B, 1)
  | k + 1 => (wr (bkX (bl B k).1 (bl B k).2) 70 11 ((bl B k).1 70 11 + 1), (bkF (bl B k).1 (bl B k).2).2 + 2)
def okB (B : Mem) (k : Nat) : Prop := B 4 ((bl B k).2 - 1) ≠ 0 ∧ (bkF (bl B k).1 (bl B k).2).1 = 0 ∧ B 4 (bkF (bl B k).1 (bl B k).2).2 = 59
theorem sdF_0 {m : Mem} {i : Int} (h : sdF m i = 0) : 209 ≤ m 4 i ∧ m 4 i ≤ 212 := by
  unfold sdF at h; split at h
  · assumption
  · omega
theorem ffF_0 {m : Mem} {i : Int} (h : ffF m i = 0) : m 4 i = 3 ∧ 0 ≤ nameAt m (8 + 1) (m 6 i) (m 8 2) ∧ nameAt m (8 + 1) (m 6 i) (m 8 2) < m 8 2 := by
  have := nameAt_b m (8 + 1) (m 6 i) (m 8 2)
  unfold ffF at h; split at h
  · split at h
    · omega
    · exact ⟨by assumption, by omega, by omega⟩
  · omega
/-- what a line that is well told comes to -/
theorem bk_ok {m : Mem} {i : Int} (h : (bkF m i).1 = 0) (hn : 0 ≤ m 70 11) : m 70 11 < 40 ∧ i + 1 ≤ (bkF m i).2 ∧ LOk (bkX m i) (m 70 11) ∧ (∀ l : Int, l ≠ m 70 11 → bkX m i 71 l = m 71 l ∧ bkX m i 72 l = m 72 l ∧ bkX m i 73 l = m 73 l ∧ bkX m i 74 l = m 74 l ∧ bkX m i 75 l = m 75 l) ∧ 2 ≤ m 4 (i - 1) := by
  unfold bkF at h ⊢
  by_cases a1 : m 4 (i - 1) ≠ 3 ∧ m 4 (i - 1) ≠ 208
  · rw [if_pos a1] at h; exact absurd h (by show (1 : Int) ≠ 0; decide)
  rw [if_neg a1] at h ⊢
  by_cases a2 : m 4 (i - 1) = 3 ∧ nameAt m (8 + 4) (m 6 (i - 1)) (m 8 3) = -1
  · rw [if_pos a2] at h; exact absurd h (by show (3 : Int) ≠ 0; decide)
  rw [if_neg a2] at h ⊢
  by_cases a3 : 40 ≤ m 70 11
  · rw [if_pos a3] at h; exact absurd h (by show (4 : Int) ≠ 0; decide)
  rw [if_neg a3] at h ⊢
  by_cases a4 : m 4 (i - 1) = 208
  · rw [if_pos a4] at h ⊢
    obtain ⟨b1, -⟩ := pr_ne h
    rw [if_neg (fun z => z b1)]
    have hv := numF_0 b1
    have ex : bkX m i = wr (wr (wr m 72 (m 70 11) (-1)) 71 (m 70 11) 208) 75 (m 70 11) (vN m i) := by unfold bkX; rw [if_pos a4]
    refine ⟨by omega, Int.le_refl _, Or.inl ?_, fun l hl => ?_, by omega⟩
    · rw [ex]; simp (disch := decide) only [wr_na, wr_self]; exact ⟨trivial, hv.2.1, hv.2.2⟩
    · rw [ex]; refine ⟨?_, ?_, ?_, ?_, ?_⟩ <;> simp (disch := first | decide | exact hl) only [wr_na, wr_ni]
  · rw [if_neg a4] at h ⊢
    have hnm := nameAt_b m (8 + 4) (m 6 (i - 1)) (m 8 3)
    obtain ⟨P, hP⟩ : ∃ z, z = nameAt m (8 + 4) (m 6 (i - 1)) (m 8 3) := ⟨_, rfl⟩
    rw [← hP] at hnm a2
    have ex : bkX m i = deX (wr m 72 (m 70 11) P) i := by unfold bkX; rw [if_neg a4, hP]
    have e4 : wr m 72 (m 70 11) P 4 = m 4 := wr_row (by decide)
    have e6 : wr m 72 (m 70 11) P 6 = m 6 := wr_row (by decide)
    have e8 : wr m 72 (m 70 11) P 8 = m 8 := wr_row (by decide)
    have e9 : wr m 72 (m 70 11) P (8 + 1) = m (8 + 1) := wr_row (by decide)
    have e70 : wr m 72 (m 70 11) P 70 = m 70 := wr_row (by decide)
    rw [ex]
    by_cases c1 : m 4 i = 205
    · rw [deF_205 c1] at h ⊢
      obtain ⟨b1, h⟩ := pr_ne h
      obtain ⟨b2, -⟩ := pr_ne h
      rw [if_neg (fun z => z b1), if_neg (fun z => z b2)]
      have v1 := ffF_0 b1
      have v2 := sdF_0 b2
      rw [deX_205 (by rw [e4]; exact c1), e4, e70, e6, e8]
      have en : nameAt (wr m 72 (m 70 11) P) (8 + 1) (m 6 (i + 1)) (m 8 2) = nameAt m (8 + 1) (m 6 (i + 1)) (m 8 2) := by unfold nameAt; rw [e9]
      rw [en]
      refine ⟨by omega, by show i + 1 ≤ i + 3; omega, Or.inr ⟨?_, Or.inl ?_⟩, fun l hl => ?_, by omega⟩
      · simp (disch := decide) only [wr_na, wr_self]; omega
      · simp (disch := decide) only [wr_na, wr_self]; exact ⟨c1, v1.2, by omega, by omega⟩
      · refine ⟨?_, ?_, ?_, ?_, ?_⟩ <;> simp (disch := first | decide | exact hl) only [wr_na, wr_ni]
    · by_cases c2 : m 4 i = 206
      · rw [deF_206 c2] at h ⊢
        obtain ⟨b2, -⟩ := pr_ne h
        rw [if_neg (fun z => z b2)]
        have v2 := sdF_0 b2
        rw [deX_206 (by rw [e4]; exact c2), e4, e70]
        refine ⟨by omega, by show i + 1 ≤ i + 2; omega, Or.inr ⟨?_, Or.inr (Or.inl ?_)⟩, fun l hl => ?_, by omega⟩
        · simp (disch := decide) only [wr_na, wr_self]; omega
        · simp (disch := decide) only [wr_na, wr_self]; exact ⟨c2, by omega, by omega⟩
        · refine ⟨?_, ?_, ?_, ?_, ?_⟩ <;> simp (disch := first | decide | exact hl) only [wr_na, wr_ni]
      · by_cases c3 : m 4 i = 207
        · have ef : deF m i = (0, i + 1) := by unfold deF; rw [if_neg c1, if_neg c2, if_pos c3]
          have ed : deX (wr m 72 (m 70 11) P) i = wr (wr m 72 (m 70 11) P) 71 (m 70 11) (m 4 i) := by unfold deX; rw [e4, if_neg c1, if_neg c2, e70]
          rw [ef, ed]
          refine ⟨by omega, Int.le_refl _, Or.inr ⟨?_, Or.inr (Or.inr ?_)⟩, fun l hl => ?_, by omega⟩
          · simp (disch := decide) only [wr_na, wr_self]; omega
          · simp (disch := decide) only [wr_na, wr_self]; exact c3
          · refine ⟨?_, ?_, ?_, ?_, ?_⟩ <;> simp (disch := first | decide | exact hl) only [wr_na, wr_ni]
        · have ef : deF m i = (1, i) := by unfold deF; rw [if_neg c1, if_neg c2, if_neg c3]
          rw [ef] at h; exact absurd h (by show (1 : Int) ≠ 0; decide)
theorem bkX_out {m : Mem} {i : Int} {b : Nat} (h : b < 71 ∨ 76 ≤ b) : bkX m i b = m b := by
  unfold bkX deX
  repeat' split
  all_goals simp (disch := omega) only [wr_row]
theorem bl_out {B : Mem} (k : Nat) {b : Nat} (h : b < 70 ∨ 76 ≤ b) : (bl B k).1 b = B b := by
  induction k with
  | zero => rfl
  | succ k ih => show wr _ 70 11 _ b = _; rw [wr_row (by omega), bkX_out (by omega), ih]
theorem bkF_e {m M : Mem} {i : Int} (h : Eq1 M m) : bkF M i = bkF m i := by
  have e4 := h 4 (by decide)
  have e6 := vN_congr (h 6 (by decide))
  have ed := deF_e (i := i) e4 (h 6 (by decide)) (h 8 (by decide)) (h 9 (by decide))
  unfold bkF nameAt
  rw [ed, e4, e6, h 6 (by decide), h 8 (by decide), h (8 + 4) (by decide), h 70 (by decide)]
theorem bkX_e {m M : Mem} {i : Int} (h : Eq1 M m) : Eq1 (bkX M i) (bkX m i) := by
  have key : ∀ {a c : Mem}, Eq1 a c → Eq1 (deX a i) (deX c i) := fun {a c} hh => by
    unfold deX nameAt
    rw [hh 4 (by decide), hh 6 (by decide), hh 8 (by decide), hh 70 (by decide), hh (8 + 1) (by decide)]
    split
    · exact wr_e (wr_e (wr_e hh))
    · split
      · exact wr_e (wr_e hh)
      · exact wr_e hh
  unfold bkX nameAt
  rw [vN_congr (h 6 (by decide)), h 4 (by decide), h 6 (by decide), h 8 (by decide), h 70 (by decide), h (8 + 4) (by decide)]
  split
  · exact wr_e (wr_e (wr_e h))
  · exact key (wr_e h)
def BrPost (B : Mem) (r : Int) (m' : Mem) : Prop := ∃ k : Nat, (∀ j : Nat, j < k → okB B j) ∧
  ((B 4 ((bl B k).2 - 1) = 0 ∧ r = 1 ∧ TP B m' (bl B k).2 ∧ Eq1 m' (bl B k).1 ∧ (bl B k).1 70 11 = k ∧ k ≤ 40 ∧ ∀ l : Int, 0 ≤ l → l < k → LOk (bl B k).1 l) ∨
   (r = 0 ∧ B 4 ((bl B k).2 - 1) ≠ 0 ∧ (bkF (bl B k).1 (bl B k).2).1 ≠ 0 ∧ PT B m' ((bkF (bl B k).1 (bl B k).2).2 + 1) (bkF (bl B k).1 (bl B k).2).1 ∧ (∀ b : Nat, b ≠ 1 → (b < 70 ∨ 76 ≤ b) → m' b = B b) ∧ ∀ j : Int, j ≠ 11 → m' 70 j = B 70 j) ∨
   (r = 0 ∧ B 4 ((bl B k).2 - 1) ≠ 0 ∧ (bkF (bl B k).1 (bl B k).2).1 = 0 ∧ B 4 (bkF (bl B k).1 (bl B k).2).2 ≠ 59 ∧ PT B m' ((bkF (bl B k).1 (bl B k).2).2 + 1) 1 ∧ (∀ b : Nat, b ≠ 1 → (b < 70 ∨ 76 ≤ b) → m' b = B b) ∧ ∀ j : Int, j ≠ 11 → m' 70 j = B 70 j))
theorem bl_70 {B : Mem} (k : Nat) {j : Int} (h : j ≠ 11) : (bl B k).1 70 j = B 70 j := by
  induction k with
  | zero => rfl
  | succ k ih => show wr _ 70 11 _ 70 j = _; rw [wr_ni h, bkX_out (by omega), ih]

theorem dX0_readLine_0 : decode mX0_readLine.2.1 0 = .ok (.aload_n 0, 1) := by decide +kernel
theorem dX0_readLine_1 : decode mX0_readLine.2.1 1 = .ok (.getfield 47, 3) := by decide +kernel
theorem dX0_readLine_4 : decode mX0_readLine.2.1 4 = .ok (.getfield 60, 3) := by decide +kernel
theorem dX0_readLine_7 : decode mX0_readLine.2.1 7 = .ok (.iconst 3, 1) := by decide +kernel
theorem dX0_readLine_8 : decode mX0_readLine.2.1 8 = .ok (.if_icmp .eq 25, 3) := by decide +kernel
theorem dX0_readLine_11 : decode mX0_readLine.2.1 11 = .ok (.aload_n 0, 1) := by decide +kernel
theorem dX0_readLine_12 : decode mX0_readLine.2.1 12 = .ok (.getfield 47, 3) := by decide +kernel
theorem dX0_readLine_15 : decode mX0_readLine.2.1 15 = .ok (.getfield 60, 3) := by decide +kernel
theorem dX0_readLine_18 : decode mX0_readLine.2.1 18 = .ok (.sipush 208, 3) := by decide +kernel
theorem dX0_readLine_21 : decode mX0_readLine.2.1 21 = .ok (.if_icmp .eq 12, 3) := by decide +kernel
theorem dX0_readLine_24 : decode mX0_readLine.2.1 24 = .ok (.aload_n 0, 1) := by decide +kernel
theorem dX0_readLine_25 : decode mX0_readLine.2.1 25 = .ok (.getfield 47, 3) := by decide +kernel
theorem dX0_readLine_28 : decode mX0_readLine.2.1 28 = .ok (.iconst 1, 1) := by decide +kernel
theorem dX0_readLine_29 : decode mX0_readLine.2.1 29 = .ok (.invokevirtual 71, 3) := by decide +kernel
theorem dX0_readLine_32 : decode mX0_readLine.2.1 32 = .ok (.ireturn, 1) := by decide +kernel
theorem dX0_readLine_33 : decode mX0_readLine.2.1 33 = .ok (.aload_n 0, 1) := by decide +kernel
theorem dX0_readLine_34 : decode mX0_readLine.2.1 34 = .ok (.getfield 47, 3) := by decide +kernel
theorem dX0_readLine_37 : decode mX0_readLine.2.1 37 = .ok (.getfield 60, 3) := by decide +kernel
theorem dX0_readLine_40 : decode mX0_readLine.2.1 40 = .ok (.sipush 208, 3) := by decide +kernel
theorem dX0_readLine_43 : decode mX0_readLine.2.1 43 = .ok (.if_icmp .ne 7, 3) := by decide +kernel
theorem dX0_readLine_46 : decode mX0_readLine.2.1 46 = .ok (.iconst 1, 1) := by decide +kernel
theorem dX0_readLine_47 : decode mX0_readLine.2.1 47 = .ok (.goto 4, 3) := by decide +kernel
theorem dX0_readLine_50 : decode mX0_readLine.2.1 50 = .ok (.iconst 0, 1) := by decide +kernel
theorem dX0_readLine_51 : decode mX0_readLine.2.1 51 = .ok (.istore_n 2, 1) := by decide +kernel
theorem dX0_readLine_52 : decode mX0_readLine.2.1 52 = .ok (.iload_n 2, 1) := by decide +kernel
theorem dX0_readLine_53 : decode mX0_readLine.2.1 53 = .ok (.ifCond .eq 7, 3) := by decide +kernel
theorem dX0_readLine_56 : decode mX0_readLine.2.1 56 = .ok (.iconst (-1), 1) := by decide +kernel
theorem dX0_readLine_57 : decode mX0_readLine.2.1 57 = .ok (.goto 14, 3) := by decide +kernel
theorem dX0_readLine_60 : decode mX0_readLine.2.1 60 = .ok (.aload_n 1, 1) := by decide +kernel
theorem dX0_readLine_61 : decode mX0_readLine.2.1 61 = .ok (.aload_n 0, 1) := by decide +kernel
theorem dX0_readLine_62 : decode mX0_readLine.2.1 62 = .ok (.getfield 47, 3) := by decide +kernel
theorem dX0_readLine_65 : decode mX0_readLine.2.1 65 = .ok (.getfield 74, 3) := by decide +kernel
theorem dX0_readLine_68 : decode mX0_readLine.2.1 68 = .ok (.invokevirtual 78, 3) := by decide +kernel
theorem dX0_readLine_71 : decode mX0_readLine.2.1 71 = .ok (.istore_n 3, 1) := by decide +kernel
theorem dX0_readLine_72 : decode mX0_readLine.2.1 72 = .ok (.iload_n 2, 1) := by decide +kernel
theorem dX0_readLine_73 : decode mX0_readLine.2.1 73 = .ok (.ifCond .ne 17, 3) := by decide +kernel
theorem dX0_readLine_76 : decode mX0_readLine.2.1 76 = .ok (.iload_n 3, 1) := by decide +kernel
theorem dX0_readLine_77 : decode mX0_readLine.2.1 77 = .ok (.iconst (-1), 1) := by decide +kernel
theorem dX0_readLine_78 : decode mX0_readLine.2.1 78 = .ok (.if_icmp .ne 12, 3) := by decide +kernel
theorem dX0_readLine_81 : decode mX0_readLine.2.1 81 = .ok (.aload_n 0, 1) := by decide +kernel
theorem dX0_readLine_82 : decode mX0_readLine.2.1 82 = .ok (.getfield 47, 3) := by decide +kernel
theorem dX0_readLine_85 : decode mX0_readLine.2.1 85 = .ok (.iconst 3, 1) := by decide +kernel
theorem dX0_readLine_86 : decode mX0_readLine.2.1 86 = .ok (.invokevirtual 71, 3) := by decide +kernel
theorem dX0_readLine_89 : decode mX0_readLine.2.1 89 = .ok (.ireturn, 1) := by decide +kernel
theorem dX0_readLine_90 : decode mX0_readLine.2.1 90 = .ok (.aload_n 0, 1) := by decide +kernel
theorem dX0_readLine_91 : decode mX0_readLine.2.1 91 = .ok (.getfield 44, 3) := by decide +kernel
theorem dX0_readLine_94 : decode mX0_readLine.2.1 94 = .ok (.bipush 40, 2) := by decide +kernel
theorem dX0_readLine_96 : decode mX0_readLine.2.1 96 = .ok (.if_icmp .lt 12, 3) := by decide +kernel
theorem dX0_readLine_99 : decode mX0_readLine.2.1 99 = .ok (.aload_n 0, 1) := by decide +kernel
theorem dX0_readLine_100 : decode mX0_readLine.2.1 100 = .ok (.getfield 47, 3) := by decide +kernel
theorem dX0_readLine_103 : decode mX0_readLine.2.1 103 = .ok (.iconst 4, 1) := by decide +kernel
theorem dX0_readLine_104 : decode mX0_readLine.2.1 104 = .ok (.invokevirtual 71, 3) := by decide +kernel
theorem dX0_readLine_107 : decode mX0_readLine.2.1 107 = .ok (.ireturn, 1) := by decide +kernel
theorem dX0_readLine_108 : decode mX0_readLine.2.1 108 = .ok (.aload_n 0, 1) := by decide +kernel
theorem dX0_readLine_109 : decode mX0_readLine.2.1 109 = .ok (.getfield 32, 3) := by decide +kernel
theorem dX0_readLine_112 : decode mX0_readLine.2.1 112 = .ok (.aload_n 0, 1) := by decide +kernel
theorem dX0_readLine_113 : decode mX0_readLine.2.1 113 = .ok (.getfield 44, 3) := by decide +kernel
theorem dX0_readLine_116 : decode mX0_readLine.2.1 116 = .ok (.iload_n 3, 1) := by decide +kernel
theorem dX0_readLine_117 : decode mX0_readLine.2.1 117 = .ok (.iastore, 1) := by decide +kernel
theorem dX0_readLine_118 : decode mX0_readLine.2.1 118 = .ok (.iload_n 2, 1) := by decide +kernel
theorem dX0_readLine_119 : decode mX0_readLine.2.1 119 = .ok (.ifCond .eq 10, 3) := by decide +kernel
theorem dX0_readLine_122 : decode mX0_readLine.2.1 122 = .ok (.aload_n 0, 1) := by decide +kernel
theorem dX0_readLine_123 : decode mX0_readLine.2.1 123 = .ok (.invokevirtual 84, 3) := by decide +kernel
theorem dX0_readLine_126 : decode mX0_readLine.2.1 126 = .ok (.goto 8, 3) := by decide +kernel
theorem dX0_readLine_129 : decode mX0_readLine.2.1 129 = .ok (.aload_n 0, 1) := by decide +kernel
theorem dX0_readLine_130 : decode mX0_readLine.2.1 130 = .ok (.aload_n 1, 1) := by decide +kernel
theorem dX0_readLine_131 : decode mX0_readLine.2.1 131 = .ok (.invokevirtual 88, 3) := by decide +kernel
theorem dX0_readLine_134 : decode mX0_readLine.2.1 134 = .ok (.ireturn, 1) := by decide +kernel
set_option maxRecDepth 4000 in
theorem ev_X0_readLine {m : Mem}  (hcu : PT m m (m 1 12) (m 1 6)) (htk : TkS m) (hi : 1 ≤ m 1 12 ∧ m 1 12 ≤ m 1 11) (hn : 0 ≤ m 70 11) (hdn : DnOk m 8) : Ev 0 5 mX0_readLine [vr 70, vr 8] m (fun r m' => BkPost m r m' (bkF m (m 1 12)) (bkX m (m 1 12))) := by
  refine Ev.of (L := [vr 70, vr 8, un, un]) (by decide +kernel) rfl (Nat.le_of_ble_eq_true rfl) rfl (fun t ht => by cases ht; first | exact Or.inl rfl | exact Or.inr (Or.inl rfl) | exact Or.inr (Or.inr rfl)) (fun hcan => ?_)
  obtain ⟨⟨hd0, hd1⟩, ⟨hd2, hd3⟩, ⟨hd4, hd5⟩, ⟨hd6, hd7⟩, ⟨hd8, hd9⟩, hdf, hdp, hdq⟩ := id hdn
  refine go_aload_n dX0_readLine_0 rfl ?_
  refine go_getf_p (b := 1) dX0_readLine_1 fl_0_47 ob_70 rfl pt_70_5 ?_
  refine go_getf_i (ki := 2) dX0_readLine_4 fl_0_60 ob_1 rfl rfl (fun hf_4 => ?_)
  rw [show (m 1 2 : Int) = (m 4 (m 1 12 - 1)) from hcu.2.1] at hf_4 ⊢
  refine go_iconst dX0_readLine_7 ?_
  refine go_icmp_eq (tgt := 33) dX0_readLine_8 (by decide) ⟨by omega, by omega⟩ ⟨by omega, by omega⟩ (fun h_8 => ?_) (fun h_8 => ?_)
  · refine go_aload_n dX0_readLine_33 rfl ?_
    refine go_getf_p (b := 1) dX0_readLine_34 fl_0_47 ob_70 rfl pt_70_5 ?_
    refine go_getf_i (ki := 2) dX0_readLine_37 fl_0_60 ob_1 rfl rfl (fun hf_37 => ?_)
    rw [show (m 1 2 : Int) = (m 4 (m 1 12 - 1)) from hcu.2.1] at hf_37 ⊢
    refine go_sipush dX0_readLine_40 (by decide) ?_
    refine go_icmp_ne (tgt := 50) dX0_readLine_43 (by decide) ⟨by omega, by omega⟩ ⟨by omega, by omega⟩ (fun h_43 => ?_) (fun h_43 => ?_)
    · refine go_iconst dX0_readLine_50 ?_
      refine go_istore_n (L' := [vr 70, vr 8, vi 0, un]) dX0_readLine_51 (by decide) rfl rfl ?_
      refine go_iload_n dX0_readLine_52 rfl ?_
      refine go_if_eq (tgt := 60) dX0_readLine_53 (by decide) ⟨by omega, by omega⟩ (fun h_53 => ?_) (fun h_53 => ?_)
      · refine go_aload_n dX0_readLine_60 rfl ?_
        refine go_aload_n dX0_readLine_61 rfl ?_
        refine go_getf_p (b := 1) dX0_readLine_62 fl_0_47 ob_70 rfl pt_70_5 ?_
        refine go_getf_l (ki := 5) dX0_readLine_65 fl_0_74 ob_1 rfl rfl (fun hf_65 => ?_)
        rw [show (m 1 5 : Int) = (m 6 (m 1 12 - 1)) from hcu.2.2.2.1] at hf_65 ⊢
        refine go_callVp_i (as := [vl (m 6 (m 1 12 - 1))]) (S := []) (b := 8) (ev_X1_personNamed (m := m) (d := 8) (v := (m 6 (m 1 12 - 1))) isDn_8 (by first | assumption | omega | exact ⟨by omega, by omega⟩ | (constructor <;> omega)) (by first | assumption | omega | exact ⟨by omega, by omega⟩ | (constructor <;> omega))) rfl dX0_readLine_68 cv_0_78 rfl rfl ob_8 rfl (by decide) (Nat.le_of_ble_eq_true rfl) (fun r_68 hr_68 ho_68 => ?_)
        have hnb := nameAt_b m (8 + 4) (m 6 (m 1 12 - 1)) (m 8 3)
        rw [← hr_68] at hnb
        refine go_istore_n (L' := [vr 70, vr 8, vi 0, vi r_68]) dX0_readLine_71 (by decide) rfl rfl ?_
        refine go_iload_n dX0_readLine_72 rfl ?_
        refine go_if_ne (tgt := 90) dX0_readLine_73 (by decide) ⟨by omega, by omega⟩ (fun h_73 => ?_) (fun h_73 => ?_)
        · exfalso; omega
        · refine go_iload_n dX0_readLine_76 rfl ?_
          refine go_iconst dX0_readLine_77 ?_
          refine go_icmp_ne (tgt := 90) dX0_readLine_78 (by decide) ⟨by omega, by omega⟩ ⟨by omega, by omega⟩ (fun h_78 => ?_) (fun h_78 => ?_)
          · refine go_aload_n dX0_readLine_90 rfl ?_
            refine go_getf_i (ki := 11) dX0_readLine_91 fl_0_44 ob_70 rfl rfl (fun hf_91 => ?_)
            refine go_bipush dX0_readLine_94 (by decide) ?_
            refine go_icmp_lt (tgt := 108) dX0_readLine_96 (by decide) ⟨by omega, by omega⟩ ⟨by omega, by omega⟩ (fun h_96 => ?_) (fun h_96 => ?_)
            · refine go_aload_n dX0_readLine_108 rfl ?_
              refine go_getf_p (b := 72) dX0_readLine_109 fl_0_32 ob_70 rfl pt_70_7 ?_
              refine go_aload_n dX0_readLine_112 rfl ?_
              refine go_getf_i (ki := 11) dX0_readLine_113 fl_0_44 ob_70 rfl rfl (fun hf_113 => ?_)
              refine go_iload_n dX0_readLine_116 rfl ?_
              refine go_iastore dX0_readLine_117 ar_72 (by omega) (by omega) ⟨by omega, by omega⟩ ?_
              refine go_iload_n dX0_readLine_118 rfl ?_
              refine go_if_eq (tgt := 129) dX0_readLine_119 (by decide) ⟨by omega, by omega⟩ (fun h_119 => ?_) (fun h_119 => ?_)
              · refine go_aload_n dX0_readLine_129 rfl ?_
                refine go_aload_n dX0_readLine_130 rfl ?_
                refine go_callV_z (as := [vr 8]) (S := []) (b := 70) (ev_X0_readDeed (m := (wr m 72 (m 70 11) r_68))  (by have h := hcu; unfold PT at h ⊢; rw [show (wr m 72 (m 70 11) r_68) 1 = m 1 from wr_row (by decide), show (wr m 72 (m 70 11) r_68) 4 = m 4 from wr_row (by decide), show (wr m 72 (m 70 11) r_68) 5 = m 5 from wr_row (by decide), show (wr m 72 (m 70 11) r_68) 6 = m 6 from wr_row (by decide)]; exact h) (by have h := htk; unfold TkS at h ⊢; rw [show (wr m 72 (m 70 11) r_68) 1 = m 1 from wr_row (by decide), show (wr m 72 (m 70 11) r_68) 4 = m 4 from wr_row (by decide), show (wr m 72 (m 70 11) r_68) 6 = m 6 from wr_row (by decide)]; exact h) (by rw [show (wr m 72 (m 70 11) r_68) 1 = m 1 from wr_row (by decide)]; have h := htk.lt (k := m 1 12 - 1) (by omega) (by omega); omega) (by rw [show (wr m 72 (m 70 11) r_68) 70 = m 70 from wr_row (by decide)]; omega) (hdn.congr (fun k hk => wr_row (by omega)))) rfl dX0_readLine_131 cv_0_88 rfl rfl ob_70 rfl (by decide) (Nat.le_of_ble_eq_true rfl) (fun r_131 m_131 hr_131 ho_131 => ?_)
                refine go_ret (v := r_131) rfl dX0_readLine_134 (okZ (by first | exact Or.inl rfl | exact Or.inr rfl | assumption | omega)) ?_
                first
                | (exfalso; omega)
                | (rw [show (wr m 72 (m 70 11) r_68) 1 = m 1 from wr_row (by decide), deF_e (M := (wr m 72 (m 70 11) r_68)) (m := m) (wr_row (by decide)) (wr_row (by decide)) (wr_row (by decide)) (wr_row (by decide))] at hr_131
                   rw [show bkF m (m 1 12) = deF m (m 1 12) by unfold bkF; rw [if_neg (by omega), if_neg (by omega), if_neg (by omega), if_neg (by omega)], show bkX m (m 1 12) = deX (wr m 72 (m 70 11) r_68) (m 1 12) by unfold bkX; rw [if_neg (by omega), hr_68]]
                   exact BkPost.base (wr_row (by decide)) (wr_row (by decide)) (wr_row (by decide)) (wr_row (by decide)) (fun b hb => wr_row (by omega)) hr_131)
              · exfalso; omega
            · refine go_aload_n dX0_readLine_99 rfl ?_
              refine go_getf_p (b := 1) dX0_readLine_100 fl_0_47 ob_70 rfl pt_70_5 ?_
              refine go_iconst dX0_readLine_103 ?_
              refine go_callV_z (as := [vi 4]) (S := []) (b := 1) (ev_X7_refuse (m := m) (k := 4) (by first | assumption | omega | exact ⟨by omega, by omega⟩ | (constructor <;> omega))) rfl dX0_readLine_104 cv_0_71 rfl rfl ob_1 rfl (by decide) (Nat.le_of_ble_eq_true rfl) (fun r_104 m_104 hr_104 ho_104 => ?_)
              refine go_ret (v := r_104) rfl dX0_readLine_107 (okZ (by first | exact Or.inl rfl | exact Or.inr rfl | assumption | omega)) ?_
              first
              | (exfalso; omega)
              | (rw [hr_104.2]
                 refine Or.inr ⟨by omega, ?_⟩
                 rw [show bkF m (m 1 12) = (4, m 1 12 - 1) by unfold bkF; rw [if_neg (by omega), if_neg (by omega), if_pos (by omega)]]
                 exact ⟨(show (4 : Int) ≠ 0 by decide), by rw [show m 1 12 - 1 + 1 = m 1 12 by omega]; exact hcu.flt, fun b hb _ => by rw [wr_row hb]⟩)
          · refine go_aload_n dX0_readLine_81 rfl ?_
            refine go_getf_p (b := 1) dX0_readLine_82 fl_0_47 ob_70 rfl pt_70_5 ?_
            refine go_iconst dX0_readLine_85 ?_
            refine go_callV_z (as := [vi 3]) (S := []) (b := 1) (ev_X7_refuse (m := m) (k := 3) (by first | assumption | omega | exact ⟨by omega, by omega⟩ | (constructor <;> omega))) rfl dX0_readLine_86 cv_0_71 rfl rfl ob_1 rfl (by decide) (Nat.le_of_ble_eq_true rfl) (fun r_86 m_86 hr_86 ho_86 => ?_)
            refine go_ret (v := r_86) rfl dX0_readLine_89 (okZ (by first | exact Or.inl rfl | exact Or.inr rfl | assumption | omega)) ?_
            first
            | (exfalso; omega)
            | (rw [hr_86.2]
               refine Or.inr ⟨by omega, ?_⟩
               rw [show bkF m (m 1 12) = (3, m 1 12 - 1) by unfold bkF; rw [if_neg (by omega), if_pos (by omega)]]
               exact ⟨(show (3 : Int) ≠ 0 by decide), by rw [show m 1 12 - 1 + 1 = m 1 12 by omega]; exact hcu.flt, fun b hb _ => by rw [wr_row hb]⟩)
      · exfalso; omega
    · refine go_iconst dX0_readLine_46 ?_
      refine go_goto (tgt := 51) dX0_readLine_47 (by decide) ?_
      refine go_istore_n (L' := [vr 70, vr 8, vi 1, un]) dX0_readLine_51 (by decide) rfl rfl ?_
      refine go_iload_n dX0_readLine_52 rfl ?_
      refine go_if_eq (tgt := 60) dX0_readLine_53 (by decide) ⟨by omega, by omega⟩ (fun h_53 => ?_) (fun h_53 => ?_)
      · exfalso; omega
      · refine go_iconst dX0_readLine_56 ?_
        refine go_goto (tgt := 71) dX0_readLine_57 (by decide) ?_
        refine go_istore_n (L' := [vr 70, vr 8, vi 1, vi (-1)]) dX0_readLine_71 (by decide) rfl rfl ?_
        refine go_iload_n dX0_readLine_72 rfl ?_
        refine go_if_ne (tgt := 90) dX0_readLine_73 (by decide) ⟨by omega, by omega⟩ (fun h_73 => ?_) (fun h_73 => ?_)
        · refine go_aload_n dX0_readLine_90 rfl ?_
          refine go_getf_i (ki := 11) dX0_readLine_91 fl_0_44 ob_70 rfl rfl (fun hf_91 => ?_)
          refine go_bipush dX0_readLine_94 (by decide) ?_
          refine go_icmp_lt (tgt := 108) dX0_readLine_96 (by decide) ⟨by omega, by omega⟩ ⟨by omega, by omega⟩ (fun h_96 => ?_) (fun h_96 => ?_)
          · refine go_aload_n dX0_readLine_108 rfl ?_
            refine go_getf_p (b := 72) dX0_readLine_109 fl_0_32 ob_70 rfl pt_70_7 ?_
            refine go_aload_n dX0_readLine_112 rfl ?_
            refine go_getf_i (ki := 11) dX0_readLine_113 fl_0_44 ob_70 rfl rfl (fun hf_113 => ?_)
            refine go_iload_n dX0_readLine_116 rfl ?_
            refine go_iastore dX0_readLine_117 ar_72 (by omega) (by omega) ⟨by omega, by omega⟩ ?_
            refine go_iload_n dX0_readLine_118 rfl ?_
            refine go_if_eq (tgt := 129) dX0_readLine_119 (by decide) ⟨by omega, by omega⟩ (fun h_119 => ?_) (fun h_119 => ?_)
            · exfalso; omega
            · refine go_aload_n dX0_readLine_122 rfl ?_
              refine go_callV_z (as := []) (S := []) (b := 70) (ev_X0_readHours (m := (wr m 72 (m 70 11) (-1)))  (by have h := hcu; unfold PT at h ⊢; rw [show (wr m 72 (m 70 11) (-1)) 1 = m 1 from wr_row (by decide), show (wr m 72 (m 70 11) (-1)) 4 = m 4 from wr_row (by decide), show (wr m 72 (m 70 11) (-1)) 5 = m 5 from wr_row (by decide), show (wr m 72 (m 70 11) (-1)) 6 = m 6 from wr_row (by decide)]; exact h) (by have h := htk; unfold TkS at h ⊢; rw [show (wr m 72 (m 70 11) (-1)) 1 = m 1 from wr_row (by decide), show (wr m 72 (m 70 11) (-1)) 4 = m 4 from wr_row (by decide), show (wr m 72 (m 70 11) (-1)) 6 = m 6 from wr_row (by decide)]; exact h) (by rw [show (wr m 72 (m 70 11) (-1)) 1 = m 1 from wr_row (by decide)]; have h := htk.lt (k := m 1 12 - 1) (by omega) (by omega); omega) (by rw [show (wr m 72 (m 70 11) (-1)) 70 = m 70 from wr_row (by decide)]; omega)) rfl dX0_readLine_123 cv_0_84 rfl rfl ob_70 rfl (by decide) (Nat.le_of_ble_eq_true rfl) (fun r_123 m_123 hr_123 ho_123 => ?_)
              refine go_goto (tgt := 134) dX0_readLine_126 (by decide) ?_
              refine go_ret (v := r_123) rfl dX0_readLine_134 (okZ (by first | exact Or.inl rfl | exact Or.inr rfl | assumption | omega)) ?_
              first
              | (exfalso; omega)
              | (rw [show (wr m 72 (m 70 11) (-1)) 1 = m 1 from wr_row (by decide), show (wr m 72 (m 70 11) (-1)) 4 = m 4 from wr_row (by decide), vN_congr (show (wr m 72 (m 70 11) (-1)) 6 = m 6 from wr_row (by decide)), show (wr m 72 (m 70 11) (-1)) 70 = m 70 from wr_row (by decide)] at hr_123
                 rw [show bkF m (m 1 12) = (if numF (m 4) (vN m) (m 1 12) 1 60 ≠ 0 then (numF (m 4) (vN m) (m 1 12) 1 60, m 1 12) else (0, m 1 12 + 1)) by unfold bkF; rw [if_neg (by omega), if_neg (by omega), if_neg (by omega), if_pos (by omega)], show bkX m (m 1 12) = wr (wr (wr m 72 (m 70 11) (-1)) 71 (m 70 11) 208) 75 (m 70 11) (vN m (m 1 12)) by unfold bkX; rw [if_pos (by omega)]]
                 exact BkPost.base (wr_row (by decide)) (wr_row (by decide)) (wr_row (by decide)) (wr_row (by decide)) (fun b hb => wr_row (by omega)) hr_123)
          · refine go_aload_n dX0_readLine_99 rfl ?_
            refine go_getf_p (b := 1) dX0_readLine_100 fl_0_47 ob_70 rfl pt_70_5 ?_
            refine go_iconst dX0_readLine_103 ?_
            refine go_callV_z (as := [vi 4]) (S := []) (b := 1) (ev_X7_refuse (m := m) (k := 4) (by first | assumption | omega | exact ⟨by omega, by omega⟩ | (constructor <;> omega))) rfl dX0_readLine_104 cv_0_71 rfl rfl ob_1 rfl (by decide) (Nat.le_of_ble_eq_true rfl) (fun r_104 m_104 hr_104 ho_104 => ?_)
            refine go_ret (v := r_104) rfl dX0_readLine_107 (okZ (by first | exact Or.inl rfl | exact Or.inr rfl | assumption | omega)) ?_
            first
            | (exfalso; omega)
            | (rw [hr_104.2]
               refine Or.inr ⟨by omega, ?_⟩
               rw [show bkF m (m 1 12) = (4, m 1 12 - 1) by unfold bkF; rw [if_neg (by omega), if_neg (by omega), if_pos (by omega)]]
               exact ⟨(show (4 : Int) ≠ 0 by decide), by rw [show m 1 12 - 1 + 1 = m 1 12 by omega]; exact hcu.flt, fun b hb _ => by rw [wr_row hb]⟩)
        · exfalso; omega
  · refine go_aload_n dX0_readLine_11 rfl ?_
    refine go_getf_p (b := 1) dX0_readLine_12 fl_0_47 ob_70 rfl pt_70_5 ?_
    refine go_getf_i (ki := 2) dX0_readLine_15 fl_0_60 ob_1 rfl rfl (fun hf_15 => ?_)
    rw [show (m 1 2 : Int) = (m 4 (m 1 12 - 1)) from hcu.2.1] at hf_15 ⊢
    refine go_sipush dX0_readLine_18 (by decide) ?_
    refine go_icmp_eq (tgt := 33) dX0_readLine_21 (by decide) ⟨by omega, by omega⟩ ⟨by omega, by omega⟩ (fun h_21 => ?_) (fun h_21 => ?_)
    · refine go_aload_n dX0_readLine_33 rfl ?_
      refine go_getf_p (b := 1) dX0_readLine_34 fl_0_47 ob_70 rfl pt_70_5 ?_
      refine go_getf_i (ki := 2) dX0_readLine_37 fl_0_60 ob_1 rfl rfl (fun hf_37 => ?_)
      rw [show (m 1 2 : Int) = (m 4 (m 1 12 - 1)) from hcu.2.1] at hf_37 ⊢
      refine go_sipush dX0_readLine_40 (by decide) ?_
      refine go_icmp_ne (tgt := 50) dX0_readLine_43 (by decide) ⟨by omega, by omega⟩ ⟨by omega, by omega⟩ (fun h_43 => ?_) (fun h_43 => ?_)
      · refine go_iconst dX0_readLine_50 ?_
        refine go_istore_n (L' := [vr 70, vr 8, vi 0, un]) dX0_readLine_51 (by decide) rfl rfl ?_
        refine go_iload_n dX0_readLine_52 rfl ?_
        refine go_if_eq (tgt := 60) dX0_readLine_53 (by decide) ⟨by omega, by omega⟩ (fun h_53 => ?_) (fun h_53 => ?_)
        · refine go_aload_n dX0_readLine_60 rfl ?_
          refine go_aload_n dX0_readLine_61 rfl ?_
          refine go_getf_p (b := 1) dX0_readLine_62 fl_0_47 ob_70 rfl pt_70_5 ?_
          refine go_getf_l (ki := 5) dX0_readLine_65 fl_0_74 ob_1 rfl rfl (fun hf_65 => ?_)
          rw [show (m 1 5 : Int) = (m 6 (m 1 12 - 1)) from hcu.2.2.2.1] at hf_65 ⊢
          refine go_callVp_i (as := [vl (m 6 (m 1 12 - 1))]) (S := []) (b := 8) (ev_X1_personNamed (m := m) (d := 8) (v := (m 6 (m 1 12 - 1))) isDn_8 (by first | assumption | omega | exact ⟨by omega, by omega⟩ | (constructor <;> omega)) (by first | assumption | omega | exact ⟨by omega, by omega⟩ | (constructor <;> omega))) rfl dX0_readLine_68 cv_0_78 rfl rfl ob_8 rfl (by decide) (Nat.le_of_ble_eq_true rfl) (fun r_68 hr_68 ho_68 => ?_)
          have hnb := nameAt_b m (8 + 4) (m 6 (m 1 12 - 1)) (m 8 3)
          rw [← hr_68] at hnb
          refine go_istore_n (L' := [vr 70, vr 8, vi 0, vi r_68]) dX0_readLine_71 (by decide) rfl rfl ?_
          refine go_iload_n dX0_readLine_72 rfl ?_
          refine go_if_ne (tgt := 90) dX0_readLine_73 (by decide) ⟨by omega, by omega⟩ (fun h_73 => ?_) (fun h_73 => ?_)
          · exfalso; omega
          · refine go_iload_n dX0_readLine_76 rfl ?_
            refine go_iconst dX0_readLine_77 ?_
            refine go_icmp_ne (tgt := 90) dX0_readLine_78 (by decide) ⟨by omega, by omega⟩ ⟨by omega, by omega⟩ (fun h_78 => ?_) (fun h_78 => ?_)
            · refine go_aload_n dX0_readLine_90 rfl ?_
              refine go_getf_i (ki := 11) dX0_readLine_91 fl_0_44 ob_70 rfl rfl (fun hf_91 => ?_)
              refine go_bipush dX0_readLine_94 (by decide) ?_
              refine go_icmp_lt (tgt := 108) dX0_readLine_96 (by decide) ⟨by omega, by omega⟩ ⟨by omega, by omega⟩ (fun h_96 => ?_) (fun h_96 => ?_)
              · refine go_aload_n dX0_readLine_108 rfl ?_
                refine go_getf_p (b := 72) dX0_readLine_109 fl_0_32 ob_70 rfl pt_70_7 ?_
                refine go_aload_n dX0_readLine_112 rfl ?_
                refine go_getf_i (ki := 11) dX0_readLine_113 fl_0_44 ob_70 rfl rfl (fun hf_113 => ?_)
                refine go_iload_n dX0_readLine_116 rfl ?_
                refine go_iastore dX0_readLine_117 ar_72 (by omega) (by omega) ⟨by omega, by omega⟩ ?_
                refine go_iload_n dX0_readLine_118 rfl ?_
                refine go_if_eq (tgt := 129) dX0_readLine_119 (by decide) ⟨by omega, by omega⟩ (fun h_119 => ?_) (fun h_119 => ?_)
                · refine go_aload_n dX0_readLine_129 rfl ?_
                  refine go_aload_n dX0_readLine_130 rfl ?_
                  refine go_callV_z (as := [vr 8]) (S := []) (b := 70) (ev_X0_readDeed (m := (wr m 72 (m 70 11) r_68))  (by have h := hcu; unfold PT at h ⊢; rw [show (wr m 72 (m 70 11) r_68) 1 = m 1 from wr_row (by decide), show (wr m 72 (m 70 11) r_68) 4 = m 4 from wr_row (by decide), show (wr m 72 (m 70 11) r_68) 5 = m 5 from wr_row (by decide), show (wr m 72 (m 70 11) r_68) 6 = m 6 from wr_row (by decide)]; exact h) (by have h := htk; unfold TkS at h ⊢; rw [show (wr m 72 (m 70 11) r_68) 1 = m 1 from wr_row (by decide), show (wr m 72 (m 70 11) r_68) 4 = m 4 from wr_row (by decide), show (wr m 72 (m 70 11) r_68) 6 = m 6 from wr_row (by decide)]; exact h) (by rw [show (wr m 72 (m 70 11) r_68) 1 = m 1 from wr_row (by decide)]; have h := htk.lt (k := m 1 12 - 1) (by omega) (by omega); omega) (by rw [show (wr m 72 (m 70 11) r_68) 70 = m 70 from wr_row (by decide)]; omega) (hdn.congr (fun k hk => wr_row (by omega)))) rfl dX0_readLine_131 cv_0_88 rfl rfl ob_70 rfl (by decide) (Nat.le_of_ble_eq_true rfl) (fun r_131 m_131 hr_131 ho_131 => ?_)
                  refine go_ret (v := r_131) rfl dX0_readLine_134 (okZ (by first | exact Or.inl rfl | exact Or.inr rfl | assumption | omega)) ?_
                  first
                  | (exfalso; omega)
                  | (rw [show (wr m 72 (m 70 11) r_68) 1 = m 1 from wr_row (by decide), deF_e (M := (wr m 72 (m 70 11) r_68)) (m := m) (wr_row (by decide)) (wr_row (by decide)) (wr_row (by decide)) (wr_row (by decide))] at hr_131
                     rw [show bkF m (m 1 12) = deF m (m 1 12) by unfold bkF; rw [if_neg (by omega), if_neg (by omega), if_neg (by omega), if_neg (by omega)], show bkX m (m 1 12) = deX (wr m 72 (m 70 11) r_68) (m 1 12) by unfold bkX; rw [if_neg (by omega), hr_68]]
                     exact BkPost.base (wr_row (by decide)) (wr_row (by decide)) (wr_row (by decide)) (wr_row (by decide)) (fun b hb => wr_row (by omega)) hr_131)
                · exfalso; omega
              · refine go_aload_n dX0_readLine_99 rfl ?_
                refine go_getf_p (b := 1) dX0_readLine_100 fl_0_47 ob_70 rfl pt_70_5 ?_
                refine go_iconst dX0_readLine_103 ?_
                refine go_callV_z (as := [vi 4]) (S := []) (b := 1) (ev_X7_refuse (m := m) (k := 4) (by first | assumption | omega | exact ⟨by omega, by omega⟩ | (constructor <;> omega))) rfl dX0_readLine_104 cv_0_71 rfl rfl ob_1 rfl (by decide) (Nat.le_of_ble_eq_true rfl) (fun r_104 m_104 hr_104 ho_104 => ?_)
                refine go_ret (v := r_104) rfl dX0_readLine_107 (okZ (by first | exact Or.inl rfl | exact Or.inr rfl | assumption | omega)) ?_
                first
                | (exfalso; omega)
                | (rw [hr_104.2]
                   refine Or.inr ⟨by omega, ?_⟩
                   rw [show bkF m (m 1 12) = (4, m 1 12 - 1) by unfold bkF; rw [if_neg (by omega), if_neg (by omega), if_pos (by omega)]]
                   exact ⟨(show (4 : Int) ≠ 0 by decide), by rw [show m 1 12 - 1 + 1 = m 1 12 by omega]; exact hcu.flt, fun b hb _ => by rw [wr_row hb]⟩)
            · refine go_aload_n dX0_readLine_81 rfl ?_
              refine go_getf_p (b := 1) dX0_readLine_82 fl_0_47 ob_70 rfl pt_70_5 ?_
              refine go_iconst dX0_readLine_85 ?_
              refine go_callV_z (as := [vi 3]) (S := []) (b := 1) (ev_X7_refuse (m := m) (k := 3) (by first | assumption | omega | exact ⟨by omega, by omega⟩ | (constructor <;> omega))) rfl dX0_readLine_86 cv_0_71 rfl rfl ob_1 rfl (by decide) (Nat.le_of_ble_eq_true rfl) (fun r_86 m_86 hr_86 ho_86 => ?_)
              refine go_ret (v := r_86) rfl dX0_readLine_89 (okZ (by first | exact Or.inl rfl | exact Or.inr rfl | assumption | omega)) ?_
              first
              | (exfalso; omega)
              | (rw [hr_86.2]
                 refine Or.inr ⟨by omega, ?_⟩
                 rw [show bkF m (m 1 12) = (3, m 1 12 - 1) by unfold bkF; rw [if_neg (by omega), if_pos (by omega)]]
                 exact ⟨(show (3 : Int) ≠ 0 by decide), by rw [show m 1 12 - 1 + 1 = m 1 12 by omega]; exact hcu.flt, fun b hb _ => by rw [wr_row hb]⟩)
        · exfalso; omega
      · refine go_iconst dX0_readLine_46 ?_
        refine go_goto (tgt := 51) dX0_readLine_47 (by decide) ?_
        refine go_istore_n (L' := [vr 70, vr 8, vi 1, un]) dX0_readLine_51 (by decide) rfl rfl ?_
        refine go_iload_n dX0_readLine_52 rfl ?_
        refine go_if_eq (tgt := 60) dX0_readLine_53 (by decide) ⟨by omega, by omega⟩ (fun h_53 => ?_) (fun h_53 => ?_)
        · exfalso; omega
        · refine go_iconst dX0_readLine_56 ?_
          refine go_goto (tgt := 71) dX0_readLine_57 (by decide) ?_
          refine go_istore_n (L' := [vr 70, vr 8, vi 1, vi (-1)]) dX0_readLine_71 (by decide) rfl rfl ?_
          refine go_iload_n dX0_readLine_72 rfl ?_
          refine go_if_ne (tgt := 90) dX0_readLine_73 (by decide) ⟨by omega, by omega⟩ (fun h_73 => ?_) (fun h_73 => ?_)
          · refine go_aload_n dX0_readLine_90 rfl ?_
            refine go_getf_i (ki := 11) dX0_readLine_91 fl_0_44 ob_70 rfl rfl (fun hf_91 => ?_)
            refine go_bipush dX0_readLine_94 (by decide) ?_
            refine go_icmp_lt (tgt := 108) dX0_readLine_96 (by decide) ⟨by omega, by omega⟩ ⟨by omega, by omega⟩ (fun h_96 => ?_) (fun h_96 => ?_)
            · refine go_aload_n dX0_readLine_108 rfl ?_
              refine go_getf_p (b := 72) dX0_readLine_109 fl_0_32 ob_70 rfl pt_70_7 ?_
              refine go_aload_n dX0_readLine_112 rfl ?_
              refine go_getf_i (ki := 11) dX0_readLine_113 fl_0_44 ob_70 rfl rfl (fun hf_113 => ?_)
              refine go_iload_n dX0_readLine_116 rfl ?_
              refine go_iastore dX0_readLine_117 ar_72 (by omega) (by omega) ⟨by omega, by omega⟩ ?_
              refine go_iload_n dX0_readLine_118 rfl ?_
              refine go_if_eq (tgt := 129) dX0_readLine_119 (by decide) ⟨by omega, by omega⟩ (fun h_119 => ?_) (fun h_119 => ?_)
              · exfalso; omega
              · refine go_aload_n dX0_readLine_122 rfl ?_
                refine go_callV_z (as := []) (S := []) (b := 70) (ev_X0_readHours (m := (wr m 72 (m 70 11) (-1)))  (by have h := hcu; unfold PT at h ⊢; rw [show (wr m 72 (m 70 11) (-1)) 1 = m 1 from wr_row (by decide), show (wr m 72 (m 70 11) (-1)) 4 = m 4 from wr_row (by decide), show (wr m 72 (m 70 11) (-1)) 5 = m 5 from wr_row (by decide), show (wr m 72 (m 70 11) (-1)) 6 = m 6 from wr_row (by decide)]; exact h) (by have h := htk; unfold TkS at h ⊢; rw [show (wr m 72 (m 70 11) (-1)) 1 = m 1 from wr_row (by decide), show (wr m 72 (m 70 11) (-1)) 4 = m 4 from wr_row (by decide), show (wr m 72 (m 70 11) (-1)) 6 = m 6 from wr_row (by decide)]; exact h) (by rw [show (wr m 72 (m 70 11) (-1)) 1 = m 1 from wr_row (by decide)]; have h := htk.lt (k := m 1 12 - 1) (by omega) (by omega); omega) (by rw [show (wr m 72 (m 70 11) (-1)) 70 = m 70 from wr_row (by decide)]; omega)) rfl dX0_readLine_123 cv_0_84 rfl rfl ob_70 rfl (by decide) (Nat.le_of_ble_eq_true rfl) (fun r_123 m_123 hr_123 ho_123 => ?_)
                refine go_goto (tgt := 134) dX0_readLine_126 (by decide) ?_
                refine go_ret (v := r_123) rfl dX0_readLine_134 (okZ (by first | exact Or.inl rfl | exact Or.inr rfl | assumption | omega)) ?_
                first
                | (exfalso; omega)
                | (rw [show (wr m 72 (m 70 11) (-1)) 1 = m 1 from wr_row (by decide), show (wr m 72 (m 70 11) (-1)) 4 = m 4 from wr_row (by decide), vN_congr (show (wr m 72 (m 70 11) (-1)) 6 = m 6 from wr_row (by decide)), show (wr m 72 (m 70 11) (-1)) 70 = m 70 from wr_row (by decide)] at hr_123
                   rw [show bkF m (m 1 12) = (if numF (m 4) (vN m) (m 1 12) 1 60 ≠ 0 then (numF (m 4) (vN m) (m 1 12) 1 60, m 1 12) else (0, m 1 12 + 1)) by unfold bkF; rw [if_neg (by omega), if_neg (by omega), if_neg (by omega), if_pos (by omega)], show bkX m (m 1 12) = wr (wr (wr m 72 (m 70 11) (-1)) 71 (m 70 11) 208) 75 (m 70 11) (vN m (m 1 12)) by unfold bkX; rw [if_pos (by omega)]]
                   exact BkPost.base (wr_row (by decide)) (wr_row (by decide)) (wr_row (by decide)) (wr_row (by decide)) (fun b hb => wr_row (by omega)) hr_123)
            · refine go_aload_n dX0_readLine_99 rfl ?_
              refine go_getf_p (b := 1) dX0_readLine_100 fl_0_47 ob_70 rfl pt_70_5 ?_
              refine go_iconst dX0_readLine_103 ?_
              refine go_callV_z (as := [vi 4]) (S := []) (b := 1) (ev_X7_refuse (m := m) (k := 4) (by first | assumption | omega | exact ⟨by omega, by omega⟩ | (constructor <;> omega))) rfl dX0_readLine_104 cv_0_71 rfl rfl ob_1 rfl (by decide) (Nat.le_of_ble_eq_true rfl) (fun r_104 m_104 hr_104 ho_104 => ?_)
              refine go_ret (v := r_104) rfl dX0_readLine_107 (okZ (by first | exact Or.inl rfl | exact Or.inr rfl | assumption | omega)) ?_
              first
              | (exfalso; omega)
              | (rw [hr_104.2]
                 refine Or.inr ⟨by omega, ?_⟩
                 rw [show bkF m (m 1 12) = (4, m 1 12 - 1) by unfold bkF; rw [if_neg (by omega), if_neg (by omega), if_pos (by omega)]]
                 exact ⟨(show (4 : Int) ≠ 0 by decide), by rw [show m 1 12 - 1 + 1 = m 1 12 by omega]; exact hcu.flt, fun b hb _ => by rw [wr_row hb]⟩)
          · exfalso; omega
    · refine go_aload_n dX0_readLine_24 rfl ?_
      refine go_getf_p (b := 1) dX0_readLine_25 fl_0_47 ob_70 rfl pt_70_5 ?_
      refine go_iconst dX0_readLine_28 ?_
      refine go_callV_z (as := [vi 1]) (S := []) (b := 1) (ev_X7_refuse (m := m) (k := 1) (by first | assumption | omega | exact ⟨by omega, by omega⟩ | (constructor <;> omega))) rfl dX0_readLine_29 cv_0_71 rfl rfl ob_1 rfl (by decide) (Nat.le_of_ble_eq_true rfl) (fun r_29 m_29 hr_29 ho_29 => ?_)
      refine go_ret (v := r_29) rfl dX0_readLine_32 (okZ (by first | exact Or.inl rfl | exact Or.inr rfl | assumption | omega)) ?_
      first
      | (exfalso; omega)
      | (rw [hr_29.2]
         refine Or.inr ⟨by omega, ?_⟩
         rw [show bkF m (m 1 12) = (1, m 1 12 - 1) by unfold bkF; rw [if_pos (by omega)]]
         exact ⟨(show (1 : Int) ≠ 0 by decide), by rw [show m 1 12 - 1 + 1 = m 1 12 by omega]; exact hcu.flt, fun b hb _ => by rw [wr_row hb]⟩)
theorem dX0_read_0 : decode mX0_read.2.1 0 = .ok (.aload_n 0, 1) := by decide +kernel
theorem dX0_read_1 : decode mX0_read.2.1 1 = .ok (.iconst 0, 1) := by decide +kernel
theorem dX0_read_2 : decode mX0_read.2.1 2 = .ok (.putfield 44, 3) := by decide +kernel
theorem dX0_read_5 : decode mX0_read.2.1 5 = .ok (.aload_n 0, 1) := by decide +kernel
theorem dX0_read_6 : decode mX0_read.2.1 6 = .ok (.getfield 47, 3) := by decide +kernel
theorem dX0_read_9 : decode mX0_read.2.1 9 = .ok (.sipush 400, 3) := by decide +kernel
theorem dX0_read_12 : decode mX0_read.2.1 12 = .ok (.invokevirtual 51, 3) := by decide +kernel
theorem dX0_read_15 : decode mX0_read.2.1 15 = .ok (.aload_n 0, 1) := by decide +kernel
theorem dX0_read_16 : decode mX0_read.2.1 16 = .ok (.getfield 47, 3) := by decide +kernel
theorem dX0_read_19 : decode mX0_read.2.1 19 = .ok (.invokevirtual 57, 3) := by decide +kernel
theorem dX0_read_22 : decode mX0_read.2.1 22 = .ok (.iconst 0, 1) := by decide +kernel
theorem dX0_read_23 : decode mX0_read.2.1 23 = .ok (.istore_n 2, 1) := by decide +kernel
theorem dX0_read_24 : decode mX0_read.2.1 24 = .ok (.iload_n 2, 1) := by decide +kernel
theorem dX0_read_25 : decode mX0_read.2.1 25 = .ok (.bipush 40, 2) := by decide +kernel
theorem dX0_read_27 : decode mX0_read.2.1 27 = .ok (.if_icmp .gt 58, 3) := by decide +kernel
theorem dX0_read_30 : decode mX0_read.2.1 30 = .ok (.aload_n 0, 1) := by decide +kernel
theorem dX0_read_31 : decode mX0_read.2.1 31 = .ok (.getfield 47, 3) := by decide +kernel
theorem dX0_read_34 : decode mX0_read.2.1 34 = .ok (.getfield 60, 3) := by decide +kernel
theorem dX0_read_37 : decode mX0_read.2.1 37 = .ok (.ifCond .eq 48, 3) := by decide +kernel
theorem dX0_read_40 : decode mX0_read.2.1 40 = .ok (.aload_n 0, 1) := by decide +kernel
theorem dX0_read_41 : decode mX0_read.2.1 41 = .ok (.aload_n 1, 1) := by decide +kernel
theorem dX0_read_42 : decode mX0_read.2.1 42 = .ok (.invokevirtual 63, 3) := by decide +kernel
theorem dX0_read_45 : decode mX0_read.2.1 45 = .ok (.ifCond .eq 15, 3) := by decide +kernel
theorem dX0_read_48 : decode mX0_read.2.1 48 = .ok (.aload_n 0, 1) := by decide +kernel
theorem dX0_read_49 : decode mX0_read.2.1 49 = .ok (.getfield 47, 3) := by decide +kernel
theorem dX0_read_52 : decode mX0_read.2.1 52 = .ok (.bipush 59, 2) := by decide +kernel
theorem dX0_read_54 : decode mX0_read.2.1 54 = .ok (.invokevirtual 67, 3) := by decide +kernel
theorem dX0_read_57 : decode mX0_read.2.1 57 = .ok (.ifCond .ne 5, 3) := by decide +kernel
theorem dX0_read_60 : decode mX0_read.2.1 60 = .ok (.iconst 0, 1) := by decide +kernel
theorem dX0_read_61 : decode mX0_read.2.1 61 = .ok (.ireturn, 1) := by decide +kernel
theorem dX0_read_62 : decode mX0_read.2.1 62 = .ok (.aload_n 0, 1) := by decide +kernel
theorem dX0_read_63 : decode mX0_read.2.1 63 = .ok (.dup, 1) := by decide +kernel
theorem dX0_read_64 : decode mX0_read.2.1 64 = .ok (.getfield 44, 3) := by decide +kernel
theorem dX0_read_67 : decode mX0_read.2.1 67 = .ok (.iconst 1, 1) := by decide +kernel
theorem dX0_read_68 : decode mX0_read.2.1 68 = .ok (.iadd, 1) := by decide +kernel
theorem dX0_read_69 : decode mX0_read.2.1 69 = .ok (.putfield 44, 3) := by decide +kernel
theorem dX0_read_72 : decode mX0_read.2.1 72 = .ok (.aload_n 0, 1) := by decide +kernel
theorem dX0_read_73 : decode mX0_read.2.1 73 = .ok (.getfield 47, 3) := by decide +kernel
theorem dX0_read_76 : decode mX0_read.2.1 76 = .ok (.invokevirtual 57, 3) := by decide +kernel
theorem dX0_read_79 : decode mX0_read.2.1 79 = .ok (.iinc 2 1, 3) := by decide +kernel
theorem dX0_read_82 : decode mX0_read.2.1 82 = .ok (.goto (-58), 3) := by decide +kernel
theorem dX0_read_85 : decode mX0_read.2.1 85 = .ok (.iconst 1, 1) := by decide +kernel
theorem dX0_read_86 : decode mX0_read.2.1 86 = .ok (.ireturn, 1) := by decide +kernel
set_option maxRecDepth 4000 in
theorem ev_X0_read {m : Mem}  (hsz : 0 ≤ m 1 1 ∧ m 1 1 ≤ 940) (hdn : DnOk m 8) : Ev 0 6 mX0_read [vr 70, vr 8] m (fun r m' => ∃ B : Mem, BgOk (wr m 70 11 0) B 400 ∧ BrPost B r m') := by
  refine Ev.of (L := [vr 70, vr 8, un]) (by decide +kernel) rfl (Nat.le_of_ble_eq_true rfl) rfl (fun t ht => by cases ht; first | exact Or.inl rfl | exact Or.inr (Or.inl rfl) | exact Or.inr (Or.inr rfl)) (fun hcan => ?_)
  refine go_aload_n dX0_read_0 rfl ?_
  refine go_iconst dX0_read_1 ?_
  refine go_putf_i (ki := 11) dX0_read_2 fw_0_44 ob_70 rfl rfl ⟨by omega, by omega⟩ ?_
  refine go_aload_n dX0_read_5 rfl ?_
  refine go_getf_p (b := 1) dX0_read_6 fl_0_47 ob_70 rfl pt_70_5 ?_
  refine go_sipush dX0_read_9 (by decide) ?_
  refine go_callV_v (as := [vi 400]) (S := []) (b := 1) (ev_X7_begin (m := (wr m 70 11 0)) (lim := 400) (by rw [wr_na (by decide)]; exact hsz) (by first | assumption | omega | exact ⟨by omega, by omega⟩ | (constructor <;> omega))) rfl dX0_read_12 cv_0_51 rfl rfl ob_1 rfl (by decide) (Nat.le_of_ble_eq_true rfl) (fun m_12 hr_12 => ?_)
  have hbg : BgOk (wr m 70 11 0) m_12 400 := hr_12
  obtain ⟨htkB, hb12, hb6, hb1, hbr⟩ := id hbg
  have htS := htkB.s
  have hdB : DnOk m_12 8 := hdn.congr (fun k hk => by rw [hbr _ (by omega) (by omega) (by omega) (by omega), wr_row (by omega)])
  have hl0 : m_12 70 11 = 0 := by rw [hbr 70 (by decide) (by decide) (by decide) (by decide), wr_self]
  refine go_aload_n dX0_read_15 rfl ?_
  refine go_getf_p (b := 1) dX0_read_16 fl_0_47 ob_70 rfl pt_70_5 ?_
  refine go_callV_v (as := []) (S := []) (b := 1) (ev_X7_next (m := m_12)  (by have := htS.1; omega)) rfl dX0_read_19 cv_0_57 rfl rfl ob_1 rfl (by decide) (Nat.le_of_ble_eq_true rfl) (fun m_19 hr_19 => ?_)
  have htp0 : TP m_12 m_19 1 := by
    rw [hr_19]
    have h := nxt_adv m_12
    rw [show (1 : Int) = m_12 1 12 + 1 by omega]
    exact ⟨h.1.1, h.1.2.2.2.2.2.2 11 (by decide) (by decide) (by decide) (by decide) (by decide) (by decide), h.2 4 (by decide), h.2 5 (by decide), h.2 6 (by decide), h.1⟩
  have heq0 : Eq1 m_19 m_12 := by rw [hr_19]; exact (nxt_adv m_12).2
  clear hr_19
  refine go_iconst dX0_read_22 ?_
  refine go_istore_n (L' := [vr 70, vr 8, vi 0]) dX0_read_23 (by decide) rfl rfl ?_
  have lp_24 : ∀ (n_24 : Nat) (m1 : Mem) (k : Int) , (0 ≤ k) → (k ≤ 40) → (∀ j : Nat, j < k.toNat → okB m_12 j) → (TP m_12 m1 (bl m_12 k.toNat).2) → (Eq1 m1 (bl m_12 k.toNat).1) → (1 ≤ (bl m_12 k.toNat).2 ∧ (bl m_12 k.toNat).2 ≤ m_12 1 11) → ((bl m_12 k.toNat).1 70 11 = k) → (∀ l : Int, 0 ≤ l → l < k → LOk (bl m_12 k.toNat).1 l) → (41 - k).toNat < n_24 → Go 0 6 mX0_read (fun r m' => ∃ B : Mem, BgOk (wr m 70 11 0) B 400 ∧ BrPost B r m') 24 [vr 70, vr 8, vi k] [] m1 := by
    intro n_24
    induction n_24 with
    | zero => intro m1 k hk0 hk1 hok htp heq hib hln hlo hmu; exact absurd hmu (Nat.not_lt_zero _)
    | succ n_24 ih_24 =>
      intro m1 k hk0 hk1 hok htp heq hib hln hlo hmu
      have hcu1 : PT m1 m1 (m1 1 12) (m1 1 6) := by
        obtain ⟨a1, a2, a3, a4, a5, b1, b2, b3, b4, b5, b6, b7⟩ := id htp
        rw [a1]
        exact ⟨a1, by rw [b2, a3], by rw [b3, a4], by rw [b4, a5], by rw [b5, a5], rfl, fun _ _ _ _ _ _ _ => rfl⟩
      have hkd : m1 1 2 = m_12 4 ((bl m_12 k.toNat).2 - 1) := htp.2.2.2.2.2.2.1
      have htS1 := htS.1
      have e8 : (bl m_12 k.toNat).1 8 = m_12 8 := bl_out _ (by omega)
      refine go_iload_n dX0_read_24 rfl ?_
      refine go_bipush dX0_read_25 (by decide) ?_
      refine go_icmp_gt (tgt := 85) dX0_read_27 (by decide) ⟨by omega, by omega⟩ ⟨by omega, by omega⟩ (fun h_27 => ?_) (fun h_27 => ?_)
      · exfalso; omega
      · refine go_aload_n dX0_read_30 rfl ?_
        refine go_getf_p (b := 1) dX0_read_31 fl_0_47 ob_70 rfl pt_70_5 ?_
        refine go_getf_i (ki := 2) dX0_read_34 fl_0_60 ob_1 rfl rfl (fun hf_34 => ?_)
        rw [show (m1 1 2 : Int) = (m_12 4 ((bl m_12 k.toNat).2 - 1)) from hkd] at hf_34 ⊢
        refine go_if_eq (tgt := 85) dX0_read_37 (by decide) ⟨by omega, by omega⟩ (fun h_37 => ?_) (fun h_37 => ?_)
        · refine go_iconst dX0_read_85 ?_
          refine go_ret (v := 1) rfl dX0_read_86 (okZ (by first | exact Or.inl rfl | exact Or.inr rfl | assumption | omega)) ?_
          exact ⟨m_12, hbg, k.toNat, hok, Or.inl ⟨h_37, rfl, htp, heq, by rw [hln]; omega, by omega, fun l a b => hlo l a (by omega)⟩⟩
        · refine go_aload_n dX0_read_40 rfl ?_
          refine go_aload_n dX0_read_41 rfl ?_
          refine go_callV_z (as := [vr 8]) (S := []) (b := 70) (ev_X0_readLine (m := m1)  hcu1 (htS.tp htp) (by rw [htp.1, htp.2.1]; omega) (by rw [heq 70 (by decide)]; omega) (hdB.congr (fun k hk => by rw [heq _ (by omega), bl_out _ (by omega)]))) rfl dX0_read_42 cv_0_63 rfl rfl ob_70 rfl (by decide) (Nat.le_of_ble_eq_true rfl) (fun r_42 m_42 hr_42 ho_42 => ?_)
          rw [htp.1, bkF_e heq] at hr_42
          refine go_if_eq (tgt := 60) dX0_read_45 (by decide) ⟨by omega, by omega⟩ (fun h_45 => ?_) (fun h_45 => ?_)
          · refine go_iconst dX0_read_60 ?_
            refine go_ret (v := 0) rfl dX0_read_61 (okZ (by first | exact Or.inl rfl | exact Or.inr rfl | assumption | omega)) ?_
            refine ⟨m_12, hbg, k.toNat, hok, Or.inr ?_⟩
            have hout : ∀ b : Nat, (b < 70 ∨ 76 ≤ b) → b ≠ 1 → m1 b = m_12 b := fun b h1 h2 => (heq b h2).trans (bl_out _ h1)
            have h70 : ∀ j : Int, j ≠ 11 → m1 70 j = m_12 70 j := fun j hj => by rw [heq 70 (by decide), bl_70 _ hj]
            first
            | (obtain ⟨y1, -, y2⟩ := hr_54.resolve_left (fun h => by omega)
               refine Or.inr ⟨rfl, h_37, z1, y1, adv_no tp42 y2, fun b hb h2 => ?_, fun j hj => ?_⟩
               · rw [y2.2 b hb, z3 b hb, bkX_out (by omega)]
                 exact hout b h2 hb
               · rw [y2.2 70 (by decide), z3 70 (by decide), bkX_out (by omega)]
                 exact h70 j hj)
            | (rcases hr_42 with h | h
               · exact absurd h.1 (by omega)
               · obtain ⟨x1, x2, ⟨c1, c2, c3, c4, c5, c6, c7⟩, x4⟩ := h
                 refine Or.inl ⟨rfl, h_37, x2, ?_, fun b hb h2 => by rw [x4 b hb (by omega)]; exact hout b h2 hb, fun j hj => by rw [x4 70 (by decide) (by omega)]; exact h70 j hj⟩
                 rw [htp.2.2.1] at c2
                 rw [htp.2.2.2.1] at c3
                 rw [htp.2.2.2.2.1] at c4 c5
                 exact ⟨c1, c2, c3, c4, c5, c6, fun x a b c d e f => (c7 x a b c d e f).trans (htp.2.2.2.2.2.2.2.2.2.2.2 x a b c d e f)⟩)
          · obtain ⟨z1, z2, z4, z3⟩ : (bkF (bl m_12 k.toNat).1 (bl m_12 k.toNat).2).1 = 0 ∧ (bkF (bl m_12 k.toNat).1 (bl m_12 k.toNat).2).2 < m1 1 11 ∧ PT m1 m_42 (bkF (bl m_12 k.toNat).1 (bl m_12 k.toNat).2).2 (m1 1 6) ∧ ∀ b : Nat, b ≠ 1 → m_42 b = bkX m1 (bl m_12 k.toNat).2 b := by
              rcases hr_42 with h | h
              · exact h.2
              · exact absurd h.1 h_45
            have tp42 := htp.tr (tp_of z4 (by rw [z3 4 (by decide), bkX_out (by omega)]) (by rw [z3 5 (by decide), bkX_out (by omega)]) (by rw [z3 6 (by decide), bkX_out (by omega)]))
            rw [htp.2.1] at z2
            have zok := bk_ok z1 (by omega)
            have zge := zok.2.1
            refine go_aload_n dX0_read_48 rfl ?_
            refine go_getf_p (b := 1) dX0_read_49 fl_0_47 ob_70 rfl pt_70_5 ?_
            refine go_bipush dX0_read_52 (by decide) ?_
            refine go_callV_z (as := [vi 59]) (S := []) (b := 1) (ev_X7_wantKind (m := m_42) (k := 59) (by rw [tp42.1, tp42.2.1]; have := htS.1; omega) (by first | assumption | omega | exact ⟨by omega, by omega⟩ | (constructor <;> omega))) rfl dX0_read_54 cv_0_67 rfl rfl ob_1 rfl (by decide) (Nat.le_of_ble_eq_true rfl) (fun r_54 m_54 hr_54 ho_54 => ?_)
            rw [tp42.1, tp42.2.2.1] at hr_54
            refine go_if_ne (tgt := 62) dX0_read_57 (by decide) ⟨by omega, by omega⟩ (fun h_57 => ?_) (fun h_57 => ?_)
            · obtain ⟨y1, -, y2⟩ := hr_54.resolve_right (fun h => h_57 h.2.1)
              have tp54 := TP.w (i := 11) (x := k + 1) (b := 70) (adv_ok tp42 y2) (by decide) (by decide) (by decide) (by decide)
              have hlt54 : (bkF (bl m_12 k.toNat).1 (bl m_12 k.toNat).2).2 + 1 < m_12 1 11 := htS.lt z2 (by omega)
              refine go_aload_n dX0_read_62 rfl ?_
              refine go_dup_r dX0_read_63 ?_
              refine go_getf_i (ki := 11) dX0_read_64 fl_0_44 ob_70 rfl rfl (fun hf_64 => ?_)
              rw [show (m_54 70 11 : Int) = k from by rw [y2.2 70 (by decide), z3 70 (by decide), bkX_out (by omega), heq 70 (by decide), hln]] at hf_64 ⊢
              refine go_iconst dX0_read_67 ?_
              refine go_iadd dX0_read_68 ?_
              refine go_putf_i (ki := 11) dX0_read_69 fw_0_44 ob_70 rfl rfl ⟨by omega, by omega⟩ ?_
              refine go_aload_n dX0_read_72 rfl ?_
              refine go_getf_p (b := 1) dX0_read_73 fl_0_47 ob_70 rfl pt_70_5 ?_
              refine go_callV_v (as := []) (S := []) (b := 1) (ev_X7_next (m := (wr m_54 70 11 (k + 1)))  (by rw [tp54.1, tp54.2.1]; have := htS.1; omega)) rfl dX0_read_76 cv_0_57 rfl rfl ob_1 rfl (by decide) (Nat.le_of_ble_eq_true rfl) (fun m_76 hr_76 => ?_)
              refine go_iinc (L' := [vr 70, vr 8, vi (k + 1)]) dX0_read_79 rfl (by decide) rfl rfl ?_
              refine go_goto (tgt := 24) dX0_read_82 (by decide) ?_
              exact ih_24 m_76 (k + 1) (by first | assumption | omega | rfl) (by omega) (fun j hj => by
                    by_cases e : j < k.toNat
                    · exact hok j e
                    · have e : j = k.toNat := by omega
                      subst e
                      exact ⟨h_37, z1, y1⟩) (by rw [show (k + 1).toNat = k.toNat + 1 by omega]; show TP m_12 m_76 ((bkF (bl m_12 k.toNat).1 (bl m_12 k.toNat).2).2 + 2); rw [hr_76]; have h := adv_ok tp54 (nxt_adv (wr m_54 70 11 (k + 1))); rw [show (bkF (bl m_12 k.toNat).1 (bl m_12 k.toNat).2).2 + 1 + 1 = (bkF (bl m_12 k.toNat).1 (bl m_12 k.toNat).2).2 + 2 by omega] at h; exact h) (by rw [show (k + 1).toNat = k.toNat + 1 by omega]; show Eq1 m_76 (wr (bkX (bl m_12 k.toNat).1 (bl m_12 k.toNat).2) 70 11 ((bl m_12 k.toNat).1 70 11 + 1)); rw [hln]; intro b hb; rw [hr_76, (nxt_adv (wr m_54 70 11 (k + 1))).2 b hb]; exact wr_e (fun c hc => by rw [y2.2 c hc, z3 c hc]; exact bkX_e heq c hc) b hb) (by rw [show (k + 1).toNat = k.toNat + 1 by omega]; show 1 ≤ (bkF (bl m_12 k.toNat).1 (bl m_12 k.toNat).2).2 + 2 ∧ (bkF (bl m_12 k.toNat).1 (bl m_12 k.toNat).2).2 + 2 ≤ m_12 1 11; omega) (by rw [show (k + 1).toNat = k.toNat + 1 by omega]; show wr (bkX (bl m_12 k.toNat).1 (bl m_12 k.toNat).2) 70 11 ((bl m_12 k.toNat).1 70 11 + 1) 70 11 = k + 1; rw [wr_self, hln]) (fun l a b => by
                    rw [show (k + 1).toNat = k.toNat + 1 by omega]
                    have hw : ∀ c : Nat, c ≠ 70 → (bl m_12 (k.toNat + 1)).1 c = bkX (bl m_12 k.toNat).1 (bl m_12 k.toNat).2 c := fun c hc => wr_row hc
                    unfold LOk
                    rw [hw 71 (by decide), hw 72 (by decide), hw 73 (by decide), hw 74 (by decide), hw 75 (by decide), hw 8 (by decide)]
                    by_cases e : l = k
                    · have q := zok.2.2.1
                      rw [hln] at q
                      rw [e]
                      exact q
                    · have q := hlo l a (by omega)
                      have q2 := zok.2.2.2.1 l (by omega)
                      rw [q2.1, q2.2.1, q2.2.2.1, q2.2.2.2.1, q2.2.2.2.2, bkX_out (by omega)]
                      exact q) (by omega)
            · refine go_iconst dX0_read_60 ?_
              refine go_ret (v := 0) rfl dX0_read_61 (okZ (by first | exact Or.inl rfl | exact Or.inr rfl | assumption | omega)) ?_
              refine ⟨m_12, hbg, k.toNat, hok, Or.inr ?_⟩
              have hout : ∀ b : Nat, (b < 70 ∨ 76 ≤ b) → b ≠ 1 → m1 b = m_12 b := fun b h1 h2 => (heq b h2).trans (bl_out _ h1)
              have h70 : ∀ j : Int, j ≠ 11 → m1 70 j = m_12 70 j := fun j hj => by rw [heq 70 (by decide), bl_70 _ hj]
              first
              | (obtain ⟨y1, -, y2⟩ := hr_54.resolve_left (fun h => by omega)
                 refine Or.inr ⟨rfl, h_37, z1, y1, adv_no tp42 y2, fun b hb h2 => ?_, fun j hj => ?_⟩
                 · rw [y2.2 b hb, z3 b hb, bkX_out (by omega)]
                   exact hout b h2 hb
                 · rw [y2.2 70 (by decide), z3 70 (by decide), bkX_out (by omega)]
                   exact h70 j hj)
              | (rcases hr_42 with h | h
                 · exact absurd h.1 (by omega)
                 · obtain ⟨x1, x2, ⟨c1, c2, c3, c4, c5, c6, c7⟩, x4⟩ := h
                   refine Or.inl ⟨rfl, h_37, x2, ?_, fun b hb h2 => by rw [x4 b hb (by omega)]; exact hout b h2 hb, fun j hj => by rw [x4 70 (by decide) (by omega)]; exact h70 j hj⟩
                   rw [htp.2.2.1] at c2
                   rw [htp.2.2.2.1] at c3
                   rw [htp.2.2.2.2.1] at c4 c5
                   exact ⟨c1, c2, c3, c4, c5, c6, fun x a b c d e f => (c7 x a b c d e f).trans (htp.2.2.2.2.2.2.2.2.2.2.2 x a b c d e f)⟩)
  exact lp_24 _ m_19 0 (by first | assumption | omega | rfl) (by first | assumption | omega | rfl) (fun j hj => absurd hj (Nat.not_lt_zero _)) htp0 heq0 (by show 1 ≤ (1 : Int) ∧ (1 : Int) ≤ m_12 1 11; have := htS.1; omega) hl0 (fun l a b => by omega) (Nat.lt_succ_self _)
