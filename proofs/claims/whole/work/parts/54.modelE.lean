/-! ===== the reference judges a BOOK ===== -/
theorem bkF_h {G : Mem} {i : Int} (h : G 4 i = 208) (hl : G 70 11 < 40) : bkF G (i + 1) = if numF (G 4) (vN G) (i + 1) 1 60 ≠ 0 then (numF (G 4) (vN G) (i + 1) 1 60, i + 1) else (0, i + 1 + 1) := by
  unfold bkF
  rw [show i + 1 - 1 = i by omega, if_neg (by omega), if_neg (by omega), if_neg (by omega), if_pos h]
theorem bkF_p {G : Mem} {i : Int} (h : G 4 i = 3) (hn : nameAt G (8 + 4) (G 6 i) (G 8 3) ≠ -1) (hl : G 70 11 < 40) : bkF G (i + 1) = deF G (i + 1) := by
  unfold bkF
  rw [show i + 1 - 1 = i by omega, if_neg (by omega), if_neg (fun z => hn z.2), if_neg (by omega), if_neg (by omega)]
theorem LnR_h {G : Mem} {L : Int → Int} {i l : Int} (h : G 4 i = 208) (hl : G 70 11 = l) (h0 : L (4 * l) = 3) (h1 : L (4 * l + 1) = vN G (i + 1)) : LnR (bkX G (i + 1)) L l := by
  unfold LnR bkX
  rw [show i + 1 - 1 = i by omega, if_pos h, hl]
  refine Or.inl ⟨?_, h0, ?_⟩
  · rw [wr_na (by decide), wr_self]
  · rw [wr_self]; exact h1
theorem LnR_p {G : Mem} {L : Int → Int} {i l : Int} (h : G 4 i = 3) (hl : G 70 11 = l) (hd : DoL G L (4 * l) (i + 1)) (h1 : L (4 * l + 1) = nameAt G (8 + 4) (G 6 i) (G 8 3)) : LnR (bkX G (i + 1)) L l := by
  unfold bkX
  rw [show i + 1 - 1 = i by omega, if_neg (by omega), hl]
  have e4 : wr G 72 l (nameAt G (8 + 4) (G 6 i) (G 8 3)) 4 = G 4 := wr_row (by decide)
  have e6 : wr G 72 l (nameAt G (8 + 4) (G 6 i) (G 8 3)) 6 = G 6 := wr_row (by decide)
  have e70 : wr G 72 l (nameAt G (8 + 4) (G 6 i) (G 8 3)) 70 = G 70 := wr_row (by decide)
  have e8 : wr G 72 l (nameAt G (8 + 4) (G 6 i) (G 8 3)) 8 = G 8 := wr_row (by decide)
  have en : ∀ v c : Int, nameAt (wr G 72 l (nameAt G (8 + 4) (G 6 i) (G 8 3))) (8 + 1) v c = nameAt G (8 + 1) v c := fun v c => by unfold nameAt; rw [wr_row (by decide)]
  rcases hd with ⟨k, a, b, c⟩ | ⟨k, a, c⟩ | ⟨k, a⟩
  · rw [deX_205 (by rw [e4]; exact k), e4, e6, e70, e8, en, hl]
    refine Or.inr (Or.inl ⟨?_, a, ?_, ?_, ?_⟩)
    · rw [wr_na (by decide), wr_na (by decide), wr_self]; exact k
    · rw [wr_na (by decide), wr_na (by decide), wr_na (by decide), wr_self]; exact h1
    · rw [wr_na (by decide), wr_self]; exact b
    · rw [wr_self, show i + 1 + 2 = i + 1 + 2 from rfl]; exact c
  · rw [deX_206 (by rw [e4]; exact k), e4, e70, hl]
    refine Or.inr (Or.inr (Or.inl ⟨?_, a, ?_, ?_⟩))
    · rw [wr_na (by decide), wr_self]; exact k
    · rw [wr_na (by decide), wr_na (by decide), wr_self]; exact h1
    · rw [wr_self]; exact c
  · unfold deX
    rw [if_neg (by rw [e4]; omega), if_neg (by rw [e4]; omega), e4, e70, hl]
    refine Or.inr (Or.inr (Or.inr ⟨?_, a, ?_⟩))
    · rw [wr_self]; exact k
    · rw [wr_na (by decide), wr_self]; exact h1
theorem LnR.c {G G' : Mem} {L L' : Int → Int} {l : Int} (h : LnR G L l) (h1 : G' 71 l = G 71 l) (h2 : G' 72 l = G 72 l) (h3 : G' 73 l = G 73 l) (h4 : G' 74 l = G 74 l) (h5 : G' 75 l = G 75 l) (hL : ∀ j : Int, 4 * l ≤ j → j < 4 * l + 4 → L' j = L j) : LnR G' L' l := by
  unfold LnR at *
  rw [h1, h2, h3, h4, h5, hL (4 * l) (by omega) (by omega), hL (4 * l + 1) (by omega) (by omega), hL (4 * l + 2) (by omega) (by omega), hL (4 * l + 3) (by omega) (by omega)]
  exact h
def swp (m : Mem) (i : Int) : Mem := fun b j => if b = 216 ∧ 123 ≤ j ∧ j < 123 + i then m 220 (j - 123) else if b = 220 ∧ 0 ≤ j ∧ j < i then m 216 (123 + j) else m b j
theorem swp_0 (m : Mem) : swp m 0 = m := by funext b j; unfold swp; rw [if_neg (by omega), if_neg (by omega)]
theorem swp_s {m : Mem} {i : Int} (h : 0 ≤ i) : wr (wr (swp m i) 216 (123 + i) (m 220 i)) 220 i (m 216 (123 + i)) = swp m (i + 1) := by
  funext b j; unfold wr swp
  by_cases h1 : b = 220 ∧ j = i
  · rw [if_pos h1, if_neg (by omega), if_pos (by omega), h1.2]
  · rw [if_neg h1]
    by_cases h2 : b = 216 ∧ j = 123 + i
    · rw [if_pos h2, if_pos (by omega), h2.2, show 123 + i - 123 = i by omega]
    · rw [if_neg h2]
      by_cases h3 : b = 216 ∧ 123 ≤ j ∧ j < 123 + i
      · rw [if_pos h3, if_pos (by omega)]
      · rw [if_neg h3, if_neg (show ¬ (b = 216 ∧ 123 ≤ j ∧ j < 123 + (i + 1)) by omega)]
        by_cases h4 : b = 220 ∧ 0 ≤ j ∧ j < i
        · rw [if_pos h4, if_pos (by omega)]
        · rw [if_neg h4, if_neg (by omega)]
theorem swp_row {m : Mem} {i : Int} {b : Nat} (h1 : b ≠ 216) (h2 : b ≠ 220) : swp m i b = m b := by funext j; unfold swp; rw [if_neg (fun q => h1 q.1), if_neg (fun q => h2 q.1)]
/-- snapshots as after one more -/
def SnQ (m m' : Mem) : Prop := m' 214 25 = min 8 (m 214 25 + 1) ∧ (∀ k j : Int, 0 ≤ k → k + 1 < m' 214 25 → 0 ≤ j → j < 109 → m' 219 (109 * k + j) = m 219 (109 * (if m 214 25 = 8 then k + 1 else k) + j)) ∧ ∀ j : Int, 0 ≤ j → j < 109 → m' 219 (109 * (m' 214 25 - 1) + j) = m 216 (123 + j)
def JdM (m J : Mem) (lives L r : Int) (m' : Mem) : Prop := ∃ k : Nat, (k : Int) ≤ L ∧ (∀ j : Nat, j < k → liveR (jN J j) 32 (j : Int) = 0) ∧ ((((k : Int) = L ∧ m' 233 0 = 0) ∨ ((k : Int) < L ∧ m' 233 0 = liveR (jN J k) 32 (k : Int) ∧ liveR (jN J k) 32 (k : Int) ≠ 0))) ∧
  m' 233 1 = k ∧ m' 233 2 = jN J k 32 0 ∧ m' 233 3 = comeN 0 (setlC (jN J k) 8 32) (J 8 3).toNat ∧ r = (if m' 233 0 = 0 then -1 else m' 233 1) ∧ m' 214 42 = 1 ∧ m' 214 10 = 0 ∧
  ((lives = 1 ∧ 0 < (k : Int) ∧ SnQ m m' ∧ Bg (jN J k) 8 32 (m' 216) ∧ ∀ j : Int, (j < 123 ∨ 232 ≤ j) → m' 216 j = m 216 j) ∨ (¬ (lives = 1 ∧ 0 < (k : Int)) ∧ m' 216 = m 216 ∧ m' 219 = m 219 ∧ m' 214 25 = m 214 25))
def Kx (m m' : Mem) : Prop := (∀ b : Nat, b ≠ 214 → b ≠ 216 → b ≠ 219 → b ≠ 220 → b ≠ 232 → b ≠ 233 → m' b = m b) ∧ (m' 214 0 = 0 ∧ m' 214 2 = 0) ∧ ∀ j : Int, (j = 1 ∨ (13 < j ∧ j ≠ 25 ∧ j ≠ 41 ∧ j ≠ 42)) → m' 214 j = m 214 j
def BkM (m B J : Mem) (lives r : Int) (m' : Mem) : Prop := (¬ (0 ≤ lives ∧ lives ≤ 1) ∧ r = -1000 ∧ m' = wr m 214 0 0) ∨ ((0 ≤ lives ∧ lives ≤ 1) ∧ Kx m m' ∧ ∃ k : Nat, (∀ j : Nat, j < k → okB B j) ∧
  ((B 4 ((bl B k).2 - 1) = 0 ∧ (k : Int) ≤ 40 ∧ JdM m J lives k r m') ∨
   ((m' 216 = m 216 ∧ m' 219 = m 219 ∧ m' 214 25 = m 214 25 ∧ m' 233 = m 233 ∧ m' 214 42 = m 214 42) ∧ B 4 ((bl B k).2 - 1) ≠ 0 ∧ r = w32 (-2 - B 5 (bkF (bl B k).1 (bl B k).2).2) ∧ (((bkF (bl B k).1 (bl B k).2).1 ≠ 0 ∧ m' 214 10 = (bkF (bl B k).1 (bl B k).2).1) ∨ ((bkF (bl B k).1 (bl B k).2).1 = 0 ∧ B 4 (bkF (bl B k).1 (bl B k).2).2 ≠ 59 ∧ m' 214 10 = 1)))))
theorem bl_tm {B m : Mem} {t kw : Int → Int} {n lim i : Int} (h : TM B t kw n lim m i) (k : Nat) : TM (bl B k).1 t kw n lim m i := h.c (by rw [bl_out k (by omega)]) (bl_out k (by omega)) (bl_out k (by omega)) (bl_out k (by omega))
theorem bl_mt {B m : Mem} {t kw : Int → Int} {n lim i : Int} {k : Nat} (h : TM (bl B k).1 t kw n lim m i) : TM B t kw n lim m i := h.c (by rw [bl_out k (by omega)]) (bl_out k (by omega)).symm (bl_out k (by omega)).symm (bl_out k (by omega)).symm
def Kx1 (m m' : Mem) : Prop := (∀ b : Nat, b ≠ 214 → b ≠ 232 → m' b = m b) ∧ (m' 214 0 = 0 ∧ m' 214 2 = 0) ∧ ∀ j : Int, (j = 1 ∨ (13 < j ∧ j ≠ 41)) → m' 214 j = m 214 j
theorem Kx1.b {m n o : Mem} {p : Int} (h : Kx1 m n) (h' : Bx n o p) : Kx1 m o := ⟨fun b h1 h2 => (h'.1 b h1 h2).trans (h.1 b h1 h2), ⟨(h'.2.1 0 (by omega)).trans h.2.1.1, (h'.2.1 2 (by omega)).trans h.2.1.2⟩, fun j hj => (h'.2.1 j (by omega)).trans (h.2.2 j hj)⟩
theorem NmR.c {G G' m m' : Mem} {d : Nat} (h : NmR G d (m 221)) (hm : m' 221 = m 221) (h0 : G' d = G d) (h1 : G' (d + 1) = G (d + 1)) (h4 : G' (d + 4) = G (d + 4)) (h6 : G' (d + 6) = G (d + 6)) : NmR G' d (m' 221) := by
  unfold NmR at *
  rw [hm, h0, h1, h4, h6]; exact h

theorem dX12_readBookLine_0 : decode mX12_readBookLine.2.1 0 = .ok (.aload_n 0, 1) := by decide +kernel
theorem dX12_readBookLine_1 : decode mX12_readBookLine.2.1 1 = .ok (.bipush 8, 2) := by decide +kernel
theorem dX12_readBookLine_3 : decode mX12_readBookLine.2.1 3 = .ok (.invokevirtual 202, 3) := by decide +kernel
theorem dX12_readBookLine_6 : decode mX12_readBookLine.2.1 6 = .ok (.istore_n 1, 1) := by decide +kernel
theorem dX12_readBookLine_7 : decode mX12_readBookLine.2.1 7 = .ok (.iload_n 1, 1) := by decide +kernel
theorem dX12_readBookLine_8 : decode mX12_readBookLine.2.1 8 = .ok (.ifCond .ne 45, 3) := by decide +kernel
theorem dX12_readBookLine_11 : decode mX12_readBookLine.2.1 11 = .ok (.aload_n 0, 1) := by decide +kernel
theorem dX12_readBookLine_12 : decode mX12_readBookLine.2.1 12 = .ok (.invokevirtual 166, 3) := by decide +kernel
theorem dX12_readBookLine_15 : decode mX12_readBookLine.2.1 15 = .ok (.ifCond .ne 9, 3) := by decide +kernel
theorem dX12_readBookLine_18 : decode mX12_readBookLine.2.1 18 = .ok (.aload_n 0, 1) := by decide +kernel
theorem dX12_readBookLine_19 : decode mX12_readBookLine.2.1 19 = .ok (.iconst 1, 1) := by decide +kernel
theorem dX12_readBookLine_20 : decode mX12_readBookLine.2.1 20 = .ok (.invokevirtual 72, 3) := by decide +kernel
theorem dX12_readBookLine_23 : decode mX12_readBookLine.2.1 23 = .ok (.ireturn, 1) := by decide +kernel
theorem dX12_readBookLine_24 : decode mX12_readBookLine.2.1 24 = .ok (.aload_n 0, 1) := by decide +kernel
theorem dX12_readBookLine_25 : decode mX12_readBookLine.2.1 25 = .ok (.getfield 113, 3) := by decide +kernel
theorem dX12_readBookLine_28 : decode mX12_readBookLine.2.1 28 = .ok (.bipush 6, 2) := by decide +kernel
theorem dX12_readBookLine_30 : decode mX12_readBookLine.2.1 30 = .ok (.aload_n 0, 1) := by decide +kernel
theorem dX12_readBookLine_31 : decode mX12_readBookLine.2.1 31 = .ok (.getfield 98, 3) := by decide +kernel
theorem dX12_readBookLine_34 : decode mX12_readBookLine.2.1 34 = .ok (.iconst 3, 1) := by decide +kernel
theorem dX12_readBookLine_35 : decode mX12_readBookLine.2.1 35 = .ok (.iaload, 1) := by decide +kernel
theorem dX12_readBookLine_36 : decode mX12_readBookLine.2.1 36 = .ok (.aload_n 0, 1) := by decide +kernel
theorem dX12_readBookLine_37 : decode mX12_readBookLine.2.1 37 = .ok (.getfield 43, 3) := by decide +kernel
theorem dX12_readBookLine_40 : decode mX12_readBookLine.2.1 40 = .ok (.invokestatic 170, 3) := by decide +kernel
theorem dX12_readBookLine_43 : decode mX12_readBookLine.2.1 43 = .ok (.iconst (-1), 1) := by decide +kernel
theorem dX12_readBookLine_44 : decode mX12_readBookLine.2.1 44 = .ok (.if_icmp .ne 9, 3) := by decide +kernel
theorem dX12_readBookLine_47 : decode mX12_readBookLine.2.1 47 = .ok (.aload_n 0, 1) := by decide +kernel
theorem dX12_readBookLine_48 : decode mX12_readBookLine.2.1 48 = .ok (.iconst 3, 1) := by decide +kernel
theorem dX12_readBookLine_49 : decode mX12_readBookLine.2.1 49 = .ok (.invokevirtual 72, 3) := by decide +kernel
theorem dX12_readBookLine_52 : decode mX12_readBookLine.2.1 52 = .ok (.ireturn, 1) := by decide +kernel
theorem dX12_readBookLine_53 : decode mX12_readBookLine.2.1 53 = .ok (.aload_n 0, 1) := by decide +kernel
theorem dX12_readBookLine_54 : decode mX12_readBookLine.2.1 54 = .ok (.getfield 405, 3) := by decide +kernel
theorem dX12_readBookLine_57 : decode mX12_readBookLine.2.1 57 = .ok (.bipush 40, 2) := by decide +kernel
theorem dX12_readBookLine_59 : decode mX12_readBookLine.2.1 59 = .ok (.if_icmp .ne 9, 3) := by decide +kernel
theorem dX12_readBookLine_62 : decode mX12_readBookLine.2.1 62 = .ok (.aload_n 0, 1) := by decide +kernel
theorem dX12_readBookLine_63 : decode mX12_readBookLine.2.1 63 = .ok (.iconst 4, 1) := by decide +kernel
theorem dX12_readBookLine_64 : decode mX12_readBookLine.2.1 64 = .ok (.invokevirtual 72, 3) := by decide +kernel
theorem dX12_readBookLine_67 : decode mX12_readBookLine.2.1 67 = .ok (.ireturn, 1) := by decide +kernel
theorem dX12_readBookLine_68 : decode mX12_readBookLine.2.1 68 = .ok (.iconst 4, 1) := by decide +kernel
theorem dX12_readBookLine_69 : decode mX12_readBookLine.2.1 69 = .ok (.aload_n 0, 1) := by decide +kernel
theorem dX12_readBookLine_70 : decode mX12_readBookLine.2.1 70 = .ok (.getfield 405, 3) := by decide +kernel
theorem dX12_readBookLine_73 : decode mX12_readBookLine.2.1 73 = .ok (.imul, 1) := by decide +kernel
theorem dX12_readBookLine_74 : decode mX12_readBookLine.2.1 74 = .ok (.istore_n 2, 1) := by decide +kernel
theorem dX12_readBookLine_75 : decode mX12_readBookLine.2.1 75 = .ok (.aload_n 0, 1) := by decide +kernel
theorem dX12_readBookLine_76 : decode mX12_readBookLine.2.1 76 = .ok (.getfield 151, 3) := by decide +kernel
theorem dX12_readBookLine_79 : decode mX12_readBookLine.2.1 79 = .ok (.iload_n 2, 1) := by decide +kernel
theorem dX12_readBookLine_80 : decode mX12_readBookLine.2.1 80 = .ok (.iconst 3, 1) := by decide +kernel
theorem dX12_readBookLine_81 : decode mX12_readBookLine.2.1 81 = .ok (.iastore, 1) := by decide +kernel
theorem dX12_readBookLine_82 : decode mX12_readBookLine.2.1 82 = .ok (.aload_n 0, 1) := by decide +kernel
theorem dX12_readBookLine_83 : decode mX12_readBookLine.2.1 83 = .ok (.getfield 151, 3) := by decide +kernel
theorem dX12_readBookLine_86 : decode mX12_readBookLine.2.1 86 = .ok (.iload_n 2, 1) := by decide +kernel
theorem dX12_readBookLine_87 : decode mX12_readBookLine.2.1 87 = .ok (.iconst 1, 1) := by decide +kernel
theorem dX12_readBookLine_88 : decode mX12_readBookLine.2.1 88 = .ok (.iadd, 1) := by decide +kernel
theorem dX12_readBookLine_89 : decode mX12_readBookLine.2.1 89 = .ok (.iload_n 1, 1) := by decide +kernel
theorem dX12_readBookLine_90 : decode mX12_readBookLine.2.1 90 = .ok (.ifCond .eq 7, 3) := by decide +kernel
theorem dX12_readBookLine_93 : decode mX12_readBookLine.2.1 93 = .ok (.iconst 0, 1) := by decide +kernel
theorem dX12_readBookLine_94 : decode mX12_readBookLine.2.1 94 = .ok (.goto 22, 3) := by decide +kernel
theorem dX12_readBookLine_97 : decode mX12_readBookLine.2.1 97 = .ok (.aload_n 0, 1) := by decide +kernel
theorem dX12_readBookLine_98 : decode mX12_readBookLine.2.1 98 = .ok (.getfield 113, 3) := by decide +kernel
theorem dX12_readBookLine_101 : decode mX12_readBookLine.2.1 101 = .ok (.bipush 6, 2) := by decide +kernel
theorem dX12_readBookLine_103 : decode mX12_readBookLine.2.1 103 = .ok (.aload_n 0, 1) := by decide +kernel
theorem dX12_readBookLine_104 : decode mX12_readBookLine.2.1 104 = .ok (.getfield 98, 3) := by decide +kernel
theorem dX12_readBookLine_107 : decode mX12_readBookLine.2.1 107 = .ok (.iconst 3, 1) := by decide +kernel
theorem dX12_readBookLine_108 : decode mX12_readBookLine.2.1 108 = .ok (.iaload, 1) := by decide +kernel
theorem dX12_readBookLine_109 : decode mX12_readBookLine.2.1 109 = .ok (.aload_n 0, 1) := by decide +kernel
theorem dX12_readBookLine_110 : decode mX12_readBookLine.2.1 110 = .ok (.getfield 43, 3) := by decide +kernel
theorem dX12_readBookLine_113 : decode mX12_readBookLine.2.1 113 = .ok (.invokestatic 170, 3) := by decide +kernel
theorem dX12_readBookLine_116 : decode mX12_readBookLine.2.1 116 = .ok (.iastore, 1) := by decide +kernel
theorem dX12_readBookLine_117 : decode mX12_readBookLine.2.1 117 = .ok (.aload_n 0, 1) := by decide +kernel
theorem dX12_readBookLine_118 : decode mX12_readBookLine.2.1 118 = .ok (.getfield 151, 3) := by decide +kernel
theorem dX12_readBookLine_121 : decode mX12_readBookLine.2.1 121 = .ok (.iload_n 2, 1) := by decide +kernel
theorem dX12_readBookLine_122 : decode mX12_readBookLine.2.1 122 = .ok (.iconst 2, 1) := by decide +kernel
theorem dX12_readBookLine_123 : decode mX12_readBookLine.2.1 123 = .ok (.iadd, 1) := by decide +kernel
theorem dX12_readBookLine_124 : decode mX12_readBookLine.2.1 124 = .ok (.iconst 0, 1) := by decide +kernel
theorem dX12_readBookLine_125 : decode mX12_readBookLine.2.1 125 = .ok (.iastore, 1) := by decide +kernel
theorem dX12_readBookLine_126 : decode mX12_readBookLine.2.1 126 = .ok (.aload_n 0, 1) := by decide +kernel
theorem dX12_readBookLine_127 : decode mX12_readBookLine.2.1 127 = .ok (.getfield 151, 3) := by decide +kernel
theorem dX12_readBookLine_130 : decode mX12_readBookLine.2.1 130 = .ok (.iload_n 2, 1) := by decide +kernel
theorem dX12_readBookLine_131 : decode mX12_readBookLine.2.1 131 = .ok (.iconst 3, 1) := by decide +kernel
theorem dX12_readBookLine_132 : decode mX12_readBookLine.2.1 132 = .ok (.iadd, 1) := by decide +kernel
theorem dX12_readBookLine_133 : decode mX12_readBookLine.2.1 133 = .ok (.iconst 0, 1) := by decide +kernel
theorem dX12_readBookLine_134 : decode mX12_readBookLine.2.1 134 = .ok (.iastore, 1) := by decide +kernel
theorem dX12_readBookLine_135 : decode mX12_readBookLine.2.1 135 = .ok (.aload_n 0, 1) := by decide +kernel
theorem dX12_readBookLine_136 : decode mX12_readBookLine.2.1 136 = .ok (.invokevirtual 82, 3) := by decide +kernel
theorem dX12_readBookLine_139 : decode mX12_readBookLine.2.1 139 = .ok (.iload_n 1, 1) := by decide +kernel
theorem dX12_readBookLine_140 : decode mX12_readBookLine.2.1 140 = .ok (.ifCond .eq 23, 3) := by decide +kernel
theorem dX12_readBookLine_143 : decode mX12_readBookLine.2.1 143 = .ok (.aload_n 0, 1) := by decide +kernel
theorem dX12_readBookLine_144 : decode mX12_readBookLine.2.1 144 = .ok (.iload_n 2, 1) := by decide +kernel
theorem dX12_readBookLine_145 : decode mX12_readBookLine.2.1 145 = .ok (.iconst 1, 1) := by decide +kernel
theorem dX12_readBookLine_146 : decode mX12_readBookLine.2.1 146 = .ok (.iadd, 1) := by decide +kernel
theorem dX12_readBookLine_147 : decode mX12_readBookLine.2.1 147 = .ok (.aload_n 0, 1) := by decide +kernel
theorem dX12_readBookLine_148 : decode mX12_readBookLine.2.1 148 = .ok (.iconst 1, 1) := by decide +kernel
theorem dX12_readBookLine_149 : decode mX12_readBookLine.2.1 149 = .ok (.bipush 60, 2) := by decide +kernel
theorem dX12_readBookLine_151 : decode mX12_readBookLine.2.1 151 = .ok (.invokevirtual 181, 3) := by decide +kernel
theorem dX12_readBookLine_154 : decode mX12_readBookLine.2.1 154 = .ok (.invokevirtual 399, 3) := by decide +kernel
theorem dX12_readBookLine_157 : decode mX12_readBookLine.2.1 157 = .ok (.ifCond .eq 25, 3) := by decide +kernel
theorem dX12_readBookLine_160 : decode mX12_readBookLine.2.1 160 = .ok (.goto 11, 3) := by decide +kernel
theorem dX12_readBookLine_163 : decode mX12_readBookLine.2.1 163 = .ok (.aload_n 0, 1) := by decide +kernel
theorem dX12_readBookLine_164 : decode mX12_readBookLine.2.1 164 = .ok (.iload_n 2, 1) := by decide +kernel
theorem dX12_readBookLine_165 : decode mX12_readBookLine.2.1 165 = .ok (.invokevirtual 408, 3) := by decide +kernel
theorem dX12_readBookLine_168 : decode mX12_readBookLine.2.1 168 = .ok (.ifCond .eq 14, 3) := by decide +kernel
theorem dX12_readBookLine_171 : decode mX12_readBookLine.2.1 171 = .ok (.aload_n 0, 1) := by decide +kernel
theorem dX12_readBookLine_172 : decode mX12_readBookLine.2.1 172 = .ok (.invokevirtual 226, 3) := by decide +kernel
theorem dX12_readBookLine_175 : decode mX12_readBookLine.2.1 175 = .ok (.ifCond .eq 7, 3) := by decide +kernel
theorem dX12_readBookLine_178 : decode mX12_readBookLine.2.1 178 = .ok (.iconst 1, 1) := by decide +kernel
theorem dX12_readBookLine_179 : decode mX12_readBookLine.2.1 179 = .ok (.goto 4, 3) := by decide +kernel
theorem dX12_readBookLine_182 : decode mX12_readBookLine.2.1 182 = .ok (.iconst 0, 1) := by decide +kernel
theorem dX12_readBookLine_183 : decode mX12_readBookLine.2.1 183 = .ok (.ireturn, 1) := by decide +kernel
set_option maxRecDepth 4000 in
theorem ev_X12_readBookLine {m : Mem} {G : Mem} {t : Int → Int} {kw : Int → Int} {n : Int} {lim : Int} {i : Int} {l : Int} (htm : TM G t kw n lim m i) (hb : Bg G 8 18 (m 216)) (hdn : DnOk G 8) (hnm : NmR G 8 (m 221)) (hl : m 214 41 = l ∧ G 70 11 = l) (hl0 : 0 ≤ l ∧ l ≤ 40) : Ev 0 6 mX12_readBookLine [vr 214] m (fun r m' => BlP G t kw n lim m m' l i r) := by
  refine Ev.of (L := [vr 214, un, un]) (by decide +kernel) rfl (Nat.le_of_ble_eq_true rfl) rfl (fun t ht => by cases ht; first | exact Or.inl rfl | exact Or.inr (Or.inl rfl) | exact Or.inr (Or.inr rfl)) (fun hcan => ?_)
  obtain ⟨⟨hd0, hd1⟩, ⟨hd2, hd3⟩, ⟨hd4, hd5⟩, ⟨hd6, hd7⟩, ⟨hd8, hd9⟩, hdf, hdp, hdq⟩ := id hdn
  refine go_aload_n dX12_readBookLine_0 rfl ?_
  refine go_bipush dX12_readBookLine_1 (by decide) ?_
  refine go_callVp_z (as := [vi 8]) (S := []) (b := 214) (ev_X12_isWord (m := m) (k := 8) (G := G) (t := t) (kw := kw) (n := n) (lim := lim) (i := i) htm (by first | assumption | omega | exact ⟨by omega, by omega⟩ | (constructor <;> omega))) rfl dX12_readBookLine_3 cv_12_202 rfl rfl ob_214 rfl (by decide) (Nat.le_of_ble_eq_true rfl) (fun r_3 hr_3 ho_3 => ?_)
  refine go_istore_n (L' := [vr 214, vi r_3, un]) dX12_readBookLine_6 (by decide) rfl rfl ?_
  refine go_iload_n dX12_readBookLine_7 rfl ?_
  refine go_if_ne (tgt := 53) dX12_readBookLine_8 (by decide) ⟨by omega, by omega⟩ (fun h_8 => ?_) (fun h_8 => ?_)
  · refine go_aload_n dX12_readBookLine_53 rfl ?_
    refine go_getf_i (ki := 41) dX12_readBookLine_54 fl_12_405 ob_214 rfl rfl (fun hf_54 => ?_)
    rw [show (m 214 41 : Int) = l from hl.1] at hf_54 ⊢
    refine go_bipush dX12_readBookLine_57 (by decide) ?_
    refine go_icmp_ne (tgt := 68) dX12_readBookLine_59 (by decide) ⟨by omega, by omega⟩ ⟨by omega, by omega⟩ (fun h_59 => ?_) (fun h_59 => ?_)
    · refine go_iconst dX12_readBookLine_68 ?_
      refine go_aload_n dX12_readBookLine_69 rfl ?_
      refine go_getf_i (ki := 41) dX12_readBookLine_70 fl_12_405 ob_214 rfl rfl (fun hf_70 => ?_)
      rw [show (m 214 41 : Int) = l from hl.1] at hf_70 ⊢
      refine go_imul dX12_readBookLine_73 ?_
      refine go_istore_n (L' := [vr 214, vi r_3, vi (4 * l)]) dX12_readBookLine_74 (by decide) rfl rfl ?_
      refine go_aload_n dX12_readBookLine_75 rfl ?_
      refine go_getf_p (b := 232) dX12_readBookLine_76 fl_12_151 ob_214 rfl pt_214_39 ?_
      refine go_iload_n dX12_readBookLine_79 rfl ?_
      refine go_iconst dX12_readBookLine_80 ?_
      refine go_iastore dX12_readBookLine_81 ar_232 (by omega) (by omega) ⟨by omega, by omega⟩ ?_
      refine go_aload_n dX12_readBookLine_82 rfl ?_
      refine go_getf_p (b := 232) dX12_readBookLine_83 fl_12_151 ob_214 rfl pt_214_39 ?_
      refine go_iload_n dX12_readBookLine_86 rfl ?_
      refine go_iconst dX12_readBookLine_87 ?_
      refine go_iadd dX12_readBookLine_88 ?_
      refine go_iload_n dX12_readBookLine_89 rfl ?_
      refine go_if_eq (tgt := 97) dX12_readBookLine_90 (by decide) ⟨by omega, by omega⟩ (fun h_90 => ?_) (fun h_90 => ?_)
      · exfalso; omega
      · refine go_iconst dX12_readBookLine_93 ?_
        refine go_goto (tgt := 116) dX12_readBookLine_94 (by decide) ?_
        refine go_iastore dX12_readBookLine_116 ar_232 (by omega) (by omega) ⟨by omega, by omega⟩ ?_
        refine go_aload_n dX12_readBookLine_117 rfl ?_
        refine go_getf_p (b := 232) dX12_readBookLine_118 fl_12_151 ob_214 rfl pt_214_39 ?_
        refine go_iload_n dX12_readBookLine_121 rfl ?_
        refine go_iconst dX12_readBookLine_122 ?_
        refine go_iadd dX12_readBookLine_123 ?_
        refine go_iconst dX12_readBookLine_124 ?_
        refine go_iastore dX12_readBookLine_125 ar_232 (by omega) (by omega) ⟨by omega, by omega⟩ ?_
        refine go_aload_n dX12_readBookLine_126 rfl ?_
        refine go_getf_p (b := 232) dX12_readBookLine_127 fl_12_151 ob_214 rfl pt_214_39 ?_
        refine go_iload_n dX12_readBookLine_130 rfl ?_
        refine go_iconst dX12_readBookLine_131 ?_
        refine go_iadd dX12_readBookLine_132 ?_
        refine go_iconst dX12_readBookLine_133 ?_
        refine go_iastore dX12_readBookLine_134 ar_232 (by omega) (by omega) ⟨by omega, by omega⟩ ?_
        refine go_aload_n dX12_readBookLine_135 rfl ?_
        refine go_callV_v (as := []) (S := []) (b := 214) (ev_X12_go (m := (wr (wr (wr (wr m 232 (4 * l) 3) 232 ((4 * l) + 1) 0) 232 ((4 * l) + 2) 0) 232 ((4 * l) + 3) 0)) (G := G) (t := t) (kw := kw) (n := n) (lim := lim) (i := (i + 1)) (((((htm.nx (by omega)).w (by decide) (by omega)).w (by decide) (by omega)).w (by decide) (by omega)).w (by decide) (by omega))) rfl dX12_readBookLine_136 cv_12_82 rfl rfl ob_214 rfl (by decide) (Nat.le_of_ble_eq_true rfl) (fun m_136 hr_136 => ?_)
        have b136 : Bx m m_136 (4 * l) := ((((Bx.rf.w (by omega) (by omega)).w (by omega) (by omega)).w (by omega) (by omega)).w (by omega) (by omega)).tr hr_136.1.l.b
        have f136 : m_136 214 10 = m 214 10 := by rw [hr_136.1.2 10 (by decide) (by decide) (by decide) (by decide) (by decide) (by decide), wr_na (by decide), wr_na (by decide), wr_na (by decide), wr_na (by decide)]
        have l136 := hr_136.1.1 232 (by decide)
        refine go_iload_n dX12_readBookLine_139 rfl ?_
        refine go_if_eq (tgt := 163) dX12_readBookLine_140 (by decide) ⟨by omega, by omega⟩ (fun h_140 => ?_) (fun h_140 => ?_)
        · exfalso; omega
        · refine go_aload_n dX12_readBookLine_143 rfl ?_
          refine go_iload_n dX12_readBookLine_144 rfl ?_
          refine go_iconst dX12_readBookLine_145 ?_
          refine go_iadd dX12_readBookLine_146 ?_
          refine go_aload_n dX12_readBookLine_147 rfl ?_
          refine go_iconst dX12_readBookLine_148 ?_
          refine go_bipush dX12_readBookLine_149 (by decide) ?_
          refine go_callV_z (as := [vi 1, vi 60]) (S := [vi ((4 * l) + 1), vr 214]) (b := 214) (ev_X12_readNumber (m := m_136) (lo := 1) (hi := 60) (G := G) (t := t) (kw := kw) (n := n) (lim := lim) (i := (i + 1)) hr_136.2 (by first | assumption | omega | exact ⟨by omega, by omega⟩ | (constructor <;> omega)) (by first | assumption | omega | exact ⟨by omega, by omega⟩ | (constructor <;> omega))) rfl dX12_readBookLine_151 cv_12_181 rfl rfl ob_214 rfl (by decide) (Nat.le_of_ble_eq_true rfl) (fun r_151 m_151 hr_151 ho_151 => ?_)
          rcases hr_151 with ⟨f_151, e_151, ok_151, v_151⟩ | ⟨f_151, e_151, no_151⟩
          · refine go_callV_z (as := [vi ((4 * l) + 1), vi r_151]) (S := []) (b := 214) (ev_X12_keep (m := m_151) (k := ((4 * l) + 1)) (g := r_151) (by omega) (by first | assumption | omega | exact ⟨by omega, by omega⟩ | (constructor <;> omega))) rfl dX12_readBookLine_154 cv_12_399 rfl rfl ob_214 rfl (by decide) (Nat.le_of_ble_eq_true rfl) (fun r_154 m_154 hr_154 ho_154 => ?_)
            obtain ⟨e_154, hm_154⟩ := hr_154
            first | rw [if_pos e_151] at hm_154 | rw [if_neg (by omega)] at hm_154
            refine go_if_eq (tgt := 182) dX12_readBookLine_157 (by decide) ⟨by omega, by omega⟩ (fun h_157 => ?_) (fun h_157 => ?_)
            · exfalso; omega
            · refine go_goto (tgt := 171) dX12_readBookLine_160 (by decide) ?_
              refine go_aload_n dX12_readBookLine_171 rfl ?_
              refine go_callV_z (as := []) (S := []) (b := 214) (ev_X12_readEnd (m := m_154) (G := G) (t := t) (kw := kw) (n := n) (lim := lim) (i := (i + 1 + 1)) (by rw [hm_154]; exact ok_151.2.2.w (by decide) (by omega))) rfl dX12_readBookLine_172 cv_12_226 rfl rfl ob_214 rfl (by decide) (Nat.le_of_ble_eq_true rfl) (fun r_172 m_172 hr_172 ho_172 => ?_)
              rcases hr_172 with ⟨f_172, e_172, ok_172⟩ | ⟨f_172, e_172, no_172⟩
              · refine go_if_eq (tgt := 182) dX12_readBookLine_175 (by decide) ⟨by omega, by omega⟩ (fun h_175 => ?_) (fun h_175 => ?_)
                · exfalso; omega
                · refine go_iconst dX12_readBookLine_178 ?_
                  refine go_goto (tgt := 183) dX12_readBookLine_179 (by decide) ?_
                  refine go_ret (v := 1) rfl dX12_readBookLine_183 (okZ (by first | exact Or.inl rfl | exact Or.inr rfl | assumption | omega)) ?_
                  rw [BlP]
                  first
                  | (rw [bkF_h (by omega) (by omega)]
                     first
                     | (rw [if_pos f_151]
                        exact ⟨b136.tr (by rw [hm_154]; exact no_151.1.b), Or.inr ⟨rfl, by rw [hm_154]; exact no_151.2.2, Or.inl ⟨f_151, by rw [hm_154]; exact no_151.2.1⟩⟩⟩)
                     | (rw [if_neg (fun z => z f_151)]
                        have k154 : Bx m m_154 (4 * l) := b136.tr (ok_151.1.b.tr (by rw [hm_154]; exact Bx.rf.w (by omega) (by omega)))
                        have f154 : m_154 214 10 = m 214 10 := by rw [hm_154, wr_na (by decide), ok_151.2.1]; exact f136
                        first
                        | exact ⟨k154.tr no_172.1.b, Or.inr ⟨rfl, no_172.2.2, Or.inr ⟨rfl, f_172, no_172.2.1⟩⟩⟩
                        | (refine ⟨k154.tr ok_172.1.b, Or.inl ⟨rfl, f_172, rfl, ok_172.2.1.trans f154, ok_172.2.2, LnR_h (by omega) hl.2 ?_ ?_⟩⟩
                           · rw [ok_172.1.1 232 (by decide), hm_154, wr_ni (by omega), ok_151.1.1 232 (by decide), l136, wr_ni (by omega), wr_ni (by omega), wr_ni (by omega), wr_self]
                           · rw [ok_172.1.1 232 (by decide), hm_154, wr_self]; exact v_151)))
                  | (rw [bkF_p hK3 (by omega) (by omega)]
                     first
                     | exact ⟨b136.tr b_165, Or.inr ⟨rfl, no_165.2, Or.inl ⟨f_165, no_165.1⟩⟩⟩
                     | (have k165 : Bx m m_165 (4 * l) := b136.tr b_165
                        first
                        | exact ⟨k165.tr no_172.1.b, Or.inr ⟨rfl, no_172.2.2, Or.inr ⟨f_165, f_172, no_172.2.1⟩⟩⟩
                        | (refine ⟨k165.tr ok_172.1.b, Or.inl ⟨f_165, f_172, rfl, by rw [ok_172.2.1, ok_165.1]; exact f136, ok_172.2.2, LnR_p hK3 hl.2 ?_ ?_⟩⟩
                           · rw [ok_172.1.1 232 (by decide)]; exact ok_165.2.2.2
                           · rw [ok_172.1.1 232 (by decide), ok_165.2.2.1, l136, wr_ni (by omega), wr_ni (by omega), wr_self]; exact hr_113)))
              · refine go_if_eq (tgt := 182) dX12_readBookLine_175 (by decide) ⟨by omega, by omega⟩ (fun h_175 => ?_) (fun h_175 => ?_)
                · refine go_iconst dX12_readBookLine_182 ?_
                  refine go_ret (v := 0) rfl dX12_readBookLine_183 (okZ (by first | exact Or.inl rfl | exact Or.inr rfl | assumption | omega)) ?_
                  rw [BlP]
                  first
                  | (rw [bkF_h (by omega) (by omega)]
                     first
                     | (rw [if_pos f_151]
                        exact ⟨b136.tr (by rw [hm_154]; exact no_151.1.b), Or.inr ⟨rfl, by rw [hm_154]; exact no_151.2.2, Or.inl ⟨f_151, by rw [hm_154]; exact no_151.2.1⟩⟩⟩)
                     | (rw [if_neg (fun z => z f_151)]
                        have k154 : Bx m m_154 (4 * l) := b136.tr (ok_151.1.b.tr (by rw [hm_154]; exact Bx.rf.w (by omega) (by omega)))
                        have f154 : m_154 214 10 = m 214 10 := by rw [hm_154, wr_na (by decide), ok_151.2.1]; exact f136
                        first
                        | exact ⟨k154.tr no_172.1.b, Or.inr ⟨rfl, no_172.2.2, Or.inr ⟨rfl, f_172, no_172.2.1⟩⟩⟩
                        | (refine ⟨k154.tr ok_172.1.b, Or.inl ⟨rfl, f_172, rfl, ok_172.2.1.trans f154, ok_172.2.2, LnR_h (by omega) hl.2 ?_ ?_⟩⟩
                           · rw [ok_172.1.1 232 (by decide), hm_154, wr_ni (by omega), ok_151.1.1 232 (by decide), l136, wr_ni (by omega), wr_ni (by omega), wr_ni (by omega), wr_self]
                           · rw [ok_172.1.1 232 (by decide), hm_154, wr_self]; exact v_151)))
                  | (rw [bkF_p hK3 (by omega) (by omega)]
                     first
                     | exact ⟨b136.tr b_165, Or.inr ⟨rfl, no_165.2, Or.inl ⟨f_165, no_165.1⟩⟩⟩
                     | (have k165 : Bx m m_165 (4 * l) := b136.tr b_165
                        first
                        | exact ⟨k165.tr no_172.1.b, Or.inr ⟨rfl, no_172.2.2, Or.inr ⟨f_165, f_172, no_172.2.1⟩⟩⟩
                        | (refine ⟨k165.tr ok_172.1.b, Or.inl ⟨f_165, f_172, rfl, by rw [ok_172.2.1, ok_165.1]; exact f136, ok_172.2.2, LnR_p hK3 hl.2 ?_ ?_⟩⟩
                           · rw [ok_172.1.1 232 (by decide)]; exact ok_165.2.2.2
                           · rw [ok_172.1.1 232 (by decide), ok_165.2.2.1, l136, wr_ni (by omega), wr_ni (by omega), wr_self]; exact hr_113)))
                · exfalso; omega
          · refine go_callV_z (as := [vi ((4 * l) + 1), vi r_151]) (S := []) (b := 214) (ev_X12_keep (m := m_151) (k := ((4 * l) + 1)) (g := r_151) (by omega) (by first | assumption | omega | exact ⟨by omega, by omega⟩ | (constructor <;> omega))) rfl dX12_readBookLine_154 cv_12_399 rfl rfl ob_214 rfl (by decide) (Nat.le_of_ble_eq_true rfl) (fun r_154 m_154 hr_154 ho_154 => ?_)
            obtain ⟨e_154, hm_154⟩ := hr_154
            first | rw [if_pos e_151] at hm_154 | rw [if_neg (by omega)] at hm_154
            refine go_if_eq (tgt := 182) dX12_readBookLine_157 (by decide) ⟨by omega, by omega⟩ (fun h_157 => ?_) (fun h_157 => ?_)
            · refine go_iconst dX12_readBookLine_182 ?_
              refine go_ret (v := 0) rfl dX12_readBookLine_183 (okZ (by first | exact Or.inl rfl | exact Or.inr rfl | assumption | omega)) ?_
              rw [BlP]
              first
              | (rw [bkF_h (by omega) (by omega)]
                 first
                 | (rw [if_pos f_151]
                    exact ⟨b136.tr (by rw [hm_154]; exact no_151.1.b), Or.inr ⟨rfl, by rw [hm_154]; exact no_151.2.2, Or.inl ⟨f_151, by rw [hm_154]; exact no_151.2.1⟩⟩⟩)
                 | (rw [if_neg (fun z => z f_151)]
                    have k154 : Bx m m_154 (4 * l) := b136.tr (ok_151.1.b.tr (by rw [hm_154]; exact Bx.rf.w (by omega) (by omega)))
                    have f154 : m_154 214 10 = m 214 10 := by rw [hm_154, wr_na (by decide), ok_151.2.1]; exact f136
                    first
                    | exact ⟨k154.tr no_172.1.b, Or.inr ⟨rfl, no_172.2.2, Or.inr ⟨rfl, f_172, no_172.2.1⟩⟩⟩
                    | (refine ⟨k154.tr ok_172.1.b, Or.inl ⟨rfl, f_172, rfl, ok_172.2.1.trans f154, ok_172.2.2, LnR_h (by omega) hl.2 ?_ ?_⟩⟩
                       · rw [ok_172.1.1 232 (by decide), hm_154, wr_ni (by omega), ok_151.1.1 232 (by decide), l136, wr_ni (by omega), wr_ni (by omega), wr_ni (by omega), wr_self]
                       · rw [ok_172.1.1 232 (by decide), hm_154, wr_self]; exact v_151)))
              | (rw [bkF_p hK3 (by omega) (by omega)]
                 first
                 | exact ⟨b136.tr b_165, Or.inr ⟨rfl, no_165.2, Or.inl ⟨f_165, no_165.1⟩⟩⟩
                 | (have k165 : Bx m m_165 (4 * l) := b136.tr b_165
                    first
                    | exact ⟨k165.tr no_172.1.b, Or.inr ⟨rfl, no_172.2.2, Or.inr ⟨f_165, f_172, no_172.2.1⟩⟩⟩
                    | (refine ⟨k165.tr ok_172.1.b, Or.inl ⟨f_165, f_172, rfl, by rw [ok_172.2.1, ok_165.1]; exact f136, ok_172.2.2, LnR_p hK3 hl.2 ?_ ?_⟩⟩
                       · rw [ok_172.1.1 232 (by decide)]; exact ok_165.2.2.2
                       · rw [ok_172.1.1 232 (by decide), ok_165.2.2.1, l136, wr_ni (by omega), wr_ni (by omega), wr_self]; exact hr_113)))
            · exfalso; omega
    · refine go_aload_n dX12_readBookLine_62 rfl ?_
      refine go_iconst dX12_readBookLine_63 ?_
      refine go_callV_z (as := [vi 4]) (S := []) (b := 214) (ev_X12_bad (m := m) (k := 4) (G := G) (t := t) (kw := kw) (n := n) (lim := lim) (i := i) htm (by first | assumption | omega | exact ⟨by omega, by omega⟩ | (constructor <;> omega))) rfl dX12_readBookLine_64 cv_12_72 rfl rfl ob_214 rfl (by decide) (Nat.le_of_ble_eq_true rfl) (fun r_64 m_64 hr_64 ho_64 => ?_)
      refine go_ret (v := r_64) rfl dX12_readBookLine_67 (okZ (by first | exact Or.inl rfl | exact Or.inr rfl | assumption | omega)) ?_
      have hq : bkF G (i + 1) = (4, i) := by unfold bkF; rw [show i + 1 - 1 = i by omega, if_neg (by omega), if_neg (by omega), if_pos (by omega)]
      have z := NoT.b (G := G) (m := m) (m' := m_64) (f := 4) (i := i) (by rw [hr_64.2]; rw [if_neg (by omega)])
      rw [BlP, hq]
      exact ⟨z.1.b, Or.inr ⟨hr_64.1, z.2.2, Or.inl ⟨(show (4 : Int) ≠ 0 by decide), z.2.1⟩⟩⟩
  · refine go_aload_n dX12_readBookLine_11 rfl ?_
    refine go_callVp_z (as := []) (S := []) (b := 214) (ev_X12_isName (m := m) (G := G) (t := t) (kw := kw) (n := n) (lim := lim) (i := i) htm) rfl dX12_readBookLine_12 cv_12_166 rfl rfl ob_214 rfl (by decide) (Nat.le_of_ble_eq_true rfl) (fun r_12 hr_12 ho_12 => ?_)
    refine go_if_ne (tgt := 24) dX12_readBookLine_15 (by decide) ⟨by omega, by omega⟩ (fun h_15 => ?_) (fun h_15 => ?_)
    · have hK3 : G 4 i = 3 := by omega
      have hwd := htm.wd3 hK3
      refine go_aload_n dX12_readBookLine_24 rfl ?_
      refine go_getf_p (b := 221) dX12_readBookLine_25 fl_12_113 ob_214 rfl pt_214_19 ?_
      refine go_bipush dX12_readBookLine_28 (by decide) ?_
      refine go_aload_n dX12_readBookLine_30 rfl ?_
      refine go_getf_p (b := 216) dX12_readBookLine_31 fl_12_98 ob_214 rfl pt_214_14 ?_
      refine go_iconst dX12_readBookLine_34 ?_
      refine go_iaload dX12_readBookLine_35 ar_216 (by omega) (by omega) (fun he_35 => ?_)
      rw [show (m 216 3 : Int) = (G 8 3) from hb.n3] at he_35 ⊢
      refine go_aload_n dX12_readBookLine_36 rfl ?_
      refine go_getf_l (ki := 12) dX12_readBookLine_37 fl_12_43 ob_214 rfl rfl (fun hf_37 => ?_)
      refine go_callSp_i (as := [vr 221, vi 6, vi (G 8 3), vl (m 214 12)]) (S := []) (ev_X12_findIn (m := m) (a := 221) (b := 6) (c := (G 8 3)) (w := (m 214 12)) ar_221 (by first | assumption | omega | exact ⟨by omega, by omega⟩ | (constructor <;> omega)) hf_37) rfl dX12_readBookLine_40 cs_12_170 rfl rfl (by decide) (Nat.le_of_ble_eq_true rfl) (fun r_40 hr_40 ho_40 => ?_)
      rw [nm_fnd hwd hnm.2.1] at hr_40
      have hnb := nameAt_b G (8 + 4) (G 6 i) (G 8 3)
      refine go_iconst dX12_readBookLine_43 ?_
      refine go_icmp_ne (tgt := 53) dX12_readBookLine_44 (by decide) ⟨by omega, by omega⟩ ⟨by omega, by omega⟩ (fun h_44 => ?_) (fun h_44 => ?_)
      · refine go_aload_n dX12_readBookLine_53 rfl ?_
        refine go_getf_i (ki := 41) dX12_readBookLine_54 fl_12_405 ob_214 rfl rfl (fun hf_54 => ?_)
        rw [show (m 214 41 : Int) = l from hl.1] at hf_54 ⊢
        refine go_bipush dX12_readBookLine_57 (by decide) ?_
        refine go_icmp_ne (tgt := 68) dX12_readBookLine_59 (by decide) ⟨by omega, by omega⟩ ⟨by omega, by omega⟩ (fun h_59 => ?_) (fun h_59 => ?_)
        · refine go_iconst dX12_readBookLine_68 ?_
          refine go_aload_n dX12_readBookLine_69 rfl ?_
          refine go_getf_i (ki := 41) dX12_readBookLine_70 fl_12_405 ob_214 rfl rfl (fun hf_70 => ?_)
          rw [show (m 214 41 : Int) = l from hl.1] at hf_70 ⊢
          refine go_imul dX12_readBookLine_73 ?_
          refine go_istore_n (L' := [vr 214, vi r_3, vi (4 * l)]) dX12_readBookLine_74 (by decide) rfl rfl ?_
          refine go_aload_n dX12_readBookLine_75 rfl ?_
          refine go_getf_p (b := 232) dX12_readBookLine_76 fl_12_151 ob_214 rfl pt_214_39 ?_
          refine go_iload_n dX12_readBookLine_79 rfl ?_
          refine go_iconst dX12_readBookLine_80 ?_
          refine go_iastore dX12_readBookLine_81 ar_232 (by omega) (by omega) ⟨by omega, by omega⟩ ?_
          refine go_aload_n dX12_readBookLine_82 rfl ?_
          refine go_getf_p (b := 232) dX12_readBookLine_83 fl_12_151 ob_214 rfl pt_214_39 ?_
          refine go_iload_n dX12_readBookLine_86 rfl ?_
          refine go_iconst dX12_readBookLine_87 ?_
          refine go_iadd dX12_readBookLine_88 ?_
          refine go_iload_n dX12_readBookLine_89 rfl ?_
          refine go_if_eq (tgt := 97) dX12_readBookLine_90 (by decide) ⟨by omega, by omega⟩ (fun h_90 => ?_) (fun h_90 => ?_)
          · refine go_aload_n dX12_readBookLine_97 rfl ?_
            refine go_getf_p (b := 221) dX12_readBookLine_98 fl_12_113 ob_214 rfl pt_214_19 ?_
            refine go_bipush dX12_readBookLine_101 (by decide) ?_
            refine go_aload_n dX12_readBookLine_103 rfl ?_
            refine go_getf_p (b := 216) dX12_readBookLine_104 fl_12_98 ob_214 rfl pt_214_14 ?_
            refine go_iconst dX12_readBookLine_107 ?_
            refine go_iaload dX12_readBookLine_108 ar_216 (by omega) (by omega) (fun he_108 => ?_)
            rw [show ((wr m 232 (4 * l) 3) 216 3 : Int) = (G 8 3) from by rw [wr_na (by decide)]; exact hb.n3] at he_108 ⊢
            refine go_aload_n dX12_readBookLine_109 rfl ?_
            refine go_getf_l (ki := 12) dX12_readBookLine_110 fl_12_43 ob_214 rfl rfl (fun hf_110 => ?_)
            rw [show ((wr m 232 (4 * l) 3) 214 12 : Int) = (m 214 12) from wr_na (by decide)] at hf_110 ⊢
            refine go_callSp_i (as := [vr 221, vi 6, vi (G 8 3), vl (m 214 12)]) (S := [vi ((4 * l) + 1), vr 232]) (ev_X12_findIn (m := (wr m 232 (4 * l) 3)) (a := 221) (b := 6) (c := (G 8 3)) (w := (m 214 12)) ar_221 (by first | assumption | omega | exact ⟨by omega, by omega⟩ | (constructor <;> omega)) hf_110) rfl dX12_readBookLine_113 cs_12_170 rfl rfl (by decide) (Nat.le_of_ble_eq_true rfl) (fun r_113 hr_113 ho_113 => ?_)
            rw [show (wr m 232 (4 * l) 3) 221 = m 221 from wr_row (by decide)] at hr_113
            rw [nm_fnd hwd hnm.2.1] at hr_113
            refine go_iastore dX12_readBookLine_116 ar_232 (by omega) (by omega) ⟨by omega, by omega⟩ ?_
            refine go_aload_n dX12_readBookLine_117 rfl ?_
            refine go_getf_p (b := 232) dX12_readBookLine_118 fl_12_151 ob_214 rfl pt_214_39 ?_
            refine go_iload_n dX12_readBookLine_121 rfl ?_
            refine go_iconst dX12_readBookLine_122 ?_
            refine go_iadd dX12_readBookLine_123 ?_
            refine go_iconst dX12_readBookLine_124 ?_
            refine go_iastore dX12_readBookLine_125 ar_232 (by omega) (by omega) ⟨by omega, by omega⟩ ?_
            refine go_aload_n dX12_readBookLine_126 rfl ?_
            refine go_getf_p (b := 232) dX12_readBookLine_127 fl_12_151 ob_214 rfl pt_214_39 ?_
            refine go_iload_n dX12_readBookLine_130 rfl ?_
            refine go_iconst dX12_readBookLine_131 ?_
            refine go_iadd dX12_readBookLine_132 ?_
            refine go_iconst dX12_readBookLine_133 ?_
            refine go_iastore dX12_readBookLine_134 ar_232 (by omega) (by omega) ⟨by omega, by omega⟩ ?_
            refine go_aload_n dX12_readBookLine_135 rfl ?_
            refine go_callV_v (as := []) (S := []) (b := 214) (ev_X12_go (m := (wr (wr (wr (wr m 232 (4 * l) 3) 232 ((4 * l) + 1) r_113) 232 ((4 * l) + 2) 0) 232 ((4 * l) + 3) 0)) (G := G) (t := t) (kw := kw) (n := n) (lim := lim) (i := (i + 1)) (((((htm.nx (by omega)).w (by decide) (by omega)).w (by decide) (by omega)).w (by decide) (by omega)).w (by decide) (by omega))) rfl dX12_readBookLine_136 cv_12_82 rfl rfl ob_214 rfl (by decide) (Nat.le_of_ble_eq_true rfl) (fun m_136 hr_136 => ?_)
            have b136 : Bx m m_136 (4 * l) := ((((Bx.rf.w (by omega) (by omega)).w (by omega) (by omega)).w (by omega) (by omega)).w (by omega) (by omega)).tr hr_136.1.l.b
            have f136 : m_136 214 10 = m 214 10 := by rw [hr_136.1.2 10 (by decide) (by decide) (by decide) (by decide) (by decide) (by decide), wr_na (by decide), wr_na (by decide), wr_na (by decide), wr_na (by decide)]
            have l136 := hr_136.1.1 232 (by decide)
            refine go_iload_n dX12_readBookLine_139 rfl ?_
            refine go_if_eq (tgt := 163) dX12_readBookLine_140 (by decide) ⟨by omega, by omega⟩ (fun h_140 => ?_) (fun h_140 => ?_)
            · refine go_aload_n dX12_readBookLine_163 rfl ?_
              refine go_iload_n dX12_readBookLine_164 rfl ?_
              refine go_callV_z (as := [vi (4 * l)]) (S := []) (b := 214) (ev_X12_readDoes (m := m_136) (p := (4 * l)) (G := G) (t := t) (kw := kw) (n := n) (lim := lim) (i := (i + 1)) hr_136.2 (by rw [b136.1 216 (by decide) (by decide)]; exact hb) (by first | assumption | omega | exact ⟨by omega, by omega⟩ | (constructor <;> omega)) (by rw [b136.1 221 (by decide) (by decide)]; exact hnm) (by omega)) rfl dX12_readBookLine_165 cv_12_408 rfl rfl ob_214 rfl (by decide) (Nat.le_of_ble_eq_true rfl) (fun r_165 m_165 hr_165 ho_165 => ?_)
              obtain ⟨b_165, hr_165⟩ := hr_165
              rcases hr_165 with ⟨f_165, e_165, ok_165⟩ | ⟨f_165, e_165, no_165⟩
              · refine go_if_eq (tgt := 182) dX12_readBookLine_168 (by decide) ⟨by omega, by omega⟩ (fun h_168 => ?_) (fun h_168 => ?_)
                · exfalso; omega
                · refine go_aload_n dX12_readBookLine_171 rfl ?_
                  refine go_callV_z (as := []) (S := []) (b := 214) (ev_X12_readEnd (m := m_165) (G := G) (t := t) (kw := kw) (n := n) (lim := lim) (i := (deF G (i + 1)).2) ok_165.2.1) rfl dX12_readBookLine_172 cv_12_226 rfl rfl ob_214 rfl (by decide) (Nat.le_of_ble_eq_true rfl) (fun r_172 m_172 hr_172 ho_172 => ?_)
                  rcases hr_172 with ⟨f_172, e_172, ok_172⟩ | ⟨f_172, e_172, no_172⟩
                  · refine go_if_eq (tgt := 182) dX12_readBookLine_175 (by decide) ⟨by omega, by omega⟩ (fun h_175 => ?_) (fun h_175 => ?_)
                    · exfalso; omega
                    · refine go_iconst dX12_readBookLine_178 ?_
                      refine go_goto (tgt := 183) dX12_readBookLine_179 (by decide) ?_
                      refine go_ret (v := 1) rfl dX12_readBookLine_183 (okZ (by first | exact Or.inl rfl | exact Or.inr rfl | assumption | omega)) ?_
                      rw [BlP]
                      first
                      | (rw [bkF_h (by omega) (by omega)]
                         first
                         | (rw [if_pos f_151]
                            exact ⟨b136.tr (by rw [hm_154]; exact no_151.1.b), Or.inr ⟨rfl, by rw [hm_154]; exact no_151.2.2, Or.inl ⟨f_151, by rw [hm_154]; exact no_151.2.1⟩⟩⟩)
                         | (rw [if_neg (fun z => z f_151)]
                            have k154 : Bx m m_154 (4 * l) := b136.tr (ok_151.1.b.tr (by rw [hm_154]; exact Bx.rf.w (by omega) (by omega)))
                            have f154 : m_154 214 10 = m 214 10 := by rw [hm_154, wr_na (by decide), ok_151.2.1]; exact f136
                            first
                            | exact ⟨k154.tr no_172.1.b, Or.inr ⟨rfl, no_172.2.2, Or.inr ⟨rfl, f_172, no_172.2.1⟩⟩⟩
                            | (refine ⟨k154.tr ok_172.1.b, Or.inl ⟨rfl, f_172, rfl, ok_172.2.1.trans f154, ok_172.2.2, LnR_h (by omega) hl.2 ?_ ?_⟩⟩
                               · rw [ok_172.1.1 232 (by decide), hm_154, wr_ni (by omega), ok_151.1.1 232 (by decide), l136, wr_ni (by omega), wr_ni (by omega), wr_ni (by omega), wr_self]
                               · rw [ok_172.1.1 232 (by decide), hm_154, wr_self]; exact v_151)))
                      | (rw [bkF_p hK3 (by omega) (by omega)]
                         first
                         | exact ⟨b136.tr b_165, Or.inr ⟨rfl, no_165.2, Or.inl ⟨f_165, no_165.1⟩⟩⟩
                         | (have k165 : Bx m m_165 (4 * l) := b136.tr b_165
                            first
                            | exact ⟨k165.tr no_172.1.b, Or.inr ⟨rfl, no_172.2.2, Or.inr ⟨f_165, f_172, no_172.2.1⟩⟩⟩
                            | (refine ⟨k165.tr ok_172.1.b, Or.inl ⟨f_165, f_172, rfl, by rw [ok_172.2.1, ok_165.1]; exact f136, ok_172.2.2, LnR_p hK3 hl.2 ?_ ?_⟩⟩
                               · rw [ok_172.1.1 232 (by decide)]; exact ok_165.2.2.2
                               · rw [ok_172.1.1 232 (by decide), ok_165.2.2.1, l136, wr_ni (by omega), wr_ni (by omega), wr_self]; exact hr_113)))
                  · refine go_if_eq (tgt := 182) dX12_readBookLine_175 (by decide) ⟨by omega, by omega⟩ (fun h_175 => ?_) (fun h_175 => ?_)
                    · refine go_iconst dX12_readBookLine_182 ?_
                      refine go_ret (v := 0) rfl dX12_readBookLine_183 (okZ (by first | exact Or.inl rfl | exact Or.inr rfl | assumption | omega)) ?_
                      rw [BlP]
                      first
                      | (rw [bkF_h (by omega) (by omega)]
                         first
                         | (rw [if_pos f_151]
                            exact ⟨b136.tr (by rw [hm_154]; exact no_151.1.b), Or.inr ⟨rfl, by rw [hm_154]; exact no_151.2.2, Or.inl ⟨f_151, by rw [hm_154]; exact no_151.2.1⟩⟩⟩)
                         | (rw [if_neg (fun z => z f_151)]
                            have k154 : Bx m m_154 (4 * l) := b136.tr (ok_151.1.b.tr (by rw [hm_154]; exact Bx.rf.w (by omega) (by omega)))
                            have f154 : m_154 214 10 = m 214 10 := by rw [hm_154, wr_na (by decide), ok_151.2.1]; exact f136
                            first
                            | exact ⟨k154.tr no_172.1.b, Or.inr ⟨rfl, no_172.2.2, Or.inr ⟨rfl, f_172, no_172.2.1⟩⟩⟩
                            | (refine ⟨k154.tr ok_172.1.b, Or.inl ⟨rfl, f_172, rfl, ok_172.2.1.trans f154, ok_172.2.2, LnR_h (by omega) hl.2 ?_ ?_⟩⟩
                               · rw [ok_172.1.1 232 (by decide), hm_154, wr_ni (by omega), ok_151.1.1 232 (by decide), l136, wr_ni (by omega), wr_ni (by omega), wr_ni (by omega), wr_self]
                               · rw [ok_172.1.1 232 (by decide), hm_154, wr_self]; exact v_151)))
                      | (rw [bkF_p hK3 (by omega) (by omega)]
                         first
                         | exact ⟨b136.tr b_165, Or.inr ⟨rfl, no_165.2, Or.inl ⟨f_165, no_165.1⟩⟩⟩
                         | (have k165 : Bx m m_165 (4 * l) := b136.tr b_165
                            first
                            | exact ⟨k165.tr no_172.1.b, Or.inr ⟨rfl, no_172.2.2, Or.inr ⟨f_165, f_172, no_172.2.1⟩⟩⟩
                            | (refine ⟨k165.tr ok_172.1.b, Or.inl ⟨f_165, f_172, rfl, by rw [ok_172.2.1, ok_165.1]; exact f136, ok_172.2.2, LnR_p hK3 hl.2 ?_ ?_⟩⟩
                               · rw [ok_172.1.1 232 (by decide)]; exact ok_165.2.2.2
                               · rw [ok_172.1.1 232 (by decide), ok_165.2.2.1, l136, wr_ni (by omega), wr_ni (by omega), wr_self]; exact hr_113)))
                    · exfalso; omega
              · refine go_if_eq (tgt := 182) dX12_readBookLine_168 (by decide) ⟨by omega, by omega⟩ (fun h_168 => ?_) (fun h_168 => ?_)
                · refine go_iconst dX12_readBookLine_182 ?_
                  refine go_ret (v := 0) rfl dX12_readBookLine_183 (okZ (by first | exact Or.inl rfl | exact Or.inr rfl | assumption | omega)) ?_
                  rw [BlP]
                  first
                  | (rw [bkF_h (by omega) (by omega)]
                     first
                     | (rw [if_pos f_151]
                        exact ⟨b136.tr (by rw [hm_154]; exact no_151.1.b), Or.inr ⟨rfl, by rw [hm_154]; exact no_151.2.2, Or.inl ⟨f_151, by rw [hm_154]; exact no_151.2.1⟩⟩⟩)
                     | (rw [if_neg (fun z => z f_151)]
                        have k154 : Bx m m_154 (4 * l) := b136.tr (ok_151.1.b.tr (by rw [hm_154]; exact Bx.rf.w (by omega) (by omega)))
                        have f154 : m_154 214 10 = m 214 10 := by rw [hm_154, wr_na (by decide), ok_151.2.1]; exact f136
                        first
                        | exact ⟨k154.tr no_172.1.b, Or.inr ⟨rfl, no_172.2.2, Or.inr ⟨rfl, f_172, no_172.2.1⟩⟩⟩
                        | (refine ⟨k154.tr ok_172.1.b, Or.inl ⟨rfl, f_172, rfl, ok_172.2.1.trans f154, ok_172.2.2, LnR_h (by omega) hl.2 ?_ ?_⟩⟩
                           · rw [ok_172.1.1 232 (by decide), hm_154, wr_ni (by omega), ok_151.1.1 232 (by decide), l136, wr_ni (by omega), wr_ni (by omega), wr_ni (by omega), wr_self]
                           · rw [ok_172.1.1 232 (by decide), hm_154, wr_self]; exact v_151)))
                  | (rw [bkF_p hK3 (by omega) (by omega)]
                     first
                     | exact ⟨b136.tr b_165, Or.inr ⟨rfl, no_165.2, Or.inl ⟨f_165, no_165.1⟩⟩⟩
                     | (have k165 : Bx m m_165 (4 * l) := b136.tr b_165
                        first
                        | exact ⟨k165.tr no_172.1.b, Or.inr ⟨rfl, no_172.2.2, Or.inr ⟨f_165, f_172, no_172.2.1⟩⟩⟩
                        | (refine ⟨k165.tr ok_172.1.b, Or.inl ⟨f_165, f_172, rfl, by rw [ok_172.2.1, ok_165.1]; exact f136, ok_172.2.2, LnR_p hK3 hl.2 ?_ ?_⟩⟩
                           · rw [ok_172.1.1 232 (by decide)]; exact ok_165.2.2.2
                           · rw [ok_172.1.1 232 (by decide), ok_165.2.2.1, l136, wr_ni (by omega), wr_ni (by omega), wr_self]; exact hr_113)))
                · exfalso; omega
            · exfalso; omega
          · exfalso; omega
        · refine go_aload_n dX12_readBookLine_62 rfl ?_
          refine go_iconst dX12_readBookLine_63 ?_
          refine go_callV_z (as := [vi 4]) (S := []) (b := 214) (ev_X12_bad (m := m) (k := 4) (G := G) (t := t) (kw := kw) (n := n) (lim := lim) (i := i) htm (by first | assumption | omega | exact ⟨by omega, by omega⟩ | (constructor <;> omega))) rfl dX12_readBookLine_64 cv_12_72 rfl rfl ob_214 rfl (by decide) (Nat.le_of_ble_eq_true rfl) (fun r_64 m_64 hr_64 ho_64 => ?_)
          refine go_ret (v := r_64) rfl dX12_readBookLine_67 (okZ (by first | exact Or.inl rfl | exact Or.inr rfl | assumption | omega)) ?_
          have hq : bkF G (i + 1) = (4, i) := by unfold bkF; rw [show i + 1 - 1 = i by omega, if_neg (by omega), if_neg (by omega), if_pos (by omega)]
          have z := NoT.b (G := G) (m := m) (m' := m_64) (f := 4) (i := i) (by rw [hr_64.2]; rw [if_neg (by omega)])
          rw [BlP, hq]
          exact ⟨z.1.b, Or.inr ⟨hr_64.1, z.2.2, Or.inl ⟨(show (4 : Int) ≠ 0 by decide), z.2.1⟩⟩⟩
      · refine go_aload_n dX12_readBookLine_47 rfl ?_
        refine go_iconst dX12_readBookLine_48 ?_
        refine go_callV_z (as := [vi 3]) (S := []) (b := 214) (ev_X12_bad (m := m) (k := 3) (G := G) (t := t) (kw := kw) (n := n) (lim := lim) (i := i) htm (by first | assumption | omega | exact ⟨by omega, by omega⟩ | (constructor <;> omega))) rfl dX12_readBookLine_49 cv_12_72 rfl rfl ob_214 rfl (by decide) (Nat.le_of_ble_eq_true rfl) (fun r_49 m_49 hr_49 ho_49 => ?_)
        refine go_ret (v := r_49) rfl dX12_readBookLine_52 (okZ (by first | exact Or.inl rfl | exact Or.inr rfl | assumption | omega)) ?_
        have hq : bkF G (i + 1) = (3, i) := by unfold bkF; rw [show i + 1 - 1 = i by omega, if_neg (by omega), if_pos (by omega)]
        have z := NoT.b (G := G) (m := m) (m' := m_49) (f := 3) (i := i) (by rw [hr_49.2]; rw [if_neg (by omega)])
        rw [BlP, hq]
        exact ⟨z.1.b, Or.inr ⟨hr_49.1, z.2.2, Or.inl ⟨(show (3 : Int) ≠ 0 by decide), z.2.1⟩⟩⟩
    · refine go_aload_n dX12_readBookLine_18 rfl ?_
      refine go_iconst dX12_readBookLine_19 ?_
      refine go_callV_z (as := [vi 1]) (S := []) (b := 214) (ev_X12_bad (m := m) (k := 1) (G := G) (t := t) (kw := kw) (n := n) (lim := lim) (i := i) htm (by first | assumption | omega | exact ⟨by omega, by omega⟩ | (constructor <;> omega))) rfl dX12_readBookLine_20 cv_12_72 rfl rfl ob_214 rfl (by decide) (Nat.le_of_ble_eq_true rfl) (fun r_20 m_20 hr_20 ho_20 => ?_)
      refine go_ret (v := r_20) rfl dX12_readBookLine_23 (okZ (by first | exact Or.inl rfl | exact Or.inr rfl | assumption | omega)) ?_
      have hq : bkF G (i + 1) = (1, i) := by unfold bkF; rw [show i + 1 - 1 = i by omega, if_pos (by omega)]
      have z := NoT.b (G := G) (m := m) (m' := m_20) (f := 1) (i := i) (by rw [hr_20.2]; congr 2; split <;> rfl)
      rw [BlP, hq]
      exact ⟨z.1.b, Or.inr ⟨hr_20.1, z.2.2, Or.inl ⟨(show (1 : Int) ≠ 0 by decide), z.2.1⟩⟩⟩
theorem dX12_goBy_0 : decode mX12_goBy.2.1 0 = .ok (.aload_n 0, 1) := by decide +kernel
theorem dX12_goBy_1 : decode mX12_goBy.2.1 1 = .ok (.getfield 151, 3) := by decide +kernel
theorem dX12_goBy_4 : decode mX12_goBy.2.1 4 = .ok (.iload_n 1, 1) := by decide +kernel
theorem dX12_goBy_5 : decode mX12_goBy.2.1 5 = .ok (.iaload, 1) := by decide +kernel
theorem dX12_goBy_6 : decode mX12_goBy.2.1 6 = .ok (.istore_n 2, 1) := by decide +kernel
theorem dX12_goBy_7 : decode mX12_goBy.2.1 7 = .ok (.aload_n 0, 1) := by decide +kernel
theorem dX12_goBy_8 : decode mX12_goBy.2.1 8 = .ok (.getfield 151, 3) := by decide +kernel
theorem dX12_goBy_11 : decode mX12_goBy.2.1 11 = .ok (.iload_n 1, 1) := by decide +kernel
theorem dX12_goBy_12 : decode mX12_goBy.2.1 12 = .ok (.iconst 1, 1) := by decide +kernel
theorem dX12_goBy_13 : decode mX12_goBy.2.1 13 = .ok (.iadd, 1) := by decide +kernel
theorem dX12_goBy_14 : decode mX12_goBy.2.1 14 = .ok (.iaload, 1) := by decide +kernel
theorem dX12_goBy_15 : decode mX12_goBy.2.1 15 = .ok (.istore_n 3, 1) := by decide +kernel
theorem dX12_goBy_16 : decode mX12_goBy.2.1 16 = .ok (.iload_n 2, 1) := by decide +kernel
theorem dX12_goBy_17 : decode mX12_goBy.2.1 17 = .ok (.iconst 3, 1) := by decide +kernel
theorem dX12_goBy_18 : decode mX12_goBy.2.1 18 = .ok (.if_icmp .ne 29, 3) := by decide +kernel
theorem dX12_goBy_21 : decode mX12_goBy.2.1 21 = .ok (.aload_n 0, 1) := by decide +kernel
theorem dX12_goBy_22 : decode mX12_goBy.2.1 22 = .ok (.getfield 98, 3) := by decide +kernel
theorem dX12_goBy_25 : decode mX12_goBy.2.1 25 = .ok (.bipush 123, 2) := by decide +kernel
theorem dX12_goBy_27 : decode mX12_goBy.2.1 27 = .ok (.iaload, 1) := by decide +kernel
theorem dX12_goBy_28 : decode mX12_goBy.2.1 28 = .ok (.iload_n 3, 1) := by decide +kernel
theorem dX12_goBy_29 : decode mX12_goBy.2.1 29 = .ok (.iadd, 1) := by decide +kernel
theorem dX12_goBy_30 : decode mX12_goBy.2.1 30 = .ok (.sipush 400, 3) := by decide +kernel
theorem dX12_goBy_33 : decode mX12_goBy.2.1 33 = .ok (.if_icmp .le 6, 3) := by decide +kernel
theorem dX12_goBy_36 : decode mX12_goBy.2.1 36 = .ok (.bipush 31, 2) := by decide +kernel
theorem dX12_goBy_38 : decode mX12_goBy.2.1 38 = .ok (.ireturn, 1) := by decide +kernel
theorem dX12_goBy_39 : decode mX12_goBy.2.1 39 = .ok (.aload_n 0, 1) := by decide +kernel
theorem dX12_goBy_40 : decode mX12_goBy.2.1 40 = .ok (.iload_n 3, 1) := by decide +kernel
theorem dX12_goBy_41 : decode mX12_goBy.2.1 41 = .ok (.invokevirtual 300, 3) := by decide +kernel
theorem dX12_goBy_44 : decode mX12_goBy.2.1 44 = .ok (.pop, 1) := by decide +kernel
theorem dX12_goBy_45 : decode mX12_goBy.2.1 45 = .ok (.iconst 0, 1) := by decide +kernel
theorem dX12_goBy_46 : decode mX12_goBy.2.1 46 = .ok (.ireturn, 1) := by decide +kernel
theorem dX12_goBy_47 : decode mX12_goBy.2.1 47 = .ok (.aload_n 0, 1) := by decide +kernel
theorem dX12_goBy_48 : decode mX12_goBy.2.1 48 = .ok (.iload_n 2, 1) := by decide +kernel
theorem dX12_goBy_49 : decode mX12_goBy.2.1 49 = .ok (.iload_n 3, 1) := by decide +kernel
theorem dX12_goBy_50 : decode mX12_goBy.2.1 50 = .ok (.aload_n 0, 1) := by decide +kernel
theorem dX12_goBy_51 : decode mX12_goBy.2.1 51 = .ok (.getfield 151, 3) := by decide +kernel
theorem dX12_goBy_54 : decode mX12_goBy.2.1 54 = .ok (.iload_n 1, 1) := by decide +kernel
theorem dX12_goBy_55 : decode mX12_goBy.2.1 55 = .ok (.iconst 2, 1) := by decide +kernel
theorem dX12_goBy_56 : decode mX12_goBy.2.1 56 = .ok (.iadd, 1) := by decide +kernel
theorem dX12_goBy_57 : decode mX12_goBy.2.1 57 = .ok (.iaload, 1) := by decide +kernel
theorem dX12_goBy_58 : decode mX12_goBy.2.1 58 = .ok (.aload_n 0, 1) := by decide +kernel
theorem dX12_goBy_59 : decode mX12_goBy.2.1 59 = .ok (.getfield 151, 3) := by decide +kernel
theorem dX12_goBy_62 : decode mX12_goBy.2.1 62 = .ok (.iload_n 1, 1) := by decide +kernel
theorem dX12_goBy_63 : decode mX12_goBy.2.1 63 = .ok (.iconst 3, 1) := by decide +kernel
theorem dX12_goBy_64 : decode mX12_goBy.2.1 64 = .ok (.iadd, 1) := by decide +kernel
theorem dX12_goBy_65 : decode mX12_goBy.2.1 65 = .ok (.iaload, 1) := by decide +kernel
theorem dX12_goBy_66 : decode mX12_goBy.2.1 66 = .ok (.invokevirtual 277, 3) := by decide +kernel
theorem dX12_goBy_69 : decode mX12_goBy.2.1 69 = .ok (.istore 4, 2) := by decide +kernel
theorem dX12_goBy_71 : decode mX12_goBy.2.1 71 = .ok (.iload 4, 2) := by decide +kernel
theorem dX12_goBy_73 : decode mX12_goBy.2.1 73 = .ok (.ifCond .eq 11, 3) := by decide +kernel
theorem dX12_goBy_76 : decode mX12_goBy.2.1 76 = .ok (.bipush 10, 2) := by decide +kernel
theorem dX12_goBy_78 : decode mX12_goBy.2.1 78 = .ok (.iload_n 2, 1) := by decide +kernel
theorem dX12_goBy_79 : decode mX12_goBy.2.1 79 = .ok (.imul, 1) := by decide +kernel
theorem dX12_goBy_80 : decode mX12_goBy.2.1 80 = .ok (.iload 4, 2) := by decide +kernel
theorem dX12_goBy_82 : decode mX12_goBy.2.1 82 = .ok (.iadd, 1) := by decide +kernel
theorem dX12_goBy_83 : decode mX12_goBy.2.1 83 = .ok (.ireturn, 1) := by decide +kernel
theorem dX12_goBy_84 : decode mX12_goBy.2.1 84 = .ok (.aload_n 0, 1) := by decide +kernel
theorem dX12_goBy_85 : decode mX12_goBy.2.1 85 = .ok (.iload_n 2, 1) := by decide +kernel
theorem dX12_goBy_86 : decode mX12_goBy.2.1 86 = .ok (.iload_n 3, 1) := by decide +kernel
theorem dX12_goBy_87 : decode mX12_goBy.2.1 87 = .ok (.aload_n 0, 1) := by decide +kernel
theorem dX12_goBy_88 : decode mX12_goBy.2.1 88 = .ok (.getfield 151, 3) := by decide +kernel
theorem dX12_goBy_91 : decode mX12_goBy.2.1 91 = .ok (.iload_n 1, 1) := by decide +kernel
theorem dX12_goBy_92 : decode mX12_goBy.2.1 92 = .ok (.iconst 2, 1) := by decide +kernel
theorem dX12_goBy_93 : decode mX12_goBy.2.1 93 = .ok (.iadd, 1) := by decide +kernel
theorem dX12_goBy_94 : decode mX12_goBy.2.1 94 = .ok (.iaload, 1) := by decide +kernel
theorem dX12_goBy_95 : decode mX12_goBy.2.1 95 = .ok (.aload_n 0, 1) := by decide +kernel
theorem dX12_goBy_96 : decode mX12_goBy.2.1 96 = .ok (.getfield 151, 3) := by decide +kernel
theorem dX12_goBy_99 : decode mX12_goBy.2.1 99 = .ok (.iload_n 1, 1) := by decide +kernel
theorem dX12_goBy_100 : decode mX12_goBy.2.1 100 = .ok (.iconst 3, 1) := by decide +kernel
theorem dX12_goBy_101 : decode mX12_goBy.2.1 101 = .ok (.iadd, 1) := by decide +kernel
theorem dX12_goBy_102 : decode mX12_goBy.2.1 102 = .ok (.iaload, 1) := by decide +kernel
theorem dX12_goBy_103 : decode mX12_goBy.2.1 103 = .ok (.invokevirtual 283, 3) := by decide +kernel
theorem dX12_goBy_106 : decode mX12_goBy.2.1 106 = .ok (.iconst 0, 1) := by decide +kernel
theorem dX12_goBy_107 : decode mX12_goBy.2.1 107 = .ok (.ireturn, 1) := by decide +kernel
set_option maxRecDepth 4000 in
theorem ev_X12_goBy {m : Mem} {J : Mem} {B : Int} {l : Int} (hb : Bg J 8 32 (m 216)) (hdn : DnOk J 8) (hst : StOk J 8 32 B) (hB : 0 ≤ B ∧ B ≤ 300000000) (hlo : LOk J l) (hlr : LnR J (m 232) l) (hl : 0 ≤ l ∧ l < 40) : Ev 0 6 mX12_goBy [vr 214, vi (4 * l)] m (fun r m' => r = liveR J 32 l ∧ So m m' ∧ Bg (liveX J 32 l) 8 32 (m' 216)) := by
  refine Ev.of (L := [vr 214, vi (4 * l), un, un, un]) (by decide +kernel) rfl (Nat.le_of_ble_eq_true rfl) rfl (fun t ht => by cases ht; first | exact Or.inl rfl | exact Or.inr (Or.inl rfl) | exact Or.inr (Or.inr rfl)) (fun hcan => ?_)
  obtain ⟨⟨hd0, hd1⟩, ⟨hd2, hd3⟩, ⟨hd4, hd5⟩, ⟨hd6, hd7⟩, ⟨hd8, hd9⟩, hdf, hdp, hdq⟩ := id hdn
  have hs00 := hst.1
  obtain ⟨wh, hwh⟩ : ∃ z, z = m 232 (4 * l) := ⟨_, rfl⟩
  obtain ⟨x, hx⟩ : ∃ z, z = m 232 (4 * l + 1) := ⟨_, rfl⟩
  obtain ⟨f, hf⟩ : ∃ z, z = m 232 (4 * l + 2) := ⟨_, rfl⟩
  obtain ⟨s, hs⟩ : ∃ z, z = m 232 (4 * l + 3) := ⟨_, rfl⟩
  have hL : (wh = 3 ∧ J 71 l = 208 ∧ x = J 75 l) ∨ (wh = 0 ∧ J 71 l = 205 ∧ x = J 72 l ∧ f = J 73 l ∧ s = J 74 l) ∨ (wh = 1 ∧ J 71 l = 206 ∧ x = J 72 l ∧ s = J 74 l) ∨ (wh = 2 ∧ J 71 l = 207 ∧ x = J 72 l) := by
    unfold LnR at hlr; rw [← hwh, ← hx, ← hf, ← hs] at hlr; omega
  have hlv := live_of hL
  unfold LOk at hlo
  refine go_aload_n dX12_goBy_0 rfl ?_
  refine go_getf_p (b := 232) dX12_goBy_1 fl_12_151 ob_214 rfl pt_214_39 ?_
  refine go_iload_n dX12_goBy_4 rfl ?_
  refine go_iaload dX12_goBy_5 ar_232 (by omega) (by omega) (fun he_5 => ?_)
  rw [show (m 232 (4 * l) : Int) = wh from hwh.symm] at he_5 ⊢
  refine go_istore_n (L' := [vr 214, vi (4 * l), vi wh, un, un]) dX12_goBy_6 (by decide) rfl rfl ?_
  refine go_aload_n dX12_goBy_7 rfl ?_
  refine go_getf_p (b := 232) dX12_goBy_8 fl_12_151 ob_214 rfl pt_214_39 ?_
  refine go_iload_n dX12_goBy_11 rfl ?_
  refine go_iconst dX12_goBy_12 ?_
  refine go_iadd dX12_goBy_13 ?_
  refine go_iaload dX12_goBy_14 ar_232 (by omega) (by omega) (fun he_14 => ?_)
  rw [show (m 232 ((4 * l) + 1) : Int) = x from hx.symm] at he_14 ⊢
  refine go_istore_n (L' := [vr 214, vi (4 * l), vi wh, vi x, un]) dX12_goBy_15 (by decide) rfl rfl ?_
  refine go_iload_n dX12_goBy_16 rfl ?_
  refine go_iconst dX12_goBy_17 ?_
  refine go_icmp_ne (tgt := 47) dX12_goBy_18 (by decide) ⟨by omega, by omega⟩ ⟨by omega, by omega⟩ (fun h_18 => ?_) (fun h_18 => ?_)
  · refine go_aload_n dX12_goBy_47 rfl ?_
    refine go_iload_n dX12_goBy_48 rfl ?_
    refine go_iload_n dX12_goBy_49 rfl ?_
    refine go_aload_n dX12_goBy_50 rfl ?_
    refine go_getf_p (b := 232) dX12_goBy_51 fl_12_151 ob_214 rfl pt_214_39 ?_
    refine go_iload_n dX12_goBy_54 rfl ?_
    refine go_iconst dX12_goBy_55 ?_
    refine go_iadd dX12_goBy_56 ?_
    refine go_iaload dX12_goBy_57 ar_232 (by omega) (by omega) (fun he_57 => ?_)
    rw [show (m 232 ((4 * l) + 2) : Int) = f from hf.symm] at he_57 ⊢
    refine go_aload_n dX12_goBy_58 rfl ?_
    refine go_getf_p (b := 232) dX12_goBy_59 fl_12_151 ob_214 rfl pt_214_39 ?_
    refine go_iload_n dX12_goBy_62 rfl ?_
    refine go_iconst dX12_goBy_63 ?_
    refine go_iadd dX12_goBy_64 ?_
    refine go_iaload dX12_goBy_65 ar_232 (by omega) (by omega) (fun he_65 => ?_)
    rw [show (m 232 ((4 * l) + 3) : Int) = s from hs.symm] at he_65 ⊢
    refine go_callVp_i (as := [vi wh, vi x, vi f, vi s]) (S := []) (b := 214) (ev_X12_why (m := m) (w := wh) (p := x) (f := f) (s := s) (G := J) (d := 8) (st := 32) (B := B) hb (by first | assumption | omega | exact ⟨by omega, by omega⟩ | (constructor <;> omega)) (by first | assumption | omega | exact ⟨by omega, by omega⟩ | (constructor <;> omega)) (by first | assumption | omega | exact ⟨by omega, by omega⟩ | (constructor <;> omega)) (fun _ => by omega) (fun _ => by omega) (by first | assumption | omega | exact ⟨by omega, by omega⟩ | (constructor <;> omega))) rfl dX12_goBy_66 cv_12_277 rfl rfl ob_214 rfl (by decide) (Nat.le_of_ble_eq_true rfl) (fun r_66 hr_66 ho_66 => ?_)
    refine go_istore (L' := [vr 214, vi (4 * l), vi wh, vi x, vi r_66]) dX12_goBy_69 (by decide) rfl rfl ?_
    refine go_iload dX12_goBy_71 rfl ?_
    refine go_if_eq (tgt := 84) dX12_goBy_73 (by decide) ⟨by omega, by omega⟩ (fun h_73 => ?_) (fun h_73 => ?_)
    · refine go_aload_n dX12_goBy_84 rfl ?_
      refine go_iload_n dX12_goBy_85 rfl ?_
      refine go_iload_n dX12_goBy_86 rfl ?_
      refine go_aload_n dX12_goBy_87 rfl ?_
      refine go_getf_p (b := 232) dX12_goBy_88 fl_12_151 ob_214 rfl pt_214_39 ?_
      refine go_iload_n dX12_goBy_91 rfl ?_
      refine go_iconst dX12_goBy_92 ?_
      refine go_iadd dX12_goBy_93 ?_
      refine go_iaload dX12_goBy_94 ar_232 (by omega) (by omega) (fun he_94 => ?_)
      rw [show (m 232 ((4 * l) + 2) : Int) = f from hf.symm] at he_94 ⊢
      refine go_aload_n dX12_goBy_95 rfl ?_
      refine go_getf_p (b := 232) dX12_goBy_96 fl_12_151 ob_214 rfl pt_214_39 ?_
      refine go_iload_n dX12_goBy_99 rfl ?_
      refine go_iconst dX12_goBy_100 ?_
      refine go_iadd dX12_goBy_101 ?_
      refine go_iaload dX12_goBy_102 ar_232 (by omega) (by omega) (fun he_102 => ?_)
      rw [show (m 232 ((4 * l) + 3) : Int) = s from hs.symm] at he_102 ⊢
      refine go_callV_v (as := [vi wh, vi x, vi f, vi s]) (S := []) (b := 214) (ev_X12_live (m := m) (w := wh) (p := x) (f := f) (s := s) (G := J) (d := 8) (st := 32) (B := B) hb (by first | assumption | omega | exact ⟨by omega, by omega⟩ | (constructor <;> omega)) (by first | assumption | omega | exact ⟨by omega, by omega⟩ | (constructor <;> omega)) (by first | assumption | omega | exact ⟨by omega, by omega⟩ | (constructor <;> omega)) (fun _ => by omega) (fun _ => by omega) (by first | assumption | omega | exact ⟨by omega, by omega⟩ | (constructor <;> omega)) (by first | assumption | omega | exact ⟨by omega, by omega⟩ | (constructor <;> omega)) (by decide) (by omega)) rfl dX12_goBy_103 cv_12_283 rfl rfl ob_214 rfl (by decide) (Nat.le_of_ble_eq_true rfl) (fun m_103 hr_103 => ?_)
      refine go_iconst dX12_goBy_106 ?_
      exact go_ret (v := 0) rfl dX12_goBy_107 (okI ⟨by omega, by omega⟩) (by have q := hlv.2 (by omega); unfold bh actIf at q; rw [if_pos (by omega), if_pos (by omega)] at q; rw [q.1, q.2]; exact ⟨rfl, hr_103⟩)
    · refine go_bipush dX12_goBy_76 (by decide) ?_
      refine go_iload_n dX12_goBy_78 rfl ?_
      refine go_imul dX12_goBy_79 ?_
      refine go_iload dX12_goBy_80 rfl ?_
      refine go_iadd dX12_goBy_82 ?_
      exact go_ret (v := ((10 * wh) + r_66)) rfl dX12_goBy_83 (okI (by have q := liveR_b (m := J) (st := 32) l; have q2 := hlv.2 (by omega); unfold bh at q2; rw [if_neg (by omega)] at q2; exact ⟨by omega, by omega⟩)) (by have q := hlv.2 (by omega); unfold bh actIf at q; rw [if_neg (by omega), if_neg (by omega)] at q; rw [q.1, q.2]; exact ⟨by omega, So.rf, hb⟩)
  · refine go_aload_n dX12_goBy_21 rfl ?_
    refine go_getf_p (b := 216) dX12_goBy_22 fl_12_98 ob_214 rfl pt_214_14 ?_
    refine go_bipush dX12_goBy_25 (by decide) ?_
    refine go_iaload dX12_goBy_27 ar_216 (by omega) (by omega) (fun he_27 => ?_)
    rw [show (m 216 123 : Int) = (J 32 0) from hb.hr] at he_27 ⊢
    refine go_iload_n dX12_goBy_28 rfl ?_
    refine go_iadd dX12_goBy_29 ?_
    refine go_sipush dX12_goBy_30 (by decide) ?_
    refine go_icmp_le (tgt := 39) dX12_goBy_33 (by decide) ⟨by omega, by omega⟩ ⟨by omega, by omega⟩ (fun h_33 => ?_) (fun h_33 => ?_)
    · refine go_aload_n dX12_goBy_39 rfl ?_
      refine go_iload_n dX12_goBy_40 rfl ?_
      refine go_callV_i (as := [vi x]) (S := []) (b := 214) (ev_X12_passHours (m := m) (n := x) (G := J) (d := 8) (st := 32) (B := B) hb (by first | assumption | omega | exact ⟨by omega, by omega⟩ | (constructor <;> omega)) (by first | assumption | omega | exact ⟨by omega, by omega⟩ | (constructor <;> omega)) (by decide) (by first | assumption | omega | exact ⟨by omega, by omega⟩ | (constructor <;> omega))) rfl dX12_goBy_41 cv_12_300 rfl rfl ob_214 rfl (by decide) (Nat.le_of_ble_eq_true rfl) (fun r_41 m_41 hr_41 ho_41 => ?_)
      refine go_pop_i dX12_goBy_44 ?_
      refine go_iconst dX12_goBy_45 ?_
      exact go_ret (v := 0) rfl dX12_goBy_46 (okI ⟨by omega, by omega⟩) (by have q := hlv.1 (by omega); rw [if_neg (by omega), if_neg (by omega)] at q; rw [q.1, q.2]; rw [show min x (400 - J 32 0) = x by omega] at hr_41; exact ⟨rfl, hr_41.2⟩)
    · refine go_bipush dX12_goBy_36 (by decide) ?_
      exact go_ret (v := 31) rfl dX12_goBy_38 (okI ⟨by omega, by omega⟩) (by have q := hlv.1 (by omega); rw [if_pos (by omega), if_pos (by omega)] at q; rw [q.1, q.2]; exact ⟨rfl, So.rf, hb⟩)
theorem dX12_stay_0 : decode mX12_stay.2.1 0 = .ok (.iconst 0, 1) := by decide +kernel
theorem dX12_stay_1 : decode mX12_stay.2.1 1 = .ok (.istore_n 2, 1) := by decide +kernel
theorem dX12_stay_2 : decode mX12_stay.2.1 2 = .ok (.iload_n 2, 1) := by decide +kernel
theorem dX12_stay_3 : decode mX12_stay.2.1 3 = .ok (.bipush 109, 2) := by decide +kernel
theorem dX12_stay_5 : decode mX12_stay.2.1 5 = .ok (.if_icmp .ge 41, 3) := by decide +kernel
theorem dX12_stay_8 : decode mX12_stay.2.1 8 = .ok (.aload_n 0, 1) := by decide +kernel
theorem dX12_stay_9 : decode mX12_stay.2.1 9 = .ok (.getfield 98, 3) := by decide +kernel
theorem dX12_stay_12 : decode mX12_stay.2.1 12 = .ok (.bipush 123, 2) := by decide +kernel
theorem dX12_stay_14 : decode mX12_stay.2.1 14 = .ok (.iload_n 2, 1) := by decide +kernel
theorem dX12_stay_15 : decode mX12_stay.2.1 15 = .ok (.iadd, 1) := by decide +kernel
theorem dX12_stay_16 : decode mX12_stay.2.1 16 = .ok (.iaload, 1) := by decide +kernel
theorem dX12_stay_17 : decode mX12_stay.2.1 17 = .ok (.istore_n 3, 1) := by decide +kernel
theorem dX12_stay_18 : decode mX12_stay.2.1 18 = .ok (.aload_n 0, 1) := by decide +kernel
theorem dX12_stay_19 : decode mX12_stay.2.1 19 = .ok (.getfield 98, 3) := by decide +kernel
theorem dX12_stay_22 : decode mX12_stay.2.1 22 = .ok (.bipush 123, 2) := by decide +kernel
theorem dX12_stay_24 : decode mX12_stay.2.1 24 = .ok (.iload_n 2, 1) := by decide +kernel
theorem dX12_stay_25 : decode mX12_stay.2.1 25 = .ok (.iadd, 1) := by decide +kernel
theorem dX12_stay_26 : decode mX12_stay.2.1 26 = .ok (.aload_n 0, 1) := by decide +kernel
theorem dX12_stay_27 : decode mX12_stay.2.1 27 = .ok (.getfield 110, 3) := by decide +kernel
theorem dX12_stay_30 : decode mX12_stay.2.1 30 = .ok (.iload_n 2, 1) := by decide +kernel
theorem dX12_stay_31 : decode mX12_stay.2.1 31 = .ok (.iaload, 1) := by decide +kernel
theorem dX12_stay_32 : decode mX12_stay.2.1 32 = .ok (.iastore, 1) := by decide +kernel
theorem dX12_stay_33 : decode mX12_stay.2.1 33 = .ok (.aload_n 0, 1) := by decide +kernel
theorem dX12_stay_34 : decode mX12_stay.2.1 34 = .ok (.getfield 110, 3) := by decide +kernel
theorem dX12_stay_37 : decode mX12_stay.2.1 37 = .ok (.iload_n 2, 1) := by decide +kernel
theorem dX12_stay_38 : decode mX12_stay.2.1 38 = .ok (.iload_n 3, 1) := by decide +kernel
theorem dX12_stay_39 : decode mX12_stay.2.1 39 = .ok (.iastore, 1) := by decide +kernel
theorem dX12_stay_40 : decode mX12_stay.2.1 40 = .ok (.iinc 2 1, 3) := by decide +kernel
theorem dX12_stay_43 : decode mX12_stay.2.1 43 = .ok (.goto (-41), 3) := by decide +kernel
theorem dX12_stay_46 : decode mX12_stay.2.1 46 = .ok (.iload_n 1, 1) := by decide +kernel
theorem dX12_stay_47 : decode mX12_stay.2.1 47 = .ok (.ifCond .ne 4, 3) := by decide +kernel
theorem dX12_stay_50 : decode mX12_stay.2.1 50 = .ok (.return_, 1) := by decide +kernel
theorem dX12_stay_51 : decode mX12_stay.2.1 51 = .ok (.aload_n 0, 1) := by decide +kernel
theorem dX12_stay_52 : decode mX12_stay.2.1 52 = .ok (.invokevirtual 280, 3) := by decide +kernel
theorem dX12_stay_55 : decode mX12_stay.2.1 55 = .ok (.aload_n 0, 1) := by decide +kernel
theorem dX12_stay_56 : decode mX12_stay.2.1 56 = .ok (.invokevirtual 393, 3) := by decide +kernel
theorem dX12_stay_59 : decode mX12_stay.2.1 59 = .ok (.return_, 1) := by decide +kernel
set_option maxRecDepth 4000 in
theorem ev_X12_stay {m : Mem} {bo : Int} (hbo : bo = 0 ∨ bo = 1) (hn : 0 ≤ m 214 25 ∧ m 214 25 ≤ 8) : Ev 0 2 mX12_stay [vr 214, vi bo] m (fun r m' => (bo = 0 ∧ m' = swp m 109) ∨ (bo = 1 ∧ ∃ m2 : Mem, SnP (swp m 109) m2 ∧ m' = mov m2 220 216 0 123 109)) := by
  refine Ev.of (L := [vr 214, vi bo, un, un]) (by decide +kernel) rfl (Nat.le_of_ble_eq_true rfl) rfl (fun t ht => by cases ht) (fun hcan => ?_)
  refine go_iconst dX12_stay_0 ?_
  refine go_istore_n (L' := [vr 214, vi bo, vi 0, un]) dX12_stay_1 (by decide) rfl rfl ?_
  have lp_2 : ∀ (n_2 : Nat) (m1 : Mem) (i : Int) , (0 ≤ i) → (i ≤ 109) → (m1 = swp m i) → (109 - i).toNat < n_2 → Go 0 2 mX12_stay (fun r m' => (bo = 0 ∧ m' = swp m 109) ∨ (bo = 1 ∧ ∃ m2 : Mem, SnP (swp m 109) m2 ∧ m' = mov m2 220 216 0 123 109)) 2 [vr 214, vi bo, vi i, un] [] m1 := by
    intro n_2
    induction n_2 with
    | zero => intro m1 i hi0 hi1 hm hmu; exact absurd hmu (Nat.not_lt_zero _)
    | succ n_2 ih_2 =>
      intro m1 i hi0 hi1 hm hmu
      have e1 : m1 216 (123 + i) = m 216 (123 + i) := by rw [hm]; unfold swp; rw [if_neg (by omega), if_neg (by omega)]
      have e2 : m1 220 i = m 220 i := by rw [hm]; unfold swp; rw [if_neg (by omega), if_neg (by omega)]
      refine go_iload_n dX12_stay_2 rfl ?_
      refine go_bipush dX12_stay_3 (by decide) ?_
      refine go_icmp_ge (tgt := 46) dX12_stay_5 (by decide) ⟨by omega, by omega⟩ ⟨by omega, by omega⟩ (fun h_5 => ?_) (fun h_5 => ?_)
      · refine go_iload_n dX12_stay_46 rfl ?_
        refine go_if_ne (tgt := 51) dX12_stay_47 (by decide) ⟨by omega, by omega⟩ (fun h_47 => ?_) (fun h_47 => ?_)
        · refine go_aload_n dX12_stay_51 rfl ?_
          refine go_callV_v (as := []) (S := []) (b := 214) (ev_X12_snap (m := m1)  (by rw [hm, swp_row (by decide) (by decide)]; exact hn)) rfl dX12_stay_52 cv_12_280 rfl rfl ob_214 rfl (by decide) (Nat.le_of_ble_eq_true rfl) (fun m_52 hr_52 => ?_)
          refine go_aload_n dX12_stay_55 rfl ?_
          refine go_callV_v (as := []) (S := []) (b := 214) (ev_X12_takeBack (m := m_52)  ) rfl dX12_stay_56 cv_12_393 rfl rfl ob_214 rfl (by decide) (Nat.le_of_ble_eq_true rfl) (fun m_56 hr_56 => ?_)
          exact go_ret (v := 0) rfl dX12_stay_59 rfl (Or.inr ⟨by omega, m_52, by rw [hm, show i = 109 by omega] at hr_52; exact hr_52, hr_56⟩)
        · exact go_ret (v := 0) rfl dX12_stay_50 rfl (Or.inl ⟨by omega, by rw [hm, show i = 109 by omega]⟩)
      · refine go_aload_n dX12_stay_8 rfl ?_
        refine go_getf_p (b := 216) dX12_stay_9 fl_12_98 ob_214 rfl pt_214_14 ?_
        refine go_bipush dX12_stay_12 (by decide) ?_
        refine go_iload_n dX12_stay_14 rfl ?_
        refine go_iadd dX12_stay_15 ?_
        refine go_iaload dX12_stay_16 ar_216 (by omega) (by omega) (fun he_16 => ?_)
        rw [show (m1 216 (123 + i) : Int) = (m 216 (123 + i)) from e1] at he_16 ⊢
        refine go_istore_n (L' := [vr 214, vi bo, vi i, vi (m 216 (123 + i))]) dX12_stay_17 (by decide) rfl rfl ?_
        refine go_aload_n dX12_stay_18 rfl ?_
        refine go_getf_p (b := 216) dX12_stay_19 fl_12_98 ob_214 rfl pt_214_14 ?_
        refine go_bipush dX12_stay_22 (by decide) ?_
        refine go_iload_n dX12_stay_24 rfl ?_
        refine go_iadd dX12_stay_25 ?_
        refine go_aload_n dX12_stay_26 rfl ?_
        refine go_getf_p (b := 220) dX12_stay_27 fl_12_110 ob_214 rfl pt_214_18 ?_
        refine go_iload_n dX12_stay_30 rfl ?_
        refine go_iaload dX12_stay_31 ar_220 (by omega) (by omega) (fun he_31 => ?_)
        rw [show (m1 220 i : Int) = (m 220 i) from e2] at he_31 ⊢
        refine go_iastore dX12_stay_32 ar_216 (by omega) (by omega) ⟨by omega, by omega⟩ ?_
        refine go_aload_n dX12_stay_33 rfl ?_
        refine go_getf_p (b := 220) dX12_stay_34 fl_12_110 ob_214 rfl pt_214_18 ?_
        refine go_iload_n dX12_stay_37 rfl ?_
        refine go_iload_n dX12_stay_38 rfl ?_
        refine go_iastore dX12_stay_39 ar_220 (by omega) (by omega) ⟨by omega, by omega⟩ ?_
        refine go_iinc (L' := [vr 214, vi bo, vi (i + 1), vi (m 216 (123 + i))]) dX12_stay_40 rfl (by decide) rfl rfl ?_
        refine go_goto (tgt := 2) dX12_stay_43 (by decide) ?_
        refine go_drop (j := 3) (L' := [vr 214, vi bo, vi (i + 1), un]) rfl ?_
        exact ih_2 (wr (wr m1 216 (123 + i) (m 220 i)) 220 i (m 216 (123 + i))) (i + 1) (by first | assumption | omega | rfl) (by first | assumption | omega | rfl) (by rw [hm]; exact swp_s hi0) (by omega)
  exact lp_2 _ m 0 (by first | assumption | omega | rfl) (by first | assumption | omega | rfl) (swp_0 m).symm (Nat.lt_succ_self _)
