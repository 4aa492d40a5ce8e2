theorem LOk.c {G G' : Mem} {l : Int} (h : LOk G l) (h8 : G' 8 = G 8) (h1 : G' 71 l = G 71 l) (h2 : G' 72 l = G 72 l) (h3 : G' 73 l = G 73 l) (h4 : G' 74 l = G 74 l) (h5 : G' 75 l = G 75 l) : LOk G' l := by
  unfold LOk at *
  rw [h8, h1, h2, h3, h4, h5]; exact h
theorem whP_1 (G : Mem) (d st : Nat) : whP G d st 1 = setlC G d st := by funext p; rfl

theorem dX12_book_0 : decode mX12_book.2.1 0 = .ok (.aload_n 0, 1) := by decide +kernel
theorem dX12_book_1 : decode mX12_book.2.1 1 = .ok (.iconst 0, 1) := by decide +kernel
theorem dX12_book_2 : decode mX12_book.2.1 2 = .ok (.putfield 1, 3) := by decide +kernel
theorem dX12_book_5 : decode mX12_book.2.1 5 = .ok (.iload_n 1, 1) := by decide +kernel
theorem dX12_book_6 : decode mX12_book.2.1 6 = .ok (.iconst 0, 1) := by decide +kernel
theorem dX12_book_7 : decode mX12_book.2.1 7 = .ok (.iconst 1, 1) := by decide +kernel
theorem dX12_book_8 : decode mX12_book.2.1 8 = .ok (.invokestatic 75, 3) := by decide +kernel
theorem dX12_book_11 : decode mX12_book.2.1 11 = .ok (.ifCond .ne 7, 3) := by decide +kernel
theorem dX12_book_14 : decode mX12_book.2.1 14 = .ok (.sipush (-1000), 3) := by decide +kernel
theorem dX12_book_17 : decode mX12_book.2.1 17 = .ok (.ireturn, 1) := by decide +kernel
theorem dX12_book_18 : decode mX12_book.2.1 18 = .ok (.aload_n 0, 1) := by decide +kernel
theorem dX12_book_19 : decode mX12_book.2.1 19 = .ok (.sipush 400, 3) := by decide +kernel
theorem dX12_book_22 : decode mX12_book.2.1 22 = .ok (.invokevirtual 220, 3) := by decide +kernel
theorem dX12_book_25 : decode mX12_book.2.1 25 = .ok (.aload_n 0, 1) := by decide +kernel
theorem dX12_book_26 : decode mX12_book.2.1 26 = .ok (.iconst 0, 1) := by decide +kernel
theorem dX12_book_27 : decode mX12_book.2.1 27 = .ok (.putfield 405, 3) := by decide +kernel
theorem dX12_book_30 : decode mX12_book.2.1 30 = .ok (.aload_n 0, 1) := by decide +kernel
theorem dX12_book_31 : decode mX12_book.2.1 31 = .ok (.getfield 30, 3) := by decide +kernel
theorem dX12_book_34 : decode mX12_book.2.1 34 = .ok (.ifCond .eq 31, 3) := by decide +kernel
theorem dX12_book_37 : decode mX12_book.2.1 37 = .ok (.aload_n 0, 1) := by decide +kernel
theorem dX12_book_38 : decode mX12_book.2.1 38 = .ok (.invokevirtual 411, 3) := by decide +kernel
theorem dX12_book_41 : decode mX12_book.2.1 41 = .ok (.ifCond .ne 11, 3) := by decide +kernel
theorem dX12_book_44 : decode mX12_book.2.1 44 = .ok (.bipush (-2), 2) := by decide +kernel
theorem dX12_book_46 : decode mX12_book.2.1 46 = .ok (.aload_n 0, 1) := by decide +kernel
theorem dX12_book_47 : decode mX12_book.2.1 47 = .ok (.getfield 69, 3) := by decide +kernel
theorem dX12_book_50 : decode mX12_book.2.1 50 = .ok (.isub, 1) := by decide +kernel
theorem dX12_book_51 : decode mX12_book.2.1 51 = .ok (.ireturn, 1) := by decide +kernel
theorem dX12_book_52 : decode mX12_book.2.1 52 = .ok (.aload_n 0, 1) := by decide +kernel
theorem dX12_book_53 : decode mX12_book.2.1 53 = .ok (.dup, 1) := by decide +kernel
theorem dX12_book_54 : decode mX12_book.2.1 54 = .ok (.getfield 405, 3) := by decide +kernel
theorem dX12_book_57 : decode mX12_book.2.1 57 = .ok (.iconst 1, 1) := by decide +kernel
theorem dX12_book_58 : decode mX12_book.2.1 58 = .ok (.iadd, 1) := by decide +kernel
theorem dX12_book_59 : decode mX12_book.2.1 59 = .ok (.putfield 405, 3) := by decide +kernel
theorem dX12_book_62 : decode mX12_book.2.1 62 = .ok (.goto (-32), 3) := by decide +kernel
theorem dX12_book_65 : decode mX12_book.2.1 65 = .ok (.aload_n 0, 1) := by decide +kernel
theorem dX12_book_66 : decode mX12_book.2.1 66 = .ok (.invokevirtual 390, 3) := by decide +kernel
theorem dX12_book_69 : decode mX12_book.2.1 69 = .ok (.iconst 0, 1) := by decide +kernel
theorem dX12_book_70 : decode mX12_book.2.1 70 = .ok (.istore_n 2, 1) := by decide +kernel
theorem dX12_book_71 : decode mX12_book.2.1 71 = .ok (.iconst 0, 1) := by decide +kernel
theorem dX12_book_72 : decode mX12_book.2.1 72 = .ok (.istore_n 3, 1) := by decide +kernel
theorem dX12_book_73 : decode mX12_book.2.1 73 = .ok (.iload_n 2, 1) := by decide +kernel
theorem dX12_book_74 : decode mX12_book.2.1 74 = .ok (.aload_n 0, 1) := by decide +kernel
theorem dX12_book_75 : decode mX12_book.2.1 75 = .ok (.getfield 405, 3) := by decide +kernel
theorem dX12_book_78 : decode mX12_book.2.1 78 = .ok (.if_icmp .ge 25, 3) := by decide +kernel
theorem dX12_book_81 : decode mX12_book.2.1 81 = .ok (.iload_n 3, 1) := by decide +kernel
theorem dX12_book_82 : decode mX12_book.2.1 82 = .ok (.ifCond .ne 21, 3) := by decide +kernel
theorem dX12_book_85 : decode mX12_book.2.1 85 = .ok (.aload_n 0, 1) := by decide +kernel
theorem dX12_book_86 : decode mX12_book.2.1 86 = .ok (.iconst 4, 1) := by decide +kernel
theorem dX12_book_87 : decode mX12_book.2.1 87 = .ok (.iload_n 2, 1) := by decide +kernel
theorem dX12_book_88 : decode mX12_book.2.1 88 = .ok (.imul, 1) := by decide +kernel
theorem dX12_book_89 : decode mX12_book.2.1 89 = .ok (.invokevirtual 414, 3) := by decide +kernel
theorem dX12_book_92 : decode mX12_book.2.1 92 = .ok (.istore_n 3, 1) := by decide +kernel
theorem dX12_book_93 : decode mX12_book.2.1 93 = .ok (.iload_n 3, 1) := by decide +kernel
theorem dX12_book_94 : decode mX12_book.2.1 94 = .ok (.ifCond .ne (-21), 3) := by decide +kernel
theorem dX12_book_97 : decode mX12_book.2.1 97 = .ok (.iinc 2 1, 3) := by decide +kernel
theorem dX12_book_100 : decode mX12_book.2.1 100 = .ok (.goto (-27), 3) := by decide +kernel
theorem dX12_book_103 : decode mX12_book.2.1 103 = .ok (.aload_n 0, 1) := by decide +kernel
theorem dX12_book_104 : decode mX12_book.2.1 104 = .ok (.getfield 154, 3) := by decide +kernel
theorem dX12_book_107 : decode mX12_book.2.1 107 = .ok (.iconst 0, 1) := by decide +kernel
theorem dX12_book_108 : decode mX12_book.2.1 108 = .ok (.iload_n 3, 1) := by decide +kernel
theorem dX12_book_109 : decode mX12_book.2.1 109 = .ok (.iastore, 1) := by decide +kernel
theorem dX12_book_110 : decode mX12_book.2.1 110 = .ok (.aload_n 0, 1) := by decide +kernel
theorem dX12_book_111 : decode mX12_book.2.1 111 = .ok (.getfield 154, 3) := by decide +kernel
theorem dX12_book_114 : decode mX12_book.2.1 114 = .ok (.iconst 1, 1) := by decide +kernel
theorem dX12_book_115 : decode mX12_book.2.1 115 = .ok (.iload_n 2, 1) := by decide +kernel
theorem dX12_book_116 : decode mX12_book.2.1 116 = .ok (.iastore, 1) := by decide +kernel
theorem dX12_book_117 : decode mX12_book.2.1 117 = .ok (.aload_n 0, 1) := by decide +kernel
theorem dX12_book_118 : decode mX12_book.2.1 118 = .ok (.getfield 154, 3) := by decide +kernel
theorem dX12_book_121 : decode mX12_book.2.1 121 = .ok (.iconst 2, 1) := by decide +kernel
theorem dX12_book_122 : decode mX12_book.2.1 122 = .ok (.aload_n 0, 1) := by decide +kernel
theorem dX12_book_123 : decode mX12_book.2.1 123 = .ok (.getfield 98, 3) := by decide +kernel
theorem dX12_book_126 : decode mX12_book.2.1 126 = .ok (.bipush 123, 2) := by decide +kernel
theorem dX12_book_128 : decode mX12_book.2.1 128 = .ok (.iaload, 1) := by decide +kernel
theorem dX12_book_129 : decode mX12_book.2.1 129 = .ok (.iastore, 1) := by decide +kernel
theorem dX12_book_130 : decode mX12_book.2.1 130 = .ok (.aload_n 0, 1) := by decide +kernel
theorem dX12_book_131 : decode mX12_book.2.1 131 = .ok (.getfield 154, 3) := by decide +kernel
theorem dX12_book_134 : decode mX12_book.2.1 134 = .ok (.iconst 3, 1) := by decide +kernel
theorem dX12_book_135 : decode mX12_book.2.1 135 = .ok (.aload_n 0, 1) := by decide +kernel
theorem dX12_book_136 : decode mX12_book.2.1 136 = .ok (.iconst 1, 1) := by decide +kernel
theorem dX12_book_137 : decode mX12_book.2.1 137 = .ok (.invokevirtual 267, 3) := by decide +kernel
theorem dX12_book_140 : decode mX12_book.2.1 140 = .ok (.iastore, 1) := by decide +kernel
theorem dX12_book_141 : decode mX12_book.2.1 141 = .ok (.aload_n 0, 1) := by decide +kernel
theorem dX12_book_142 : decode mX12_book.2.1 142 = .ok (.iconst 1, 1) := by decide +kernel
theorem dX12_book_143 : decode mX12_book.2.1 143 = .ok (.putfield 417, 3) := by decide +kernel
theorem dX12_book_146 : decode mX12_book.2.1 146 = .ok (.aload_n 0, 1) := by decide +kernel
theorem dX12_book_147 : decode mX12_book.2.1 147 = .ok (.iload_n 1, 1) := by decide +kernel
theorem dX12_book_148 : decode mX12_book.2.1 148 = .ok (.iconst 1, 1) := by decide +kernel
theorem dX12_book_149 : decode mX12_book.2.1 149 = .ok (.if_icmp .ne 11, 3) := by decide +kernel
theorem dX12_book_152 : decode mX12_book.2.1 152 = .ok (.iload_n 2, 1) := by decide +kernel
theorem dX12_book_153 : decode mX12_book.2.1 153 = .ok (.ifCond .le 7, 3) := by decide +kernel
theorem dX12_book_156 : decode mX12_book.2.1 156 = .ok (.iconst 1, 1) := by decide +kernel
theorem dX12_book_157 : decode mX12_book.2.1 157 = .ok (.goto 4, 3) := by decide +kernel
theorem dX12_book_160 : decode mX12_book.2.1 160 = .ok (.iconst 0, 1) := by decide +kernel
theorem dX12_book_161 : decode mX12_book.2.1 161 = .ok (.invokevirtual 420, 3) := by decide +kernel
theorem dX12_book_164 : decode mX12_book.2.1 164 = .ok (.iload_n 3, 1) := by decide +kernel
theorem dX12_book_165 : decode mX12_book.2.1 165 = .ok (.ifCond .ne 7, 3) := by decide +kernel
theorem dX12_book_168 : decode mX12_book.2.1 168 = .ok (.iconst (-1), 1) := by decide +kernel
theorem dX12_book_169 : decode mX12_book.2.1 169 = .ok (.goto 4, 3) := by decide +kernel
theorem dX12_book_172 : decode mX12_book.2.1 172 = .ok (.iload_n 2, 1) := by decide +kernel
theorem dX12_book_173 : decode mX12_book.2.1 173 = .ok (.ireturn, 1) := by decide +kernel
set_option maxRecDepth 4000 in
theorem ev_X12_book {m : Mem} {B : Mem} {t : Int → Int} {kw : Int → Int} {n : Int} {J : Mem} {Q : Int} {v : Int} (hv : InR v) (hte : TE B t kw n 400) (hsz : m 214 2 = n) (ht : ∀ j : Int, 0 ≤ j → j < n → m 215 j = t j) (hb : Bg B 8 18 (m 216)) (hdn : DnOk B 8) (hnm : NmR B 8 (m 221)) (h70 : B 70 11 = 0) (hn : 0 ≤ m 214 25 ∧ m 214 25 ≤ 8) (hbJ : Bg J 8 32 (m 216)) (hdJ : DnOk J 8) (hsJ : StOk J 8 32 Q) (hQ : 0 ≤ Q ∧ Q ≤ 200000000) (hJ8 : J 8 = B 8) (hJ : ∀ k : Nat, (∀ j : Nat, j < k → okB B j) → B 4 ((bl B k).2 - 1) = 0 → ∀ b : Nat, 71 ≤ b → b ≤ 75 → J b = (bl B k).1 b) : Ev 0 7 mX12_book [vr 214, vi v] m (fun r m' => BkM m B J v r m') := by
  refine Ev.of (L := [vr 214, vi v, un, un]) (by decide +kernel) rfl (Nat.le_of_ble_eq_true rfl) rfl (fun t ht => by cases ht; first | exact Or.inl rfl | exact Or.inr (Or.inl rfl) | exact Or.inr (Or.inr rfl)) (fun hcan => ?_)
  have hT1 := hte.1.1
  refine go_aload_n dX12_book_0 rfl ?_
  refine go_iconst dX12_book_1 ?_
  refine go_putf_i (ki := 0) dX12_book_2 fw_12_1 ob_214 rfl rfl ⟨by omega, by omega⟩ ?_
  refine go_iload_n dX12_book_5 rfl ?_
  refine go_iconst dX12_book_6 ?_
  refine go_iconst dX12_book_7 ?_
  refine go_callSp_z (as := [vi v, vi 0, vi 1]) (S := []) (ev_X12_isIn (m := (wr m 214 0 0)) (n := v) (lo := 0) (hi := 1) (by first | assumption | omega | exact ⟨by omega, by omega⟩ | (constructor <;> omega)) (by first | assumption | omega | exact ⟨by omega, by omega⟩ | (constructor <;> omega)) (by first | assumption | omega | exact ⟨by omega, by omega⟩ | (constructor <;> omega))) rfl dX12_book_8 cs_12_75 rfl rfl (by decide) (Nat.le_of_ble_eq_true rfl) (fun r_8 hr_8 ho_8 => ?_)
  refine go_if_ne (tgt := 18) dX12_book_11 (by decide) ⟨by omega, by omega⟩ (fun h_11 => ?_) (fun h_11 => ?_)
  · refine go_aload_n dX12_book_18 rfl ?_
    refine go_sipush dX12_book_19 (by decide) ?_
    refine go_callV_v (as := [vi 400]) (S := []) (b := 214) (ev_X12_begin (m := (wr m 214 0 0)) (lim := 400) (G := B) (t := t) (kw := kw) (n := n) hte (by rw [wr_ni (by decide)]; exact hsz) (fun j a b => by rw [wr_na (by decide)]; exact ht j a b)) rfl dX12_book_22 cv_12_220 rfl rfl ob_214 rfl (by decide) (Nat.le_of_ble_eq_true rfl) (fun m_22 hr_22 => ?_)
    refine go_aload_n dX12_book_25 rfl ?_
    refine go_iconst dX12_book_26 ?_
    refine go_putf_i (ki := 41) dX12_book_27 fw_12_405 ob_214 rfl rfl ⟨by omega, by omega⟩ ?_
    have lp_30 : ∀ (n_30 : Nat) (m1 : Mem)  (k : Nat), (∀ j : Nat, j < k → okB B j) → (TM B t kw n 400 m1 ((bl B k).2 - 1)) → (Kx1 m m1) → (m1 214 10 = 0) → (m1 214 41 = (k : Int)) → ((bl B k).1 70 11 = (k : Int)) → ((k : Int) ≤ 40) → (∀ l : Int, 0 ≤ l → l < (k : Int) → LnR (bl B k).1 (m1 232) l) → (∀ l : Int, 0 ≤ l → l < (k : Int) → LOk (bl B k).1 l) → (B 1 11 - (bl B k).2 + 1).toNat < n_30 → Go 0 7 mX12_book (fun r m' => BkM m B J v r m') 30 [vr 214, vi v, un, un] [] m1 := by
      intro n_30
      induction n_30 with
      | zero => intro m1 k hok htm hk1 hfl hln h7011 hk40 hlr hlo hmu; exact absurd hmu (Nat.not_lt_zero _)
      | succ n_30 ih_30 =>
        intro m1 k hok htm hk1 hfl hln h7011 hk40 hlr hlo hmu
        have hkd := htm.kd
        have hk0 := hkd.k0
        have hii := htm.2.2.1
        refine go_aload_n dX12_book_30 rfl ?_
        refine go_getf_i (ki := 7) dX12_book_31 fl_12_30 ob_214 rfl rfl (fun hf_31 => ?_)
        refine go_if_eq (tgt := 65) dX12_book_34 (by decide) ⟨by omega, by omega⟩ (fun h_34 => ?_) (fun h_34 => ?_)
        · have hJk := hJ k hok (hk0.mp (by omega))
          have hloJ : ∀ l : Int, 0 ≤ l → l < (k : Int) → LOk J l := fun l a b => (hlo l a b).c (by rw [hJ8, bl_out k (by omega)]) (by rw [hJk 71 (by omega) (by omega)]) (by rw [hJk 72 (by omega) (by omega)]) (by rw [hJk 73 (by omega) (by omega)]) (by rw [hJk 74 (by omega) (by omega)]) (by rw [hJk 75 (by omega) (by omega)])
          have hlrJ : ∀ l : Int, 0 ≤ l → l < (k : Int) → LnR J (m1 232) l := fun l a b => (hlr l a b).c (by rw [hJk 71 (by omega) (by omega)]) (by rw [hJk 72 (by omega) (by omega)]) (by rw [hJk 73 (by omega) (by omega)]) (by rw [hJk 74 (by omega) (by omega)]) (by rw [hJk 75 (by omega) (by omega)]) (fun j _ _ => rfl)
          refine go_aload_n dX12_book_65 rfl ?_
          refine go_callV_v (as := []) (S := []) (b := 214) (ev_X12_layAside (m := m1)  ) rfl dX12_book_66 cv_12_390 rfl rfl ob_214 rfl (by decide) (Nat.le_of_ble_eq_true rfl) (fun m_66 hr_66 => ?_)
          refine go_iconst dX12_book_69 ?_
          refine go_istore_n (L' := [vr 214, vi v, vi 0, un]) dX12_book_70 (by decide) rfl rfl ?_
          refine go_iconst dX12_book_71 ?_
          refine go_istore_n (L' := [vr 214, vi v, vi 0, vi 0]) dX12_book_72 (by decide) rfl rfl ?_
          have lp_73 : ∀ (n_73 : Nat) (m2 : Mem) (c : Int) (w : Int) , (0 ≤ c) → (c ≤ (k : Int)) → (∀ j : Nat, j < c.toNat → liveR (jN J j) 32 (j : Int) = 0) → (w = 0 ∨ (w = liveR (jN J c.toNat) 32 c ∧ w ≠ 0 ∧ c < (k : Int))) → (So m_66 m2) → (Bg (jN J c.toNat) 8 32 (m2 216)) → (if w = 0 then (k : Int) - c + 1 else 0).toNat < n_73 → Go 0 7 mX12_book (fun r m' => BkM m B J v r m') 73 [vr 214, vi v, vi c, vi w] [] m2 := by
            intro n_73
            induction n_73 with
            | zero => intro m2 c w hc0 hc1 hall hw hso hb2 hmu; exact absurd hmu (Nat.not_lt_zero _)
            | succ n_73 ih_73 =>
              intro m2 c w hc0 hc1 hall hw hso hb2 hmu
              have hlb := liveR_b (m := jN J c.toNat) (st := 32) c
              have eln : m2 214 41 = (k : Int) := by rw [hso.1 214 (by decide), hr_66, mov_row (by decide)]; exact hln
              refine go_iload_n dX12_book_73 rfl ?_
              have cut_103 :  ((c = (k : Int) ∧ w = 0) ∨ (c < (k : Int) ∧ w = liveR (jN J c.toNat) 32 c ∧ w ≠ 0)) → Go 0 7 mX12_book (fun r m' => BkM m B J v r m') 103 [vr 214, vi v, vi c, vi w] [] m2 := by
                intro hfin
                refine go_aload_n dX12_book_103 rfl ?_
                refine go_getf_p (b := 233) dX12_book_104 fl_12_154 ob_214 rfl pt_214_40 ?_
                refine go_iconst dX12_book_107 ?_
                refine go_iload_n dX12_book_108 rfl ?_
                refine go_iastore dX12_book_109 ar_233 (by omega) (by omega) ⟨by omega, by omega⟩ ?_
                refine go_aload_n dX12_book_110 rfl ?_
                refine go_getf_p (b := 233) dX12_book_111 fl_12_154 ob_214 rfl pt_214_40 ?_
                refine go_iconst dX12_book_114 ?_
                refine go_iload_n dX12_book_115 rfl ?_
                refine go_iastore dX12_book_116 ar_233 (by omega) (by omega) ⟨by omega, by omega⟩ ?_
                refine go_aload_n dX12_book_117 rfl ?_
                refine go_getf_p (b := 233) dX12_book_118 fl_12_154 ob_214 rfl pt_214_40 ?_
                refine go_iconst dX12_book_121 ?_
                refine go_aload_n dX12_book_122 rfl ?_
                refine go_getf_p (b := 216) dX12_book_123 fl_12_98 ob_214 rfl pt_214_14 ?_
                refine go_bipush dX12_book_126 (by decide) ?_
                refine go_iaload dX12_book_128 ar_216 (by omega) (by omega) (fun he_128 => ?_)
                rw [show ((wr (wr m2 233 0 w) 233 1 c) 216 123 : Int) = (jN J c.toNat 32 0) from by rw [wr_na (by decide), wr_na (by decide)]; exact hb2.hr] at he_128 ⊢
                refine go_iastore dX12_book_129 ar_233 (by omega) (by omega) ⟨by omega, by omega⟩ ?_
                refine go_aload_n dX12_book_130 rfl ?_
                refine go_getf_p (b := 233) dX12_book_131 fl_12_154 ob_214 rfl pt_214_40 ?_
                refine go_iconst dX12_book_134 ?_
                refine go_aload_n dX12_book_135 rfl ?_
                refine go_iconst dX12_book_136 ?_
                refine go_callVp_i (as := [vi 1]) (S := [vi 3, vr 233]) (b := 214) (ev_X12_who (m := (wr (wr (wr m2 233 0 w) 233 1 c) 233 2 (jN J c.toNat 32 0))) (v := 1) (G := (jN J c.toNat)) (d := 8) (st := 32) (((hb2.w (by decide)).w (by decide)).w (by decide)) (hdJ.fr (jN_fr _) (by decide)) (by first | assumption | omega | exact ⟨by omega, by omega⟩ | (constructor <;> omega))) rfl dX12_book_137 cv_12_267 rfl rfl ob_214 rfl (by decide) (Nat.le_of_ble_eq_true rfl) (fun r_137 hr_137 ho_137 => ?_)
                refine go_iastore dX12_book_140 ar_233 (by omega) (by omega) ho_137 ?_
                refine go_aload_n dX12_book_141 rfl ?_
                refine go_iconst dX12_book_142 ?_
                refine go_putf_z (ki := 42) dX12_book_143 fw_12_417 ob_214 rfl rfl (by first | exact Or.inl rfl | exact Or.inr rfl | assumption | omega) ?_
                have cut_161 : ∀  (bo : Int), ((bo = 1 ∧ v = 1 ∧ 0 < c) ∨ (bo = 0 ∧ ¬ (v = 1 ∧ 0 < c))) → Go 0 7 mX12_book (fun r m' => BkM m B J v r m') 161 [un, un, vi c, vi w] [vi bo, vr 214] (wr (wr (wr (wr (wr m2 233 0 w) 233 1 c) 233 2 (jN J c.toNat 32 0)) 233 3 r_137) 214 42 1) := by
                  intro bo hbb
                  refine go_callV_v (as := [vi bo]) (S := []) (b := 214) (ev_X12_stay (m := (wr (wr (wr (wr (wr m2 233 0 w) 233 1 c) 233 2 (jN J c.toNat 32 0)) 233 3 r_137) 214 42 1)) (bo := bo) (by first | assumption | omega | exact ⟨by omega, by omega⟩ | (constructor <;> omega)) (by rw [wr_ni (by decide), wr_na (by decide), wr_na (by decide), wr_na (by decide), wr_na (by decide), hso.1 214 (by decide), hr_66, mov_row (by decide), hk1.2.2 25 (by omega)]; exact hn)) rfl dX12_book_161 cv_12_420 rfl rfl ob_214 rfl (by decide) (Nat.le_of_ble_eq_true rfl) (fun m_161 hr_161 => ?_)
                  refine go_iload_n dX12_book_164 rfl ?_
                  refine go_if_ne (tgt := 172) dX12_book_165 (by decide) ⟨by omega, by omega⟩ (fun h_165 => ?_) (fun h_165 => ?_)
                  · refine go_iload_n dX12_book_172 rfl ?_
                    refine go_ret (v := c) rfl dX12_book_173 (okI ⟨by omega, by omega⟩) ?_
                    have hcn : ((c.toNat : Nat) : Int) = c := by omega
                    have e8 : jN J c.toNat 8 = J 8 := jN_fr _ 8 (by omega)
                    rw [whP_1, e8] at hr_137
                    have hm66 : ∀ b : Nat, b ≠ 220 → m_66 b = m1 b := fun b hb => by rw [hr_66, mov_row hb]
                    have hm220 : ∀ j : Int, 0 ≤ j → j < 109 → m_66 220 j = m1 216 (123 + j) := fun j a b => by rw [hr_66, mov_in a (by omega), show 123 + (j - 0) = 123 + j by omega]
                    have e216 : m1 216 = m 216 := hk1.1 216 (by decide) (by decide)
                    obtain ⟨Z, hZ⟩ : ∃ z, z = (wr (wr (wr (wr (wr m2 233 0 w) 233 1 c) 233 2 (jN J c.toNat 32 0)) 233 3 r_137) 214 42 1) := ⟨_, rfl⟩
                    rw [← hZ] at hr_161
                    have z216 : ∀ j : Int, Z 216 j = m2 216 j := fun j => by rw [hZ]; simp (disch := decide) only [wr_na]
                    have zr : ∀ b : Nat, b ≠ 214 → b ≠ 233 → Z b = m2 b := fun b h1 h2 => by rw [hZ, wr_row h1, wr_row h2, wr_row h2, wr_row h2, wr_row h2]
                    have z220 : ∀ j : Int, 0 ≤ j → j < 109 → Z 220 j = m 216 (123 + j) := fun j a b => by rw [zr 220 (by decide) (by decide), hso.1 220 (by decide), hm220 j a b, e216]
                    have z214 : ∀ j : Int, j ≠ 42 → Z 214 j = m1 214 j := fun j hj => by rw [hZ, wr_ni hj]; simp (disch := decide) only [wr_na]; rw [hso.1 214 (by decide), hm66 214 (by decide)]
                    have s216 : swp Z 109 216 = m 216 := by
                      funext j
                      unfold swp
                      by_cases q : 123 ≤ j ∧ j < 123 + 109
                      · rw [if_pos ⟨rfl, q.1, q.2⟩, z220 _ (by omega) (by omega), show 123 + (j - 123) = j by omega]
                      · rw [if_neg (by omega), if_neg (by omega), z216, hso.2 j (by omega), hm66 216 (by decide), e216]
                    have sr : ∀ b : Nat, b ≠ 216 → b ≠ 220 → swp Z 109 b = Z b := fun b h1 h2 => swp_row h1 h2
                    have w0 : Z 233 0 = w := by rw [hZ]; simp (disch := decide) only [wr_na, wr_ni, wr_self]
                    have w1 : Z 233 1 = c := by rw [hZ]; simp (disch := decide) only [wr_na, wr_ni, wr_self]
                    have w2 : Z 233 2 = jN J c.toNat 32 0 := by rw [hZ]; simp (disch := decide) only [wr_na, wr_ni, wr_self]
                    have w3 : Z 233 3 = comeN 0 (setlC (jN J c.toNat) 8 32) (J 8 3).toNat := by rw [hZ]; simp (disch := decide) only [wr_na, wr_ni, wr_self]; exact hr_137
                    have z42 : Z 214 42 = 1 := by rw [hZ, wr_self]
                    have hzero := hk0.mp (by omega)
                    rcases hr_161 with ⟨b0, hm⟩ | ⟨b1, m6, hsn, hm⟩
                    · have n1 : ¬ (v = 1 ∧ 0 < c) := by omega
                      have r233 : m_161 233 = Z 233 := by rw [hm, sr 233 (by decide) (by decide)]
                      have r214 : m_161 214 = Z 214 := by rw [hm, sr 214 (by decide) (by decide)]
                      refine Or.inr ⟨by omega, ⟨fun b h1 h2 h3 h4 h5 h6 => ?_, ⟨?_, ?_⟩, fun j hj => ?_⟩, k, hok, Or.inl ⟨hzero, by omega, c.toNat, by omega, hall, ?_, ?_, ?_, ?_, ?_, ?_, ?_, Or.inr ⟨by omega, ?_, ?_, ?_⟩⟩⟩
                      · rw [hm, sr b h2 h4, zr b h1 h6, hso.1 b h2, hm66 b h4]; exact hk1.1 b h1 h5
                      · rw [r214, z214 0 (by decide)]; exact hk1.2.1.1
                      · rw [r214, z214 2 (by decide)]; exact hk1.2.1.2
                      · rw [r214, z214 j (by omega)]; exact hk1.2.2 j (by omega)
                      · rw [r233, w0, hcn]; omega
                      · rw [r233, w1]; omega
                      · rw [r233, w2]
                      · rw [r233, w3]
                      · rw [r233, w0, w1]; omega
                      · rw [r214, z42]
                      · rw [r214, z214 10 (by decide)]; exact hfl
                      · rw [hm]; exact s216
                      · rw [hm, sr 219 (by decide) (by decide), zr 219 (by decide) (by decide), hso.1 219 (by decide), hm66 219 (by decide)]; exact hk1.1 219 (by decide) (by decide)
                      · rw [r214, z214 25 (by decide)]; exact hk1.2.2 25 (by omega)
                    · have n1 : v = 1 ∧ 0 < c := by omega
                      have r6 : ∀ b : Nat, b ≠ 214 → b ≠ 219 → m6 b = swp Z 109 b := hsn.1
                      have r233 : m_161 233 = Z 233 := by rw [hm, mov_row (by decide), r6 233 (by decide) (by decide), sr 233 (by decide) (by decide)]
                      have r214 : ∀ j : Int, j ≠ 25 → m_161 214 j = Z 214 j := fun j hj => by rw [hm, mov_row (by decide), hsn.2.1 j hj, sr 214 (by decide) (by decide)]
                      have e25 : swp Z 109 214 25 = m 214 25 := by rw [sr 214 (by decide) (by decide), z214 25 (by decide)]; exact hk1.2.2 25 (by omega)
                      have e219 : swp Z 109 219 = m 219 := by rw [sr 219 (by decide) (by decide), zr 219 (by decide) (by decide), hso.1 219 (by decide), hm66 219 (by decide)]; exact hk1.1 219 (by decide) (by decide)
                      have f25 : m_161 214 25 = m6 214 25 := by rw [hm, mov_row (by decide)]
                      have f219 : m_161 219 = m6 219 := by rw [hm, mov_row (by decide)]
                      obtain ⟨-, -, s3, s4, s5⟩ := hsn
                      rw [e25] at s3
                      have hb216 : m_161 216 = m2 216 := by
                        funext j
                        rw [hm]
                        by_cases q : 123 ≤ j ∧ j < 123 + 109
                        · rw [mov_in q.1 q.2, r6 220 (by decide) (by decide)]
                          unfold swp
                          rw [if_neg (by omega), if_pos ⟨rfl, by omega, by omega⟩, z216, show 123 + (0 + (j - 123)) = j by omega]
                        · rw [mov_out (by omega), r6 216 (by decide) (by decide), s216, hso.2 j (by omega), hm66 216 (by decide), e216]
                      refine Or.inr ⟨by omega, ⟨fun b h1 h2 h3 h4 h5 h6 => ?_, ⟨?_, ?_⟩, fun j hj => ?_⟩, k, hok, Or.inl ⟨hzero, by omega, c.toNat, by omega, hall, ?_, ?_, ?_, ?_, ?_, ?_, ?_, Or.inl ⟨n1.1, by omega, ⟨?_, ?_, ?_⟩, ?_, ?_⟩⟩⟩
                      · rw [hm, mov_row h2, r6 b h1 h3, sr b h2 h4, zr b h1 h6, hso.1 b h2, hm66 b h4]; exact hk1.1 b h1 h5
                      · rw [r214 0 (by decide), z214 0 (by decide)]; exact hk1.2.1.1
                      · rw [r214 2 (by decide), z214 2 (by decide)]; exact hk1.2.1.2
                      · rw [r214 j (by omega), z214 j (by omega)]; exact hk1.2.2 j (by omega)
                      · rw [r233, w0, hcn]; omega
                      · rw [r233, w1]; omega
                      · rw [r233, w2]
                      · rw [r233, w3]
                      · rw [r233, w0, w1]; omega
                      · rw [r214 42 (by decide), z42]
                      · rw [r214 10 (by decide), z214 10 (by decide)]; exact hfl
                      · rw [f25]; exact s3
                      · intro k j k0 k1 j0 j1
                        rw [f219, s4 k j k0 (by rw [← f25]; exact k1) j0 j1, e25, e219]
                      · intro j j0 j1
                        rw [f219, f25, s5 j j0 j1, s216]
                      · rw [hb216]; exact hb2
                      · intro j hj
                        rw [hb216, hso.2 j hj, hm66 216 (by decide), e216]
                  · refine go_iconst dX12_book_168 ?_
                    refine go_goto (tgt := 173) dX12_book_169 (by decide) ?_
                    refine go_ret (v := (-1)) rfl dX12_book_173 (okI ⟨by omega, by omega⟩) ?_
                    have hcn : ((c.toNat : Nat) : Int) = c := by omega
                    have e8 : jN J c.toNat 8 = J 8 := jN_fr _ 8 (by omega)
                    rw [whP_1, e8] at hr_137
                    have hm66 : ∀ b : Nat, b ≠ 220 → m_66 b = m1 b := fun b hb => by rw [hr_66, mov_row hb]
                    have hm220 : ∀ j : Int, 0 ≤ j → j < 109 → m_66 220 j = m1 216 (123 + j) := fun j a b => by rw [hr_66, mov_in a (by omega), show 123 + (j - 0) = 123 + j by omega]
                    have e216 : m1 216 = m 216 := hk1.1 216 (by decide) (by decide)
                    obtain ⟨Z, hZ⟩ : ∃ z, z = (wr (wr (wr (wr (wr m2 233 0 w) 233 1 c) 233 2 (jN J c.toNat 32 0)) 233 3 r_137) 214 42 1) := ⟨_, rfl⟩
                    rw [← hZ] at hr_161
                    have z216 : ∀ j : Int, Z 216 j = m2 216 j := fun j => by rw [hZ]; simp (disch := decide) only [wr_na]
                    have zr : ∀ b : Nat, b ≠ 214 → b ≠ 233 → Z b = m2 b := fun b h1 h2 => by rw [hZ, wr_row h1, wr_row h2, wr_row h2, wr_row h2, wr_row h2]
                    have z220 : ∀ j : Int, 0 ≤ j → j < 109 → Z 220 j = m 216 (123 + j) := fun j a b => by rw [zr 220 (by decide) (by decide), hso.1 220 (by decide), hm220 j a b, e216]
                    have z214 : ∀ j : Int, j ≠ 42 → Z 214 j = m1 214 j := fun j hj => by rw [hZ, wr_ni hj]; simp (disch := decide) only [wr_na]; rw [hso.1 214 (by decide), hm66 214 (by decide)]
                    have s216 : swp Z 109 216 = m 216 := by
                      funext j
                      unfold swp
                      by_cases q : 123 ≤ j ∧ j < 123 + 109
                      · rw [if_pos ⟨rfl, q.1, q.2⟩, z220 _ (by omega) (by omega), show 123 + (j - 123) = j by omega]
                      · rw [if_neg (by omega), if_neg (by omega), z216, hso.2 j (by omega), hm66 216 (by decide), e216]
                    have sr : ∀ b : Nat, b ≠ 216 → b ≠ 220 → swp Z 109 b = Z b := fun b h1 h2 => swp_row h1 h2
                    have w0 : Z 233 0 = w := by rw [hZ]; simp (disch := decide) only [wr_na, wr_ni, wr_self]
                    have w1 : Z 233 1 = c := by rw [hZ]; simp (disch := decide) only [wr_na, wr_ni, wr_self]
                    have w2 : Z 233 2 = jN J c.toNat 32 0 := by rw [hZ]; simp (disch := decide) only [wr_na, wr_ni, wr_self]
                    have w3 : Z 233 3 = comeN 0 (setlC (jN J c.toNat) 8 32) (J 8 3).toNat := by rw [hZ]; simp (disch := decide) only [wr_na, wr_ni, wr_self]; exact hr_137
                    have z42 : Z 214 42 = 1 := by rw [hZ, wr_self]
                    have hzero := hk0.mp (by omega)
                    rcases hr_161 with ⟨b0, hm⟩ | ⟨b1, m6, hsn, hm⟩
                    · have n1 : ¬ (v = 1 ∧ 0 < c) := by omega
                      have r233 : m_161 233 = Z 233 := by rw [hm, sr 233 (by decide) (by decide)]
                      have r214 : m_161 214 = Z 214 := by rw [hm, sr 214 (by decide) (by decide)]
                      refine Or.inr ⟨by omega, ⟨fun b h1 h2 h3 h4 h5 h6 => ?_, ⟨?_, ?_⟩, fun j hj => ?_⟩, k, hok, Or.inl ⟨hzero, by omega, c.toNat, by omega, hall, ?_, ?_, ?_, ?_, ?_, ?_, ?_, Or.inr ⟨by omega, ?_, ?_, ?_⟩⟩⟩
                      · rw [hm, sr b h2 h4, zr b h1 h6, hso.1 b h2, hm66 b h4]; exact hk1.1 b h1 h5
                      · rw [r214, z214 0 (by decide)]; exact hk1.2.1.1
                      · rw [r214, z214 2 (by decide)]; exact hk1.2.1.2
                      · rw [r214, z214 j (by omega)]; exact hk1.2.2 j (by omega)
                      · rw [r233, w0, hcn]; omega
                      · rw [r233, w1]; omega
                      · rw [r233, w2]
                      · rw [r233, w3]
                      · rw [r233, w0, w1]; omega
                      · rw [r214, z42]
                      · rw [r214, z214 10 (by decide)]; exact hfl
                      · rw [hm]; exact s216
                      · rw [hm, sr 219 (by decide) (by decide), zr 219 (by decide) (by decide), hso.1 219 (by decide), hm66 219 (by decide)]; exact hk1.1 219 (by decide) (by decide)
                      · rw [r214, z214 25 (by decide)]; exact hk1.2.2 25 (by omega)
                    · have n1 : v = 1 ∧ 0 < c := by omega
                      have r6 : ∀ b : Nat, b ≠ 214 → b ≠ 219 → m6 b = swp Z 109 b := hsn.1
                      have r233 : m_161 233 = Z 233 := by rw [hm, mov_row (by decide), r6 233 (by decide) (by decide), sr 233 (by decide) (by decide)]
                      have r214 : ∀ j : Int, j ≠ 25 → m_161 214 j = Z 214 j := fun j hj => by rw [hm, mov_row (by decide), hsn.2.1 j hj, sr 214 (by decide) (by decide)]
                      have e25 : swp Z 109 214 25 = m 214 25 := by rw [sr 214 (by decide) (by decide), z214 25 (by decide)]; exact hk1.2.2 25 (by omega)
                      have e219 : swp Z 109 219 = m 219 := by rw [sr 219 (by decide) (by decide), zr 219 (by decide) (by decide), hso.1 219 (by decide), hm66 219 (by decide)]; exact hk1.1 219 (by decide) (by decide)
                      have f25 : m_161 214 25 = m6 214 25 := by rw [hm, mov_row (by decide)]
                      have f219 : m_161 219 = m6 219 := by rw [hm, mov_row (by decide)]
                      obtain ⟨-, -, s3, s4, s5⟩ := hsn
                      rw [e25] at s3
                      have hb216 : m_161 216 = m2 216 := by
                        funext j
                        rw [hm]
                        by_cases q : 123 ≤ j ∧ j < 123 + 109
                        · rw [mov_in q.1 q.2, r6 220 (by decide) (by decide)]
                          unfold swp
                          rw [if_neg (by omega), if_pos ⟨rfl, by omega, by omega⟩, z216, show 123 + (0 + (j - 123)) = j by omega]
                        · rw [mov_out (by omega), r6 216 (by decide) (by decide), s216, hso.2 j (by omega), hm66 216 (by decide), e216]
                      refine Or.inr ⟨by omega, ⟨fun b h1 h2 h3 h4 h5 h6 => ?_, ⟨?_, ?_⟩, fun j hj => ?_⟩, k, hok, Or.inl ⟨hzero, by omega, c.toNat, by omega, hall, ?_, ?_, ?_, ?_, ?_, ?_, ?_, Or.inl ⟨n1.1, by omega, ⟨?_, ?_, ?_⟩, ?_, ?_⟩⟩⟩
                      · rw [hm, mov_row h2, r6 b h1 h3, sr b h2 h4, zr b h1 h6, hso.1 b h2, hm66 b h4]; exact hk1.1 b h1 h5
                      · rw [r214 0 (by decide), z214 0 (by decide)]; exact hk1.2.1.1
                      · rw [r214 2 (by decide), z214 2 (by decide)]; exact hk1.2.1.2
                      · rw [r214 j (by omega), z214 j (by omega)]; exact hk1.2.2 j (by omega)
                      · rw [r233, w0, hcn]; omega
                      · rw [r233, w1]; omega
                      · rw [r233, w2]
                      · rw [r233, w3]
                      · rw [r233, w0, w1]; omega
                      · rw [r214 42 (by decide), z42]
                      · rw [r214 10 (by decide), z214 10 (by decide)]; exact hfl
                      · rw [f25]; exact s3
                      · intro k j k0 k1 j0 j1
                        rw [f219, s4 k j k0 (by rw [← f25]; exact k1) j0 j1, e25, e219]
                      · intro j j0 j1
                        rw [f219, f25, s5 j j0 j1, s216]
                      · rw [hb216]; exact hb2
                      · intro j hj
                        rw [hb216, hso.2 j hj, hm66 216 (by decide), e216]
                refine go_aload_n dX12_book_146 rfl ?_
                refine go_iload_n dX12_book_147 rfl ?_
                refine go_iconst dX12_book_148 ?_
                refine go_icmp_ne (tgt := 160) dX12_book_149 (by decide) ⟨by omega, by omega⟩ ⟨by omega, by omega⟩ (fun h_149 => ?_) (fun h_149 => ?_)
                · refine go_iconst dX12_book_160 ?_
                  refine go_drop (j := 0) (L' := [un, vi v, vi c, vi w]) rfl ?_
                  refine go_drop (j := 1) (L' := [un, un, vi c, vi w]) rfl ?_
                  exact cut_161 0 (by omega)
                · refine go_iload_n dX12_book_152 rfl ?_
                  refine go_if_le (tgt := 160) dX12_book_153 (by decide) ⟨by omega, by omega⟩ (fun h_153 => ?_) (fun h_153 => ?_)
                  · refine go_iconst dX12_book_160 ?_
                    refine go_drop (j := 0) (L' := [un, vi v, vi c, vi w]) rfl ?_
                    refine go_drop (j := 1) (L' := [un, un, vi c, vi w]) rfl ?_
                    exact cut_161 0 (by omega)
                  · refine go_iconst dX12_book_156 ?_
                    refine go_goto (tgt := 161) dX12_book_157 (by decide) ?_
                    refine go_drop (j := 0) (L' := [un, vi v, vi c, vi w]) rfl ?_
                    refine go_drop (j := 1) (L' := [un, un, vi c, vi w]) rfl ?_
                    exact cut_161 1 (by omega)
              refine go_aload_n dX12_book_74 rfl ?_
              refine go_getf_i (ki := 41) dX12_book_75 fl_12_405 ob_214 rfl rfl (fun hf_75 => ?_)
              rw [show (m2 214 41 : Int) = (k : Int) from eln] at hf_75 ⊢
              refine go_icmp_ge (tgt := 103) dX12_book_78 (by decide) ⟨by omega, by omega⟩ ⟨by omega, by omega⟩ (fun h_78 => ?_) (fun h_78 => ?_)
              · exact cut_103  (by omega)
              · refine go_iload_n dX12_book_81 rfl ?_
                refine go_if_ne (tgt := 103) dX12_book_82 (by decide) ⟨by omega, by omega⟩ (fun h_82 => ?_) (fun h_82 => ?_)
                · exact cut_103  (by omega)
                · refine go_aload_n dX12_book_85 rfl ?_
                  refine go_iconst dX12_book_86 ?_
                  refine go_iload_n dX12_book_87 rfl ?_
                  refine go_imul dX12_book_88 ?_
                  refine go_callV_i (as := [vi (4 * c)]) (S := []) (b := 214) (ev_X12_goBy (m := m2) (J := (jN J c.toNat)) (B := (Q + (c.toNat : Int))) (l := c) hb2 (hdJ.fr (jN_fr _) (by decide)) (jN_st (n := (k : Int)) hdJ hsJ hloJ c.toNat (by omega)) (by first | assumption | omega | exact ⟨by omega, by omega⟩ | (constructor <;> omega)) ((hloJ c (by omega) (by omega)).c (jN_fr _ 8 (by omega)) (by rw [jN_fr _ 71 (by omega)]) (by rw [jN_fr _ 72 (by omega)]) (by rw [jN_fr _ 73 (by omega)]) (by rw [jN_fr _ 74 (by omega)]) (by rw [jN_fr _ 75 (by omega)])) ((hlrJ c (by omega) (by omega)).c (by rw [jN_fr _ 71 (by omega)]) (by rw [jN_fr _ 72 (by omega)]) (by rw [jN_fr _ 73 (by omega)]) (by rw [jN_fr _ 74 (by omega)]) (by rw [jN_fr _ 75 (by omega)]) (fun j _ _ => by rw [hso.1 232 (by decide), hr_66, mov_row (by decide)])) (by omega)) rfl dX12_book_89 cv_12_414 rfl rfl ob_214 rfl (by decide) (Nat.le_of_ble_eq_true rfl) (fun r_89 m_89 hr_89 ho_89 => ?_)
                  refine go_istore_n (L' := [vr 214, vi v, vi c, vi r_89]) dX12_book_92 (by decide) rfl rfl ?_
                  refine go_iload_n dX12_book_93 rfl ?_
                  refine go_if_ne (tgt := 73) dX12_book_94 (by decide) ⟨by omega, by omega⟩ (fun h_94 => ?_) (fun h_94 => ?_)
                  · exact ih_73 m_89 c r_89 (by first | assumption | omega | rfl) (by first | assumption | omega | rfl) (by first | exact hall | (intro j hj; by_cases q : j < c.toNat; exact hall j q; (have e : j = c.toNat := (by omega); rw [e, Int.toNat_of_nonneg hc0]; omega))) (by first | exact Or.inr ⟨hr_89.1, by omega, by omega⟩ | exact Or.inl (by omega)) (hso.tr hr_89.2.1) (by first | (rw [show (c + 1).toNat = c.toNat + 1 by omega]; show Bg (liveX (jN J c.toNat) 32 (c.toNat : Int)) 8 32 _; rw [Int.toNat_of_nonneg hc0]; exact hr_89.2.2) | (have z := hr_89.2.2; rw [liveX_n (by omega)] at z; exact z)) (by omega)
                  · refine go_iinc (L' := [vr 214, vi v, vi (c + 1), vi r_89]) dX12_book_97 rfl (by decide) rfl rfl ?_
                    refine go_goto (tgt := 73) dX12_book_100 (by decide) ?_
                    exact ih_73 m_89 (c + 1) r_89 (by first | assumption | omega | rfl) (by first | assumption | omega | rfl) (by first | exact hall | (intro j hj; by_cases q : j < c.toNat; exact hall j q; (have e : j = c.toNat := (by omega); rw [e, Int.toNat_of_nonneg hc0]; omega))) (by first | exact Or.inr ⟨hr_89.1, by omega, by omega⟩ | exact Or.inl (by omega)) (hso.tr hr_89.2.1) (by first | (rw [show (c + 1).toNat = c.toNat + 1 by omega]; show Bg (liveX (jN J c.toNat) 32 (c.toNat : Int)) 8 32 _; rw [Int.toNat_of_nonneg hc0]; exact hr_89.2.2) | (have z := hr_89.2.2; rw [liveX_n (by omega)] at z; exact z)) (by omega)
          exact lp_73 _ m_66 0 0 (by first | assumption | omega | rfl) (by first | assumption | omega | rfl) (fun j hj => absurd hj (Nat.not_lt_zero _)) (Or.inl rfl) So.rf (by show Bg J 8 32 _; rw [hr_66, mov_row (by decide), hk1.1 216 (by decide) (by decide)]; exact hbJ) (Nat.lt_succ_self _)
        · refine go_aload_n dX12_book_37 rfl ?_
          refine go_callV_z (as := []) (S := []) (b := 214) (ev_X12_readBookLine (m := m1) (G := (bl B k).1) (t := t) (kw := kw) (n := n) (lim := 400) (i := ((bl B k).2 - 1)) (l := (k : Int)) (bl_tm htm k) (by rw [hk1.1 216 (by decide) (by decide)]; exact hb.g (fun j hj => bl_out k (by omega)) (fun j hj => bl_out k (by omega))) (hdn.congr (fun j hj => bl_out k (by omega))) (hnm.c (hk1.1 221 (by decide) (by decide)) (bl_out k (by omega)) (bl_out k (by omega)) (bl_out k (by omega)) (bl_out k (by omega))) ⟨hln, h7011⟩ (by omega)) rfl dX12_book_38 cv_12_411 rfl rfl ob_214 rfl (by decide) (Nat.le_of_ble_eq_true rfl) (fun r_38 m_38 hr_38 ho_38 => ?_)
          rw [BlP, show (bl B k).2 - 1 + 1 = (bl B k).2 by omega] at hr_38
          obtain ⟨b_38, hr_38⟩ := hr_38
          rw [show (bl B k).1 4 = B 4 from bl_out k (by omega), show (bl B k).1 5 = B 5 from bl_out k (by omega)] at hr_38
          rcases hr_38 with ⟨f_38, q_38, e_38, l_38, t_38, a_38⟩ | ⟨e_38, p_38, no_38⟩
          · refine go_if_ne (tgt := 52) dX12_book_41 (by decide) ⟨by omega, by omega⟩ (fun h_41 => ?_) (fun h_41 => ?_)
            · have hbk := bk_ok f_38 (by omega)
              refine go_aload_n dX12_book_52 rfl ?_
              refine go_dup_r dX12_book_53 ?_
              refine go_getf_i (ki := 41) dX12_book_54 fl_12_405 ob_214 rfl rfl (fun hf_54 => ?_)
              rw [show (m_38 214 41 : Int) = (k : Int) from by rw [b_38.2.1 41 (by omega)]; exact hln] at hf_54 ⊢
              refine go_iconst dX12_book_57 ?_
              refine go_iadd dX12_book_58 ?_
              refine go_putf_i (ki := 41) dX12_book_59 fw_12_405 ob_214 rfl rfl ⟨by omega, by omega⟩ ?_
              refine go_goto (tgt := 30) dX12_book_62 (by decide) ?_
              exact ih_30 (wr m_38 214 41 ((k : Int) + 1)) (k + 1) (fun j hj => by by_cases q : j < k; exact hok j q; (have e : j = k := (by omega); rw [e]; exact ⟨fun z => by have := hk0.mpr z; omega, f_38, q_38⟩)) (by have z := bl_mt t_38; show TM B t kw n 400 _ ((bkF (bl B k).1 (bl B k).2).2 + 2 - 1); rw [show (bkF (bl B k).1 (bl B k).2).2 + 2 - 1 = (bkF (bl B k).1 (bl B k).2).2 + 1 by omega]; exact z.w (by decide) (by omega)) (by have q := hk1.b b_38; exact ⟨fun b h1 h2 => by rw [wr_row h1]; exact q.1 b h1 h2, ⟨by rw [wr_ni (by decide)]; exact q.2.1.1, by rw [wr_ni (by decide)]; exact q.2.1.2⟩, fun j hj => by rw [wr_ni (by omega)]; exact q.2.2 j hj⟩) (by rw [wr_ni (by decide), l_38]; exact hfl) (wr_self _ _ _ _) (by show wr (bkX (bl B k).1 (bl B k).2) 70 11 ((bl B k).1 70 11 + 1) 70 11 = _; rw [wr_self, h7011]; rfl) (by have := hbk.1; omega) (fun l a b => by show LnR (wr (bkX (bl B k).1 (bl B k).2) 70 11 ((bl B k).1 70 11 + 1)) _ l; by_cases q : l = (k : Int); (rw [q]; exact a_38.c (wr_na (by decide)) (wr_na (by decide)) (wr_na (by decide)) (wr_na (by decide)) (wr_na (by decide)) (fun j _ _ => wr_na (by decide))); (have z := hbk.2.2.2.1 l (by omega); exact (hlr l a (by omega)).c (by rw [wr_na (by decide)]; exact z.1) (by rw [wr_na (by decide)]; exact z.2.1) (by rw [wr_na (by decide)]; exact z.2.2.1) (by rw [wr_na (by decide)]; exact z.2.2.2.1) (by rw [wr_na (by decide)]; exact z.2.2.2.2) (fun j j0 j1 => by rw [wr_na (by decide)]; exact b_38.2.2 j (by omega)))) (fun l a b => by show LOk (wr (bkX (bl B k).1 (bl B k).2) 70 11 ((bl B k).1 70 11 + 1)) l; by_cases q : l = (k : Int); (have y := hbk.2.2.1; rw [h7011] at y; rw [q]; exact y.c (wr_row (by decide)) (wr_na (by decide)) (wr_na (by decide)) (wr_na (by decide)) (wr_na (by decide)) (wr_na (by decide))); (have z := hbk.2.2.2.1 l (by omega); exact (hlo l a (by omega)).c (by rw [wr_row (by decide)]; exact bkX_out (by omega)) (by rw [wr_na (by decide)]; exact z.1) (by rw [wr_na (by decide)]; exact z.2.1) (by rw [wr_na (by decide)]; exact z.2.2.1) (by rw [wr_na (by decide)]; exact z.2.2.2.1) (by rw [wr_na (by decide)]; exact z.2.2.2.2))) (by show (B 1 11 - ((bkF (bl B k).1 (bl B k).2).2 + 2) + 1).toNat < n_30; have := hbk.2.1; omega)
            · exfalso; omega
          · refine go_if_ne (tgt := 52) dX12_book_41 (by decide) ⟨by omega, by omega⟩ (fun h_41 => ?_) (fun h_41 => ?_)
            · exfalso; omega
            · refine go_bipush dX12_book_44 (by decide) ?_
              refine go_aload_n dX12_book_46 rfl ?_
              refine go_getf_i (ki := 11) dX12_book_47 fl_12_69 ob_214 rfl rfl (fun hf_47 => ?_)
              rw [show (m_38 214 11 : Int) = (B 5 (bkF (bl B k).1 (bl B k).2).2) from p_38] at hf_47 ⊢
              refine go_isub dX12_book_50 ?_
              refine go_wrap ?_
              refine go_ret (v := (w32 ((-2) - (B 5 (bkF (bl B k).1 (bl B k).2).2)))) rfl dX12_book_51 (okI (w32_R _)) ?_
              have hne : B 4 ((bl B k).2 - 1) ≠ 0 := fun z => by have := hk0.mpr z; omega
              have q := hk1.b b_38
              refine Or.inr ⟨by omega, ⟨fun b h1 h2 h3 h4 h5 h6 => q.1 b h1 h5, q.2.1, fun j hj => q.2.2 j (by omega)⟩, k, hok, Or.inr ⟨⟨q.1 216 (by decide) (by decide), q.1 219 (by decide) (by decide), q.2.2 25 (by omega), q.1 233 (by decide) (by decide), q.2.2 42 (by omega)⟩, hne, rfl, no_38⟩⟩
    exact lp_30 _ (wr m_22 214 41 0) 0 (fun j hj => absurd hj (Nat.not_lt_zero _)) (by show TM B t kw n 400 _ (1 - 1); exact hr_22.1.w (by decide) (by omega)) (by obtain ⟨-, b, ⟨c0, c1, c2⟩, e⟩ := hr_22; exact ⟨fun x h1 h2 => by rw [wr_row h1, b x h1, wr_row h1], ⟨by rw [wr_ni (by decide)]; exact c0, by rw [wr_ni (by decide)]; exact c1⟩, fun j hj => by rw [wr_ni (by omega), e j (by omega), wr_ni (by omega)]⟩) (by rw [wr_ni (by decide)]; exact hr_22.2.2.1.2.2) (wr_self _ _ _ _) h70 (by decide) (fun l a b => by omega) (fun l a b => by omega) (Nat.lt_succ_self _)
  · refine go_sipush dX12_book_14 (by decide) ?_
    exact go_ret (v := (-1000)) rfl dX12_book_17 (okI ⟨by omega, by omega⟩) (Or.inl ⟨by omega, rfl, rfl⟩)
