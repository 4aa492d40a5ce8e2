/-! ===== the calls, one by one: a BOOK ===== -/
section
variable {m : Mem} {B : Int}
theorem c_book {v : Int} (h : Inv m B) (hB : 0 ≤ B ∧ B ≤ 100000000) (hv : InR v) : Duo mX11_book mX12_book [vi v] m (fun m2 => Inv m2 (B + 300)) := by
  have hh := h.hi.1
  refine ⟨_, _, (by omega : 9 ≤ 70), ev_X11_book h.tp.2.1 h.dn h.st hB hh hv, fun r m1 hq1 => ?_⟩
  rcases hq1 with ⟨v0, v1, hr, hm⟩ | ⟨hv01, G, mr, hbg, hend⟩
  · subst hm
    refine ⟨_, _, (by omega : 7 ≤ 70), ev_X12_bookN hv (by omega), fun r2 m2 hq2 => ?_⟩
    obtain ⟨hr2, hm2⟩ := hq2
    subst hm2
    exact ⟨by rw [hr2, hr], h.t0.all (by omega) (fun _ _ _ => rfl)⟩
  · have hG : ∀ b : Nat, b ≠ 1 → b ≠ 4 → b ≠ 5 → b ≠ 6 → b ≠ 70 → G b = m b := fun b h1 h2 h3 h4 h5 => by rw [hbg.2.2.2.2 b h1 h2 h3 h4, wr_row h5]
    have hG70 : G 70 11 = 0 := by rw [hbg.2.2.2.2 70 (by omega) (by omega) (by omega) (by omega), wr_self]
    have hG7 : ∀ j : Int, j ≠ 11 → G 70 j = m 70 j := fun j hj => by rw [hbg.2.2.2.2 70 (by omega) (by omega) (by omega) (by omega), wr_ni hj]
    have hG6 : G 1 6 = 0 := hbg.2.2.1
    have hte : TE G (tx m) (m 3) (m 1 1) 400 := hbg.te h (by rw [wr_row (by omega)]) (wr_row (by omega)) (wr_row (by omega)) (by omega)
    have gd : ∀ q, q < 10 → G (8 + q) = m (8 + q) := fun q hq => hG _ (by omega) (by omega) (by omega) (by omega) (by omega)
    have gs : ∀ q, q < 8 → G (18 + q) = m (18 + q) := fun q hq => hG _ (by omega) (by omega) (by omega) (by omega) (by omega)
    have g8 : G 8 = m 8 := gd 0 (by omega)
    have hbG : Bg G 8 18 (m 216) := h.bg.g gd gs
    have hdG : DnOk G 8 := h.dn.congr gd
    have hnG : NmR G 8 (m 221) := h.nm.mv h.dn gd (fun _ _ _ => rfl)
    rcases hend with ⟨hbr, hr, hm⟩ | ⟨hbr, m3, hjd, hr, hm⟩
    · obtain ⟨k, hk, hcs⟩ := hbr
      have inf : G 4 ((bl G k).2 - 1) ≠ 0 ∧ ¬ okB G k ∧ mr 1 3 = G 5 (bkF (bl G k).1 (bl G k).2).2 ∧ (∀ b : Nat, b ≠ 1 → (b < 70 ∨ 76 ≤ b) → mr b = G b) ∧ ∀ j : Int, j ≠ 11 → mr 70 j = G 70 j := by
        rcases hcs with ⟨-, z, -⟩ | ⟨-, a1, a2, a3, a4, a5⟩ | ⟨-, a1, a2, a3, a4, a5, a6⟩
        · exact absurd z (by decide)
        · have p3 := a3.2.2.1
          rw [show (bkF (bl G k).1 (bl G k).2).2 + 1 - 1 = (bkF (bl G k).1 (bl G k).2).2 by omega] at p3
          exact ⟨a1, fun y => a2 y.2.1, p3, a4, a5⟩
        · have p3 := a4.2.2.1
          rw [show (bkF (bl G k).1 (bl G k).2).2 + 1 - 1 = (bkF (bl G k).1 (bl G k).2).2 by omega] at p3
          exact ⟨a1, fun y => a3 y.2.2, p3, a5, a6⟩
      obtain ⟨i1, i2, i3, i4, i5⟩ := inf
      have f1 : ∀ b : Nat, b ≠ 1 → b ≠ 4 → b ≠ 5 → b ≠ 6 → (b < 70 ∨ 76 ≤ b) → m1 b = m b := fun b b1 b2 b3 b4 b6 => by rw [hm, wr_row b1, i4 b b1 b6, hG b b1 b2 b3 b4 (by omega)]
      have f7 : ∀ j : Int, j ≠ 11 → m1 70 j = m 70 j := fun j hj => by rw [hm, wr_row (by omega), i5 j hj, hG7 j hj]
      have e4 : m1 214 = m 214 := f1 214 (by omega) (by omega) (by omega) (by omega) (by omega)
      have e5 : m1 215 = m 215 := f1 215 (by omega) (by omega) (by omega) (by omega) (by omega)
      have e6 : m1 216 = m 216 := f1 216 (by omega) (by omega) (by omega) (by omega) (by omega)
      have e21 : m1 221 = m 221 := f1 221 (by omega) (by omega) (by omega) (by omega) (by omega)
      have sJ := rows_sm (G := m)
      refine ⟨_, _, (by omega : 7 ≤ 70), ev_X12_book (B := G) (J := rows m 32 18 8) (Q := B) hv hte (by rw [e4]; exact h.tp.1) (by rw [e5]; exact h.tp.2.2) (by rw [e6]; exact hbG) hdG (by rw [e21]; exact hnG) hG70 (by rw [e4]; exact h.n25) (by rw [e6]; exact h.bg.sm sJ) (sJ.dn h.dn) (sJ.sto h.st) ⟨hB.1, by omega⟩ (by rw [rows_out (by omega), g8]) (fun k' hk' hz => ?_), fun r2 m2 hq2 => ?_⟩
      · have ek : k' = k := ok_u hk' (fun y => y.1 hz) hk i2
        subst ek
        exact absurd hz i1
      · rcases hq2 with ⟨z, -⟩ | ⟨-, ⟨d1, ⟨d2, d3⟩, d4⟩, k2, hk2, hcs2⟩
        · omega
        · rcases hcs2 with ⟨z, -⟩ | ⟨⟨s1, s2, s3, s4, s5⟩, -, hr2, hfl⟩
          · have ek : k2 = k := ok_u hk2 (fun y => y.1 z) hk i2
            subst ek
            exact absurd z i1
          · have nk2 : ¬ okB G k2 := by
              rcases hfl with ⟨z, -⟩ | ⟨-, z, -⟩
              · exact fun y => z y.2.1
              · exact fun y => z y.2.2
            have ek : k2 = k := ok_u hk2 nk2 hk i2
            subst ek
            have e16 : m2 1 6 = mr 1 6 := by rw [d1 1 (by omega) (by omega) (by omega) (by omega) (by omega) (by omega), hm, wr_ni (by omega)]
            have fa : FaR m2 := by
              unfold FaR
              rw [e16]
              rcases hcs with ⟨-, z, -⟩ | ⟨-, a1, a2, a3, -⟩ | ⟨-, a1, a2, a3, a4, -⟩
              · exact absurd z (by decide)
              · rcases hfl with ⟨-, y⟩ | ⟨y, -⟩
                · rw [a3.2.2.2.2.2.1, y]
                · exact absurd y a2
              · rcases hfl with ⟨y, -⟩ | ⟨-, -, y⟩
                · exact absurd a2 y
                · rw [a4.2.2.2.2.2.1, y]
            have t2 : TpX m2 m2 := TpX.zero (by rw [d1 1 (by omega) (by omega) (by omega) (by omega) (by omega) (by omega), hm, wr_self]) d3
            have kk : ∀ (b : Nat) (j : Int), b ≠ 1 → b ≠ 4 → b ≠ 5 → b ≠ 6 → (b < 71 ∨ 76 ≤ b) → ¬ (b = 70 ∧ j = 11) → b ≠ 220 → b ≠ 232 → ¬ (b = 214 ∧ (j ≤ 13 ∨ j = 41)) → m2 b j = m b j := fun b j b1 b2 b3 b4 b5 b6 b7 b8 b9 => by
              by_cases z : b = 214
              · subst z
                by_cases y : j = 25
                · subst y; rw [s3, e4]
                · by_cases x : j = 42
                  · subst x; rw [s5, e4]
                  · rw [d4 j (by omega), e4]
              · by_cases z1 : b = 216
                · subst z1; rw [s1, e6]
                · by_cases z2 : b = 219
                  · subst z2; rw [s2, f1 219 (by omega) (by omega) (by omega) (by omega) (by omega)]
                  · by_cases z3 : b = 233
                    · subst z3; rw [s4, f1 233 (by omega) (by omega) (by omega) (by omega) (by omega)]
                    · rw [d1 b z z1 z2 b7 b8 z3]
                      by_cases z4 : b = 70
                      · subst z4; exact f7 j (by omega)
                      · rw [f1 b b1 b2 b3 b4 (by omega)]
            exact ⟨by rw [hr2, hr, i3], h.w.c (by omega) (fun q j z => kk q j (by omega) (by omega) (by omega) (by omega) (by omega) (by omega) (by omega) (by omega) (by omega)), h.hi.c h.dn (by omega) (fun q j z => kk q j (by omega) (by omega) (by omega) (by omega) (by omega) (by omega) (by omega) (by omega) (by omega)), fun n a0 b0 => (h.im n a0 b0).c a0 b0 (by omega) (fun q j z => kk q j (by omega) (by omega) (by omega) (by omega) (by omega) (by omega) (by omega) (by omega) (by omega)), t2, h.kw.c (fun j => kk 3 j (by omega) (by omega) (by omega) (by omega) (by omega) (by omega) (by omega) (by omega) (by omega)), fa, h.wy.c (fun q j z => kk q j (by omega) (by omega) (by omega) (by omega) (by omega) (by omega) (by omega) (by omega) (by omega)), h.ud.c (fun q j z => kk q j (by omega) (by omega) (by omega) (by omega) (by omega) (by omega) (by omega) (by omega) (by omega)), h.tr.c (fun q j z => kk q j (by omega) (by omega) (by omega) (by omega) (by omega) (by omega) (by omega) (by omega) (by omega)), h.to.c (fun q j z => kk q j (by omega) (by omega) (by omega) (by omega) (by omega) (by omega) (by omega) (by omega) (by omega)), h.sl.c (fun q j z => kk q j (by omega) (by omega) (by omega) (by omega) (by omega) (by omega) (by omega) (by omega) (by omega))⟩
    · obtain ⟨k, hk, hcs⟩ := hbr
      rcases hcs with ⟨c1, -, c3, c4, c5, c6, c7⟩ | ⟨z, -⟩ | ⟨z, -⟩
      · have nk : ¬ okB G k := fun y => y.1 c1
        have mr1 : ∀ b : Nat, b ≠ 1 → b ≠ 4 → b ≠ 5 → b ≠ 6 → (b < 70 ∨ 76 ≤ b) → mr b = m b := fun b b1 b2 b3 b4 b6 => by rw [c4 b b1, bl_out k b6, hG b b1 b2 b3 b4 (by omega)]
        generalize hJ : rows (wr mr 1 1 0) 32 18 8 = J at hjd
        have J1 : ∀ b : Nat, b ≠ 1 → b ≠ 4 → b ≠ 5 → b ≠ 6 → (b < 32 ∨ 40 ≤ b) → (b < 70 ∨ 76 ≤ b) → J b = m b := fun b b1 b2 b3 b4 b5 b6 => by rw [← hJ, rows_out (by omega), wr_row b1, mr1 b b1 b2 b3 b4 b6]
        have J2 : ∀ q, q < 8 → J (32 + q) = m (18 + q) := fun q hq => by rw [← hJ, rows_in hq, wr_row (by omega), mr1 _ (by omega) (by omega) (by omega) (by omega) (by omega)]
        have J3 : ∀ b : Nat, 70 ≤ b → b < 76 → J b = (bl G k).1 b := fun b b1 b2 => by rw [← hJ, rows_out (by omega), wr_row (by omega), c4 b (by omega)]
        have J11 : J 1 1 = 0 := by rw [← hJ, rows_out (by omega), wr_self]
        have J16 : J 1 6 = 0 := by rw [← hJ, rows_out (by omega), wr_ni (by omega), c3.2.2.2.2.2.2.2.2.2.2.1, hG6]
        have sJ : SmW m 8 18 J 8 32 := ⟨fun q hq => J1 _ (by omega) (by omega) (by omega) (by omega) (by omega) (by omega), J2⟩
        have J8 : J 8 = m 8 := sJ.d0
        have hdJ := sJ.dn h.dn
        have hsJ := sJ.sto h.st
        have b8 : (bl G k).1 8 = G 8 := bl_out k (by omega)
        have J70 : J 70 11 = (k : Int) := by rw [J3 70 (by omega) (by omega), c5]
        obtain ⟨kj, kj1, kj2, kj3, j4, j5, j6, j7, j8⟩ := hjd
        rw [J70] at kj1 kj3
        have hlo : ∀ l : Int, 0 ≤ l → l < (k : Int) → LOk J l := fun l a b => (c7 l a b).cc (by rw [J8, b8, g8]) (fun b x y => J3 b (by omega) (by omega))
        have hst := jN_st hdJ hsJ hlo kj kj1
        have jf := jN_fr (m := J) kj
        have q1 : ∀ b : Nat, b ≠ 1 → b ≠ 4 → b ≠ 5 → b ≠ 6 → (b < 32 ∨ 40 ≤ b) → (b < 70 ∨ 76 ≤ b) → m3 b = m b := fun b b1 b2 b3 b4 b5 b6 => by rw [j4 b (by omega), jf b b5, J1 b b1 b2 b3 b4 b5 b6]
        have h97 : m3 97 = m 97 := q1 97 (by omega) (by omega) (by omega) (by omega) (by omega) (by omega)
        have hh3 : HiOk m3 := by unfold HiOk at *; rw [h97]; exact hh
        have q2 : ∀ b : Nat, (b < 18 ∨ 26 ≤ b) → (b < 97 ∨ 163 ≤ b) → m1 b = m3 b := fun b x y => by
          rw [hm]
          by_cases z : v = 1 ∧ 0 < m3 70 2
          · rw [if_pos z, rows_out (by omega), keepC_row hh3 y]
          · rw [if_neg z]
        have q3 : ∀ b : Nat, b ≠ 1 → b ≠ 4 → b ≠ 5 → b ≠ 6 → (b < 18 ∨ 26 ≤ b) → (b < 32 ∨ 40 ≤ b) → (b < 70 ∨ 76 ≤ b) → (b < 97 ∨ 163 ≤ b) → m1 b = m b := fun b b1 b2 b3 b4 b5 b6 b7 b8 => by rw [q2 b b5 b8, q1 b b1 b2 b3 b4 b6 b7]
        have e4 : m1 214 = m 214 := q3 214 (by omega) (by omega) (by omega) (by omega) (by omega) (by omega) (by omega) (by omega)
        have e5 : m1 215 = m 215 := q3 215 (by omega) (by omega) (by omega) (by omega) (by omega) (by omega) (by omega) (by omega)
        have e6 : m1 216 = m 216 := q3 216 (by omega) (by omega) (by omega) (by omega) (by omega) (by omega) (by omega) (by omega)
        have e9 : m1 219 = m 219 := q3 219 (by omega) (by omega) (by omega) (by omega) (by omega) (by omega) (by omega) (by omega)
        have e21 : m1 221 = m 221 := q3 221 (by omega) (by omega) (by omega) (by omega) (by omega) (by omega) (by omega) (by omega)
        refine ⟨_, _, (by omega : 7 ≤ 70), ev_X12_book (B := G) (J := J) (Q := B) hv hte (by rw [e4]; exact h.tp.1) (by rw [e5]; exact h.tp.2.2) (by rw [e6]; exact hbG) hdG (by rw [e21]; exact hnG) hG70 (by rw [e4]; exact h.n25) (by rw [e6]; exact h.bg.sm sJ) hdJ hsJ ⟨hB.1, by omega⟩ (by rw [J8, g8]) (fun k' hk' hz => ?_), fun r2 m2 hq2 => ?_⟩
        · have ek : k' = k := ok_u hk' (fun y => y.1 hz) hk nk
          subst ek
          exact fun b x y => J3 b (by omega) (by omega)
        · rcases hq2 with ⟨z, -⟩ | ⟨-, ⟨d1, ⟨d2, d3⟩, d4⟩, k2, hk2, hcs2⟩
          · omega
          · rcases hcs2 with ⟨z, -, hjm⟩ | ⟨-, z, -, hfl⟩
            · have ek : k2 = k := ok_u hk2 (fun y => y.1 z) hk nk
              subst ek
              obtain ⟨kq, a1, a2, a3, a4, a5, a6, hr2, a7, a8, a9⟩ := hjm
              have nq : ¬ (((kq : Int) < (k2 : Int)) ∧ liveR (jN J kq) 32 (kq : Int) = 0) := by
                rcases a3 with ⟨y, -⟩ | ⟨-, -, y⟩
                · omega
                · exact fun x => y x.2
              have nj : ¬ (((kj : Int) < (k2 : Int)) ∧ liveR (jN J kj) 32 (kj : Int) = 0) := by
                rcases kj3 with ⟨y, -⟩ | ⟨-, -, y⟩
                · omega
                · exact fun x => y x.2
              have ekq : kq = kj := ok_u (P := fun j => (((j : Int) < (k2 : Int)) ∧ liveR (jN J j) 32 (j : Int) = 0)) (fun j hj => ⟨by omega, a2 j hj⟩) nq (fun j hj => ⟨by omega, kj2 j hj⟩) nj
              subst ekq
              have ew : m3 70 1 = m2 233 0 := by
                rcases kj3 with ⟨x1, x2⟩ | ⟨x1, x2, x3⟩
                · rcases a3 with ⟨y1, y2⟩ | ⟨y1, -⟩
                  · rw [x2, y2]
                  · omega
                · rcases a3 with ⟨y1, -⟩ | ⟨y1, y2, y3⟩
                  · omega
                  · rw [x2, y2]
              have m70 : m2 70 = m3 70 := by rw [d1 70 (by omega) (by omega) (by omega) (by omega) (by omega) (by omega), q2 70 (by omega) (by omega)]
              have to2 : ToR m2 := by
                unfold ToR
                rw [m70, j5, a7, ew, j6, a4, j7, a5, j8, a6]
                exact ⟨rfl, fun _ => ⟨rfl, rfl, rfl, rfl⟩⟩
              have e1 : m2 1 = J 1 := by rw [d1 1 (by omega) (by omega) (by omega) (by omega) (by omega) (by omega), q2 1 (by omega) (by omega), j4 1 (by omega), jf 1 (by omega)]
              have fa2 : FaR m2 := by unfold FaR; rw [e1, J16, a8]
              have t2 : TpX m2 m2 := TpX.zero (by rw [e1, J11]) d3
              have kk : ∀ (b : Nat) (j : Int), b ≠ 1 → b ≠ 4 → b ≠ 5 → b ≠ 6 → (b < 18 ∨ 26 ≤ b) → (b < 32 ∨ 40 ≤ b) → (b < 70 ∨ 76 ≤ b) → (b < 97 ∨ 163 ≤ b) → b ≠ 216 → b ≠ 219 → b ≠ 220 → b ≠ 232 → b ≠ 233 → ¬ (b = 214 ∧ (j ≤ 13 ∨ j = 25 ∨ j = 41 ∨ j = 42)) → m2 b j = m b j := fun b j b1 b2 b3 b4 b5 b6 b7 b8 b9 b10 b11 b12 b13 b14 => by
                by_cases y : b = 214
                · subst y; rw [d4 j (by omega), e4]
                · rw [d1 b y b9 b10 b11 b12 b13, q3 b b1 b2 b3 b4 b5 b6 b7 b8]
              have hd : ∀ q, q < 10 → m2 (8 + q) = m (8 + q) := fun q hq => funext (fun j => kk _ j (by omega) (by omega) (by omega) (by omega) (by omega) (by omega) (by omega) (by omega) (by omega) (by omega) (by omega) (by omega) (by omega) (by omega))
              have e8 : m2 8 = m 8 := hd 0 (by omega)
              have mk : Wo m2 8 18 (m2 216) (m2 221) (B + 300) → HiR m2 (B + 300) → Inv m2 (B + 300) := fun hw hh => ⟨hw, hh, fun n a0 b0 => (h.im n a0 b0).c a0 b0 (by omega) (fun q j z => kk q j (by omega) (by omega) (by omega) (by omega) (by omega) (by omega) (by omega) (by omega) (by omega) (by omega) (by omega) (by omega) (by omega) (by omega)), t2, h.kw.c (fun j => kk 3 j (by omega) (by omega) (by omega) (by omega) (by omega) (by omega) (by omega) (by omega) (by omega) (by omega) (by omega) (by omega) (by omega) (by omega)), fa2, h.wy.c (fun q j z => kk q j (by omega) (by omega) (by omega) (by omega) (by omega) (by omega) (by omega) (by omega) (by omega) (by omega) (by omega) (by omega) (by omega) (by omega)), h.ud.c (fun q j z => kk q j (by omega) (by omega) (by omega) (by omega) (by omega) (by omega) (by omega) (by omega) (by omega) (by omega) (by omega) (by omega) (by omega) (by omega)), h.tr.c (fun q j z => kk q j (by omega) (by omega) (by omega) (by omega) (by omega) (by omega) (by omega) (by omega) (by omega) (by omega) (by omega) (by omega) (by omega) (by omega)), to2, h.sl.c (fun q j z => kk q j (by omega) (by omega) (by omega) (by omega) (by omega) (by omega) (by omega) (by omega) (by omega) (by omega) (by omega) (by omega) (by omega) (by omega))⟩
              refine ⟨by rw [hr2, hr, ew, a4, j6], ?_⟩
              have g1 : ∀ b : Nat, (8 ≤ b ∧ b < 30) ∨ (97 ≤ b ∧ b < 163) → m2 b = m1 b := fun b hb => d1 b (by omega) (by omega) (by omega) (by omega) (by omega) (by omega)
              have g26 : ∀ q, q < 4 → m2 (26 + q) = m (26 + q) := fun q hq => funext (fun j => kk _ j (by omega) (by omega) (by omega) (by omega) (by omega) (by omega) (by omega) (by omega) (by omega) (by omega) (by omega) (by omega) (by omega) (by omega))
              rcases a9 with ⟨y1, y2, hsq, hbj, y6⟩ | ⟨y1, y2, y3, y4⟩
              · have hmm : m1 = rows (keepC m3 18) 18 32 8 := by rw [hm, if_pos ⟨y1, by rw [j6]; exact y2⟩]
                have hs2 : ∀ q, q < 8 → m2 (18 + q) = jN J kq (32 + q) := fun q hq => by rw [g1 _ (by omega), hmm, rows_in hq, keepC_row hh3 (by omega), j4 _ (by omega)]
                have hd2 : ∀ q, q < 10 → m2 (8 + q) = jN J kq (8 + q) := fun q hq => by rw [hd q hq, jf _ (by omega), sJ.1 q hq]
                have w : SmW (jN J kq) 8 32 m2 8 18 := ⟨hd2, hs2⟩
                have sq : SnQ m m2 := by unfold SnQ at *; rw [e4, e9, e6] at hsq; exact hsq
                refine mk ⟨h.dn.congr hd, (w.sto hst).up (by omega), hbj.sm w, h.nm.mv h.dn hd (fun j _ _ => kk 221 j (by omega) (by omega) (by omega) (by omega) (by omega) (by omega) (by omega) (by omega) (by omega) (by omega) (by omega) (by omega) (by omega) (by omega)), ?_⟩ (h.hi.keep h.dn h.st h.bg.2 (by omega) hd (fun b x y => ?_) sq)
                · show SenR m2 26 (m2 8 3) (m2 216)
                  rw [e8]
                  exact h.se.mv g26 (fun j a b => by rw [y6 j (by omega), e6])
                · rw [g1 b (by omega), hmm, rows_out (by omega)]
                  exact keepC_c hh (fun b hb => q1 b (by omega) (by omega) (by omega) (by omega) (by omega) (by omega)) b x y
              · have hmm : m1 = m3 := by rw [hm, if_neg (fun x => y1 ⟨x.1, by rw [← j6]; exact x.2⟩)]
                have hs2 : ∀ b : Nat, (8 ≤ b ∧ b < 30) ∨ (97 ≤ b ∧ b < 163) → m2 b = m b := fun b hb => by rw [g1 b hb, hmm, q1 b (by omega) (by omega) (by omega) (by omega) (by omega) (by omega)]
                refine mk (h.w.c (by omega) (fun b j z => ?_)) (h.hi.c h.dn (by omega) (fun b j z => ?_))
                · by_cases x : b = 216
                  · subst x; rw [y2, e6]
                  · by_cases x2 : b = 221
                    · subst x2; rw [d1 221 (by omega) (by omega) (by omega) (by omega) (by omega) (by omega), e21]
                    · rw [hs2 b (by omega)]
                · by_cases x : b = 214
                  · subst x; rw [show j = 25 by omega, y4, e4]
                  · by_cases x2 : b = 219
                    · subst x2; rw [y3, e9]
                    · rw [hs2 b (by omega)]
            · have nk2 : ¬ okB G k2 := by
                rcases hfl with ⟨y, -⟩ | ⟨-, y, -⟩
                · exact fun x => y x.2.1
                · exact fun x => y x.2.2
              have ek : k2 = k := ok_u hk2 nk2 hk nk
              subst ek
              exact absurd c1 z
      · exact absurd z (by decide)
      · exact absurd z (by decide)
end
