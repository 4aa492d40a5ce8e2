/-- the first row of so many figures by which one is as he was -/
def FS (c : Int) (cl q : Int → Int) : Nat → Int → Int → Int → Option (List Int)
  | 0, x, y, t => if x = 0 ∧ y = 0 ∧ t % 4 = 0 then some [] else none
  | n + 1, x, y, t =>
    if fnd (fun v => (FS c cl q n (x + cl (v / 4) * dx (v % 4)) (y + cl (v / 4) * dy (v % 4)) (t + q (v / 4))).isSome) c = -1 then none
    else (FS c cl q n (x + cl ((fnd (fun v => (FS c cl q n (x + cl (v / 4) * dx (v % 4)) (y + cl (v / 4) * dy (v % 4)) (t + q (v / 4))).isSome) c) / 4) * dx ((fnd (fun v => (FS c cl q n (x + cl (v / 4) * dx (v % 4)) (y + cl (v / 4) * dy (v % 4)) (t + q (v / 4))).isSome) c) % 4)) (y + cl ((fnd (fun v => (FS c cl q n (x + cl (v / 4) * dx (v % 4)) (y + cl (v / 4) * dy (v % 4)) (t + q (v / 4))).isSome) c) / 4) * dy ((fnd (fun v => (FS c cl q n (x + cl (v / 4) * dx (v % 4)) (y + cl (v / 4) * dy (v % 4)) (t + q (v / 4))).isSome) c) % 4)) (t + q ((fnd (fun v => (FS c cl q n (x + cl (v / 4) * dx (v % 4)) (y + cl (v / 4) * dy (v % 4)) (t + q (v / 4))).isSome) c) / 4))).map (fun l => (fnd (fun v => (FS c cl q n (x + cl (v / 4) * dx (v % 4)) (y + cl (v / 4) * dy (v % 4)) (t + q (v / 4))).isSome) c) :: l)
abbrev FSn (c : Int) (cl q : Int → Int) (n : Nat) (x y t v : Int) : Option (List Int) := FS c cl q n (x + cl (v / 4) * dx (v % 4)) (y + cl (v / 4) * dy (v % 4)) (t + q (v / 4))
theorem FS_no {c : Int} {cl q : Int → Int} {n : Nat} {x y t : Int} (h : ∀ v : Int, 0 ≤ v → v < c → FSn c cl q n x y t v = none) : FS c cl q (n + 1) x y t = none := by
  have e : fnd (fun v => (FSn c cl q n x y t v).isSome) c = -1 := fnd_none (fun j a b => by rw [h j a b]; rfl)
  show (if fnd (fun v => (FSn c cl q n x y t v).isSome) c = -1 then none else _) = none
  rw [if_pos e]
theorem FS_yes {c : Int} {cl q : Int → Int} {n : Nat} {x y t v : Int} {l : List Int} (h0 : 0 ≤ v) (h1 : v < c) (h2 : FSn c cl q n x y t v = some l) (h : ∀ j : Int, 0 ≤ j → j < v → FSn c cl q n x y t j = none) : FS c cl q (n + 1) x y t = some (v :: l) := by
  have e : fnd (fun v => (FSn c cl q n x y t v).isSome) c = v := fnd_some h0 h1 (by rw [h2]; rfl) (fun j a b => by rw [h j a b]; rfl)
  show (if fnd (fun v => (FSn c cl q n x y t v).isSome) c = -1 then none else (FSn c cl q n x y t (fnd (fun v => (FSn c cl q n x y t v).isSome) c)).map (fun l => fnd (fun v => (FSn c cl q n x y t v).isSome) c :: l)) = _
  rw [e, if_neg (by omega), h2]
  rfl
theorem FS_cases (c : Int) (cl q : Int → Int) (n : Nat) (x y t : Int) : (FS c cl q (n + 1) x y t = none ∧ ∀ v : Int, 0 ≤ v → v < c → FSn c cl q n x y t v = none) ∨ (∃ v l, 0 ≤ v ∧ v < c ∧ FSn c cl q n x y t v = some l ∧ (∀ j : Int, 0 ≤ j → j < v → FSn c cl q n x y t j = none) ∧ FS c cl q (n + 1) x y t = some (v :: l)) := by
  rcases fnd_cases (fun v => (FSn c cl q n x y t v).isSome) c with ⟨-, h⟩ | ⟨h1, h2, h3, h4⟩
  · have h' : ∀ v : Int, 0 ≤ v → v < c → FSn c cl q n x y t v = none := fun v a b => by simpa using h v a b
    exact Or.inl ⟨FS_no h', h'⟩
  · obtain ⟨l, hl⟩ := Option.isSome_iff_exists.mp h3
    have h' : ∀ j : Int, 0 ≤ j → j < fnd (fun v => (FSn c cl q n x y t v).isSome) c → FSn c cl q n x y t j = none := fun v a b => by simpa using h4 v a b
    exact Or.inr ⟨_, l, h1, h2, hl, h', FS_yes h1 h2 hl h'⟩
theorem one_step {k s : Int} (h0 : 0 ≤ s) (h1 : s < 4) (hk : 0 ≤ k) : iabs (k * dx s) + iabs (k * dy s) = k := by
  have : s = 0 ∨ s = 1 ∨ s = 2 ∨ s = 3 := by omega
  rcases this with rfl | rfl | rfl | rfl
  · rw [show dx 0 = 1 from rfl, show dy 0 = 0 from rfl]; unfold iabs; rw [if_pos (by omega), if_pos (by omega)]; omega
  · rw [show dx 1 = 0 from rfl, show dy 1 = 1 from rfl]; unfold iabs; rw [if_pos (by omega), if_pos (by omega)]; omega
  · rw [show dx 2 = -1 from rfl, show dy 2 = 0 from rfl]; unfold iabs; split <;> (rw [if_pos (by omega)]; omega)
  · rw [show dx 3 = 0 from rfl, show dy 3 = -1 from rfl]; unfold iabs; rw [if_pos (by omega)]; split <;> omega
theorem iabs_add (x y : Int) : iabs x ≤ iabs (x + y) + iabs y := by unfold iabs; split <;> split <;> split <;> omega
theorem FS_far {c : Int} {cl q : Int → Int} (hcl : ∀ f : Int, 0 ≤ f → 4 * f < c → 0 ≤ cl f ∧ cl f ≤ 5) : ∀ (n : Nat) (x y t : Int) (l : List Int), FS c cl q n x y t = some l → iabs x + iabs y ≤ 5 * n := by
  intro n
  induction n with
  | zero =>
    intro x y t l h
    by_cases e : x = 0 ∧ y = 0 ∧ t % 4 = 0
    · rw [e.1, e.2.1]; decide
    · rw [show FS c cl q 0 x y t = none from if_neg e] at h; exact absurd h (by simp)
  | succ n ih =>
    intro x y t l h
    rcases FS_cases c cl q n x y t with ⟨h1, -⟩ | ⟨v, l', h0, h1, h2, -, -⟩
    · rw [h1] at h; exact absurd h (by simp)
    · have h3 := ih _ _ _ _ h2
      have h4 := hcl (v / 4) (by omega) (by omega)
      have h5 := one_step (k := cl (v / 4)) (s := v % 4) (by omega) (by omega) h4.1
      have h6 := iabs_add x (cl (v / 4) * dx (v % 4))
      have h7 := iabs_add y (cl (v / 4) * dy (v % 4))
      omega
theorem FS_len {c : Int} {cl q : Int → Int} : ∀ (n : Nat) (x y t : Int) (l : List Int), FS c cl q n x y t = some l → l.length = n := by
  intro n
  induction n with
  | zero =>
    intro x y t l h
    by_cases e : x = 0 ∧ y = 0 ∧ t % 4 = 0
    · rw [show FS c cl q 0 x y t = some [] from if_pos e] at h; cases h; rfl
    · rw [show FS c cl q 0 x y t = none from if_neg e] at h; exact absurd h (by simp)
  | succ n ih =>
    intro x y t l h
    rcases FS_cases c cl q n x y t with ⟨h1, -⟩ | ⟨v, l', h0, h1, h2, -, h3⟩
    · rw [h1] at h; exact absurd h (by simp)
    · rw [h3] at h; cases h; simp [ih _ _ _ _ h2]
def putL (m : Mem) (a : Nat) : Int → List Int → Prop
  | _, [] => True
  | s, v :: l => m a s = v ∧ putL m a (s + 1) l
theorem putL_congr {m M : Mem} {a b : Nat} : ∀ {l : List Int} {s : Int}, (∀ j : Int, s ≤ j → j < s + l.length → M b j = m a j) → putL m a s l → putL M b s l := by
  intro l
  induction l with
  | nil => intro s _ _; trivial
  | cons v l ih =>
    intro s h hp
    refine ⟨?_, ih (fun j a b => h j (by omega) (by rw [List.length_cons]; omega)) hp.2⟩
    rw [h s (by omega) (by rw [List.length_cons]; omega)]; exact hp.1
def CbPost (m : Mem) (s : Int) (r : Int) (m' : Mem) (F : Option (List Int)) : Prop := ((r = 1 ∧ ∃ l, F = some l ∧ putL m' 91 s l) ∨ (r = 0 ∧ F = none)) ∧ (∀ b : Nat, b ≠ 91 → m' b = m b) ∧ ∀ j : Int, j < s → m' 91 j = m 91 j
abbrev FSm (m : Mem) (n : Nat) (x y t : Int) : Option (List Int) := FS (4 * m 8 2) (m 11) (m 10) n x y t

theorem dX9_comesBack_0 : decode mX9_comesBack.2.1 0 = .ok (.iload 5, 2) := by decide +kernel
theorem dX9_comesBack_2 : decode mX9_comesBack.2.1 2 = .ok (.iload 6, 2) := by decide +kernel
theorem dX9_comesBack_4 : decode mX9_comesBack.2.1 4 = .ok (.if_icmp .ge 10, 3) := by decide +kernel
theorem dX9_comesBack_14 : decode mX9_comesBack.2.1 14 = .ok (.iload_n 2, 1) := by decide +kernel
theorem dX9_comesBack_15 : decode mX9_comesBack.2.1 15 = .ok (.ifCond .ne 18, 3) := by decide +kernel
theorem dX9_comesBack_18 : decode mX9_comesBack.2.1 18 = .ok (.iload_n 3, 1) := by decide +kernel
theorem dX9_comesBack_19 : decode mX9_comesBack.2.1 19 = .ok (.ifCond .ne 14, 3) := by decide +kernel
theorem dX9_comesBack_22 : decode mX9_comesBack.2.1 22 = .ok (.iload 4, 2) := by decide +kernel
theorem dX9_comesBack_24 : decode mX9_comesBack.2.1 24 = .ok (.iconst 3, 1) := by decide +kernel
theorem dX9_comesBack_25 : decode mX9_comesBack.2.1 25 = .ok (.iand, 1) := by decide +kernel
theorem dX9_comesBack_26 : decode mX9_comesBack.2.1 26 = .ok (.ifCond .ne 7, 3) := by decide +kernel
theorem dX9_comesBack_29 : decode mX9_comesBack.2.1 29 = .ok (.iconst 1, 1) := by decide +kernel
theorem dX9_comesBack_30 : decode mX9_comesBack.2.1 30 = .ok (.goto 4, 3) := by decide +kernel
theorem dX9_comesBack_33 : decode mX9_comesBack.2.1 33 = .ok (.iconst 0, 1) := by decide +kernel
theorem dX9_comesBack_34 : decode mX9_comesBack.2.1 34 = .ok (.ireturn, 1) := by decide +kernel
set_option maxRecDepth 4000 in
theorem ev_X9_cb0 {m : Mem} {x : Int} {y : Int} {t : Int} {s : Int} {k : Int} (hdn : DnOk m 8) (hx : -20 ≤ x ∧ x ≤ 20) (hy : -20 ≤ y ∧ y ≤ 20) (ht : 0 ≤ t ∧ t ≤ 28) (hs : 0 ≤ s ∧ s + 0 ≤ 3) (hk : k = s + 0) : Ev 0 4 mX9_comesBack [vr 8, vr 91, vi x, vi y, vi t, vi s, vi k] m (fun r m' => CbPost m s r m' (FSm m 0 x y t)) := by
  refine Ev.of (L := [vr 8, vr 91, vi x, vi y, vi t, vi s, vi k, un, un, un, un]) (by decide +kernel) rfl (Nat.le_of_ble_eq_true rfl) rfl (fun t ht => by cases ht; first | exact Or.inl rfl | exact Or.inr (Or.inl rfl) | exact Or.inr (Or.inr rfl)) (fun hcan => ?_)
  obtain ⟨⟨hd0, hd1⟩, ⟨hd2, hd3⟩, ⟨hd4, hd5⟩, ⟨hd6, hd7⟩, ⟨hd8, hd9⟩, hdf, hdp, hdq⟩ := id hdn
  have hfc : ∀ f : Int, 0 ≤ f → 4 * f < 4 * m 8 2 → 0 ≤ m 11 f ∧ m 11 f ≤ 5 := fun f a b => ⟨(hdf f a (by omega)).2.2.1, (hdf f a (by omega)).2.2.2⟩
  refine go_iload dX9_comesBack_0 rfl ?_
  refine go_iload dX9_comesBack_2 rfl ?_
  refine go_icmp_ge (tgt := 14) dX9_comesBack_4 (by decide) ⟨by omega, by omega⟩ ⟨by omega, by omega⟩ (fun h_4 => ?_) (fun h_4 => ?_)
  · refine go_iload_n dX9_comesBack_14 rfl ?_
    refine go_if_ne (tgt := 33) dX9_comesBack_15 (by decide) ⟨by omega, by omega⟩ (fun h_15 => ?_) (fun h_15 => ?_)
    · refine go_iconst dX9_comesBack_33 ?_
      refine go_ret (v := 0) rfl dX9_comesBack_34 (okZ (by first | exact Or.inl rfl | exact Or.inr rfl | assumption | omega)) ?_
      refine ⟨?_, fun b _ => rfl, fun j _ => rfl⟩
      first
      | exact Or.inl ⟨rfl, [], if_pos ⟨by omega, by omega, by omega⟩, trivial⟩
      | exact Or.inr ⟨rfl, if_neg (by omega)⟩
    · refine go_iload_n dX9_comesBack_18 rfl ?_
      refine go_if_ne (tgt := 33) dX9_comesBack_19 (by decide) ⟨by omega, by omega⟩ (fun h_19 => ?_) (fun h_19 => ?_)
      · refine go_iconst dX9_comesBack_33 ?_
        refine go_ret (v := 0) rfl dX9_comesBack_34 (okZ (by first | exact Or.inl rfl | exact Or.inr rfl | assumption | omega)) ?_
        refine ⟨?_, fun b _ => rfl, fun j _ => rfl⟩
        first
        | exact Or.inl ⟨rfl, [], if_pos ⟨by omega, by omega, by omega⟩, trivial⟩
        | exact Or.inr ⟨rfl, if_neg (by omega)⟩
      · refine go_iload dX9_comesBack_22 rfl ?_
        refine go_iconst dX9_comesBack_24 ?_
        refine go_iand dX9_comesBack_25 ?_
        rw [show (iand t 3 : Int) = (t % 4) from (sh2 (by omega) (by omega)).2]
        refine go_if_ne (tgt := 33) dX9_comesBack_26 (by decide) ⟨by omega, by omega⟩ (fun h_26 => ?_) (fun h_26 => ?_)
        · refine go_iconst dX9_comesBack_33 ?_
          refine go_ret (v := 0) rfl dX9_comesBack_34 (okZ (by first | exact Or.inl rfl | exact Or.inr rfl | assumption | omega)) ?_
          refine ⟨?_, fun b _ => rfl, fun j _ => rfl⟩
          first
          | exact Or.inl ⟨rfl, [], if_pos ⟨by omega, by omega, by omega⟩, trivial⟩
          | exact Or.inr ⟨rfl, if_neg (by omega)⟩
        · refine go_iconst dX9_comesBack_29 ?_
          refine go_goto (tgt := 34) dX9_comesBack_30 (by decide) ?_
          refine go_ret (v := 1) rfl dX9_comesBack_34 (okZ (by first | exact Or.inl rfl | exact Or.inr rfl | assumption | omega)) ?_
          refine ⟨?_, fun b _ => rfl, fun j _ => rfl⟩
          first
          | exact Or.inl ⟨rfl, [], if_pos ⟨by omega, by omega, by omega⟩, trivial⟩
          | exact Or.inr ⟨rfl, if_neg (by omega)⟩
  · exfalso; omega
theorem dX9_comesBack_7 : decode mX9_comesBack.2.1 7 = .ok (.iload 5, 2) := by decide +kernel
theorem dX9_comesBack_9 : decode mX9_comesBack.2.1 9 = .ok (.aload_n 1, 1) := by decide +kernel
theorem dX9_comesBack_10 : decode mX9_comesBack.2.1 10 = .ok (.arraylength, 1) := by decide +kernel
theorem dX9_comesBack_11 : decode mX9_comesBack.2.1 11 = .ok (.if_icmp .lt 24, 3) := by decide +kernel
theorem dX9_comesBack_35 : decode mX9_comesBack.2.1 35 = .ok (.iload_n 2, 1) := by decide +kernel
theorem dX9_comesBack_36 : decode mX9_comesBack.2.1 36 = .ok (.invokestatic 40, 3) := by decide +kernel
theorem dX9_comesBack_39 : decode mX9_comesBack.2.1 39 = .ok (.iload_n 3, 1) := by decide +kernel
theorem dX9_comesBack_40 : decode mX9_comesBack.2.1 40 = .ok (.invokestatic 40, 3) := by decide +kernel
theorem dX9_comesBack_43 : decode mX9_comesBack.2.1 43 = .ok (.iadd, 1) := by decide +kernel
theorem dX9_comesBack_44 : decode mX9_comesBack.2.1 44 = .ok (.iconst 5, 1) := by decide +kernel
theorem dX9_comesBack_45 : decode mX9_comesBack.2.1 45 = .ok (.iload 6, 2) := by decide +kernel
theorem dX9_comesBack_47 : decode mX9_comesBack.2.1 47 = .ok (.iload 5, 2) := by decide +kernel
theorem dX9_comesBack_49 : decode mX9_comesBack.2.1 49 = .ok (.isub, 1) := by decide +kernel
theorem dX9_comesBack_50 : decode mX9_comesBack.2.1 50 = .ok (.imul, 1) := by decide +kernel
theorem dX9_comesBack_51 : decode mX9_comesBack.2.1 51 = .ok (.if_icmp .le 5, 3) := by decide +kernel
theorem dX9_comesBack_54 : decode mX9_comesBack.2.1 54 = .ok (.iconst 0, 1) := by decide +kernel
theorem dX9_comesBack_55 : decode mX9_comesBack.2.1 55 = .ok (.ireturn, 1) := by decide +kernel
theorem dX9_comesBack_56 : decode mX9_comesBack.2.1 56 = .ok (.iconst 0, 1) := by decide +kernel
theorem dX9_comesBack_57 : decode mX9_comesBack.2.1 57 = .ok (.istore 7, 2) := by decide +kernel
theorem dX9_comesBack_59 : decode mX9_comesBack.2.1 59 = .ok (.iload 7, 2) := by decide +kernel
theorem dX9_comesBack_61 : decode mX9_comesBack.2.1 61 = .ok (.iconst 4, 1) := by decide +kernel
theorem dX9_comesBack_62 : decode mX9_comesBack.2.1 62 = .ok (.aload_n 0, 1) := by decide +kernel
theorem dX9_comesBack_63 : decode mX9_comesBack.2.1 63 = .ok (.getfield 46, 3) := by decide +kernel
theorem dX9_comesBack_66 : decode mX9_comesBack.2.1 66 = .ok (.imul, 1) := by decide +kernel
theorem dX9_comesBack_67 : decode mX9_comesBack.2.1 67 = .ok (.if_icmp .ge 91, 3) := by decide +kernel
theorem dX9_comesBack_70 : decode mX9_comesBack.2.1 70 = .ok (.iload 7, 2) := by decide +kernel
theorem dX9_comesBack_72 : decode mX9_comesBack.2.1 72 = .ok (.iconst 2, 1) := by decide +kernel
theorem dX9_comesBack_73 : decode mX9_comesBack.2.1 73 = .ok (.ishr, 1) := by decide +kernel
theorem dX9_comesBack_74 : decode mX9_comesBack.2.1 74 = .ok (.istore 8, 2) := by decide +kernel
theorem dX9_comesBack_76 : decode mX9_comesBack.2.1 76 = .ok (.iload_n 2, 1) := by decide +kernel
theorem dX9_comesBack_77 : decode mX9_comesBack.2.1 77 = .ok (.aload_n 0, 1) := by decide +kernel
theorem dX9_comesBack_78 : decode mX9_comesBack.2.1 78 = .ok (.getfield 22, 3) := by decide +kernel
theorem dX9_comesBack_81 : decode mX9_comesBack.2.1 81 = .ok (.iload 8, 2) := by decide +kernel
theorem dX9_comesBack_83 : decode mX9_comesBack.2.1 83 = .ok (.iaload, 1) := by decide +kernel
theorem dX9_comesBack_84 : decode mX9_comesBack.2.1 84 = .ok (.getstatic 49, 3) := by decide +kernel
theorem dX9_comesBack_87 : decode mX9_comesBack.2.1 87 = .ok (.iload 7, 2) := by decide +kernel
theorem dX9_comesBack_89 : decode mX9_comesBack.2.1 89 = .ok (.iconst 3, 1) := by decide +kernel
theorem dX9_comesBack_90 : decode mX9_comesBack.2.1 90 = .ok (.iand, 1) := by decide +kernel
theorem dX9_comesBack_91 : decode mX9_comesBack.2.1 91 = .ok (.iaload, 1) := by decide +kernel
theorem dX9_comesBack_92 : decode mX9_comesBack.2.1 92 = .ok (.imul, 1) := by decide +kernel
theorem dX9_comesBack_93 : decode mX9_comesBack.2.1 93 = .ok (.iadd, 1) := by decide +kernel
theorem dX9_comesBack_94 : decode mX9_comesBack.2.1 94 = .ok (.istore 9, 2) := by decide +kernel
theorem dX9_comesBack_96 : decode mX9_comesBack.2.1 96 = .ok (.iload_n 3, 1) := by decide +kernel
theorem dX9_comesBack_97 : decode mX9_comesBack.2.1 97 = .ok (.aload_n 0, 1) := by decide +kernel
theorem dX9_comesBack_98 : decode mX9_comesBack.2.1 98 = .ok (.getfield 22, 3) := by decide +kernel
theorem dX9_comesBack_101 : decode mX9_comesBack.2.1 101 = .ok (.iload 8, 2) := by decide +kernel
theorem dX9_comesBack_103 : decode mX9_comesBack.2.1 103 = .ok (.iaload, 1) := by decide +kernel
theorem dX9_comesBack_104 : decode mX9_comesBack.2.1 104 = .ok (.getstatic 52, 3) := by decide +kernel
theorem dX9_comesBack_107 : decode mX9_comesBack.2.1 107 = .ok (.iload 7, 2) := by decide +kernel
theorem dX9_comesBack_109 : decode mX9_comesBack.2.1 109 = .ok (.iconst 3, 1) := by decide +kernel
theorem dX9_comesBack_110 : decode mX9_comesBack.2.1 110 = .ok (.iand, 1) := by decide +kernel
theorem dX9_comesBack_111 : decode mX9_comesBack.2.1 111 = .ok (.iaload, 1) := by decide +kernel
theorem dX9_comesBack_112 : decode mX9_comesBack.2.1 112 = .ok (.imul, 1) := by decide +kernel
theorem dX9_comesBack_113 : decode mX9_comesBack.2.1 113 = .ok (.iadd, 1) := by decide +kernel
theorem dX9_comesBack_114 : decode mX9_comesBack.2.1 114 = .ok (.istore 10, 2) := by decide +kernel
theorem dX9_comesBack_116 : decode mX9_comesBack.2.1 116 = .ok (.aload_n 1, 1) := by decide +kernel
theorem dX9_comesBack_117 : decode mX9_comesBack.2.1 117 = .ok (.iload 5, 2) := by decide +kernel
theorem dX9_comesBack_119 : decode mX9_comesBack.2.1 119 = .ok (.iload 7, 2) := by decide +kernel
theorem dX9_comesBack_121 : decode mX9_comesBack.2.1 121 = .ok (.iastore, 1) := by decide +kernel
theorem dX9_comesBack_122 : decode mX9_comesBack.2.1 122 = .ok (.aload_n 0, 1) := by decide +kernel
theorem dX9_comesBack_123 : decode mX9_comesBack.2.1 123 = .ok (.aload_n 1, 1) := by decide +kernel
theorem dX9_comesBack_124 : decode mX9_comesBack.2.1 124 = .ok (.iload 9, 2) := by decide +kernel
theorem dX9_comesBack_126 : decode mX9_comesBack.2.1 126 = .ok (.iload 10, 2) := by decide +kernel
theorem dX9_comesBack_128 : decode mX9_comesBack.2.1 128 = .ok (.iload 4, 2) := by decide +kernel
theorem dX9_comesBack_130 : decode mX9_comesBack.2.1 130 = .ok (.aload_n 0, 1) := by decide +kernel
theorem dX9_comesBack_131 : decode mX9_comesBack.2.1 131 = .ok (.getfield 27, 3) := by decide +kernel
theorem dX9_comesBack_134 : decode mX9_comesBack.2.1 134 = .ok (.iload 8, 2) := by decide +kernel
theorem dX9_comesBack_136 : decode mX9_comesBack.2.1 136 = .ok (.iaload, 1) := by decide +kernel
theorem dX9_comesBack_137 : decode mX9_comesBack.2.1 137 = .ok (.iadd, 1) := by decide +kernel
theorem dX9_comesBack_138 : decode mX9_comesBack.2.1 138 = .ok (.iload 5, 2) := by decide +kernel
theorem dX9_comesBack_140 : decode mX9_comesBack.2.1 140 = .ok (.iconst 1, 1) := by decide +kernel
theorem dX9_comesBack_141 : decode mX9_comesBack.2.1 141 = .ok (.iadd, 1) := by decide +kernel
theorem dX9_comesBack_142 : decode mX9_comesBack.2.1 142 = .ok (.iload 6, 2) := by decide +kernel
theorem dX9_comesBack_144 : decode mX9_comesBack.2.1 144 = .ok (.invokestatic 30, 3) := by decide +kernel
theorem dX9_comesBack_147 : decode mX9_comesBack.2.1 147 = .ok (.ifCond .eq 5, 3) := by decide +kernel
theorem dX9_comesBack_150 : decode mX9_comesBack.2.1 150 = .ok (.iconst 1, 1) := by decide +kernel
theorem dX9_comesBack_151 : decode mX9_comesBack.2.1 151 = .ok (.ireturn, 1) := by decide +kernel
theorem dX9_comesBack_152 : decode mX9_comesBack.2.1 152 = .ok (.iinc 7 1, 3) := by decide +kernel
theorem dX9_comesBack_155 : decode mX9_comesBack.2.1 155 = .ok (.goto (-96), 3) := by decide +kernel
theorem dX9_comesBack_158 : decode mX9_comesBack.2.1 158 = .ok (.iconst 0, 1) := by decide +kernel
theorem dX9_comesBack_159 : decode mX9_comesBack.2.1 159 = .ok (.ireturn, 1) := by decide +kernel
set_option maxRecDepth 4000 in
theorem ev_X9_cb1 {m : Mem} {x : Int} {y : Int} {t : Int} {s : Int} {k : Int} (hdn : DnOk m 8) (hx : -15 ≤ x ∧ x ≤ 15) (hy : -15 ≤ y ∧ y ≤ 15) (ht : 0 ≤ t ∧ t ≤ 21) (hs : 0 ≤ s ∧ s + 1 ≤ 3) (hk : k = s + 1) : Ev 0 5 mX9_comesBack [vr 8, vr 91, vi x, vi y, vi t, vi s, vi k] m (fun r m' => CbPost m s r m' (FSm m 1 x y t)) := by
  refine Ev.of (L := [vr 8, vr 91, vi x, vi y, vi t, vi s, vi k, un, un, un, un]) (by decide +kernel) rfl (Nat.le_of_ble_eq_true rfl) rfl (fun t ht => by cases ht; first | exact Or.inl rfl | exact Or.inr (Or.inl rfl) | exact Or.inr (Or.inr rfl)) (fun hcan => ?_)
  obtain ⟨⟨hd0, hd1⟩, ⟨hd2, hd3⟩, ⟨hd4, hd5⟩, ⟨hd6, hd7⟩, ⟨hd8, hd9⟩, hdf, hdp, hdq⟩ := id hdn
  have hfc : ∀ f : Int, 0 ≤ f → 4 * f < 4 * m 8 2 → 0 ≤ m 11 f ∧ m 11 f ≤ 5 := fun f a b => ⟨(hdf f a (by omega)).2.2.1, (hdf f a (by omega)).2.2.2⟩
  refine go_iload dX9_comesBack_0 rfl ?_
  refine go_iload dX9_comesBack_2 rfl ?_
  refine go_icmp_ge (tgt := 14) dX9_comesBack_4 (by decide) ⟨by omega, by omega⟩ ⟨by omega, by omega⟩ (fun h_4 => ?_) (fun h_4 => ?_)
  · exfalso; omega
  · refine go_iload dX9_comesBack_7 rfl ?_
    refine go_aload_n dX9_comesBack_9 rfl ?_
    refine go_alen (x := 3) dX9_comesBack_10 ar_91 (by decide) rfl ?_
    refine go_icmp_lt (tgt := 35) dX9_comesBack_11 (by decide) ⟨by omega, by omega⟩ ⟨by omega, by omega⟩ (fun h_11 => ?_) (fun h_11 => ?_)
    · refine go_iload_n dX9_comesBack_35 rfl ?_
      have hab : 0 ≤ iabs x ∧ iabs x ≤ 20 := by unfold iabs; split <;> omega
      have hab2 : 0 ≤ iabs y ∧ iabs y ≤ 20 := by unfold iabs; split <;> omega
      refine go_abs dX9_comesBack_36 jl_9_40 ⟨by omega, by omega⟩ (by decide) (Nat.le_of_ble_eq_true rfl) ?_
      refine go_iload_n dX9_comesBack_39 rfl ?_
      refine go_abs dX9_comesBack_40 jl_9_40 ⟨by omega, by omega⟩ (by decide) (Nat.le_of_ble_eq_true rfl) ?_
      refine go_iadd dX9_comesBack_43 ?_
      refine go_iconst dX9_comesBack_44 ?_
      refine go_iload dX9_comesBack_45 rfl ?_
      refine go_iload dX9_comesBack_47 rfl ?_
      refine go_isub dX9_comesBack_49 ?_
      refine go_imul dX9_comesBack_50 ?_
      refine go_icmp_le (tgt := 56) dX9_comesBack_51 (by decide) ⟨by omega, by omega⟩ ⟨by omega, by omega⟩ (fun h_51 => ?_) (fun h_51 => ?_)
      · refine go_iconst dX9_comesBack_56 ?_
        refine go_istore (L' := [vr 8, vr 91, vi x, vi y, vi t, vi s, vi k, vi 0, un, un, un]) dX9_comesBack_57 (by decide) rfl rfl ?_
        have lp_59 : ∀ (n_59 : Nat) (m1 : Mem) (v : Int) , (0 ≤ v) → (v ≤ 4 * m 8 2) → (∀ j : Int, 0 ≤ j → j < v → FSn (4 * m 8 2) (m 11) (m 10) 0 x y t j = none) → (∀ b : Nat, b ≠ 91 → m1 b = m b) → (∀ j : Int, j < s → m1 91 j = m 91 j) → (4 * m 8 2 - v).toNat < n_59 → Go 0 5 mX9_comesBack (fun r m' => CbPost m s r m' (FSm m 1 x y t)) 59 [vr 8, vr 91, vi x, vi y, vi t, vi s, vi k, vi v, un, un, un] [] m1 := by
          intro n_59
          induction n_59 with
          | zero => intro m1 v hv0 hv1 hno hfr hlo hmu; exact absurd hmu (Nat.not_lt_zero _)
          | succ n_59 ih_59 =>
            intro m1 v hv0 hv1 hno hfr hlo hmu
            refine go_iload dX9_comesBack_59 rfl ?_
            refine go_iconst dX9_comesBack_61 ?_
            refine go_aload_n dX9_comesBack_62 rfl ?_
            refine go_getf_i (ki := 2) dX9_comesBack_63 fl_9_46 ob_8 rfl rfl (fun hf_63 => ?_)
            rw [show (m1 8 2 : Int) = (m 8 2) from by rw [hfr 8 (by decide)]] at hf_63 ⊢
            refine go_imul dX9_comesBack_66 ?_
            refine go_icmp_ge (tgt := 158) dX9_comesBack_67 (by decide) ⟨by omega, by omega⟩ ⟨by omega, by omega⟩ (fun h_67 => ?_) (fun h_67 => ?_)
            · refine go_iconst dX9_comesBack_158 ?_
              refine go_ret (v := 0) rfl dX9_comesBack_159 (okZ (by first | exact Or.inl rfl | exact Or.inr rfl | assumption | omega)) ?_
              exact ⟨Or.inr ⟨rfl, FS_no (fun j a b => hno j a (by omega))⟩, hfr, hlo⟩
            · refine go_iload dX9_comesBack_70 rfl ?_
              refine go_iconst dX9_comesBack_72 ?_
              refine go_ishr dX9_comesBack_73 ?_
              rw [show (ishr v 2 : Int) = (v / 4) from (sh2 (by omega) (by omega)).1]
              refine go_istore (L' := [vr 8, vr 91, vi x, vi y, vi t, vi s, vi k, vi v, vi (v / 4), un, un]) dX9_comesBack_74 (by decide) rfl rfl ?_
              have hcl := hdf (v / 4) (by omega) (by omega)
              have hcl0 : 0 ≤ m 11 (v / 4) ∧ m 11 (v / 4) ≤ 5 := ⟨hcl.2.2.1, hcl.2.2.2⟩
              have hcq : 0 ≤ m 10 (v / 4) ∧ m 10 (v / 4) ≤ 7 := ⟨hcl.1, hcl.2.1⟩
              have hX := mul_b (k := m 11 (v / 4)) (u := dx (v % 4)) (by omega) (dx_b (by omega) (by omega))
              have hY := mul_b (k := m 11 (v / 4)) (u := dy (v % 4)) (by omega) (dy_b (by omega) (by omega))
              refine go_iload_n dX9_comesBack_76 rfl ?_
              refine go_aload_n dX9_comesBack_77 rfl ?_
              refine go_getf_p (b := 11) dX9_comesBack_78 fl_9_22 ob_8 rfl pt_8_7 ?_
              refine go_iload dX9_comesBack_81 rfl ?_
              refine go_iaload dX9_comesBack_83 ar_11 (by omega) (by omega) (fun he_83 => ?_)
              rw [show (m1 11 (v / 4) : Int) = (m 11 (v / 4)) from by rw [hfr 11 (by decide)]] at he_83 ⊢
              refine go_stepX dX9_comesBack_84 sl_9_49 ?_
              refine go_iload dX9_comesBack_87 rfl ?_
              refine go_iconst dX9_comesBack_89 ?_
              refine go_iand dX9_comesBack_90 ?_
              rw [show (iand v 3 : Int) = (v % 4) from (sh2 (by omega) (by omega)).2]
              refine go_dx dX9_comesBack_91 (by omega) (by omega) ?_
              refine go_imul dX9_comesBack_92 ?_
              refine go_iadd dX9_comesBack_93 ?_
              refine go_istore (L' := [vr 8, vr 91, vi x, vi y, vi t, vi s, vi k, vi v, vi (v / 4), vi (x + ((m 11 (v / 4)) * (dx (v % 4)))), un]) dX9_comesBack_94 (by decide) rfl rfl ?_
              refine go_iload_n dX9_comesBack_96 rfl ?_
              refine go_aload_n dX9_comesBack_97 rfl ?_
              refine go_getf_p (b := 11) dX9_comesBack_98 fl_9_22 ob_8 rfl pt_8_7 ?_
              refine go_iload dX9_comesBack_101 rfl ?_
              refine go_iaload dX9_comesBack_103 ar_11 (by omega) (by omega) (fun he_103 => ?_)
              rw [show (m1 11 (v / 4) : Int) = (m 11 (v / 4)) from by rw [hfr 11 (by decide)]] at he_103 ⊢
              refine go_stepY dX9_comesBack_104 sl_9_52 ?_
              refine go_iload dX9_comesBack_107 rfl ?_
              refine go_iconst dX9_comesBack_109 ?_
              refine go_iand dX9_comesBack_110 ?_
              rw [show (iand v 3 : Int) = (v % 4) from (sh2 (by omega) (by omega)).2]
              refine go_dy dX9_comesBack_111 (by omega) (by omega) ?_
              refine go_imul dX9_comesBack_112 ?_
              refine go_iadd dX9_comesBack_113 ?_
              refine go_istore (L' := [vr 8, vr 91, vi x, vi y, vi t, vi s, vi k, vi v, vi (v / 4), vi (x + ((m 11 (v / 4)) * (dx (v % 4)))), vi (y + ((m 11 (v / 4)) * (dy (v % 4))))]) dX9_comesBack_114 (by decide) rfl rfl ?_
              refine go_aload_n dX9_comesBack_116 rfl ?_
              refine go_iload dX9_comesBack_117 rfl ?_
              refine go_iload dX9_comesBack_119 rfl ?_
              refine go_iastore dX9_comesBack_121 ar_91 (by omega) (by omega) ⟨by omega, by omega⟩ ?_
              refine go_aload_n dX9_comesBack_122 rfl ?_
              refine go_aload_n dX9_comesBack_123 rfl ?_
              refine go_iload dX9_comesBack_124 rfl ?_
              refine go_iload dX9_comesBack_126 rfl ?_
              refine go_iload dX9_comesBack_128 rfl ?_
              refine go_aload_n dX9_comesBack_130 rfl ?_
              refine go_getf_p (b := 10) dX9_comesBack_131 fl_9_27 ob_8 rfl pt_8_6 ?_
              refine go_iload dX9_comesBack_134 rfl ?_
              refine go_iaload dX9_comesBack_136 ar_10 (by omega) (by omega) (fun he_136 => ?_)
              rw [show ((wr m1 91 s v) 10 (v / 4) : Int) = (m 10 (v / 4)) from by rw [wr_na (by decide), hfr 10 (by decide)]] at he_136 ⊢
              refine go_iadd dX9_comesBack_137 ?_
              refine go_iload dX9_comesBack_138 rfl ?_
              refine go_iconst dX9_comesBack_140 ?_
              refine go_iadd dX9_comesBack_141 ?_
              refine go_iload dX9_comesBack_142 rfl ?_
              refine go_callS_z (as := [vr 8, vr 91, vi (x + ((m 11 (v / 4)) * (dx (v % 4)))), vi (y + ((m 11 (v / 4)) * (dy (v % 4)))), vi (t + (m 10 (v / 4))), vi (s + 1), vi k]) (S := []) (ev_X9_cb0 (m := (wr m1 91 s v)) (x := (x + ((m 11 (v / 4)) * (dx (v % 4))))) (y := (y + ((m 11 (v / 4)) * (dy (v % 4))))) (t := (t + (m 10 (v / 4)))) (s := (s + 1)) (k := k) (hdn.congr (fun k hk => by rw [wr_row (by omega)]; exact hfr _ (by omega))) (by first | assumption | omega | exact ⟨by omega, by omega⟩ | (constructor <;> omega)) (by first | assumption | omega | exact ⟨by omega, by omega⟩ | (constructor <;> omega)) (by first | assumption | omega | exact ⟨by omega, by omega⟩ | (constructor <;> omega)) (by first | assumption | omega | exact ⟨by omega, by omega⟩ | (constructor <;> omega)) (by first | assumption | omega | exact ⟨by omega, by omega⟩ | (constructor <;> omega))) rfl dX9_comesBack_144 cs_9_30 rfl rfl (by decide) (Nat.le_of_ble_eq_true rfl) (fun r_144 m_144 hr_144 ho_144 => ?_)
              have e_F : FSm (wr m1 91 s v) 0 (x + m 11 (v / 4) * dx (v % 4)) (y + m 11 (v / 4) * dy (v % 4)) (t + m 10 (v / 4)) = FSn (4 * m 8 2) (m 11) (m 10) 0 x y t v := by unfold FSm; rw [wr_row (by decide), wr_row (by decide), wr_row (by decide), hfr 8 (by decide), hfr 11 (by decide), hfr 10 (by decide)]
              rw [e_F] at hr_144
              obtain ⟨g1, g2, g3⟩ := hr_144
              have hfr2 : ∀ b : Nat, b ≠ 91 → m_144 b = m b := fun b hb => by rw [g2 b hb, wr_row hb, hfr b hb]
              have hlo2 : ∀ j : Int, j < s → m_144 91 j = m 91 j := fun j hj => by rw [g3 j (by omega), wr_ni (by omega), hlo j hj]
              refine go_if_eq (tgt := 152) dX9_comesBack_147 (by decide) ⟨by omega, by omega⟩ (fun h_147 => ?_) (fun h_147 => ?_)
              · have hF0 := (g1.resolve_left (fun h => by omega)).2
                refine go_iinc (L' := [vr 8, vr 91, vi x, vi y, vi t, vi s, vi k, vi (v + 1), vi (v / 4), vi (x + ((m 11 (v / 4)) * (dx (v % 4)))), vi (y + ((m 11 (v / 4)) * (dy (v % 4))))]) dX9_comesBack_152 rfl (by decide) rfl rfl ?_
                refine go_goto (tgt := 59) dX9_comesBack_155 (by decide) ?_
                refine go_drop (j := 8) (L' := [vr 8, vr 91, vi x, vi y, vi t, vi s, vi k, vi (v + 1), un, vi (x + ((m 11 (v / 4)) * (dx (v % 4)))), vi (y + ((m 11 (v / 4)) * (dy (v % 4))))]) rfl ?_
                refine go_drop (j := 9) (L' := [vr 8, vr 91, vi x, vi y, vi t, vi s, vi k, vi (v + 1), un, un, vi (y + ((m 11 (v / 4)) * (dy (v % 4))))]) rfl ?_
                refine go_drop (j := 10) (L' := [vr 8, vr 91, vi x, vi y, vi t, vi s, vi k, vi (v + 1), un, un, un]) rfl ?_
                exact ih_59 m_144 (v + 1) (by first | assumption | omega | rfl) (by first | assumption | omega | rfl) (stp hno hF0) hfr2 hlo2 (by omega)
              · have hF1 := (g1.resolve_right (fun h => h_147 h.1)).2
                refine go_iconst dX9_comesBack_150 ?_
                refine go_ret (v := 1) rfl dX9_comesBack_151 (okZ (by first | exact Or.inl rfl | exact Or.inr rfl | assumption | omega)) ?_
                obtain ⟨l, hl, hp⟩ := hF1
                exact ⟨Or.inl ⟨rfl, v :: l, FS_yes hv0 (by omega) hl hno, by rw [g3 s (by omega), wr_self], hp⟩, hfr2, hlo2⟩
        exact lp_59 _ m 0 (by first | assumption | omega | rfl) (by first | assumption | omega | rfl) (fun j a b => by omega) (fun b _ => rfl) (fun j _ => rfl) (Nat.lt_succ_self _)
      · refine go_iconst dX9_comesBack_54 ?_
        refine go_ret (v := 0) rfl dX9_comesBack_55 (okZ (by first | exact Or.inl rfl | exact Or.inr rfl | assumption | omega)) ?_
        refine ⟨Or.inr ⟨rfl, ?_⟩, fun b _ => rfl, fun j _ => rfl⟩
        cases hF : FSm m 1 x y t with
        | none => rfl
        | some l => have h := FS_far hfc 1 x y t l hF; exfalso; omega
    · exfalso; omega
set_option maxRecDepth 4000 in
theorem ev_X9_cb2 {m : Mem} {x : Int} {y : Int} {t : Int} {s : Int} {k : Int} (hdn : DnOk m 8) (hx : -10 ≤ x ∧ x ≤ 10) (hy : -10 ≤ y ∧ y ≤ 10) (ht : 0 ≤ t ∧ t ≤ 14) (hs : 0 ≤ s ∧ s + 2 ≤ 3) (hk : k = s + 2) : Ev 0 6 mX9_comesBack [vr 8, vr 91, vi x, vi y, vi t, vi s, vi k] m (fun r m' => CbPost m s r m' (FSm m 2 x y t)) := by
  refine Ev.of (L := [vr 8, vr 91, vi x, vi y, vi t, vi s, vi k, un, un, un, un]) (by decide +kernel) rfl (Nat.le_of_ble_eq_true rfl) rfl (fun t ht => by cases ht; first | exact Or.inl rfl | exact Or.inr (Or.inl rfl) | exact Or.inr (Or.inr rfl)) (fun hcan => ?_)
  obtain ⟨⟨hd0, hd1⟩, ⟨hd2, hd3⟩, ⟨hd4, hd5⟩, ⟨hd6, hd7⟩, ⟨hd8, hd9⟩, hdf, hdp, hdq⟩ := id hdn
  have hfc : ∀ f : Int, 0 ≤ f → 4 * f < 4 * m 8 2 → 0 ≤ m 11 f ∧ m 11 f ≤ 5 := fun f a b => ⟨(hdf f a (by omega)).2.2.1, (hdf f a (by omega)).2.2.2⟩
  refine go_iload dX9_comesBack_0 rfl ?_
  refine go_iload dX9_comesBack_2 rfl ?_
  refine go_icmp_ge (tgt := 14) dX9_comesBack_4 (by decide) ⟨by omega, by omega⟩ ⟨by omega, by omega⟩ (fun h_4 => ?_) (fun h_4 => ?_)
  · exfalso; omega
  · refine go_iload dX9_comesBack_7 rfl ?_
    refine go_aload_n dX9_comesBack_9 rfl ?_
    refine go_alen (x := 3) dX9_comesBack_10 ar_91 (by decide) rfl ?_
    refine go_icmp_lt (tgt := 35) dX9_comesBack_11 (by decide) ⟨by omega, by omega⟩ ⟨by omega, by omega⟩ (fun h_11 => ?_) (fun h_11 => ?_)
    · refine go_iload_n dX9_comesBack_35 rfl ?_
      have hab : 0 ≤ iabs x ∧ iabs x ≤ 20 := by unfold iabs; split <;> omega
      have hab2 : 0 ≤ iabs y ∧ iabs y ≤ 20 := by unfold iabs; split <;> omega
      refine go_abs dX9_comesBack_36 jl_9_40 ⟨by omega, by omega⟩ (by decide) (Nat.le_of_ble_eq_true rfl) ?_
      refine go_iload_n dX9_comesBack_39 rfl ?_
      refine go_abs dX9_comesBack_40 jl_9_40 ⟨by omega, by omega⟩ (by decide) (Nat.le_of_ble_eq_true rfl) ?_
      refine go_iadd dX9_comesBack_43 ?_
      refine go_iconst dX9_comesBack_44 ?_
      refine go_iload dX9_comesBack_45 rfl ?_
      refine go_iload dX9_comesBack_47 rfl ?_
      refine go_isub dX9_comesBack_49 ?_
      refine go_imul dX9_comesBack_50 ?_
      refine go_icmp_le (tgt := 56) dX9_comesBack_51 (by decide) ⟨by omega, by omega⟩ ⟨by omega, by omega⟩ (fun h_51 => ?_) (fun h_51 => ?_)
      · refine go_iconst dX9_comesBack_56 ?_
        refine go_istore (L' := [vr 8, vr 91, vi x, vi y, vi t, vi s, vi k, vi 0, un, un, un]) dX9_comesBack_57 (by decide) rfl rfl ?_
        have lp_59 : ∀ (n_59 : Nat) (m1 : Mem) (v : Int) , (0 ≤ v) → (v ≤ 4 * m 8 2) → (∀ j : Int, 0 ≤ j → j < v → FSn (4 * m 8 2) (m 11) (m 10) 1 x y t j = none) → (∀ b : Nat, b ≠ 91 → m1 b = m b) → (∀ j : Int, j < s → m1 91 j = m 91 j) → (4 * m 8 2 - v).toNat < n_59 → Go 0 6 mX9_comesBack (fun r m' => CbPost m s r m' (FSm m 2 x y t)) 59 [vr 8, vr 91, vi x, vi y, vi t, vi s, vi k, vi v, un, un, un] [] m1 := by
          intro n_59
          induction n_59 with
          | zero => intro m1 v hv0 hv1 hno hfr hlo hmu; exact absurd hmu (Nat.not_lt_zero _)
          | succ n_59 ih_59 =>
            intro m1 v hv0 hv1 hno hfr hlo hmu
            refine go_iload dX9_comesBack_59 rfl ?_
            refine go_iconst dX9_comesBack_61 ?_
            refine go_aload_n dX9_comesBack_62 rfl ?_
            refine go_getf_i (ki := 2) dX9_comesBack_63 fl_9_46 ob_8 rfl rfl (fun hf_63 => ?_)
            rw [show (m1 8 2 : Int) = (m 8 2) from by rw [hfr 8 (by decide)]] at hf_63 ⊢
            refine go_imul dX9_comesBack_66 ?_
            refine go_icmp_ge (tgt := 158) dX9_comesBack_67 (by decide) ⟨by omega, by omega⟩ ⟨by omega, by omega⟩ (fun h_67 => ?_) (fun h_67 => ?_)
            · refine go_iconst dX9_comesBack_158 ?_
              refine go_ret (v := 0) rfl dX9_comesBack_159 (okZ (by first | exact Or.inl rfl | exact Or.inr rfl | assumption | omega)) ?_
              exact ⟨Or.inr ⟨rfl, FS_no (fun j a b => hno j a (by omega))⟩, hfr, hlo⟩
            · refine go_iload dX9_comesBack_70 rfl ?_
              refine go_iconst dX9_comesBack_72 ?_
              refine go_ishr dX9_comesBack_73 ?_
              rw [show (ishr v 2 : Int) = (v / 4) from (sh2 (by omega) (by omega)).1]
              refine go_istore (L' := [vr 8, vr 91, vi x, vi y, vi t, vi s, vi k, vi v, vi (v / 4), un, un]) dX9_comesBack_74 (by decide) rfl rfl ?_
              have hcl := hdf (v / 4) (by omega) (by omega)
              have hcl0 : 0 ≤ m 11 (v / 4) ∧ m 11 (v / 4) ≤ 5 := ⟨hcl.2.2.1, hcl.2.2.2⟩
              have hcq : 0 ≤ m 10 (v / 4) ∧ m 10 (v / 4) ≤ 7 := ⟨hcl.1, hcl.2.1⟩
              have hX := mul_b (k := m 11 (v / 4)) (u := dx (v % 4)) (by omega) (dx_b (by omega) (by omega))
              have hY := mul_b (k := m 11 (v / 4)) (u := dy (v % 4)) (by omega) (dy_b (by omega) (by omega))
              refine go_iload_n dX9_comesBack_76 rfl ?_
              refine go_aload_n dX9_comesBack_77 rfl ?_
              refine go_getf_p (b := 11) dX9_comesBack_78 fl_9_22 ob_8 rfl pt_8_7 ?_
              refine go_iload dX9_comesBack_81 rfl ?_
              refine go_iaload dX9_comesBack_83 ar_11 (by omega) (by omega) (fun he_83 => ?_)
              rw [show (m1 11 (v / 4) : Int) = (m 11 (v / 4)) from by rw [hfr 11 (by decide)]] at he_83 ⊢
              refine go_stepX dX9_comesBack_84 sl_9_49 ?_
              refine go_iload dX9_comesBack_87 rfl ?_
              refine go_iconst dX9_comesBack_89 ?_
              refine go_iand dX9_comesBack_90 ?_
              rw [show (iand v 3 : Int) = (v % 4) from (sh2 (by omega) (by omega)).2]
              refine go_dx dX9_comesBack_91 (by omega) (by omega) ?_
              refine go_imul dX9_comesBack_92 ?_
              refine go_iadd dX9_comesBack_93 ?_
              refine go_istore (L' := [vr 8, vr 91, vi x, vi y, vi t, vi s, vi k, vi v, vi (v / 4), vi (x + ((m 11 (v / 4)) * (dx (v % 4)))), un]) dX9_comesBack_94 (by decide) rfl rfl ?_
              refine go_iload_n dX9_comesBack_96 rfl ?_
              refine go_aload_n dX9_comesBack_97 rfl ?_
              refine go_getf_p (b := 11) dX9_comesBack_98 fl_9_22 ob_8 rfl pt_8_7 ?_
              refine go_iload dX9_comesBack_101 rfl ?_
              refine go_iaload dX9_comesBack_103 ar_11 (by omega) (by omega) (fun he_103 => ?_)
              rw [show (m1 11 (v / 4) : Int) = (m 11 (v / 4)) from by rw [hfr 11 (by decide)]] at he_103 ⊢
              refine go_stepY dX9_comesBack_104 sl_9_52 ?_
              refine go_iload dX9_comesBack_107 rfl ?_
              refine go_iconst dX9_comesBack_109 ?_
              refine go_iand dX9_comesBack_110 ?_
              rw [show (iand v 3 : Int) = (v % 4) from (sh2 (by omega) (by omega)).2]
              refine go_dy dX9_comesBack_111 (by omega) (by omega) ?_
              refine go_imul dX9_comesBack_112 ?_
              refine go_iadd dX9_comesBack_113 ?_
              refine go_istore (L' := [vr 8, vr 91, vi x, vi y, vi t, vi s, vi k, vi v, vi (v / 4), vi (x + ((m 11 (v / 4)) * (dx (v % 4)))), vi (y + ((m 11 (v / 4)) * (dy (v % 4))))]) dX9_comesBack_114 (by decide) rfl rfl ?_
              refine go_aload_n dX9_comesBack_116 rfl ?_
              refine go_iload dX9_comesBack_117 rfl ?_
              refine go_iload dX9_comesBack_119 rfl ?_
              refine go_iastore dX9_comesBack_121 ar_91 (by omega) (by omega) ⟨by omega, by omega⟩ ?_
              refine go_aload_n dX9_comesBack_122 rfl ?_
              refine go_aload_n dX9_comesBack_123 rfl ?_
              refine go_iload dX9_comesBack_124 rfl ?_
              refine go_iload dX9_comesBack_126 rfl ?_
              refine go_iload dX9_comesBack_128 rfl ?_
              refine go_aload_n dX9_comesBack_130 rfl ?_
              refine go_getf_p (b := 10) dX9_comesBack_131 fl_9_27 ob_8 rfl pt_8_6 ?_
              refine go_iload dX9_comesBack_134 rfl ?_
              refine go_iaload dX9_comesBack_136 ar_10 (by omega) (by omega) (fun he_136 => ?_)
              rw [show ((wr m1 91 s v) 10 (v / 4) : Int) = (m 10 (v / 4)) from by rw [wr_na (by decide), hfr 10 (by decide)]] at he_136 ⊢
              refine go_iadd dX9_comesBack_137 ?_
              refine go_iload dX9_comesBack_138 rfl ?_
              refine go_iconst dX9_comesBack_140 ?_
              refine go_iadd dX9_comesBack_141 ?_
              refine go_iload dX9_comesBack_142 rfl ?_
              refine go_callS_z (as := [vr 8, vr 91, vi (x + ((m 11 (v / 4)) * (dx (v % 4)))), vi (y + ((m 11 (v / 4)) * (dy (v % 4)))), vi (t + (m 10 (v / 4))), vi (s + 1), vi k]) (S := []) (ev_X9_cb1 (m := (wr m1 91 s v)) (x := (x + ((m 11 (v / 4)) * (dx (v % 4))))) (y := (y + ((m 11 (v / 4)) * (dy (v % 4))))) (t := (t + (m 10 (v / 4)))) (s := (s + 1)) (k := k) (hdn.congr (fun k hk => by rw [wr_row (by omega)]; exact hfr _ (by omega))) (by first | assumption | omega | exact ⟨by omega, by omega⟩ | (constructor <;> omega)) (by first | assumption | omega | exact ⟨by omega, by omega⟩ | (constructor <;> omega)) (by first | assumption | omega | exact ⟨by omega, by omega⟩ | (constructor <;> omega)) (by first | assumption | omega | exact ⟨by omega, by omega⟩ | (constructor <;> omega)) (by first | assumption | omega | exact ⟨by omega, by omega⟩ | (constructor <;> omega))) rfl dX9_comesBack_144 cs_9_30 rfl rfl (by decide) (Nat.le_of_ble_eq_true rfl) (fun r_144 m_144 hr_144 ho_144 => ?_)
              have e_F : FSm (wr m1 91 s v) 1 (x + m 11 (v / 4) * dx (v % 4)) (y + m 11 (v / 4) * dy (v % 4)) (t + m 10 (v / 4)) = FSn (4 * m 8 2) (m 11) (m 10) 1 x y t v := by unfold FSm; rw [wr_row (by decide), wr_row (by decide), wr_row (by decide), hfr 8 (by decide), hfr 11 (by decide), hfr 10 (by decide)]
              rw [e_F] at hr_144
              obtain ⟨g1, g2, g3⟩ := hr_144
              have hfr2 : ∀ b : Nat, b ≠ 91 → m_144 b = m b := fun b hb => by rw [g2 b hb, wr_row hb, hfr b hb]
              have hlo2 : ∀ j : Int, j < s → m_144 91 j = m 91 j := fun j hj => by rw [g3 j (by omega), wr_ni (by omega), hlo j hj]
              refine go_if_eq (tgt := 152) dX9_comesBack_147 (by decide) ⟨by omega, by omega⟩ (fun h_147 => ?_) (fun h_147 => ?_)
              · have hF0 := (g1.resolve_left (fun h => by omega)).2
                refine go_iinc (L' := [vr 8, vr 91, vi x, vi y, vi t, vi s, vi k, vi (v + 1), vi (v / 4), vi (x + ((m 11 (v / 4)) * (dx (v % 4)))), vi (y + ((m 11 (v / 4)) * (dy (v % 4))))]) dX9_comesBack_152 rfl (by decide) rfl rfl ?_
                refine go_goto (tgt := 59) dX9_comesBack_155 (by decide) ?_
                refine go_drop (j := 8) (L' := [vr 8, vr 91, vi x, vi y, vi t, vi s, vi k, vi (v + 1), un, vi (x + ((m 11 (v / 4)) * (dx (v % 4)))), vi (y + ((m 11 (v / 4)) * (dy (v % 4))))]) rfl ?_
                refine go_drop (j := 9) (L' := [vr 8, vr 91, vi x, vi y, vi t, vi s, vi k, vi (v + 1), un, un, vi (y + ((m 11 (v / 4)) * (dy (v % 4))))]) rfl ?_
                refine go_drop (j := 10) (L' := [vr 8, vr 91, vi x, vi y, vi t, vi s, vi k, vi (v + 1), un, un, un]) rfl ?_
                exact ih_59 m_144 (v + 1) (by first | assumption | omega | rfl) (by first | assumption | omega | rfl) (stp hno hF0) hfr2 hlo2 (by omega)
              · have hF1 := (g1.resolve_right (fun h => h_147 h.1)).2
                refine go_iconst dX9_comesBack_150 ?_
                refine go_ret (v := 1) rfl dX9_comesBack_151 (okZ (by first | exact Or.inl rfl | exact Or.inr rfl | assumption | omega)) ?_
                obtain ⟨l, hl, hp⟩ := hF1
                exact ⟨Or.inl ⟨rfl, v :: l, FS_yes hv0 (by omega) hl hno, by rw [g3 s (by omega), wr_self], hp⟩, hfr2, hlo2⟩
        exact lp_59 _ m 0 (by first | assumption | omega | rfl) (by first | assumption | omega | rfl) (fun j a b => by omega) (fun b _ => rfl) (fun j _ => rfl) (Nat.lt_succ_self _)
      · refine go_iconst dX9_comesBack_54 ?_
        refine go_ret (v := 0) rfl dX9_comesBack_55 (okZ (by first | exact Or.inl rfl | exact Or.inr rfl | assumption | omega)) ?_
        refine ⟨Or.inr ⟨rfl, ?_⟩, fun b _ => rfl, fun j _ => rfl⟩
        cases hF : FSm m 2 x y t with
        | none => rfl
        | some l => have h := FS_far hfc 2 x y t l hF; exfalso; omega
    · exfalso; omega
set_option maxRecDepth 4000 in
theorem ev_X9_cb3 {m : Mem} {x : Int} {y : Int} {t : Int} {s : Int} {k : Int} (hdn : DnOk m 8) (hx : -5 ≤ x ∧ x ≤ 5) (hy : -5 ≤ y ∧ y ≤ 5) (ht : 0 ≤ t ∧ t ≤ 7) (hs : 0 ≤ s ∧ s + 3 ≤ 3) (hk : k = s + 3) : Ev 0 7 mX9_comesBack [vr 8, vr 91, vi x, vi y, vi t, vi s, vi k] m (fun r m' => CbPost m s r m' (FSm m 3 x y t)) := by
  refine Ev.of (L := [vr 8, vr 91, vi x, vi y, vi t, vi s, vi k, un, un, un, un]) (by decide +kernel) rfl (Nat.le_of_ble_eq_true rfl) rfl (fun t ht => by cases ht; first | exact Or.inl rfl | exact Or.inr (Or.inl rfl) | exact Or.inr (Or.inr rfl)) (fun hcan => ?_)
  obtain ⟨⟨hd0, hd1⟩, ⟨hd2, hd3⟩, ⟨hd4, hd5⟩, ⟨hd6, hd7⟩, ⟨hd8, hd9⟩, hdf, hdp, hdq⟩ := id hdn
  have hfc : ∀ f : Int, 0 ≤ f → 4 * f < 4 * m 8 2 → 0 ≤ m 11 f ∧ m 11 f ≤ 5 := fun f a b => ⟨(hdf f a (by omega)).2.2.1, (hdf f a (by omega)).2.2.2⟩
  refine go_iload dX9_comesBack_0 rfl ?_
  refine go_iload dX9_comesBack_2 rfl ?_
  refine go_icmp_ge (tgt := 14) dX9_comesBack_4 (by decide) ⟨by omega, by omega⟩ ⟨by omega, by omega⟩ (fun h_4 => ?_) (fun h_4 => ?_)
  · exfalso; omega
  · refine go_iload dX9_comesBack_7 rfl ?_
    refine go_aload_n dX9_comesBack_9 rfl ?_
    refine go_alen (x := 3) dX9_comesBack_10 ar_91 (by decide) rfl ?_
    refine go_icmp_lt (tgt := 35) dX9_comesBack_11 (by decide) ⟨by omega, by omega⟩ ⟨by omega, by omega⟩ (fun h_11 => ?_) (fun h_11 => ?_)
    · refine go_iload_n dX9_comesBack_35 rfl ?_
      have hab : 0 ≤ iabs x ∧ iabs x ≤ 20 := by unfold iabs; split <;> omega
      have hab2 : 0 ≤ iabs y ∧ iabs y ≤ 20 := by unfold iabs; split <;> omega
      refine go_abs dX9_comesBack_36 jl_9_40 ⟨by omega, by omega⟩ (by decide) (Nat.le_of_ble_eq_true rfl) ?_
      refine go_iload_n dX9_comesBack_39 rfl ?_
      refine go_abs dX9_comesBack_40 jl_9_40 ⟨by omega, by omega⟩ (by decide) (Nat.le_of_ble_eq_true rfl) ?_
      refine go_iadd dX9_comesBack_43 ?_
      refine go_iconst dX9_comesBack_44 ?_
      refine go_iload dX9_comesBack_45 rfl ?_
      refine go_iload dX9_comesBack_47 rfl ?_
      refine go_isub dX9_comesBack_49 ?_
      refine go_imul dX9_comesBack_50 ?_
      refine go_icmp_le (tgt := 56) dX9_comesBack_51 (by decide) ⟨by omega, by omega⟩ ⟨by omega, by omega⟩ (fun h_51 => ?_) (fun h_51 => ?_)
      · refine go_iconst dX9_comesBack_56 ?_
        refine go_istore (L' := [vr 8, vr 91, vi x, vi y, vi t, vi s, vi k, vi 0, un, un, un]) dX9_comesBack_57 (by decide) rfl rfl ?_
        have lp_59 : ∀ (n_59 : Nat) (m1 : Mem) (v : Int) , (0 ≤ v) → (v ≤ 4 * m 8 2) → (∀ j : Int, 0 ≤ j → j < v → FSn (4 * m 8 2) (m 11) (m 10) 2 x y t j = none) → (∀ b : Nat, b ≠ 91 → m1 b = m b) → (∀ j : Int, j < s → m1 91 j = m 91 j) → (4 * m 8 2 - v).toNat < n_59 → Go 0 7 mX9_comesBack (fun r m' => CbPost m s r m' (FSm m 3 x y t)) 59 [vr 8, vr 91, vi x, vi y, vi t, vi s, vi k, vi v, un, un, un] [] m1 := by
          intro n_59
          induction n_59 with
          | zero => intro m1 v hv0 hv1 hno hfr hlo hmu; exact absurd hmu (Nat.not_lt_zero _)
          | succ n_59 ih_59 =>
            intro m1 v hv0 hv1 hno hfr hlo hmu
            refine go_iload dX9_comesBack_59 rfl ?_
            refine go_iconst dX9_comesBack_61 ?_
            refine go_aload_n dX9_comesBack_62 rfl ?_
            refine go_getf_i (ki := 2) dX9_comesBack_63 fl_9_46 ob_8 rfl rfl (fun hf_63 => ?_)
            rw [show (m1 8 2 : Int) = (m 8 2) from by rw [hfr 8 (by decide)]] at hf_63 ⊢
            refine go_imul dX9_comesBack_66 ?_
            refine go_icmp_ge (tgt := 158) dX9_comesBack_67 (by decide) ⟨by omega, by omega⟩ ⟨by omega, by omega⟩ (fun h_67 => ?_) (fun h_67 => ?_)
            · refine go_iconst dX9_comesBack_158 ?_
              refine go_ret (v := 0) rfl dX9_comesBack_159 (okZ (by first | exact Or.inl rfl | exact Or.inr rfl | assumption | omega)) ?_
              exact ⟨Or.inr ⟨rfl, FS_no (fun j a b => hno j a (by omega))⟩, hfr, hlo⟩
            · refine go_iload dX9_comesBack_70 rfl ?_
              refine go_iconst dX9_comesBack_72 ?_
              refine go_ishr dX9_comesBack_73 ?_
              rw [show (ishr v 2 : Int) = (v / 4) from (sh2 (by omega) (by omega)).1]
              refine go_istore (L' := [vr 8, vr 91, vi x, vi y, vi t, vi s, vi k, vi v, vi (v / 4), un, un]) dX9_comesBack_74 (by decide) rfl rfl ?_
              have hcl := hdf (v / 4) (by omega) (by omega)
              have hcl0 : 0 ≤ m 11 (v / 4) ∧ m 11 (v / 4) ≤ 5 := ⟨hcl.2.2.1, hcl.2.2.2⟩
              have hcq : 0 ≤ m 10 (v / 4) ∧ m 10 (v / 4) ≤ 7 := ⟨hcl.1, hcl.2.1⟩
              have hX := mul_b (k := m 11 (v / 4)) (u := dx (v % 4)) (by omega) (dx_b (by omega) (by omega))
              have hY := mul_b (k := m 11 (v / 4)) (u := dy (v % 4)) (by omega) (dy_b (by omega) (by omega))
              refine go_iload_n dX9_comesBack_76 rfl ?_
              refine go_aload_n dX9_comesBack_77 rfl ?_
              refine go_getf_p (b := 11) dX9_comesBack_78 fl_9_22 ob_8 rfl pt_8_7 ?_
              refine go_iload dX9_comesBack_81 rfl ?_
              refine go_iaload dX9_comesBack_83 ar_11 (by omega) (by omega) (fun he_83 => ?_)
              rw [show (m1 11 (v / 4) : Int) = (m 11 (v / 4)) from by rw [hfr 11 (by decide)]] at he_83 ⊢
              refine go_stepX dX9_comesBack_84 sl_9_49 ?_
              refine go_iload dX9_comesBack_87 rfl ?_
              refine go_iconst dX9_comesBack_89 ?_
              refine go_iand dX9_comesBack_90 ?_
              rw [show (iand v 3 : Int) = (v % 4) from (sh2 (by omega) (by omega)).2]
              refine go_dx dX9_comesBack_91 (by omega) (by omega) ?_
              refine go_imul dX9_comesBack_92 ?_
              refine go_iadd dX9_comesBack_93 ?_
              refine go_istore (L' := [vr 8, vr 91, vi x, vi y, vi t, vi s, vi k, vi v, vi (v / 4), vi (x + ((m 11 (v / 4)) * (dx (v % 4)))), un]) dX9_comesBack_94 (by decide) rfl rfl ?_
              refine go_iload_n dX9_comesBack_96 rfl ?_
              refine go_aload_n dX9_comesBack_97 rfl ?_
              refine go_getf_p (b := 11) dX9_comesBack_98 fl_9_22 ob_8 rfl pt_8_7 ?_
              refine go_iload dX9_comesBack_101 rfl ?_
              refine go_iaload dX9_comesBack_103 ar_11 (by omega) (by omega) (fun he_103 => ?_)
              rw [show (m1 11 (v / 4) : Int) = (m 11 (v / 4)) from by rw [hfr 11 (by decide)]] at he_103 ⊢
              refine go_stepY dX9_comesBack_104 sl_9_52 ?_
              refine go_iload dX9_comesBack_107 rfl ?_
              refine go_iconst dX9_comesBack_109 ?_
              refine go_iand dX9_comesBack_110 ?_
              rw [show (iand v 3 : Int) = (v % 4) from (sh2 (by omega) (by omega)).2]
              refine go_dy dX9_comesBack_111 (by omega) (by omega) ?_
              refine go_imul dX9_comesBack_112 ?_
              refine go_iadd dX9_comesBack_113 ?_
              refine go_istore (L' := [vr 8, vr 91, vi x, vi y, vi t, vi s, vi k, vi v, vi (v / 4), vi (x + ((m 11 (v / 4)) * (dx (v % 4)))), vi (y + ((m 11 (v / 4)) * (dy (v % 4))))]) dX9_comesBack_114 (by decide) rfl rfl ?_
              refine go_aload_n dX9_comesBack_116 rfl ?_
              refine go_iload dX9_comesBack_117 rfl ?_
              refine go_iload dX9_comesBack_119 rfl ?_
              refine go_iastore dX9_comesBack_121 ar_91 (by omega) (by omega) ⟨by omega, by omega⟩ ?_
              refine go_aload_n dX9_comesBack_122 rfl ?_
              refine go_aload_n dX9_comesBack_123 rfl ?_
              refine go_iload dX9_comesBack_124 rfl ?_
              refine go_iload dX9_comesBack_126 rfl ?_
              refine go_iload dX9_comesBack_128 rfl ?_
              refine go_aload_n dX9_comesBack_130 rfl ?_
              refine go_getf_p (b := 10) dX9_comesBack_131 fl_9_27 ob_8 rfl pt_8_6 ?_
              refine go_iload dX9_comesBack_134 rfl ?_
              refine go_iaload dX9_comesBack_136 ar_10 (by omega) (by omega) (fun he_136 => ?_)
              rw [show ((wr m1 91 s v) 10 (v / 4) : Int) = (m 10 (v / 4)) from by rw [wr_na (by decide), hfr 10 (by decide)]] at he_136 ⊢
              refine go_iadd dX9_comesBack_137 ?_
              refine go_iload dX9_comesBack_138 rfl ?_
              refine go_iconst dX9_comesBack_140 ?_
              refine go_iadd dX9_comesBack_141 ?_
              refine go_iload dX9_comesBack_142 rfl ?_
              refine go_callS_z (as := [vr 8, vr 91, vi (x + ((m 11 (v / 4)) * (dx (v % 4)))), vi (y + ((m 11 (v / 4)) * (dy (v % 4)))), vi (t + (m 10 (v / 4))), vi (s + 1), vi k]) (S := []) (ev_X9_cb2 (m := (wr m1 91 s v)) (x := (x + ((m 11 (v / 4)) * (dx (v % 4))))) (y := (y + ((m 11 (v / 4)) * (dy (v % 4))))) (t := (t + (m 10 (v / 4)))) (s := (s + 1)) (k := k) (hdn.congr (fun k hk => by rw [wr_row (by omega)]; exact hfr _ (by omega))) (by first | assumption | omega | exact ⟨by omega, by omega⟩ | (constructor <;> omega)) (by first | assumption | omega | exact ⟨by omega, by omega⟩ | (constructor <;> omega)) (by first | assumption | omega | exact ⟨by omega, by omega⟩ | (constructor <;> omega)) (by first | assumption | omega | exact ⟨by omega, by omega⟩ | (constructor <;> omega)) (by first | assumption | omega | exact ⟨by omega, by omega⟩ | (constructor <;> omega))) rfl dX9_comesBack_144 cs_9_30 rfl rfl (by decide) (Nat.le_of_ble_eq_true rfl) (fun r_144 m_144 hr_144 ho_144 => ?_)
              have e_F : FSm (wr m1 91 s v) 2 (x + m 11 (v / 4) * dx (v % 4)) (y + m 11 (v / 4) * dy (v % 4)) (t + m 10 (v / 4)) = FSn (4 * m 8 2) (m 11) (m 10) 2 x y t v := by unfold FSm; rw [wr_row (by decide), wr_row (by decide), wr_row (by decide), hfr 8 (by decide), hfr 11 (by decide), hfr 10 (by decide)]
              rw [e_F] at hr_144
              obtain ⟨g1, g2, g3⟩ := hr_144
              have hfr2 : ∀ b : Nat, b ≠ 91 → m_144 b = m b := fun b hb => by rw [g2 b hb, wr_row hb, hfr b hb]
              have hlo2 : ∀ j : Int, j < s → m_144 91 j = m 91 j := fun j hj => by rw [g3 j (by omega), wr_ni (by omega), hlo j hj]
              refine go_if_eq (tgt := 152) dX9_comesBack_147 (by decide) ⟨by omega, by omega⟩ (fun h_147 => ?_) (fun h_147 => ?_)
              · have hF0 := (g1.resolve_left (fun h => by omega)).2
                refine go_iinc (L' := [vr 8, vr 91, vi x, vi y, vi t, vi s, vi k, vi (v + 1), vi (v / 4), vi (x + ((m 11 (v / 4)) * (dx (v % 4)))), vi (y + ((m 11 (v / 4)) * (dy (v % 4))))]) dX9_comesBack_152 rfl (by decide) rfl rfl ?_
                refine go_goto (tgt := 59) dX9_comesBack_155 (by decide) ?_
                refine go_drop (j := 8) (L' := [vr 8, vr 91, vi x, vi y, vi t, vi s, vi k, vi (v + 1), un, vi (x + ((m 11 (v / 4)) * (dx (v % 4)))), vi (y + ((m 11 (v / 4)) * (dy (v % 4))))]) rfl ?_
                refine go_drop (j := 9) (L' := [vr 8, vr 91, vi x, vi y, vi t, vi s, vi k, vi (v + 1), un, un, vi (y + ((m 11 (v / 4)) * (dy (v % 4))))]) rfl ?_
                refine go_drop (j := 10) (L' := [vr 8, vr 91, vi x, vi y, vi t, vi s, vi k, vi (v + 1), un, un, un]) rfl ?_
                exact ih_59 m_144 (v + 1) (by first | assumption | omega | rfl) (by first | assumption | omega | rfl) (stp hno hF0) hfr2 hlo2 (by omega)
              · have hF1 := (g1.resolve_right (fun h => h_147 h.1)).2
                refine go_iconst dX9_comesBack_150 ?_
                refine go_ret (v := 1) rfl dX9_comesBack_151 (okZ (by first | exact Or.inl rfl | exact Or.inr rfl | assumption | omega)) ?_
                obtain ⟨l, hl, hp⟩ := hF1
                exact ⟨Or.inl ⟨rfl, v :: l, FS_yes hv0 (by omega) hl hno, by rw [g3 s (by omega), wr_self], hp⟩, hfr2, hlo2⟩
        exact lp_59 _ m 0 (by first | assumption | omega | rfl) (by first | assumption | omega | rfl) (fun j a b => by omega) (fun b _ => rfl) (fun j _ => rfl) (Nat.lt_succ_self _)
      · refine go_iconst dX9_comesBack_54 ?_
        refine go_ret (v := 0) rfl dX9_comesBack_55 (okZ (by first | exact Or.inl rfl | exact Or.inr rfl | assumption | omega)) ?_
        refine ⟨Or.inr ⟨rfl, ?_⟩, fun b _ => rfl, fun j _ => rfl⟩
        cases hF : FSm m 3 x y t with
        | none => rfl
        | some l => have h := FS_far hfc 3 x y t l hF; exfalso; omega
    · exfalso; omega
theorem dX9_find_0 : decode mX9_find.2.1 0 = .ok (.iconst 1, 1) := by decide +kernel
theorem dX9_find_1 : decode mX9_find.2.1 1 = .ok (.istore_n 3, 1) := by decide +kernel
theorem dX9_find_2 : decode mX9_find.2.1 2 = .ok (.iload_n 3, 1) := by decide +kernel
theorem dX9_find_3 : decode mX9_find.2.1 3 = .ok (.iconst 3, 1) := by decide +kernel
theorem dX9_find_4 : decode mX9_find.2.1 4 = .ok (.if_icmp .gt 56, 3) := by decide +kernel
theorem dX9_find_7 : decode mX9_find.2.1 7 = .ok (.aload_n 1, 1) := by decide +kernel
theorem dX9_find_8 : decode mX9_find.2.1 8 = .ok (.aload_n 0, 1) := by decide +kernel
theorem dX9_find_9 : decode mX9_find.2.1 9 = .ok (.getfield 19, 3) := by decide +kernel
theorem dX9_find_12 : decode mX9_find.2.1 12 = .ok (.aload_n 1, 1) := by decide +kernel
theorem dX9_find_13 : decode mX9_find.2.1 13 = .ok (.getfield 22, 3) := by decide +kernel
theorem dX9_find_16 : decode mX9_find.2.1 16 = .ok (.iload_n 2, 1) := by decide +kernel
theorem dX9_find_17 : decode mX9_find.2.1 17 = .ok (.iaload, 1) := by decide +kernel
theorem dX9_find_18 : decode mX9_find.2.1 18 = .ok (.iconst 0, 1) := by decide +kernel
theorem dX9_find_19 : decode mX9_find.2.1 19 = .ok (.aload_n 1, 1) := by decide +kernel
theorem dX9_find_20 : decode mX9_find.2.1 20 = .ok (.getfield 27, 3) := by decide +kernel
theorem dX9_find_23 : decode mX9_find.2.1 23 = .ok (.iload_n 2, 1) := by decide +kernel
theorem dX9_find_24 : decode mX9_find.2.1 24 = .ok (.iaload, 1) := by decide +kernel
theorem dX9_find_25 : decode mX9_find.2.1 25 = .ok (.iconst 0, 1) := by decide +kernel
theorem dX9_find_26 : decode mX9_find.2.1 26 = .ok (.iload_n 3, 1) := by decide +kernel
theorem dX9_find_27 : decode mX9_find.2.1 27 = .ok (.invokestatic 30, 3) := by decide +kernel
theorem dX9_find_30 : decode mX9_find.2.1 30 = .ok (.ifCond .eq 24, 3) := by decide +kernel
theorem dX9_find_33 : decode mX9_find.2.1 33 = .ok (.aload_n 0, 1) := by decide +kernel
theorem dX9_find_34 : decode mX9_find.2.1 34 = .ok (.getfield 19, 3) := by decide +kernel
theorem dX9_find_37 : decode mX9_find.2.1 37 = .ok (.iconst 0, 1) := by decide +kernel
theorem dX9_find_38 : decode mX9_find.2.1 38 = .ok (.aload_n 0, 1) := by decide +kernel
theorem dX9_find_39 : decode mX9_find.2.1 39 = .ok (.getfield 9, 3) := by decide +kernel
theorem dX9_find_42 : decode mX9_find.2.1 42 = .ok (.iconst 0, 1) := by decide +kernel
theorem dX9_find_43 : decode mX9_find.2.1 43 = .ok (.iload_n 3, 1) := by decide +kernel
theorem dX9_find_44 : decode mX9_find.2.1 44 = .ok (.invokestatic 34, 3) := by decide +kernel
theorem dX9_find_47 : decode mX9_find.2.1 47 = .ok (.aload_n 0, 1) := by decide +kernel
theorem dX9_find_48 : decode mX9_find.2.1 48 = .ok (.iload_n 3, 1) := by decide +kernel
theorem dX9_find_49 : decode mX9_find.2.1 49 = .ok (.putfield 15, 3) := by decide +kernel
theorem dX9_find_52 : decode mX9_find.2.1 52 = .ok (.iload_n 3, 1) := by decide +kernel
theorem dX9_find_53 : decode mX9_find.2.1 53 = .ok (.ireturn, 1) := by decide +kernel
theorem dX9_find_54 : decode mX9_find.2.1 54 = .ok (.iinc 3 1, 3) := by decide +kernel
theorem dX9_find_57 : decode mX9_find.2.1 57 = .ok (.goto (-55), 3) := by decide +kernel
theorem dX9_find_60 : decode mX9_find.2.1 60 = .ok (.iconst (-1), 1) := by decide +kernel
theorem dX9_find_61 : decode mX9_find.2.1 61 = .ok (.ireturn, 1) := by decide +kernel
set_option maxRecDepth 4000 in
theorem ev_X9_find {m : Mem} {f : Int} (hdn : DnOk m 8) (hf : 0 ≤ f ∧ f < m 8 2) : Ev 0 8 mX9_find [vr 89, vr 8, vi f] m (fun r m' => (∃ (n : Nat) (l : List Int), 1 ≤ n ∧ n ≤ 3 ∧ r = (n : Int) ∧ FSm m n (m 11 f) 0 (m 10 f) = some l ∧ (∀ j : Nat, 1 ≤ j → j < n → FSm m j (m 11 f) 0 (m 10 f) = none) ∧ m' 89 1 = (n : Int) ∧ putL m' 90 0 l ∧ ∀ b : Nat, b < 89 ∨ 92 ≤ b → m' b = m b) ∨ (r = -1 ∧ (∀ j : Nat, 1 ≤ j → j ≤ 3 → FSm m j (m 11 f) 0 (m 10 f) = none) ∧ ∀ b : Nat, b ≠ 91 → m' b = m b)) := by
  refine Ev.of (L := [vr 89, vr 8, vi f, un]) (by decide +kernel) rfl (Nat.le_of_ble_eq_true rfl) rfl (fun t ht => by cases ht; first | exact Or.inl rfl | exact Or.inr (Or.inl rfl) | exact Or.inr (Or.inr rfl)) (fun hcan => ?_)
  obtain ⟨⟨hd0, hd1⟩, ⟨hd2, hd3⟩, ⟨hd4, hd5⟩, ⟨hd6, hd7⟩, ⟨hd8, hd9⟩, hdf, hdp, hdq⟩ := id hdn
  have hff := hdf f hf.1 hf.2
  have hc1 : 0 ≤ m 11 f ∧ m 11 f ≤ 5 := ⟨hff.2.2.1, hff.2.2.2⟩
  have hc2 : 0 ≤ m 10 f ∧ m 10 f ≤ 7 := ⟨hff.1, hff.2.1⟩
  refine go_iconst dX9_find_0 ?_
  refine go_istore_n (L' := [vr 89, vr 8, vi f, vi 1]) dX9_find_1 (by decide) rfl rfl ?_
  refine go_iload_n dX9_find_2 rfl ?_
  refine go_iconst dX9_find_3 ?_
  refine go_icmp_gt (tgt := 60) dX9_find_4 (by decide) ⟨by omega, by omega⟩ ⟨by omega, by omega⟩ (fun h_4 => ?_) (fun h_4 => ?_)
  · exfalso; omega
  · refine go_aload_n dX9_find_7 rfl ?_
    refine go_aload_n dX9_find_8 rfl ?_
    refine go_getf_p (b := 91) dX9_find_9 fl_9_19 ob_89 rfl pt_89_2 ?_
    refine go_aload_n dX9_find_12 rfl ?_
    refine go_getf_p (b := 11) dX9_find_13 fl_9_22 ob_8 rfl pt_8_7 ?_
    refine go_iload_n dX9_find_16 rfl ?_
    refine go_iaload dX9_find_17 ar_11 (by omega) (by omega) (fun he_17 => ?_)
    refine go_iconst dX9_find_18 ?_
    refine go_aload_n dX9_find_19 rfl ?_
    refine go_getf_p (b := 10) dX9_find_20 fl_9_27 ob_8 rfl pt_8_6 ?_
    refine go_iload_n dX9_find_23 rfl ?_
    refine go_iaload dX9_find_24 ar_10 (by omega) (by omega) (fun he_24 => ?_)
    refine go_iconst dX9_find_25 ?_
    refine go_iload_n dX9_find_26 rfl ?_
    refine go_callS_z (as := [vr 8, vr 91, vi (m 11 f), vi 0, vi (m 10 f), vi 0, vi 1]) (S := []) (ev_X9_cb1 (m := m) (x := (m 11 f)) (y := 0) (t := (m 10 f)) (s := 0) (k := 1) hdn (by omega) (by omega) (by omega) (by first | assumption | omega | exact ⟨by omega, by omega⟩ | (constructor <;> omega)) (by first | assumption | omega | exact ⟨by omega, by omega⟩ | (constructor <;> omega))) rfl dX9_find_27 cs_9_30 rfl rfl (by decide) (Nat.le_of_ble_eq_true rfl) (fun r_27 m_27 hr_27 ho_27 => ?_)
    have hP1 := hr_27
    rw [show FSm m 1 (m 11 f) 0 (m 10 f) = FSm m 1 (m 11 f) 0 (m 10 f) from rfl] at hP1
    have hfr1 : ∀ b : Nat, b ≠ 91 → m_27 b = m b := fun b hb => by rw [hP1.2.1 b hb]
    clear hr_27
    obtain ⟨m1, hm1⟩ : ∃ z : Mem, z = m_27 := ⟨_, rfl⟩
    obtain ⟨q1, hq1⟩ : ∃ z : Int, z = r_27 := ⟨_, rfl⟩
    rw [← hm1] at hP1 hfr1 ⊢
    rw [← hq1] at hP1 ⊢
    have hqb1 : q1 = 0 ∨ q1 = 1 := by rcases hP1.1 with h | h <;> omega
    clear hm1 hq1 ho_27
    refine go_if_eq (tgt := 54) dX9_find_30 (by decide) ⟨by omega, by omega⟩ (fun h_30 => ?_) (fun h_30 => ?_)
    · refine go_iinc (L' := [vr 89, vr 8, vi f, vi 2]) dX9_find_54 rfl (by decide) rfl rfl ?_
      refine go_goto (tgt := 2) dX9_find_57 (by decide) ?_
      refine go_iload_n dX9_find_2 rfl ?_
      refine go_iconst dX9_find_3 ?_
      refine go_icmp_gt (tgt := 60) dX9_find_4 (by decide) ⟨by omega, by omega⟩ ⟨by omega, by omega⟩ (fun h_4 => ?_) (fun h_4 => ?_)
      · exfalso; omega
      · refine go_aload_n dX9_find_7 rfl ?_
        refine go_aload_n dX9_find_8 rfl ?_
        refine go_getf_p (b := 91) dX9_find_9 fl_9_19 ob_89 rfl pt_89_2 ?_
        refine go_aload_n dX9_find_12 rfl ?_
        refine go_getf_p (b := 11) dX9_find_13 fl_9_22 ob_8 rfl pt_8_7 ?_
        refine go_iload_n dX9_find_16 rfl ?_
        refine go_iaload dX9_find_17 ar_11 (by omega) (by omega) (fun he_17 => ?_)
        rw [show (m1 11 f : Int) = (m 11 f) from by rw [hfr1 11 (by decide)]] at he_17 ⊢
        refine go_iconst dX9_find_18 ?_
        refine go_aload_n dX9_find_19 rfl ?_
        refine go_getf_p (b := 10) dX9_find_20 fl_9_27 ob_8 rfl pt_8_6 ?_
        refine go_iload_n dX9_find_23 rfl ?_
        refine go_iaload dX9_find_24 ar_10 (by omega) (by omega) (fun he_24 => ?_)
        rw [show (m1 10 f : Int) = (m 10 f) from by rw [hfr1 10 (by decide)]] at he_24 ⊢
        refine go_iconst dX9_find_25 ?_
        refine go_iload_n dX9_find_26 rfl ?_
        refine go_callS_z (as := [vr 8, vr 91, vi (m 11 f), vi 0, vi (m 10 f), vi 0, vi 2]) (S := []) (ev_X9_cb2 (m := m1) (x := (m 11 f)) (y := 0) (t := (m 10 f)) (s := 0) (k := 2) (hdn.congr (fun k hk => hfr1 _ (by omega))) (by omega) (by omega) (by omega) (by first | assumption | omega | exact ⟨by omega, by omega⟩ | (constructor <;> omega)) (by first | assumption | omega | exact ⟨by omega, by omega⟩ | (constructor <;> omega))) rfl dX9_find_27 cs_9_30 rfl rfl (by decide) (Nat.le_of_ble_eq_true rfl) (fun r_27 m_27 hr_27 ho_27 => ?_)
        have hP2 := hr_27
        rw [show FSm m1 2 (m 11 f) 0 (m 10 f) = FSm m 2 (m 11 f) 0 (m 10 f) from by unfold FSm; rw [hfr1 8 (by decide), hfr1 11 (by decide), hfr1 10 (by decide)]] at hP2
        have hfr2 : ∀ b : Nat, b ≠ 91 → m_27 b = m b := fun b hb => by rw [hP2.2.1 b hb]; exact hfr1 b hb
        clear hr_27
        obtain ⟨m2, hm2⟩ : ∃ z : Mem, z = m_27 := ⟨_, rfl⟩
        obtain ⟨q2, hq2⟩ : ∃ z : Int, z = r_27 := ⟨_, rfl⟩
        rw [← hm2] at hP2 hfr2 ⊢
        rw [← hq2] at hP2 ⊢
        have hqb2 : q2 = 0 ∨ q2 = 1 := by rcases hP2.1 with h | h <;> omega
        clear hm2 hq2 ho_27
        refine go_if_eq (tgt := 54) dX9_find_30 (by decide) ⟨by omega, by omega⟩ (fun h_30 => ?_) (fun h_30 => ?_)
        · refine go_iinc (L' := [vr 89, vr 8, vi f, vi 3]) dX9_find_54 rfl (by decide) rfl rfl ?_
          refine go_goto (tgt := 2) dX9_find_57 (by decide) ?_
          refine go_iload_n dX9_find_2 rfl ?_
          refine go_iconst dX9_find_3 ?_
          refine go_icmp_gt (tgt := 60) dX9_find_4 (by decide) ⟨by omega, by omega⟩ ⟨by omega, by omega⟩ (fun h_4 => ?_) (fun h_4 => ?_)
          · exfalso; omega
          · refine go_aload_n dX9_find_7 rfl ?_
            refine go_aload_n dX9_find_8 rfl ?_
            refine go_getf_p (b := 91) dX9_find_9 fl_9_19 ob_89 rfl pt_89_2 ?_
            refine go_aload_n dX9_find_12 rfl ?_
            refine go_getf_p (b := 11) dX9_find_13 fl_9_22 ob_8 rfl pt_8_7 ?_
            refine go_iload_n dX9_find_16 rfl ?_
            refine go_iaload dX9_find_17 ar_11 (by omega) (by omega) (fun he_17 => ?_)
            rw [show (m2 11 f : Int) = (m 11 f) from by rw [hfr2 11 (by decide)]] at he_17 ⊢
            refine go_iconst dX9_find_18 ?_
            refine go_aload_n dX9_find_19 rfl ?_
            refine go_getf_p (b := 10) dX9_find_20 fl_9_27 ob_8 rfl pt_8_6 ?_
            refine go_iload_n dX9_find_23 rfl ?_
            refine go_iaload dX9_find_24 ar_10 (by omega) (by omega) (fun he_24 => ?_)
            rw [show (m2 10 f : Int) = (m 10 f) from by rw [hfr2 10 (by decide)]] at he_24 ⊢
            refine go_iconst dX9_find_25 ?_
            refine go_iload_n dX9_find_26 rfl ?_
            refine go_callS_z (as := [vr 8, vr 91, vi (m 11 f), vi 0, vi (m 10 f), vi 0, vi 3]) (S := []) (ev_X9_cb3 (m := m2) (x := (m 11 f)) (y := 0) (t := (m 10 f)) (s := 0) (k := 3) (hdn.congr (fun k hk => hfr2 _ (by omega))) (by omega) (by omega) (by omega) (by first | assumption | omega | exact ⟨by omega, by omega⟩ | (constructor <;> omega)) (by first | assumption | omega | exact ⟨by omega, by omega⟩ | (constructor <;> omega))) rfl dX9_find_27 cs_9_30 rfl rfl (by decide) (Nat.le_of_ble_eq_true rfl) (fun r_27 m_27 hr_27 ho_27 => ?_)
            have hP3 := hr_27
            rw [show FSm m2 3 (m 11 f) 0 (m 10 f) = FSm m 3 (m 11 f) 0 (m 10 f) from by unfold FSm; rw [hfr2 8 (by decide), hfr2 11 (by decide), hfr2 10 (by decide)]] at hP3
            have hfr3 : ∀ b : Nat, b ≠ 91 → m_27 b = m b := fun b hb => by rw [hP3.2.1 b hb]; exact hfr2 b hb
            clear hr_27
            obtain ⟨m3, hm3⟩ : ∃ z : Mem, z = m_27 := ⟨_, rfl⟩
            obtain ⟨q3, hq3⟩ : ∃ z : Int, z = r_27 := ⟨_, rfl⟩
            rw [← hm3] at hP3 hfr3 ⊢
            rw [← hq3] at hP3 ⊢
            have hqb3 : q3 = 0 ∨ q3 = 1 := by rcases hP3.1 with h | h <;> omega
            clear hm3 hq3 ho_27
            refine go_if_eq (tgt := 54) dX9_find_30 (by decide) ⟨by omega, by omega⟩ (fun h_30 => ?_) (fun h_30 => ?_)
            · refine go_iinc (L' := [vr 89, vr 8, vi f, vi 4]) dX9_find_54 rfl (by decide) rfl rfl ?_
              refine go_goto (tgt := 2) dX9_find_57 (by decide) ?_
              refine go_iload_n dX9_find_2 rfl ?_
              refine go_iconst dX9_find_3 ?_
              refine go_icmp_gt (tgt := 60) dX9_find_4 (by decide) ⟨by omega, by omega⟩ ⟨by omega, by omega⟩ (fun h_4 => ?_) (fun h_4 => ?_)
              · refine go_iconst dX9_find_60 ?_
                refine go_ret (v := (-1)) rfl dX9_find_61 (okI ⟨by omega, by omega⟩) ?_
                refine Or.inr ⟨rfl, fun j a b => ?_, hfr3⟩
                have n1 := (hP1.1.resolve_left (fun h => by omega)).2
                have n2 := (hP2.1.resolve_left (fun h => by omega)).2
                have n3 := (hP3.1.resolve_left (fun h => by omega)).2
                have : j = 1 ∨ j = 2 ∨ j = 3 := by omega
                rcases this with rfl | rfl | rfl
                · exact n1
                · exact n2
                · exact n3
              · exfalso; omega
            · refine go_aload_n dX9_find_33 rfl ?_
              refine go_getf_p (b := 91) dX9_find_34 fl_9_19 ob_89 rfl pt_89_2 ?_
              refine go_iconst dX9_find_37 ?_
              refine go_aload_n dX9_find_38 rfl ?_
              refine go_getf_p (b := 90) dX9_find_39 fl_9_9 ob_89 rfl pt_89_0 ?_
              refine go_iconst dX9_find_42 ?_
              refine go_iload_n dX9_find_43 rfl ?_
              refine go_copyi dX9_find_44 ac_9_34 ar_91 ar_90 (by omega) (by omega) (by omega) (by decide) (Nat.le_of_ble_eq_true rfl) ?_
              refine go_aload_n dX9_find_47 rfl ?_
              refine go_iload_n dX9_find_48 rfl ?_
              refine go_putf_i (ki := 1) dX9_find_49 fw_9_15 ob_89 rfl rfl ⟨by omega, by omega⟩ ?_
              refine go_iload_n dX9_find_52 rfl ?_
              refine go_ret (v := 3) rfl dX9_find_53 (okI ⟨by omega, by omega⟩) ?_
              first
              | (have h3 := hP3
                 obtain ⟨l, hl, hp⟩ := (hP3.1.resolve_right (fun h => by omega)).2
                 have n1 := (hP1.1.resolve_left (fun h => by omega)).2
                 have n2 := (hP2.1.resolve_left (fun h => by omega)).2
                 have hll := FS_len _ _ _ _ _ hl
                 refine Or.inl ⟨3, l, by omega, by omega, rfl, hl, ?_, wr_self _ _ _ _, ?_, fun b hb => by rw [wr_row (by omega), cpy_row (by omega)]; exact hfr3 b (by omega)⟩
                 · intro j a b
                   have : j = 1 ∨ j = 2 := by omega
                   rcases this with rfl | rfl
                   · exact n1
                   · exact n2
                 · exact putL_congr (fun j a b => by rw [wr_na (by decide), cpy_in (by omega) (by omega)]) hp)
              | (have h2 := hP2
                 obtain ⟨l, hl, hp⟩ := (hP2.1.resolve_right (fun h => by omega)).2
                 have n1 := (hP1.1.resolve_left (fun h => by omega)).2
                 have hll := FS_len _ _ _ _ _ hl
                 refine Or.inl ⟨2, l, by omega, by omega, rfl, hl, ?_, wr_self _ _ _ _, ?_, fun b hb => by rw [wr_row (by omega), cpy_row (by omega)]; exact hfr2 b (by omega)⟩
                 · intro j a b
                   have : j = 1 := by omega
                   subst this
                   exact n1
                 · exact putL_congr (fun j a b => by rw [wr_na (by decide), cpy_in (by omega) (by omega)]) hp)
              | (obtain ⟨l, hl, hp⟩ := (hP1.1.resolve_right (fun h => by omega)).2
                 have hll := FS_len _ _ _ _ _ hl
                 refine Or.inl ⟨1, l, by omega, by omega, rfl, hl, fun j a b => by omega, wr_self _ _ _ _, ?_, fun b hb => by rw [wr_row (by omega), cpy_row (by omega)]; exact hfr1 b (by omega)⟩
                 exact putL_congr (fun j a b => by rw [wr_na (by decide), cpy_in (by omega) (by omega)]) hp)
        · refine go_aload_n dX9_find_33 rfl ?_
          refine go_getf_p (b := 91) dX9_find_34 fl_9_19 ob_89 rfl pt_89_2 ?_
          refine go_iconst dX9_find_37 ?_
          refine go_aload_n dX9_find_38 rfl ?_
          refine go_getf_p (b := 90) dX9_find_39 fl_9_9 ob_89 rfl pt_89_0 ?_
          refine go_iconst dX9_find_42 ?_
          refine go_iload_n dX9_find_43 rfl ?_
          refine go_copyi dX9_find_44 ac_9_34 ar_91 ar_90 (by omega) (by omega) (by omega) (by decide) (Nat.le_of_ble_eq_true rfl) ?_
          refine go_aload_n dX9_find_47 rfl ?_
          refine go_iload_n dX9_find_48 rfl ?_
          refine go_putf_i (ki := 1) dX9_find_49 fw_9_15 ob_89 rfl rfl ⟨by omega, by omega⟩ ?_
          refine go_iload_n dX9_find_52 rfl ?_
          refine go_ret (v := 2) rfl dX9_find_53 (okI ⟨by omega, by omega⟩) ?_
          first
          | (have h3 := hP3
             obtain ⟨l, hl, hp⟩ := (hP3.1.resolve_right (fun h => by omega)).2
             have n1 := (hP1.1.resolve_left (fun h => by omega)).2
             have n2 := (hP2.1.resolve_left (fun h => by omega)).2
             have hll := FS_len _ _ _ _ _ hl
             refine Or.inl ⟨3, l, by omega, by omega, rfl, hl, ?_, wr_self _ _ _ _, ?_, fun b hb => by rw [wr_row (by omega), cpy_row (by omega)]; exact hfr3 b (by omega)⟩
             · intro j a b
               have : j = 1 ∨ j = 2 := by omega
               rcases this with rfl | rfl
               · exact n1
               · exact n2
             · exact putL_congr (fun j a b => by rw [wr_na (by decide), cpy_in (by omega) (by omega)]) hp)
          | (have h2 := hP2
             obtain ⟨l, hl, hp⟩ := (hP2.1.resolve_right (fun h => by omega)).2
             have n1 := (hP1.1.resolve_left (fun h => by omega)).2
             have hll := FS_len _ _ _ _ _ hl
             refine Or.inl ⟨2, l, by omega, by omega, rfl, hl, ?_, wr_self _ _ _ _, ?_, fun b hb => by rw [wr_row (by omega), cpy_row (by omega)]; exact hfr2 b (by omega)⟩
             · intro j a b
               have : j = 1 := by omega
               subst this
               exact n1
             · exact putL_congr (fun j a b => by rw [wr_na (by decide), cpy_in (by omega) (by omega)]) hp)
          | (obtain ⟨l, hl, hp⟩ := (hP1.1.resolve_right (fun h => by omega)).2
             have hll := FS_len _ _ _ _ _ hl
             refine Or.inl ⟨1, l, by omega, by omega, rfl, hl, fun j a b => by omega, wr_self _ _ _ _, ?_, fun b hb => by rw [wr_row (by omega), cpy_row (by omega)]; exact hfr1 b (by omega)⟩
             exact putL_congr (fun j a b => by rw [wr_na (by decide), cpy_in (by omega) (by omega)]) hp)
    · refine go_aload_n dX9_find_33 rfl ?_
      refine go_getf_p (b := 91) dX9_find_34 fl_9_19 ob_89 rfl pt_89_2 ?_
      refine go_iconst dX9_find_37 ?_
      refine go_aload_n dX9_find_38 rfl ?_
      refine go_getf_p (b := 90) dX9_find_39 fl_9_9 ob_89 rfl pt_89_0 ?_
      refine go_iconst dX9_find_42 ?_
      refine go_iload_n dX9_find_43 rfl ?_
      refine go_copyi dX9_find_44 ac_9_34 ar_91 ar_90 (by omega) (by omega) (by omega) (by decide) (Nat.le_of_ble_eq_true rfl) ?_
      refine go_aload_n dX9_find_47 rfl ?_
      refine go_iload_n dX9_find_48 rfl ?_
      refine go_putf_i (ki := 1) dX9_find_49 fw_9_15 ob_89 rfl rfl ⟨by omega, by omega⟩ ?_
      refine go_iload_n dX9_find_52 rfl ?_
      refine go_ret (v := 1) rfl dX9_find_53 (okI ⟨by omega, by omega⟩) ?_
      first
      | (have h3 := hP3
         obtain ⟨l, hl, hp⟩ := (hP3.1.resolve_right (fun h => by omega)).2
         have n1 := (hP1.1.resolve_left (fun h => by omega)).2
         have n2 := (hP2.1.resolve_left (fun h => by omega)).2
         have hll := FS_len _ _ _ _ _ hl
         refine Or.inl ⟨3, l, by omega, by omega, rfl, hl, ?_, wr_self _ _ _ _, ?_, fun b hb => by rw [wr_row (by omega), cpy_row (by omega)]; exact hfr3 b (by omega)⟩
         · intro j a b
           have : j = 1 ∨ j = 2 := by omega
           rcases this with rfl | rfl
           · exact n1
           · exact n2
         · exact putL_congr (fun j a b => by rw [wr_na (by decide), cpy_in (by omega) (by omega)]) hp)
      | (have h2 := hP2
         obtain ⟨l, hl, hp⟩ := (hP2.1.resolve_right (fun h => by omega)).2
         have n1 := (hP1.1.resolve_left (fun h => by omega)).2
         have hll := FS_len _ _ _ _ _ hl
         refine Or.inl ⟨2, l, by omega, by omega, rfl, hl, ?_, wr_self _ _ _ _, ?_, fun b hb => by rw [wr_row (by omega), cpy_row (by omega)]; exact hfr2 b (by omega)⟩
         · intro j a b
           have : j = 1 := by omega
           subst this
           exact n1
         · exact putL_congr (fun j a b => by rw [wr_na (by decide), cpy_in (by omega) (by omega)]) hp)
      | (obtain ⟨l, hl, hp⟩ := (hP1.1.resolve_right (fun h => by omega)).2
         have hll := FS_len _ _ _ _ _ hl
         refine Or.inl ⟨1, l, by omega, by omega, rfl, hl, fun j a b => by omega, wr_self _ _ _ _, ?_, fun b hb => by rw [wr_row (by omega), cpy_row (by omega)]; exact hfr1 b (by omega)⟩
         exact putL_congr (fun j a b => by rw [wr_na (by decide), cpy_in (by omega) (by omega)]) hp)
theorem dX11_undoes_0 : decode mX11_undoes.2.1 0 = .ok (.aload_n 0, 1) := by decide +kernel
theorem dX11_undoes_1 : decode mX11_undoes.2.1 1 = .ok (.getfield 24, 3) := by decide +kernel
theorem dX11_undoes_4 : decode mX11_undoes.2.1 4 = .ok (.iload_n 1, 1) := by decide +kernel
theorem dX11_undoes_5 : decode mX11_undoes.2.1 5 = .ok (.invokevirtual 164, 3) := by decide +kernel
theorem dX11_undoes_8 : decode mX11_undoes.2.1 8 = .ok (.ifCond .eq 21, 3) := by decide +kernel
theorem dX11_undoes_11 : decode mX11_undoes.2.1 11 = .ok (.aload_n 0, 1) := by decide +kernel
theorem dX11_undoes_12 : decode mX11_undoes.2.1 12 = .ok (.getfield 68, 3) := by decide +kernel
theorem dX11_undoes_15 : decode mX11_undoes.2.1 15 = .ok (.aload_n 0, 1) := by decide +kernel
theorem dX11_undoes_16 : decode mX11_undoes.2.1 16 = .ok (.getfield 24, 3) := by decide +kernel
theorem dX11_undoes_19 : decode mX11_undoes.2.1 19 = .ok (.getfield 28, 3) := by decide +kernel
theorem dX11_undoes_22 : decode mX11_undoes.2.1 22 = .ok (.iload_n 1, 1) := by decide +kernel
theorem dX11_undoes_23 : decode mX11_undoes.2.1 23 = .ok (.invokevirtual 305, 3) := by decide +kernel
theorem dX11_undoes_26 : decode mX11_undoes.2.1 26 = .ok (.goto 4, 3) := by decide +kernel
theorem dX11_undoes_29 : decode mX11_undoes.2.1 29 = .ok (.iconst (-1), 1) := by decide +kernel
theorem dX11_undoes_30 : decode mX11_undoes.2.1 30 = .ok (.ireturn, 1) := by decide +kernel
set_option maxRecDepth 4000 in
theorem ev_X11_undoes {m : Mem} {f : Int} (hdn : DnOk m 8) (hf : InR f) : Ev 0 9 mX11_undoes [vr 0, vi f] m (fun r m' => ((0 ≤ f ∧ f < m 8 2) ∧ ((∃ (n : Nat) (l : List Int), 1 ≤ n ∧ n ≤ 3 ∧ r = (n : Int) ∧ FSm m n (m 11 f) 0 (m 10 f) = some l ∧ (∀ j : Nat, 1 ≤ j → j < n → FSm m j (m 11 f) 0 (m 10 f) = none) ∧ m' 89 1 = (n : Int) ∧ putL m' 90 0 l ∧ ∀ b : Nat, b < 89 ∨ 92 ≤ b → m' b = m b) ∨ (r = -1 ∧ (∀ j : Nat, 1 ≤ j → j ≤ 3 → FSm m j (m 11 f) 0 (m 10 f) = none) ∧ ∀ b : Nat, b ≠ 91 → m' b = m b))) ∨ (¬ (0 ≤ f ∧ f < m 8 2) ∧ r = -1 ∧ m' = m)) := by
  refine Ev.of (L := [vr 0, vi f]) (by decide +kernel) rfl (Nat.le_of_ble_eq_true rfl) rfl (fun t ht => by cases ht; first | exact Or.inl rfl | exact Or.inr (Or.inl rfl) | exact Or.inr (Or.inr rfl)) (fun hcan => ?_)
  refine go_aload_n dX11_undoes_0 rfl ?_
  refine go_getf_p (b := 7) dX11_undoes_1 fl_11_24 ob_0 rfl pt_0_1 ?_
  refine go_iload_n dX11_undoes_4 rfl ?_
  refine go_callVp_z (as := [vi f]) (S := []) (b := 7) (ev_X10_hasFigure (m := m) (w := 7) (f := f) (d := 8) (st := 18) isWd_7 (by first | assumption | omega | exact ⟨by omega, by omega⟩ | (constructor <;> omega))) rfl dX11_undoes_5 cv_11_164 rfl rfl ob_7 rfl (by decide) (Nat.le_of_ble_eq_true rfl) (fun r_5 hr_5 ho_5 => ?_)
  refine go_if_eq (tgt := 29) dX11_undoes_8 (by decide) ⟨by omega, by omega⟩ (fun h_8 => ?_) (fun h_8 => ?_)
  · refine go_iconst dX11_undoes_29 ?_
    refine go_ret (v := (-1)) rfl dX11_undoes_30 (okI ⟨by omega, by omega⟩) ?_
    first
    | (refine Or.inl ⟨hfb, ?_⟩
       exact hr_23)
    | exact Or.inr ⟨by omega, rfl, rfl⟩
  · have hfb : 0 ≤ f ∧ f < m 8 2 := by omega
    refine go_aload_n dX11_undoes_11 rfl ?_
    refine go_getf_p (b := 89) dX11_undoes_12 fl_11_68 ob_0 rfl pt_0_7 ?_
    refine go_aload_n dX11_undoes_15 rfl ?_
    refine go_getf_p (b := 7) dX11_undoes_16 fl_11_24 ob_0 rfl pt_0_1 ?_
    refine go_getf_p (b := 8) dX11_undoes_19 fl_11_28 ob_7 rfl pt_7_0 ?_
    refine go_iload_n dX11_undoes_22 rfl ?_
    refine go_callV_i (as := [vr 8, vi f]) (S := []) (b := 89) (ev_X9_find (m := m) (f := f) (by first | assumption | omega | exact ⟨by omega, by omega⟩ | (constructor <;> omega)) (by first | assumption | omega | exact ⟨by omega, by omega⟩ | (constructor <;> omega))) rfl dX11_undoes_23 cv_11_305 rfl rfl ob_89 rfl (by decide) (Nat.le_of_ble_eq_true rfl) (fun r_23 m_23 hr_23 ho_23 => ?_)
    refine go_goto (tgt := 30) dX11_undoes_26 (by decide) ?_
    refine go_ret (v := r_23) rfl dX11_undoes_30 (okI ⟨by omega, by omega⟩) ?_
    first
    | (refine Or.inl ⟨hfb, ?_⟩
       exact hr_23)
    | exact Or.inr ⟨by omega, rfl, rfl⟩
