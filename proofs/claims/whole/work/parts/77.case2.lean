/-! ===== the law, case by case ===== -/
theorem dL_680 : decode mL_law.2.1 680 = .ok (.aload_n 1, 1) := by decide +kernel
theorem dL_681 : decode mL_law.2.1 681 = .ok (.invokevirtual 84, 3) := by decide +kernel
theorem dL_684 : decode mL_law.2.1 684 = .ok (.aload_n 2, 1) := by decide +kernel
theorem dL_685 : decode mL_law.2.1 685 = .ok (.invokevirtual 87, 3) := by decide +kernel
theorem dL_688 : decode mL_law.2.1 688 = .ok (.if_icmp .eq 659, 3) := by decide +kernel
theorem dL_691 : decode mL_law.2.1 691 = .ok (.iconst 0, 1) := by decide +kernel
theorem dL_692 : decode mL_law.2.1 692 = .ok (.ireturn, 1) := by decide +kernel
theorem lc_undo {n : Nat} {xs : Nat → Int32} {g : Nat} {i B : Int} {m : Mem} {Q : Int → Mem → Prop} (hn : n ≤ 3072) (hg : 1 ≤ g) (h0 : 0 ≤ i) (h1 : i + 6 ≤ n) (h : Inv m B) (hB : 0 ≤ B ∧ B ≤ 100000000) (k : ∀ m2 : Mem, Inv m2 (B + 300) → GoL (XL n xs) (g - 1) 72 mL_law Q 1347 (LL i) [] m2) : GoL (XL n xs) g 72 mL_law Q 680 (LL i) [] m := by
  have K0 : Duo mX11_undo mX12_undo [] m (fun m2 => Inv m2 B) := c_undo h
  obtain ⟨d1, Q1, hd1, E1, K1⟩ := K0
  refine gl_aload_n dL_680 rfl ?_
  refine gl_callR (as := []) (S := []) (b := 0) E1 (Or.inl rfl) dL_681 cv_L_84 rfl rfl ob_0 rfl (by omega) (by decide) (fun r1 m1 hq1 hr1 => ?_)
  obtain ⟨d2, Q2, hd2, E2, K2⟩ := K1 r1 m1 hq1
  refine gl_aload_n dL_684 rfl ?_
  refine gl_callR (as := []) (S := [vi r1]) (b := 214) E2 (Or.inl rfl) dL_685 cv_L_87 rfl rfl ob_214 rfl (by omega) (Nat.le_of_ble_eq_true rfl) (fun r2 m2 hq2 hr2 => ?_)
  obtain ⟨hrr, hI⟩ := K2 r2 m2 hq2
  refine gl_icmp_eq (tgt := 1347) dL_688 (by decide) hr1 hr2 (fun e => gl_weak (by omega) (k m2 (hI.all (by omega) (fun _ _ _ => rfl)))) (fun e => absurd hrr.symm e)
theorem dL_693 : decode mL_law.2.1 693 = .ok (.aload_n 1, 1) := by decide +kernel
theorem dL_694 : decode mL_law.2.1 694 = .ok (.aload_n 0, 1) := by decide +kernel
theorem dL_695 : decode mL_law.2.1 695 = .ok (.iload 4, 2) := by decide +kernel
theorem dL_697 : decode mL_law.2.1 697 = .ok (.iconst 1, 1) := by decide +kernel
theorem dL_698 : decode mL_law.2.1 698 = .ok (.iadd, 1) := by decide +kernel
theorem dL_699 : decode mL_law.2.1 699 = .ok (.iaload, 1) := by decide +kernel
theorem dL_700 : decode mL_law.2.1 700 = .ok (.aload_n 0, 1) := by decide +kernel
theorem dL_701 : decode mL_law.2.1 701 = .ok (.iload 4, 2) := by decide +kernel
theorem dL_703 : decode mL_law.2.1 703 = .ok (.iconst 2, 1) := by decide +kernel
theorem dL_704 : decode mL_law.2.1 704 = .ok (.iadd, 1) := by decide +kernel
theorem dL_705 : decode mL_law.2.1 705 = .ok (.iaload, 1) := by decide +kernel
theorem dL_706 : decode mL_law.2.1 706 = .ok (.invokevirtual 88, 3) := by decide +kernel
theorem dL_709 : decode mL_law.2.1 709 = .ok (.aload_n 2, 1) := by decide +kernel
theorem dL_710 : decode mL_law.2.1 710 = .ok (.aload_n 0, 1) := by decide +kernel
theorem dL_711 : decode mL_law.2.1 711 = .ok (.iload 4, 2) := by decide +kernel
theorem dL_713 : decode mL_law.2.1 713 = .ok (.iconst 1, 1) := by decide +kernel
theorem dL_714 : decode mL_law.2.1 714 = .ok (.iadd, 1) := by decide +kernel
theorem dL_715 : decode mL_law.2.1 715 = .ok (.iaload, 1) := by decide +kernel
theorem dL_716 : decode mL_law.2.1 716 = .ok (.aload_n 0, 1) := by decide +kernel
theorem dL_717 : decode mL_law.2.1 717 = .ok (.iload 4, 2) := by decide +kernel
theorem dL_719 : decode mL_law.2.1 719 = .ok (.iconst 2, 1) := by decide +kernel
theorem dL_720 : decode mL_law.2.1 720 = .ok (.iadd, 1) := by decide +kernel
theorem dL_721 : decode mL_law.2.1 721 = .ok (.iaload, 1) := by decide +kernel
theorem dL_722 : decode mL_law.2.1 722 = .ok (.invokevirtual 91, 3) := by decide +kernel
theorem dL_725 : decode mL_law.2.1 725 = .ok (.if_icmp .eq 622, 3) := by decide +kernel
theorem dL_728 : decode mL_law.2.1 728 = .ok (.iconst 0, 1) := by decide +kernel
theorem dL_729 : decode mL_law.2.1 729 = .ok (.ireturn, 1) := by decide +kernel
theorem lc_could {n : Nat} {xs : Nat → Int32} {g : Nat} {i B : Int} {m : Mem} {Q : Int → Mem → Prop} (hn : n ≤ 3072) (hg : 1 ≤ g) (h0 : 0 ≤ i) (h1 : i + 6 ≤ n) (h : Inv m B) (hB : 0 ≤ B ∧ B ≤ 100000000) (k : ∀ m2 : Mem, Inv m2 (B + 300) → GoL (XL n xs) (g - 1) 72 mL_law Q 1347 (LL i) [] m2) : GoL (XL n xs) g 72 mL_law Q 693 (LL i) [] m := by
  have K0 : Duo mX11_could mX12_could [vi (sc xs (i + 1)), vi (sc xs (i + 2))] m (fun m2 => Inv m2 B) := c_could h (InR.r _) (InR.r _)
  obtain ⟨d1, Q1, hd1, E1, K1⟩ := K0
  refine gl_aload_n dL_693 rfl ?_
  refine gl_aload_n dL_694 rfl ?_
  refine gl_iload dL_695 rfl ?_
  refine gl_iconst dL_697 ?_
  refine gl_iadd dL_698 ?_
  refine gl_sload dL_699 (by omega) (by omega) hn ?_
  refine gl_aload_n dL_700 rfl ?_
  refine gl_iload dL_701 rfl ?_
  refine gl_iconst dL_703 ?_
  refine gl_iadd dL_704 ?_
  refine gl_sload dL_705 (by omega) (by omega) hn ?_
  refine gl_callR (as := [vi (sc xs (i + 1)), vi (sc xs (i + 2))]) (S := []) (b := 0) E1 (Or.inl rfl) dL_706 cv_L_88 rfl rfl ob_0 rfl (by omega) (by decide) (fun r1 m1 hq1 hr1 => ?_)
  obtain ⟨d2, Q2, hd2, E2, K2⟩ := K1 r1 m1 hq1
  refine gl_aload_n dL_709 rfl ?_
  refine gl_aload_n dL_710 rfl ?_
  refine gl_iload dL_711 rfl ?_
  refine gl_iconst dL_713 ?_
  refine gl_iadd dL_714 ?_
  refine gl_sload dL_715 (by omega) (by omega) hn ?_
  refine gl_aload_n dL_716 rfl ?_
  refine gl_iload dL_717 rfl ?_
  refine gl_iconst dL_719 ?_
  refine gl_iadd dL_720 ?_
  refine gl_sload dL_721 (by omega) (by omega) hn ?_
  refine gl_callR (as := [vi (sc xs (i + 1)), vi (sc xs (i + 2))]) (S := [vi r1]) (b := 214) E2 (Or.inl rfl) dL_722 cv_L_91 rfl rfl ob_214 rfl (by omega) (Nat.le_of_ble_eq_true rfl) (fun r2 m2 hq2 hr2 => ?_)
  obtain ⟨hrr, hI⟩ := K2 r2 m2 hq2
  refine gl_icmp_eq (tgt := 1347) dL_725 (by decide) hr1 hr2 (fun e => gl_weak (by omega) (k m2 (hI.all (by omega) (fun _ _ _ => rfl)))) (fun e => absurd hrr.symm e)
theorem dL_730 : decode mL_law.2.1 730 = .ok (.aload_n 1, 1) := by decide +kernel
theorem dL_731 : decode mL_law.2.1 731 = .ok (.aload_n 0, 1) := by decide +kernel
theorem dL_732 : decode mL_law.2.1 732 = .ok (.iload 4, 2) := by decide +kernel
theorem dL_734 : decode mL_law.2.1 734 = .ok (.iconst 1, 1) := by decide +kernel
theorem dL_735 : decode mL_law.2.1 735 = .ok (.iadd, 1) := by decide +kernel
theorem dL_736 : decode mL_law.2.1 736 = .ok (.iaload, 1) := by decide +kernel
theorem dL_737 : decode mL_law.2.1 737 = .ok (.aload_n 0, 1) := by decide +kernel
theorem dL_738 : decode mL_law.2.1 738 = .ok (.iload 4, 2) := by decide +kernel
theorem dL_740 : decode mL_law.2.1 740 = .ok (.iconst 2, 1) := by decide +kernel
theorem dL_741 : decode mL_law.2.1 741 = .ok (.iadd, 1) := by decide +kernel
theorem dL_742 : decode mL_law.2.1 742 = .ok (.iaload, 1) := by decide +kernel
theorem dL_743 : decode mL_law.2.1 743 = .ok (.invokevirtual 92, 3) := by decide +kernel
theorem dL_746 : decode mL_law.2.1 746 = .ok (.aload_n 2, 1) := by decide +kernel
theorem dL_747 : decode mL_law.2.1 747 = .ok (.aload_n 0, 1) := by decide +kernel
theorem dL_748 : decode mL_law.2.1 748 = .ok (.iload 4, 2) := by decide +kernel
theorem dL_750 : decode mL_law.2.1 750 = .ok (.iconst 1, 1) := by decide +kernel
theorem dL_751 : decode mL_law.2.1 751 = .ok (.iadd, 1) := by decide +kernel
theorem dL_752 : decode mL_law.2.1 752 = .ok (.iaload, 1) := by decide +kernel
theorem dL_753 : decode mL_law.2.1 753 = .ok (.aload_n 0, 1) := by decide +kernel
theorem dL_754 : decode mL_law.2.1 754 = .ok (.iload 4, 2) := by decide +kernel
theorem dL_756 : decode mL_law.2.1 756 = .ok (.iconst 2, 1) := by decide +kernel
theorem dL_757 : decode mL_law.2.1 757 = .ok (.iadd, 1) := by decide +kernel
theorem dL_758 : decode mL_law.2.1 758 = .ok (.iaload, 1) := by decide +kernel
theorem dL_759 : decode mL_law.2.1 759 = .ok (.invokevirtual 95, 3) := by decide +kernel
theorem dL_762 : decode mL_law.2.1 762 = .ok (.if_icmp .eq 585, 3) := by decide +kernel
theorem dL_765 : decode mL_law.2.1 765 = .ok (.iconst 0, 1) := by decide +kernel
theorem dL_766 : decode mL_law.2.1 766 = .ok (.ireturn, 1) := by decide +kernel
theorem lc_way {n : Nat} {xs : Nat → Int32} {g : Nat} {i B : Int} {m : Mem} {Q : Int → Mem → Prop} (hn : n ≤ 3072) (hg : 1 ≤ g) (h0 : 0 ≤ i) (h1 : i + 6 ≤ n) (h : Inv m B) (hB : 0 ≤ B ∧ B ≤ 100000000) (k : ∀ m2 : Mem, Inv m2 (B + 300) → GoL (XL n xs) (g - 1) 72 mL_law Q 1347 (LL i) [] m2) : GoL (XL n xs) g 72 mL_law Q 730 (LL i) [] m := by
  have K0 : Duo mX11_way mX12_way [vi (sc xs (i + 1)), vi (sc xs (i + 2))] m (fun m2 => Inv m2 B) := c_way h (InR.r _) (InR.r _)
  obtain ⟨d1, Q1, hd1, E1, K1⟩ := K0
  refine gl_aload_n dL_730 rfl ?_
  refine gl_aload_n dL_731 rfl ?_
  refine gl_iload dL_732 rfl ?_
  refine gl_iconst dL_734 ?_
  refine gl_iadd dL_735 ?_
  refine gl_sload dL_736 (by omega) (by omega) hn ?_
  refine gl_aload_n dL_737 rfl ?_
  refine gl_iload dL_738 rfl ?_
  refine gl_iconst dL_740 ?_
  refine gl_iadd dL_741 ?_
  refine gl_sload dL_742 (by omega) (by omega) hn ?_
  refine gl_callR (as := [vi (sc xs (i + 1)), vi (sc xs (i + 2))]) (S := []) (b := 0) E1 (Or.inl rfl) dL_743 cv_L_92 rfl rfl ob_0 rfl (by omega) (by decide) (fun r1 m1 hq1 hr1 => ?_)
  obtain ⟨d2, Q2, hd2, E2, K2⟩ := K1 r1 m1 hq1
  refine gl_aload_n dL_746 rfl ?_
  refine gl_aload_n dL_747 rfl ?_
  refine gl_iload dL_748 rfl ?_
  refine gl_iconst dL_750 ?_
  refine gl_iadd dL_751 ?_
  refine gl_sload dL_752 (by omega) (by omega) hn ?_
  refine gl_aload_n dL_753 rfl ?_
  refine gl_iload dL_754 rfl ?_
  refine gl_iconst dL_756 ?_
  refine gl_iadd dL_757 ?_
  refine gl_sload dL_758 (by omega) (by omega) hn ?_
  refine gl_callR (as := [vi (sc xs (i + 1)), vi (sc xs (i + 2))]) (S := [vi r1]) (b := 214) E2 (Or.inl rfl) dL_759 cv_L_95 rfl rfl ob_214 rfl (by omega) (Nat.le_of_ble_eq_true rfl) (fun r2 m2 hq2 hr2 => ?_)
  obtain ⟨hrr, hI⟩ := K2 r2 m2 hq2
  refine gl_icmp_eq (tgt := 1347) dL_762 (by decide) hr1 hr2 (fun e => gl_weak (by omega) (k m2 (hI.all (by omega) (fun _ _ _ => rfl)))) (fun e => absurd hrr.symm e)
theorem dL_767 : decode mL_law.2.1 767 = .ok (.aload_n 1, 1) := by decide +kernel
theorem dL_768 : decode mL_law.2.1 768 = .ok (.aload_n 0, 1) := by decide +kernel
theorem dL_769 : decode mL_law.2.1 769 = .ok (.iload 4, 2) := by decide +kernel
theorem dL_771 : decode mL_law.2.1 771 = .ok (.iconst 1, 1) := by decide +kernel
theorem dL_772 : decode mL_law.2.1 772 = .ok (.iadd, 1) := by decide +kernel
theorem dL_773 : decode mL_law.2.1 773 = .ok (.iaload, 1) := by decide +kernel
theorem dL_774 : decode mL_law.2.1 774 = .ok (.invokevirtual 96, 3) := by decide +kernel
theorem dL_777 : decode mL_law.2.1 777 = .ok (.aload_n 2, 1) := by decide +kernel
theorem dL_778 : decode mL_law.2.1 778 = .ok (.aload_n 0, 1) := by decide +kernel
theorem dL_779 : decode mL_law.2.1 779 = .ok (.iload 4, 2) := by decide +kernel
theorem dL_781 : decode mL_law.2.1 781 = .ok (.iconst 1, 1) := by decide +kernel
theorem dL_782 : decode mL_law.2.1 782 = .ok (.iadd, 1) := by decide +kernel
theorem dL_783 : decode mL_law.2.1 783 = .ok (.iaload, 1) := by decide +kernel
theorem dL_784 : decode mL_law.2.1 784 = .ok (.invokevirtual 99, 3) := by decide +kernel
theorem dL_787 : decode mL_law.2.1 787 = .ok (.if_icmp .eq 560, 3) := by decide +kernel
theorem dL_790 : decode mL_law.2.1 790 = .ok (.iconst 0, 1) := by decide +kernel
theorem dL_791 : decode mL_law.2.1 791 = .ok (.ireturn, 1) := by decide +kernel
theorem lc_wayAt {n : Nat} {xs : Nat → Int32} {g : Nat} {i B : Int} {m : Mem} {Q : Int → Mem → Prop} (hn : n ≤ 3072) (hg : 1 ≤ g) (h0 : 0 ≤ i) (h1 : i + 6 ≤ n) (h : Inv m B) (hB : 0 ≤ B ∧ B ≤ 100000000) (k : ∀ m2 : Mem, Inv m2 (B + 300) → GoL (XL n xs) (g - 1) 72 mL_law Q 1347 (LL i) [] m2) : GoL (XL n xs) g 72 mL_law Q 767 (LL i) [] m := by
  have K0 : Duo mX11_wayAt mX12_wayAt [vi (sc xs (i + 1))] m (fun m2 => Inv m2 B) := c_wayAt h (InR.r _)
  obtain ⟨d1, Q1, hd1, E1, K1⟩ := K0
  refine gl_aload_n dL_767 rfl ?_
  refine gl_aload_n dL_768 rfl ?_
  refine gl_iload dL_769 rfl ?_
  refine gl_iconst dL_771 ?_
  refine gl_iadd dL_772 ?_
  refine gl_sload dL_773 (by omega) (by omega) hn ?_
  refine gl_callR (as := [vi (sc xs (i + 1))]) (S := []) (b := 0) E1 (Or.inl rfl) dL_774 cv_L_96 rfl rfl ob_0 rfl (by omega) (by decide) (fun r1 m1 hq1 hr1 => ?_)
  obtain ⟨d2, Q2, hd2, E2, K2⟩ := K1 r1 m1 hq1
  refine gl_aload_n dL_777 rfl ?_
  refine gl_aload_n dL_778 rfl ?_
  refine gl_iload dL_779 rfl ?_
  refine gl_iconst dL_781 ?_
  refine gl_iadd dL_782 ?_
  refine gl_sload dL_783 (by omega) (by omega) hn ?_
  refine gl_callR (as := [vi (sc xs (i + 1))]) (S := [vi r1]) (b := 214) E2 (Or.inl rfl) dL_784 cv_L_99 rfl rfl ob_214 rfl (by omega) (Nat.le_of_ble_eq_true rfl) (fun r2 m2 hq2 hr2 => ?_)
  obtain ⟨hrr, hI⟩ := K2 r2 m2 hq2
  refine gl_icmp_eq (tgt := 1347) dL_787 (by decide) hr1 hr2 (fun e => gl_weak (by omega) (k m2 (hI.all (by omega) (fun _ _ _ => rfl)))) (fun e => absurd hrr.symm e)
theorem dL_792 : decode mL_law.2.1 792 = .ok (.aload_n 1, 1) := by decide +kernel
theorem dL_793 : decode mL_law.2.1 793 = .ok (.aload_n 0, 1) := by decide +kernel
theorem dL_794 : decode mL_law.2.1 794 = .ok (.iload 4, 2) := by decide +kernel
theorem dL_796 : decode mL_law.2.1 796 = .ok (.iconst 1, 1) := by decide +kernel
theorem dL_797 : decode mL_law.2.1 797 = .ok (.iadd, 1) := by decide +kernel
theorem dL_798 : decode mL_law.2.1 798 = .ok (.iaload, 1) := by decide +kernel
theorem dL_799 : decode mL_law.2.1 799 = .ok (.aload_n 0, 1) := by decide +kernel
theorem dL_800 : decode mL_law.2.1 800 = .ok (.iload 4, 2) := by decide +kernel
theorem dL_802 : decode mL_law.2.1 802 = .ok (.iconst 2, 1) := by decide +kernel
theorem dL_803 : decode mL_law.2.1 803 = .ok (.iadd, 1) := by decide +kernel
theorem dL_804 : decode mL_law.2.1 804 = .ok (.iaload, 1) := by decide +kernel
theorem dL_805 : decode mL_law.2.1 805 = .ok (.aload_n 0, 1) := by decide +kernel
theorem dL_806 : decode mL_law.2.1 806 = .ok (.iload 4, 2) := by decide +kernel
theorem dL_808 : decode mL_law.2.1 808 = .ok (.iconst 3, 1) := by decide +kernel
theorem dL_809 : decode mL_law.2.1 809 = .ok (.iadd, 1) := by decide +kernel
theorem dL_810 : decode mL_law.2.1 810 = .ok (.iaload, 1) := by decide +kernel
theorem dL_811 : decode mL_law.2.1 811 = .ok (.invokevirtual 100, 3) := by decide +kernel
theorem dL_814 : decode mL_law.2.1 814 = .ok (.aload_n 2, 1) := by decide +kernel
theorem dL_815 : decode mL_law.2.1 815 = .ok (.aload_n 0, 1) := by decide +kernel
theorem dL_816 : decode mL_law.2.1 816 = .ok (.iload 4, 2) := by decide +kernel
theorem dL_818 : decode mL_law.2.1 818 = .ok (.iconst 1, 1) := by decide +kernel
theorem dL_819 : decode mL_law.2.1 819 = .ok (.iadd, 1) := by decide +kernel
theorem dL_820 : decode mL_law.2.1 820 = .ok (.iaload, 1) := by decide +kernel
theorem dL_821 : decode mL_law.2.1 821 = .ok (.aload_n 0, 1) := by decide +kernel
theorem dL_822 : decode mL_law.2.1 822 = .ok (.iload 4, 2) := by decide +kernel
theorem dL_824 : decode mL_law.2.1 824 = .ok (.iconst 2, 1) := by decide +kernel
theorem dL_825 : decode mL_law.2.1 825 = .ok (.iadd, 1) := by decide +kernel
theorem dL_826 : decode mL_law.2.1 826 = .ok (.iaload, 1) := by decide +kernel
theorem dL_827 : decode mL_law.2.1 827 = .ok (.aload_n 0, 1) := by decide +kernel
theorem dL_828 : decode mL_law.2.1 828 = .ok (.iload 4, 2) := by decide +kernel
theorem dL_830 : decode mL_law.2.1 830 = .ok (.iconst 3, 1) := by decide +kernel
theorem dL_831 : decode mL_law.2.1 831 = .ok (.iadd, 1) := by decide +kernel
theorem dL_832 : decode mL_law.2.1 832 = .ok (.iaload, 1) := by decide +kernel
theorem dL_833 : decode mL_law.2.1 833 = .ok (.invokevirtual 103, 3) := by decide +kernel
theorem dL_836 : decode mL_law.2.1 836 = .ok (.if_icmp .eq 511, 3) := by decide +kernel
theorem dL_839 : decode mL_law.2.1 839 = .ok (.iconst 0, 1) := by decide +kernel
theorem dL_840 : decode mL_law.2.1 840 = .ok (.ireturn, 1) := by decide +kernel
theorem lc_both {n : Nat} {xs : Nat → Int32} {g : Nat} {i B : Int} {m : Mem} {Q : Int → Mem → Prop} (hn : n ≤ 3072) (hg : 1 ≤ g) (h0 : 0 ≤ i) (h1 : i + 6 ≤ n) (h : Inv m B) (hB : 0 ≤ B ∧ B ≤ 100000000) (k : ∀ m2 : Mem, Inv m2 (B + 300) → GoL (XL n xs) (g - 1) 72 mL_law Q 1347 (LL i) [] m2) : GoL (XL n xs) g 72 mL_law Q 792 (LL i) [] m := by
  have K0 : Duo mX11_both mX12_both [vi (sc xs (i + 1)), vi (sc xs (i + 2)), vi (sc xs (i + 3))] m (fun m2 => Inv m2 B) := c_both h (InR.r _) (InR.r _) (InR.r _)
  obtain ⟨d1, Q1, hd1, E1, K1⟩ := K0
  refine gl_aload_n dL_792 rfl ?_
  refine gl_aload_n dL_793 rfl ?_
  refine gl_iload dL_794 rfl ?_
  refine gl_iconst dL_796 ?_
  refine gl_iadd dL_797 ?_
  refine gl_sload dL_798 (by omega) (by omega) hn ?_
  refine gl_aload_n dL_799 rfl ?_
  refine gl_iload dL_800 rfl ?_
  refine gl_iconst dL_802 ?_
  refine gl_iadd dL_803 ?_
  refine gl_sload dL_804 (by omega) (by omega) hn ?_
  refine gl_aload_n dL_805 rfl ?_
  refine gl_iload dL_806 rfl ?_
  refine gl_iconst dL_808 ?_
  refine gl_iadd dL_809 ?_
  refine gl_sload dL_810 (by omega) (by omega) hn ?_
  refine gl_callR (as := [vi (sc xs (i + 1)), vi (sc xs (i + 2)), vi (sc xs (i + 3))]) (S := []) (b := 0) E1 (Or.inl rfl) dL_811 cv_L_100 rfl rfl ob_0 rfl (by omega) (by decide) (fun r1 m1 hq1 hr1 => ?_)
  obtain ⟨d2, Q2, hd2, E2, K2⟩ := K1 r1 m1 hq1
  refine gl_aload_n dL_814 rfl ?_
  refine gl_aload_n dL_815 rfl ?_
  refine gl_iload dL_816 rfl ?_
  refine gl_iconst dL_818 ?_
  refine gl_iadd dL_819 ?_
  refine gl_sload dL_820 (by omega) (by omega) hn ?_
  refine gl_aload_n dL_821 rfl ?_
  refine gl_iload dL_822 rfl ?_
  refine gl_iconst dL_824 ?_
  refine gl_iadd dL_825 ?_
  refine gl_sload dL_826 (by omega) (by omega) hn ?_
  refine gl_aload_n dL_827 rfl ?_
  refine gl_iload dL_828 rfl ?_
  refine gl_iconst dL_830 ?_
  refine gl_iadd dL_831 ?_
  refine gl_sload dL_832 (by omega) (by omega) hn ?_
  refine gl_callR (as := [vi (sc xs (i + 1)), vi (sc xs (i + 2)), vi (sc xs (i + 3))]) (S := [vi r1]) (b := 214) E2 (Or.inl rfl) dL_833 cv_L_103 rfl rfl ob_214 rfl (by omega) (Nat.le_of_ble_eq_true rfl) (fun r2 m2 hq2 hr2 => ?_)
  obtain ⟨hrr, hI⟩ := K2 r2 m2 hq2
  refine gl_icmp_eq (tgt := 1347) dL_836 (by decide) hr1 hr2 (fun e => gl_weak (by omega) (k m2 (hI.all (by omega) (fun _ _ _ => rfl)))) (fun e => absurd hrr.symm e)
theorem dL_841 : decode mL_law.2.1 841 = .ok (.aload_n 1, 1) := by decide +kernel
theorem dL_842 : decode mL_law.2.1 842 = .ok (.aload_n 0, 1) := by decide +kernel
theorem dL_843 : decode mL_law.2.1 843 = .ok (.iload 4, 2) := by decide +kernel
theorem dL_845 : decode mL_law.2.1 845 = .ok (.iconst 1, 1) := by decide +kernel
theorem dL_846 : decode mL_law.2.1 846 = .ok (.iadd, 1) := by decide +kernel
theorem dL_847 : decode mL_law.2.1 847 = .ok (.iaload, 1) := by decide +kernel
theorem dL_848 : decode mL_law.2.1 848 = .ok (.invokevirtual 104, 3) := by decide +kernel
theorem dL_851 : decode mL_law.2.1 851 = .ok (.aload_n 2, 1) := by decide +kernel
theorem dL_852 : decode mL_law.2.1 852 = .ok (.aload_n 0, 1) := by decide +kernel
theorem dL_853 : decode mL_law.2.1 853 = .ok (.iload 4, 2) := by decide +kernel
theorem dL_855 : decode mL_law.2.1 855 = .ok (.iconst 1, 1) := by decide +kernel
theorem dL_856 : decode mL_law.2.1 856 = .ok (.iadd, 1) := by decide +kernel
theorem dL_857 : decode mL_law.2.1 857 = .ok (.iaload, 1) := by decide +kernel
theorem dL_858 : decode mL_law.2.1 858 = .ok (.invokevirtual 107, 3) := by decide +kernel
theorem dL_861 : decode mL_law.2.1 861 = .ok (.if_icmp .eq 486, 3) := by decide +kernel
theorem dL_864 : decode mL_law.2.1 864 = .ok (.iconst 0, 1) := by decide +kernel
theorem dL_865 : decode mL_law.2.1 865 = .ok (.ireturn, 1) := by decide +kernel
theorem lc_sees {n : Nat} {xs : Nat → Int32} {g : Nat} {i B : Int} {m : Mem} {Q : Int → Mem → Prop} (hn : n ≤ 3072) (hg : 1 ≤ g) (h0 : 0 ≤ i) (h1 : i + 6 ≤ n) (h : Inv m B) (hB : 0 ≤ B ∧ B ≤ 100000000) (k : ∀ m2 : Mem, Inv m2 (B + 300) → GoL (XL n xs) (g - 1) 72 mL_law Q 1347 (LL i) [] m2) : GoL (XL n xs) g 72 mL_law Q 841 (LL i) [] m := by
  have K0 : Duo mX11_sees mX12_sees [vi (sc xs (i + 1))] m (fun m2 => Inv m2 B) := c_sees h (InR.r _)
  obtain ⟨d1, Q1, hd1, E1, K1⟩ := K0
  refine gl_aload_n dL_841 rfl ?_
  refine gl_aload_n dL_842 rfl ?_
  refine gl_iload dL_843 rfl ?_
  refine gl_iconst dL_845 ?_
  refine gl_iadd dL_846 ?_
  refine gl_sload dL_847 (by omega) (by omega) hn ?_
  refine gl_callR (as := [vi (sc xs (i + 1))]) (S := []) (b := 0) E1 (Or.inl rfl) dL_848 cv_L_104 rfl rfl ob_0 rfl (by omega) (by decide) (fun r1 m1 hq1 hr1 => ?_)
  obtain ⟨d2, Q2, hd2, E2, K2⟩ := K1 r1 m1 hq1
  refine gl_aload_n dL_851 rfl ?_
  refine gl_aload_n dL_852 rfl ?_
  refine gl_iload dL_853 rfl ?_
  refine gl_iconst dL_855 ?_
  refine gl_iadd dL_856 ?_
  refine gl_sload dL_857 (by omega) (by omega) hn ?_
  refine gl_callR (as := [vi (sc xs (i + 1))]) (S := [vi r1]) (b := 214) E2 (Or.inl rfl) dL_858 cv_L_107 rfl rfl ob_214 rfl (by omega) (Nat.le_of_ble_eq_true rfl) (fun r2 m2 hq2 hr2 => ?_)
  obtain ⟨hrr, hI⟩ := K2 r2 m2 hq2
  refine gl_icmp_eq (tgt := 1347) dL_861 (by decide) hr1 hr2 (fun e => gl_weak (by omega) (k m2 (hI.all (by omega) (fun _ _ _ => rfl)))) (fun e => absurd hrr.symm e)
theorem dL_866 : decode mL_law.2.1 866 = .ok (.aload_n 1, 1) := by decide +kernel
theorem dL_867 : decode mL_law.2.1 867 = .ok (.aload_n 0, 1) := by decide +kernel
theorem dL_868 : decode mL_law.2.1 868 = .ok (.iload 4, 2) := by decide +kernel
theorem dL_870 : decode mL_law.2.1 870 = .ok (.iconst 1, 1) := by decide +kernel
theorem dL_871 : decode mL_law.2.1 871 = .ok (.iadd, 1) := by decide +kernel
theorem dL_872 : decode mL_law.2.1 872 = .ok (.iaload, 1) := by decide +kernel
theorem dL_873 : decode mL_law.2.1 873 = .ok (.invokevirtual 108, 3) := by decide +kernel
theorem dL_876 : decode mL_law.2.1 876 = .ok (.aload_n 2, 1) := by decide +kernel
theorem dL_877 : decode mL_law.2.1 877 = .ok (.aload_n 0, 1) := by decide +kernel
theorem dL_878 : decode mL_law.2.1 878 = .ok (.iload 4, 2) := by decide +kernel
theorem dL_880 : decode mL_law.2.1 880 = .ok (.iconst 1, 1) := by decide +kernel
theorem dL_881 : decode mL_law.2.1 881 = .ok (.iadd, 1) := by decide +kernel
theorem dL_882 : decode mL_law.2.1 882 = .ok (.iaload, 1) := by decide +kernel
theorem dL_883 : decode mL_law.2.1 883 = .ok (.invokevirtual 111, 3) := by decide +kernel
theorem dL_886 : decode mL_law.2.1 886 = .ok (.if_icmp .eq 461, 3) := by decide +kernel
theorem dL_889 : decode mL_law.2.1 889 = .ok (.iconst 0, 1) := by decide +kernel
theorem dL_890 : decode mL_law.2.1 890 = .ok (.ireturn, 1) := by decide +kernel
theorem lc_undoes {n : Nat} {xs : Nat → Int32} {g : Nat} {i B : Int} {m : Mem} {Q : Int → Mem → Prop} (hn : n ≤ 3072) (hg : 1 ≤ g) (h0 : 0 ≤ i) (h1 : i + 6 ≤ n) (h : Inv m B) (hB : 0 ≤ B ∧ B ≤ 100000000) (k : ∀ m2 : Mem, Inv m2 (B + 300) → GoL (XL n xs) (g - 1) 72 mL_law Q 1347 (LL i) [] m2) : GoL (XL n xs) g 72 mL_law Q 866 (LL i) [] m := by
  have K0 : Duo mX11_undoes mX12_undoes [vi (sc xs (i + 1))] m (fun m2 => Inv m2 B) := c_undoes h (InR.r _)
  obtain ⟨d1, Q1, hd1, E1, K1⟩ := K0
  refine gl_aload_n dL_866 rfl ?_
  refine gl_aload_n dL_867 rfl ?_
  refine gl_iload dL_868 rfl ?_
  refine gl_iconst dL_870 ?_
  refine gl_iadd dL_871 ?_
  refine gl_sload dL_872 (by omega) (by omega) hn ?_
  refine gl_callR (as := [vi (sc xs (i + 1))]) (S := []) (b := 0) E1 (Or.inl rfl) dL_873 cv_L_108 rfl rfl ob_0 rfl (by omega) (by decide) (fun r1 m1 hq1 hr1 => ?_)
  obtain ⟨d2, Q2, hd2, E2, K2⟩ := K1 r1 m1 hq1
  refine gl_aload_n dL_876 rfl ?_
  refine gl_aload_n dL_877 rfl ?_
  refine gl_iload dL_878 rfl ?_
  refine gl_iconst dL_880 ?_
  refine gl_iadd dL_881 ?_
  refine gl_sload dL_882 (by omega) (by omega) hn ?_
  refine gl_callR (as := [vi (sc xs (i + 1))]) (S := [vi r1]) (b := 214) E2 (Or.inl rfl) dL_883 cv_L_111 rfl rfl ob_214 rfl (by omega) (Nat.le_of_ble_eq_true rfl) (fun r2 m2 hq2 hr2 => ?_)
  obtain ⟨hrr, hI⟩ := K2 r2 m2 hq2
  refine gl_icmp_eq (tgt := 1347) dL_886 (by decide) hr1 hr2 (fun e => gl_weak (by omega) (k m2 (hI.all (by omega) (fun _ _ _ => rfl)))) (fun e => absurd hrr.symm e)
theorem dL_891 : decode mL_law.2.1 891 = .ok (.aload_n 1, 1) := by decide +kernel
theorem dL_892 : decode mL_law.2.1 892 = .ok (.aload_n 0, 1) := by decide +kernel
theorem dL_893 : decode mL_law.2.1 893 = .ok (.iload 4, 2) := by decide +kernel
theorem dL_895 : decode mL_law.2.1 895 = .ok (.iconst 1, 1) := by decide +kernel
theorem dL_896 : decode mL_law.2.1 896 = .ok (.iadd, 1) := by decide +kernel
theorem dL_897 : decode mL_law.2.1 897 = .ok (.iaload, 1) := by decide +kernel
theorem dL_898 : decode mL_law.2.1 898 = .ok (.invokevirtual 112, 3) := by decide +kernel
theorem dL_901 : decode mL_law.2.1 901 = .ok (.aload_n 2, 1) := by decide +kernel
theorem dL_902 : decode mL_law.2.1 902 = .ok (.aload_n 0, 1) := by decide +kernel
theorem dL_903 : decode mL_law.2.1 903 = .ok (.iload 4, 2) := by decide +kernel
theorem dL_905 : decode mL_law.2.1 905 = .ok (.iconst 1, 1) := by decide +kernel
theorem dL_906 : decode mL_law.2.1 906 = .ok (.iadd, 1) := by decide +kernel
theorem dL_907 : decode mL_law.2.1 907 = .ok (.iaload, 1) := by decide +kernel
theorem dL_908 : decode mL_law.2.1 908 = .ok (.invokevirtual 115, 3) := by decide +kernel
theorem dL_911 : decode mL_law.2.1 911 = .ok (.if_icmp .eq 436, 3) := by decide +kernel
theorem dL_914 : decode mL_law.2.1 914 = .ok (.iconst 0, 1) := by decide +kernel
theorem dL_915 : decode mL_law.2.1 915 = .ok (.ireturn, 1) := by decide +kernel
theorem lc_undoesAt {n : Nat} {xs : Nat → Int32} {g : Nat} {i B : Int} {m : Mem} {Q : Int → Mem → Prop} (hn : n ≤ 3072) (hg : 1 ≤ g) (h0 : 0 ≤ i) (h1 : i + 6 ≤ n) (h : Inv m B) (hB : 0 ≤ B ∧ B ≤ 100000000) (k : ∀ m2 : Mem, Inv m2 (B + 300) → GoL (XL n xs) (g - 1) 72 mL_law Q 1347 (LL i) [] m2) : GoL (XL n xs) g 72 mL_law Q 891 (LL i) [] m := by
  have K0 : Duo mX11_undoesAt mX12_undoesAt [vi (sc xs (i + 1))] m (fun m2 => Inv m2 B) := c_undoesAt h (InR.r _)
  obtain ⟨d1, Q1, hd1, E1, K1⟩ := K0
  refine gl_aload_n dL_891 rfl ?_
  refine gl_aload_n dL_892 rfl ?_
  refine gl_iload dL_893 rfl ?_
  refine gl_iconst dL_895 ?_
  refine gl_iadd dL_896 ?_
  refine gl_sload dL_897 (by omega) (by omega) hn ?_
  refine gl_callR (as := [vi (sc xs (i + 1))]) (S := []) (b := 0) E1 (Or.inl rfl) dL_898 cv_L_112 rfl rfl ob_0 rfl (by omega) (by decide) (fun r1 m1 hq1 hr1 => ?_)
  obtain ⟨d2, Q2, hd2, E2, K2⟩ := K1 r1 m1 hq1
  refine gl_aload_n dL_901 rfl ?_
  refine gl_aload_n dL_902 rfl ?_
  refine gl_iload dL_903 rfl ?_
  refine gl_iconst dL_905 ?_
  refine gl_iadd dL_906 ?_
  refine gl_sload dL_907 (by omega) (by omega) hn ?_
  refine gl_callR (as := [vi (sc xs (i + 1))]) (S := [vi r1]) (b := 214) E2 (Or.inl rfl) dL_908 cv_L_115 rfl rfl ob_214 rfl (by omega) (Nat.le_of_ble_eq_true rfl) (fun r2 m2 hq2 hr2 => ?_)
  obtain ⟨hrr, hI⟩ := K2 r2 m2 hq2
  refine gl_icmp_eq (tgt := 1347) dL_911 (by decide) hr1 hr2 (fun e => gl_weak (by omega) (k m2 (hI.all (by omega) (fun _ _ _ => rfl)))) (fun e => absurd hrr.symm e)
theorem dL_916 : decode mL_law.2.1 916 = .ok (.aload_n 1, 1) := by decide +kernel
theorem dL_917 : decode mL_law.2.1 917 = .ok (.invokevirtual 116, 3) := by decide +kernel
theorem dL_920 : decode mL_law.2.1 920 = .ok (.aload_n 2, 1) := by decide +kernel
theorem dL_921 : decode mL_law.2.1 921 = .ok (.invokevirtual 119, 3) := by decide +kernel
theorem dL_924 : decode mL_law.2.1 924 = .ok (.if_icmp .eq 423, 3) := by decide +kernel
theorem dL_927 : decode mL_law.2.1 927 = .ok (.iconst 0, 1) := by decide +kernel
theorem dL_928 : decode mL_law.2.1 928 = .ok (.ireturn, 1) := by decide +kernel
theorem lc_tracks {n : Nat} {xs : Nat → Int32} {g : Nat} {i B : Int} {m : Mem} {Q : Int → Mem → Prop} (hn : n ≤ 3072) (hg : 1 ≤ g) (h0 : 0 ≤ i) (h1 : i + 6 ≤ n) (h : Inv m B) (hB : 0 ≤ B ∧ B ≤ 100000000) (k : ∀ m2 : Mem, Inv m2 (B + 300) → GoL (XL n xs) (g - 1) 72 mL_law Q 1347 (LL i) [] m2) : GoL (XL n xs) g 72 mL_law Q 916 (LL i) [] m := by
  have K0 : Duo mX11_tracks mX12_tracks [] m (fun m2 => Inv m2 B) := c_tracks h
  obtain ⟨d1, Q1, hd1, E1, K1⟩ := K0
  refine gl_aload_n dL_916 rfl ?_
  refine gl_callR (as := []) (S := []) (b := 0) E1 (Or.inl rfl) dL_917 cv_L_116 rfl rfl ob_0 rfl (by omega) (by decide) (fun r1 m1 hq1 hr1 => ?_)
  obtain ⟨d2, Q2, hd2, E2, K2⟩ := K1 r1 m1 hq1
  refine gl_aload_n dL_920 rfl ?_
  refine gl_callR (as := []) (S := [vi r1]) (b := 214) E2 (Or.inl rfl) dL_921 cv_L_119 rfl rfl ob_214 rfl (by omega) (Nat.le_of_ble_eq_true rfl) (fun r2 m2 hq2 hr2 => ?_)
  obtain ⟨hrr, hI⟩ := K2 r2 m2 hq2
  refine gl_icmp_eq (tgt := 1347) dL_924 (by decide) hr1 hr2 (fun e => gl_weak (by omega) (k m2 (hI.all (by omega) (fun _ _ _ => rfl)))) (fun e => absurd hrr.symm e)
