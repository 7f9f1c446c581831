set_option maxHeartbeats 4000000 in
set_option maxRecDepth 100000 in
theorem lc_valve {γ : Gm} {φ : Fx} {b0 L : Nat} {xs : Nat → Int32} {A0 B0 : Nat} {Q : State → Prop} {j : Int} {τ : St} {w s a p u : Int} {t n x f d k i : Int → Int} (G : Glo γ) (N : GNc γ) (C : Cx γ φ RL cL_law 7 20) (E : LE γ φ b0 L xs) (hcr : A0 + 1 ≤ φ.2.2.1.cells ∧ B0 + 6 ≤ φ.2.2.1.slots) (hj : 0 ≤ j ∧ j + 6 ≤ L) (hI : LI τ w s a p u t n x f d k i)
    (K : ∀ (τ : St) (w s a p u : Int) (t n x f d k i : Int → Int), LI τ w s a p u t n x f d k i → Vw γ φ 7 (A0 + 1) (B0 + 6) Q τ 1932 [(4, .int (iI j)), (0, .ref b0), (1, .ref (bs γ + 0)), (2, .ref (bs γ + 255)), (3, .ref (bs γ + 263))] []) : Vw γ φ 7 A0 B0 Q τ 694 [(4, .int (iI j)), (0, .ref b0), (1, .ref (bs γ + 0)), (2, .ref (bs γ + 255)), (3, .ref (bs γ + 263))] [] := by
  have hL := E.2.2.2
  obtain ⟨hM, hC, hO⟩ := hI
  have hW := hO.2.2.2.1
  refine v_aload_n (pc := 694) C 2 rfl dL_law_694 ?_
  refine v_aload_n (pc := 695) C 1 rfl dL_law_695 ?_
  refine v_iload (pc := 696) C 0 rfl dL_law_696 ?_
  refine v_iconst (pc := 698) C dL_law_698 ?_
  refine v_iadd (pc := 699) C dL_law_699 ?_
  refine v_sld (pc := 700) C E (by omega) dL_law_700 ?_
  refine v_aload_n (pc := 701) C 1 rfl dL_law_701 ?_
  refine v_iload (pc := 702) C 0 rfl dL_law_702 ?_
  refine v_iconst (pc := 704) C dL_law_704 ?_
  refine v_iadd (pc := 705) C dL_law_705 ?_
  refine v_sld (pc := 706) C E (by omega) dL_law_706 ?_
  refine v_aload_n (pc := 707) C 4 rfl dL_law_707 ?_
  refine v_csW (pc := 708) (as := [.ref (bs γ + 0), .int (iI (XS xs (j + 1))), .int (iI (XS xs (j + 2))), .ref (bs γ + 263)]) C (cy_L_valve G) (wM_L_143 G) (k_L_valve G N hC hO (XS_r _ _) (XS_r _ _)) dL_law_708 rfl rfl (by decide) (by decide) (Nat.le_of_ble_eq_true rfl) hcr (k_I (fun z1 σ1 q1 => ?_))
  obtain ⟨e1, h1o, hC1, hE1⟩ := q1
  refine v_st (mR_eq (hM.cong hE1)) ?_
  refine v_istore (pc := 711) C [(5, .int (iI z1)), (4, .int (iI j)), (0, .ref b0), (1, .ref (bs γ + 0)), (2, .ref (bs γ + 255)), (3, .ref (bs γ + 263))] dL_law_711 (by decide) rfl ?_
  refine v_aload_n (pc := 713) C 4 rfl dL_law_713 ?_
  refine v_aload_n (pc := 714) C 2 rfl dL_law_714 ?_
  refine v_iload (pc := 715) C 1 rfl dL_law_715 ?_
  refine v_iconst (pc := 717) C dL_law_717 ?_
  refine v_iadd (pc := 718) C dL_law_718 ?_
  refine v_sld (pc := 719) C E (by omega) dL_law_719 ?_
  refine v_aload_n (pc := 720) C 2 rfl dL_law_720 ?_
  refine v_iload (pc := 721) C 1 rfl dL_law_721 ?_
  refine v_iconst (pc := 723) C dL_law_723 ?_
  refine v_iadd (pc := 724) C dL_law_724 ?_
  refine v_sld (pc := 725) C E (by omega) dL_law_725 ?_
  refine v_cv (pc := 726) (as := [.int (iI (XS xs (j + 1))), .int (iI (XS xs (j + 2)))]) C (cy_X6_valve G) (wM_L_145 G) sh_255 (ci := 4) rfl rfl (k_X6_valve G (XS_r _ _) (XS_r _ _) hO.2.1 hW) dL_law_726 rfl rfl (by decide) (by decide) (Nat.le_of_ble_eq_true rfl) ⟨by omega, by omega⟩ (k_I (fun z2 σ2 q2 => ?_))
  obtain ⟨⟨p2, u2, x2, f2, rfl⟩, e2⟩ := q2
  refine v_istore (pc := 729) C [(6, .int (iI z2)), (5, .int (iI z1)), (4, .int (iI j)), (0, .ref b0), (1, .ref (bs γ + 0)), (2, .ref (bs γ + 255)), (3, .ref (bs γ + 263))] dL_law_729 (by decide) rfl ?_
  refine v_aload_n (pc := 731) C 5 rfl dL_law_731 ?_
  refine v_cv (pc := 732) (as := []) C (cy_X6_thrown G) (wM_L_108 G) sh_255 (ci := 4) rfl rfl (k_X6_thrown G) dL_law_732 rfl rfl (by decide) (by decide) (Nat.le_of_ble_eq_true rfl) ⟨by omega, by omega⟩ (k_I (fun z3 σ3 q3 => ?_))
  obtain ⟨e3, rfl⟩ := q3
  refine v_iload (pc := 735) C 1 rfl dL_law_735 ?_
  refine v_icmp_eqT (pc := 737) C 742 dL_law_737 (by decide) ((e3.trans (mA_w _ _ _ _ _ _ _)).trans e1.symm) ?_
  refine v_iload (pc := 742) C 1 rfl dL_law_742 ?_
  have hcd := cd_valve s a t n d k i (XS xs (j + 1)) (XS xs (j + 2))
  refine v_if_ne (pc := 744) C 759 (by omega) dL_law_744 (by decide) (fun h0 => ?_) (fun h0 => ?_)
  · refine v_goto (pc := 759) C 1932 dL_law_759 (by decide) ?_
    exact v_lv _ [2, 3, 4, 5, 6] rfl (K _ _ _ _ _ _ _ _ _ _ _ _ _ (LI_next hC1 (ok_valve hO (XS xs (j + 1)) (XS xs (j + 2)))))
  · refine v_aload_n (pc := 747) C 6 rfl dL_law_747 ?_
    refine v_iconst (pc := 748) C dL_law_748 ?_
    refine v_lald (pc := 749) C sh_263 (by decide) (by decide) dL_law_749 (fun z9 e9 r9 => ?_)
    have h9 : z9 = bmz z2 := by rw [e9, mA_out, e2 (by omega)]; exact h1o (by omega)
    refine v_iload (pc := 750) C 0 rfl dL_law_750 ?_
    refine v_bm ?_
    refine v_i2l (pc := 752) C (bmz_r _) dL_law_752 ?_
    refine v_lcmp (pc := 753) C (by omega) (by have := bmz_r z2; omega) dL_law_753 ?_
    refine v_ti (x2 := 0) (by rw [if_neg (by omega), if_pos h9]) ?_
    refine v_if_eq (pc := 754) C 759 (by first | omega | assumption) dL_law_754 (by decide) (fun _ => ?_) (fun h => absurd h (by decide))
    refine v_goto (pc := 759) C 1932 dL_law_759 (by decide) ?_
    exact v_lv _ [2, 3, 4, 5, 6] rfl (K _ _ _ _ _ _ _ _ _ _ _ _ _ (LI_next hC1 (ok_valve hO (XS xs (j + 1)) (XS xs (j + 2)))))

set_option maxHeartbeats 4000000 in
set_option maxRecDepth 100000 in
theorem lc_duct {γ : Gm} {φ : Fx} {b0 L : Nat} {xs : Nat → Int32} {A0 B0 : Nat} {Q : State → Prop} {j : Int} {τ : St} {w s a p u : Int} {t n x f d k i : Int → Int} (G : Glo γ) (N : GNc γ) (C : Cx γ φ RL cL_law 7 20) (E : LE γ φ b0 L xs) (hcr : A0 + 1 ≤ φ.2.2.1.cells ∧ B0 + 6 ≤ φ.2.2.1.slots) (hj : 0 ≤ j ∧ j + 6 ≤ L) (hI : LI τ w s a p u t n x f d k i)
    (K : ∀ (τ : St) (w s a p u : Int) (t n x f d k i : Int → Int), LI τ w s a p u t n x f d k i → Vw γ φ 7 (A0 + 1) (B0 + 6) Q τ 1932 [(4, .int (iI j)), (0, .ref b0), (1, .ref (bs γ + 0)), (2, .ref (bs γ + 255)), (3, .ref (bs γ + 263))] []) : Vw γ φ 7 A0 B0 Q τ 762 [(4, .int (iI j)), (0, .ref b0), (1, .ref (bs γ + 0)), (2, .ref (bs γ + 255)), (3, .ref (bs γ + 263))] [] := by
  have hL := E.2.2.2
  obtain ⟨hM, hC, hO⟩ := hI
  have hW := hO.2.2.2.1
  refine v_aload_n (pc := 762) C 2 rfl dL_law_762 ?_
  refine v_aload_n (pc := 763) C 1 rfl dL_law_763 ?_
  refine v_iload (pc := 764) C 0 rfl dL_law_764 ?_
  refine v_iconst (pc := 766) C dL_law_766 ?_
  refine v_iadd (pc := 767) C dL_law_767 ?_
  refine v_sld (pc := 768) C E (by omega) dL_law_768 ?_
  refine v_aload_n (pc := 769) C 1 rfl dL_law_769 ?_
  refine v_iload (pc := 770) C 0 rfl dL_law_770 ?_
  refine v_iconst (pc := 772) C dL_law_772 ?_
  refine v_iadd (pc := 773) C dL_law_773 ?_
  refine v_sld (pc := 774) C E (by omega) dL_law_774 ?_
  refine v_aload_n (pc := 775) C 1 rfl dL_law_775 ?_
  refine v_iload (pc := 776) C 0 rfl dL_law_776 ?_
  refine v_iconst (pc := 778) C dL_law_778 ?_
  refine v_iadd (pc := 779) C dL_law_779 ?_
  refine v_sld (pc := 780) C E (by omega) dL_law_780 ?_
  refine v_aload_n (pc := 781) C 1 rfl dL_law_781 ?_
  refine v_iload (pc := 782) C 0 rfl dL_law_782 ?_
  refine v_iconst (pc := 784) C dL_law_784 ?_
  refine v_iadd (pc := 785) C dL_law_785 ?_
  refine v_sld (pc := 786) C E (by omega) dL_law_786 ?_
  refine v_aload_n (pc := 787) C 1 rfl dL_law_787 ?_
  refine v_iload (pc := 788) C 0 rfl dL_law_788 ?_
  refine v_iconst (pc := 790) C dL_law_790 ?_
  refine v_iadd (pc := 791) C dL_law_791 ?_
  refine v_sld (pc := 792) C E (by omega) dL_law_792 ?_
  refine v_aload_n (pc := 793) C 4 rfl dL_law_793 ?_
  refine v_csW (pc := 794) (as := [.ref (bs γ + 0), .int (iI (XS xs (j + 1))), .int (iI (XS xs (j + 2))), .int (iI (XS xs (j + 3))), .int (iI (XS xs (j + 4))), .int (iI (XS xs (j + 5))), .ref (bs γ + 263)]) C (cy_L_duct G) (wM_L_146 G) (k_L_duct G N hC hO (XS_r _ _) (XS_r _ _) (XS_r _ _) (XS_r _ _) (XS_r _ _)) dL_law_794 rfl rfl (by decide) (by decide) (Nat.le_of_ble_eq_true rfl) hcr (k_I (fun z1 σ1 q1 => ?_))
  obtain ⟨e1, h1o, hC1, hE1⟩ := q1
  refine v_st (mR_eq (hM.cong hE1)) ?_
  refine v_istore (pc := 797) C [(5, .int (iI z1)), (4, .int (iI j)), (0, .ref b0), (1, .ref (bs γ + 0)), (2, .ref (bs γ + 255)), (3, .ref (bs γ + 263))] dL_law_797 (by decide) rfl ?_
  refine v_aload_n (pc := 799) C 4 rfl dL_law_799 ?_
  refine v_aload_n (pc := 800) C 2 rfl dL_law_800 ?_
  refine v_iload (pc := 801) C 1 rfl dL_law_801 ?_
  refine v_iconst (pc := 803) C dL_law_803 ?_
  refine v_iadd (pc := 804) C dL_law_804 ?_
  refine v_sld (pc := 805) C E (by omega) dL_law_805 ?_
  refine v_aload_n (pc := 806) C 2 rfl dL_law_806 ?_
  refine v_iload (pc := 807) C 1 rfl dL_law_807 ?_
  refine v_iconst (pc := 809) C dL_law_809 ?_
  refine v_iadd (pc := 810) C dL_law_810 ?_
  refine v_sld (pc := 811) C E (by omega) dL_law_811 ?_
  refine v_aload_n (pc := 812) C 2 rfl dL_law_812 ?_
  refine v_iload (pc := 813) C 1 rfl dL_law_813 ?_
  refine v_iconst (pc := 815) C dL_law_815 ?_
  refine v_iadd (pc := 816) C dL_law_816 ?_
  refine v_sld (pc := 817) C E (by omega) dL_law_817 ?_
  refine v_aload_n (pc := 818) C 2 rfl dL_law_818 ?_
  refine v_iload (pc := 819) C 1 rfl dL_law_819 ?_
  refine v_iconst (pc := 821) C dL_law_821 ?_
  refine v_iadd (pc := 822) C dL_law_822 ?_
  refine v_sld (pc := 823) C E (by omega) dL_law_823 ?_
  refine v_aload_n (pc := 824) C 2 rfl dL_law_824 ?_
  refine v_iload (pc := 825) C 1 rfl dL_law_825 ?_
  refine v_iconst (pc := 827) C dL_law_827 ?_
  refine v_iadd (pc := 828) C dL_law_828 ?_
  refine v_sld (pc := 829) C E (by omega) dL_law_829 ?_
  refine v_cv (pc := 830) (as := [.int (iI (XS xs (j + 1))), .int (iI (XS xs (j + 2))), .int (iI (XS xs (j + 3))), .int (iI (XS xs (j + 4))), .int (iI (XS xs (j + 5)))]) C (cy_X6_duct G) (wM_L_149 G) sh_255 (ci := 4) rfl rfl (k_X6_duct G (XS_r _ _) (XS_r _ _) (XS_r _ _) (XS_r _ _) (XS_r _ _) hO.2.1 hW) dL_law_830 rfl rfl (by decide) (by decide) (Nat.le_of_ble_eq_true rfl) ⟨by omega, by omega⟩ (k_I (fun z2 σ2 q2 => ?_))
  obtain ⟨⟨p2, u2, x2, f2, rfl⟩, e2⟩ := q2
  refine v_istore (pc := 833) C [(6, .int (iI z2)), (5, .int (iI z1)), (4, .int (iI j)), (0, .ref b0), (1, .ref (bs γ + 0)), (2, .ref (bs γ + 255)), (3, .ref (bs γ + 263))] dL_law_833 (by decide) rfl ?_
  refine v_aload_n (pc := 835) C 5 rfl dL_law_835 ?_
  refine v_cv (pc := 836) (as := []) C (cy_X6_thrown G) (wM_L_108 G) sh_255 (ci := 4) rfl rfl (k_X6_thrown G) dL_law_836 rfl rfl (by decide) (by decide) (Nat.le_of_ble_eq_true rfl) ⟨by omega, by omega⟩ (k_I (fun z3 σ3 q3 => ?_))
  obtain ⟨e3, rfl⟩ := q3
  refine v_iload (pc := 839) C 1 rfl dL_law_839 ?_
  refine v_icmp_eqT (pc := 841) C 846 dL_law_841 (by decide) ((e3.trans (mA_w _ _ _ _ _ _ _)).trans e1.symm) ?_
  refine v_iload (pc := 846) C 1 rfl dL_law_846 ?_
  have hcd := cd_duct s a t n d k i (XS xs (j + 1)) (XS xs (j + 2)) (XS xs (j + 3)) (XS xs (j + 4)) (XS xs (j + 5))
  refine v_if_ne (pc := 848) C 863 (by omega) dL_law_848 (by decide) (fun h0 => ?_) (fun h0 => ?_)
  · refine v_goto (pc := 863) C 1932 dL_law_863 (by decide) ?_
    exact v_lv _ [2, 3, 4, 5, 6] rfl (K _ _ _ _ _ _ _ _ _ _ _ _ _ (LI_next hC1 (ok_duct hO (XS xs (j + 1)) (XS xs (j + 2)) (XS xs (j + 3)) (XS xs (j + 4)) (XS xs (j + 5)))))
  · refine v_aload_n (pc := 851) C 6 rfl dL_law_851 ?_
    refine v_iconst (pc := 852) C dL_law_852 ?_
    refine v_lald (pc := 853) C sh_263 (by decide) (by decide) dL_law_853 (fun z9 e9 r9 => ?_)
    have h9 : z9 = bmz z2 := by rw [e9, mA_out, e2 (by omega)]; exact h1o (by omega)
    refine v_iload (pc := 854) C 0 rfl dL_law_854 ?_
    refine v_bm ?_
    refine v_i2l (pc := 856) C (bmz_r _) dL_law_856 ?_
    refine v_lcmp (pc := 857) C (by omega) (by have := bmz_r z2; omega) dL_law_857 ?_
    refine v_ti (x2 := 0) (by rw [if_neg (by omega), if_pos h9]) ?_
    refine v_if_eq (pc := 858) C 863 (by first | omega | assumption) dL_law_858 (by decide) (fun _ => ?_) (fun h => absurd h (by decide))
    refine v_goto (pc := 863) C 1932 dL_law_863 (by decide) ?_
    exact v_lv _ [2, 3, 4, 5, 6] rfl (K _ _ _ _ _ _ _ _ _ _ _ _ _ (LI_next hC1 (ok_duct hO (XS xs (j + 1)) (XS xs (j + 2)) (XS xs (j + 3)) (XS xs (j + 4)) (XS xs (j + 5)))))

set_option maxHeartbeats 4000000 in
set_option maxRecDepth 100000 in
theorem lc_remove {γ : Gm} {φ : Fx} {b0 L : Nat} {xs : Nat → Int32} {A0 B0 : Nat} {Q : State → Prop} {j : Int} {τ : St} {w s a p u : Int} {t n x f d k i : Int → Int} (G : Glo γ) (N : GNc γ) (C : Cx γ φ RL cL_law 7 20) (E : LE γ φ b0 L xs) (hcr : A0 + 1 ≤ φ.2.2.1.cells ∧ B0 + 6 ≤ φ.2.2.1.slots) (hj : 0 ≤ j ∧ j + 6 ≤ L) (hI : LI τ w s a p u t n x f d k i)
    (K : ∀ (τ : St) (w s a p u : Int) (t n x f d k i : Int → Int), LI τ w s a p u t n x f d k i → Vw γ φ 7 (A0 + 1) (B0 + 6) Q τ 1932 [(4, .int (iI j)), (0, .ref b0), (1, .ref (bs γ + 0)), (2, .ref (bs γ + 255)), (3, .ref (bs γ + 263))] []) : Vw γ φ 7 A0 B0 Q τ 866 [(4, .int (iI j)), (0, .ref b0), (1, .ref (bs γ + 0)), (2, .ref (bs γ + 255)), (3, .ref (bs γ + 263))] [] := by
  have hL := E.2.2.2
  obtain ⟨hM, hC, hO⟩ := hI
  have hW := hO.2.2.2.1
  refine v_aload_n (pc := 866) C 2 rfl dL_law_866 ?_
  refine v_aload_n (pc := 867) C 1 rfl dL_law_867 ?_
  refine v_iload (pc := 868) C 0 rfl dL_law_868 ?_
  refine v_iconst (pc := 870) C dL_law_870 ?_
  refine v_iadd (pc := 871) C dL_law_871 ?_
  refine v_sld (pc := 872) C E (by omega) dL_law_872 ?_
  refine v_aload_n (pc := 873) C 4 rfl dL_law_873 ?_
  refine v_csW (pc := 874) (as := [.ref (bs γ + 0), .int (iI (XS xs (j + 1))), .ref (bs γ + 263)]) C (cy_L_remove G) (wM_L_150 G) (k_L_remove G N hC hO (XS_r _ _)) dL_law_874 rfl rfl (by decide) (by decide) (Nat.le_of_ble_eq_true rfl) hcr (k_I (fun z1 σ1 q1 => ?_))
  obtain ⟨e1, h1o, hC1, hE1⟩ := q1
  refine v_st (mR_eq (hM.cong hE1)) ?_
  refine v_istore (pc := 877) C [(5, .int (iI z1)), (4, .int (iI j)), (0, .ref b0), (1, .ref (bs γ + 0)), (2, .ref (bs γ + 255)), (3, .ref (bs γ + 263))] dL_law_877 (by decide) rfl ?_
  refine v_aload_n (pc := 879) C 4 rfl dL_law_879 ?_
  refine v_aload_n (pc := 880) C 2 rfl dL_law_880 ?_
  refine v_iload (pc := 881) C 1 rfl dL_law_881 ?_
  refine v_iconst (pc := 883) C dL_law_883 ?_
  refine v_iadd (pc := 884) C dL_law_884 ?_
  refine v_sld (pc := 885) C E (by omega) dL_law_885 ?_
  refine v_cv (pc := 886) (as := [.int (iI (XS xs (j + 1)))]) C (cy_X6_remove G) (wM_L_152 G) sh_255 (ci := 4) rfl rfl (k_X6_remove G (XS_r _ _) hO.2.1 hW) dL_law_886 rfl rfl (by decide) (by decide) (Nat.le_of_ble_eq_true rfl) ⟨by omega, by omega⟩ (k_I (fun z2 σ2 q2 => ?_))
  obtain ⟨⟨p2, u2, x2, f2, rfl⟩, e2⟩ := q2
  refine v_istore (pc := 889) C [(6, .int (iI z2)), (5, .int (iI z1)), (4, .int (iI j)), (0, .ref b0), (1, .ref (bs γ + 0)), (2, .ref (bs γ + 255)), (3, .ref (bs γ + 263))] dL_law_889 (by decide) rfl ?_
  refine v_aload_n (pc := 891) C 5 rfl dL_law_891 ?_
  refine v_cv (pc := 892) (as := []) C (cy_X6_thrown G) (wM_L_108 G) sh_255 (ci := 4) rfl rfl (k_X6_thrown G) dL_law_892 rfl rfl (by decide) (by decide) (Nat.le_of_ble_eq_true rfl) ⟨by omega, by omega⟩ (k_I (fun z3 σ3 q3 => ?_))
  obtain ⟨e3, rfl⟩ := q3
  refine v_iload (pc := 895) C 1 rfl dL_law_895 ?_
  refine v_icmp_eqT (pc := 897) C 902 dL_law_897 (by decide) ((e3.trans (mA_w _ _ _ _ _ _ _)).trans e1.symm) ?_
  refine v_iload (pc := 902) C 1 rfl dL_law_902 ?_
  have hcd := cd_remove s a t n d k i (XS xs (j + 1))
  refine v_if_ne (pc := 904) C 919 (by omega) dL_law_904 (by decide) (fun h0 => ?_) (fun h0 => ?_)
  · refine v_goto (pc := 919) C 1932 dL_law_919 (by decide) ?_
    exact v_lv _ [2, 3, 4, 5, 6] rfl (K _ _ _ _ _ _ _ _ _ _ _ _ _ (LI_next hC1 (ok_remove hO (XS xs (j + 1)))))
  · refine v_aload_n (pc := 907) C 6 rfl dL_law_907 ?_
    refine v_iconst (pc := 908) C dL_law_908 ?_
    refine v_lald (pc := 909) C sh_263 (by decide) (by decide) dL_law_909 (fun z9 e9 r9 => ?_)
    have h9 : z9 = bmz z2 := by rw [e9, mA_out, e2 (by omega)]; exact h1o (by omega)
    refine v_iload (pc := 910) C 0 rfl dL_law_910 ?_
    refine v_bm ?_
    refine v_i2l (pc := 912) C (bmz_r _) dL_law_912 ?_
    refine v_lcmp (pc := 913) C (by omega) (by have := bmz_r z2; omega) dL_law_913 ?_
    refine v_ti (x2 := 0) (by rw [if_neg (by omega), if_pos h9]) ?_
    refine v_if_eq (pc := 914) C 919 (by first | omega | assumption) dL_law_914 (by decide) (fun _ => ?_) (fun h => absurd h (by decide))
    refine v_goto (pc := 919) C 1932 dL_law_919 (by decide) ?_
    exact v_lv _ [2, 3, 4, 5, 6] rfl (K _ _ _ _ _ _ _ _ _ _ _ _ _ (LI_next hC1 (ok_remove hO (XS xs (j + 1)))))

set_option maxHeartbeats 4000000 in
set_option maxRecDepth 100000 in
theorem lc_press {γ : Gm} {φ : Fx} {b0 L : Nat} {xs : Nat → Int32} {A0 B0 : Nat} {Q : State → Prop} {j : Int} {τ : St} {w s a p u : Int} {t n x f d k i : Int → Int} (G : Glo γ) (N : GNc γ) (C : Cx γ φ RL cL_law 7 20) (E : LE γ φ b0 L xs) (hcr : A0 + 1 ≤ φ.2.2.1.cells ∧ B0 + 6 ≤ φ.2.2.1.slots) (hj : 0 ≤ j ∧ j + 6 ≤ L) (hI : LI τ w s a p u t n x f d k i)
    (K : ∀ (τ : St) (w s a p u : Int) (t n x f d k i : Int → Int), LI τ w s a p u t n x f d k i → Vw γ φ 7 (A0 + 1) (B0 + 6) Q τ 1932 [(4, .int (iI j)), (0, .ref b0), (1, .ref (bs γ + 0)), (2, .ref (bs γ + 255)), (3, .ref (bs γ + 263))] []) : Vw γ φ 7 A0 B0 Q τ 922 [(4, .int (iI j)), (0, .ref b0), (1, .ref (bs γ + 0)), (2, .ref (bs γ + 255)), (3, .ref (bs γ + 263))] [] := by
  have hL := E.2.2.2
  obtain ⟨hM, hC, hO⟩ := hI
  have hW := hO.2.2.2.1
  refine v_aload_n (pc := 922) C 2 rfl dL_law_922 ?_
  refine v_aload_n (pc := 923) C 1 rfl dL_law_923 ?_
  refine v_iload (pc := 924) C 0 rfl dL_law_924 ?_
  refine v_iconst (pc := 926) C dL_law_926 ?_
  refine v_iadd (pc := 927) C dL_law_927 ?_
  refine v_sld (pc := 928) C E (by omega) dL_law_928 ?_
  refine v_aload_n (pc := 929) C 1 rfl dL_law_929 ?_
  refine v_iload (pc := 930) C 0 rfl dL_law_930 ?_
  refine v_iconst (pc := 932) C dL_law_932 ?_
  refine v_iadd (pc := 933) C dL_law_933 ?_
  refine v_sld (pc := 934) C E (by omega) dL_law_934 ?_
  refine v_if_eq (pc := 935) C 942 (XS_r _ _) dL_law_935 (by decide) (fun hb0 => ?_) (fun hb0 => ?_)
  · refine v_iconst (pc := 942) C dL_law_942 ?_
    refine v_aload_n (pc := 943) C 4 rfl dL_law_943 ?_
    refine v_csW (pc := 944) (as := [.ref (bs γ + 0), .int (iI (XS xs (j + 1))), .int (iI 0), .ref (bs γ + 263)]) C (cy_L_press G) (wM_L_153 G) (k_L_press G N hC hO (XS_r _ _) (Or.inl rfl)) dL_law_944 rfl rfl (by decide) (by decide) (Nat.le_of_ble_eq_true rfl) hcr (k_I (fun z1 σ1 q1 => ?_))
    obtain ⟨e1, h1o, hC1, hE1⟩ := q1
    refine v_st (mR_eq (hM.cong hE1)) ?_
    refine v_istore (pc := 947) C [(5, .int (iI z1)), (4, .int (iI j)), (0, .ref b0), (1, .ref (bs γ + 0)), (2, .ref (bs γ + 255)), (3, .ref (bs γ + 263))] dL_law_947 (by decide) rfl ?_
    refine v_aload_n (pc := 949) C 4 rfl dL_law_949 ?_
    refine v_aload_n (pc := 950) C 2 rfl dL_law_950 ?_
    refine v_iload (pc := 951) C 1 rfl dL_law_951 ?_
    refine v_iconst (pc := 953) C dL_law_953 ?_
    refine v_iadd (pc := 954) C dL_law_954 ?_
    refine v_sld (pc := 955) C E (by omega) dL_law_955 ?_
    refine v_aload_n (pc := 956) C 2 rfl dL_law_956 ?_
    refine v_iload (pc := 957) C 1 rfl dL_law_957 ?_
    refine v_iconst (pc := 959) C dL_law_959 ?_
    refine v_iadd (pc := 960) C dL_law_960 ?_
    refine v_sld (pc := 961) C E (by omega) dL_law_961 ?_
    refine v_if_eq (pc := 962) C 969 (XS_r _ _) dL_law_962 (by decide) (fun _ => ?_) (fun h => absurd hb0 h)
    refine v_iconst (pc := 969) C dL_law_969 ?_
    refine v_cv (pc := 970) (as := [.int (iI (XS xs (j + 1))), .int (iI 0)]) C (cy_X6_press G) (wM_L_156 G) sh_255 (ci := 4) rfl rfl (k_X6_press G (XS_r _ _) hO.2.1 hW (Or.inl rfl)) dL_law_970 rfl rfl (by decide) (by decide) (Nat.le_of_ble_eq_true rfl) ⟨by omega, by omega⟩ (k_I (fun z2 σ2 q2 => ?_))
    obtain ⟨⟨p2, u2, x2, f2, rfl⟩, e2⟩ := q2
    refine v_istore (pc := 973) C [(6, .int (iI z2)), (5, .int (iI z1)), (4, .int (iI j)), (0, .ref b0), (1, .ref (bs γ + 0)), (2, .ref (bs γ + 255)), (3, .ref (bs γ + 263))] dL_law_973 (by decide) rfl ?_
    refine v_aload_n (pc := 975) C 5 rfl dL_law_975 ?_
    refine v_cv (pc := 976) (as := []) C (cy_X6_thrown G) (wM_L_108 G) sh_255 (ci := 4) rfl rfl (k_X6_thrown G) dL_law_976 rfl rfl (by decide) (by decide) (Nat.le_of_ble_eq_true rfl) ⟨by omega, by omega⟩ (k_I (fun z3 σ3 q3 => ?_))
    obtain ⟨e3, rfl⟩ := q3
    refine v_iload (pc := 979) C 1 rfl dL_law_979 ?_
    refine v_icmp_eqT (pc := 981) C 986 dL_law_981 (by decide) ((e3.trans (mA_w _ _ _ _ _ _ _)).trans e1.symm) ?_
    refine v_iload (pc := 986) C 1 rfl dL_law_986 ?_
    have hcd := cd_press s a t n d k i (XS xs (j + 1)) 0
    refine v_if_ne (pc := 988) C 1003 (by omega) dL_law_988 (by decide) (fun h0 => ?_) (fun h0 => ?_)
    · refine v_goto (pc := 1003) C 1932 dL_law_1003 (by decide) ?_
      exact v_lv _ [2, 3, 4, 5, 6] rfl (K _ _ _ _ _ _ _ _ _ _ _ _ _ (LI_next hC1 (ok_press hO (XS xs (j + 1)) 0 (Or.inl rfl))))
    · refine v_aload_n (pc := 991) C 6 rfl dL_law_991 ?_
      refine v_iconst (pc := 992) C dL_law_992 ?_
      refine v_lald (pc := 993) C sh_263 (by decide) (by decide) dL_law_993 (fun z9 e9 r9 => ?_)
      have h9 : z9 = bmz z2 := by rw [e9, mA_out, e2 (by omega)]; exact h1o (by omega)
      refine v_iload (pc := 994) C 0 rfl dL_law_994 ?_
      refine v_bm ?_
      refine v_i2l (pc := 996) C (bmz_r _) dL_law_996 ?_
      refine v_lcmp (pc := 997) C (by omega) (by have := bmz_r z2; omega) dL_law_997 ?_
      refine v_ti (x2 := 0) (by rw [if_neg (by omega), if_pos h9]) ?_
      refine v_if_eq (pc := 998) C 1003 (by first | omega | assumption) dL_law_998 (by decide) (fun _ => ?_) (fun h => absurd h (by decide))
      refine v_goto (pc := 1003) C 1932 dL_law_1003 (by decide) ?_
      exact v_lv _ [2, 3, 4, 5, 6] rfl (K _ _ _ _ _ _ _ _ _ _ _ _ _ (LI_next hC1 (ok_press hO (XS xs (j + 1)) 0 (Or.inl rfl))))
  · refine v_iconst (pc := 938) C dL_law_938 ?_
    refine v_goto (pc := 939) C 943 dL_law_939 (by decide) ?_
    refine v_aload_n (pc := 943) C 4 rfl dL_law_943 ?_
    refine v_csW (pc := 944) (as := [.ref (bs γ + 0), .int (iI (XS xs (j + 1))), .int (iI 1), .ref (bs γ + 263)]) C (cy_L_press G) (wM_L_153 G) (k_L_press G N hC hO (XS_r _ _) (Or.inr rfl)) dL_law_944 rfl rfl (by decide) (by decide) (Nat.le_of_ble_eq_true rfl) hcr (k_I (fun z1 σ1 q1 => ?_))
    obtain ⟨e1, h1o, hC1, hE1⟩ := q1
    refine v_st (mR_eq (hM.cong hE1)) ?_
    refine v_istore (pc := 947) C [(5, .int (iI z1)), (4, .int (iI j)), (0, .ref b0), (1, .ref (bs γ + 0)), (2, .ref (bs γ + 255)), (3, .ref (bs γ + 263))] dL_law_947 (by decide) rfl ?_
    refine v_aload_n (pc := 949) C 4 rfl dL_law_949 ?_
    refine v_aload_n (pc := 950) C 2 rfl dL_law_950 ?_
    refine v_iload (pc := 951) C 1 rfl dL_law_951 ?_
    refine v_iconst (pc := 953) C dL_law_953 ?_
    refine v_iadd (pc := 954) C dL_law_954 ?_
    refine v_sld (pc := 955) C E (by omega) dL_law_955 ?_
    refine v_aload_n (pc := 956) C 2 rfl dL_law_956 ?_
    refine v_iload (pc := 957) C 1 rfl dL_law_957 ?_
    refine v_iconst (pc := 959) C dL_law_959 ?_
    refine v_iadd (pc := 960) C dL_law_960 ?_
    refine v_sld (pc := 961) C E (by omega) dL_law_961 ?_
    refine v_if_eq (pc := 962) C 969 (XS_r _ _) dL_law_962 (by decide) (fun h => absurd h hb0) (fun _ => ?_)
    refine v_iconst (pc := 965) C dL_law_965 ?_
    refine v_goto (pc := 966) C 970 dL_law_966 (by decide) ?_
    refine v_cv (pc := 970) (as := [.int (iI (XS xs (j + 1))), .int (iI 1)]) C (cy_X6_press G) (wM_L_156 G) sh_255 (ci := 4) rfl rfl (k_X6_press G (XS_r _ _) hO.2.1 hW (Or.inr rfl)) dL_law_970 rfl rfl (by decide) (by decide) (Nat.le_of_ble_eq_true rfl) ⟨by omega, by omega⟩ (k_I (fun z2 σ2 q2 => ?_))
    obtain ⟨⟨p2, u2, x2, f2, rfl⟩, e2⟩ := q2
    refine v_istore (pc := 973) C [(6, .int (iI z2)), (5, .int (iI z1)), (4, .int (iI j)), (0, .ref b0), (1, .ref (bs γ + 0)), (2, .ref (bs γ + 255)), (3, .ref (bs γ + 263))] dL_law_973 (by decide) rfl ?_
    refine v_aload_n (pc := 975) C 5 rfl dL_law_975 ?_
    refine v_cv (pc := 976) (as := []) C (cy_X6_thrown G) (wM_L_108 G) sh_255 (ci := 4) rfl rfl (k_X6_thrown G) dL_law_976 rfl rfl (by decide) (by decide) (Nat.le_of_ble_eq_true rfl) ⟨by omega, by omega⟩ (k_I (fun z3 σ3 q3 => ?_))
    obtain ⟨e3, rfl⟩ := q3
    refine v_iload (pc := 979) C 1 rfl dL_law_979 ?_
    refine v_icmp_eqT (pc := 981) C 986 dL_law_981 (by decide) ((e3.trans (mA_w _ _ _ _ _ _ _)).trans e1.symm) ?_
    refine v_iload (pc := 986) C 1 rfl dL_law_986 ?_
    have hcd := cd_press s a t n d k i (XS xs (j + 1)) 1
    refine v_if_ne (pc := 988) C 1003 (by omega) dL_law_988 (by decide) (fun h0 => ?_) (fun h0 => ?_)
    · refine v_goto (pc := 1003) C 1932 dL_law_1003 (by decide) ?_
      exact v_lv _ [2, 3, 4, 5, 6] rfl (K _ _ _ _ _ _ _ _ _ _ _ _ _ (LI_next hC1 (ok_press hO (XS xs (j + 1)) 1 (Or.inr rfl))))
    · refine v_aload_n (pc := 991) C 6 rfl dL_law_991 ?_
      refine v_iconst (pc := 992) C dL_law_992 ?_
      refine v_lald (pc := 993) C sh_263 (by decide) (by decide) dL_law_993 (fun z9 e9 r9 => ?_)
      have h9 : z9 = bmz z2 := by rw [e9, mA_out, e2 (by omega)]; exact h1o (by omega)
      refine v_iload (pc := 994) C 0 rfl dL_law_994 ?_
      refine v_bm ?_
      refine v_i2l (pc := 996) C (bmz_r _) dL_law_996 ?_
      refine v_lcmp (pc := 997) C (by omega) (by have := bmz_r z2; omega) dL_law_997 ?_
      refine v_ti (x2 := 0) (by rw [if_neg (by omega), if_pos h9]) ?_
      refine v_if_eq (pc := 998) C 1003 (by first | omega | assumption) dL_law_998 (by decide) (fun _ => ?_) (fun h => absurd h (by decide))
      refine v_goto (pc := 1003) C 1932 dL_law_1003 (by decide) ?_
      exact v_lv _ [2, 3, 4, 5, 6] rfl (K _ _ _ _ _ _ _ _ _ _ _ _ _ (LI_next hC1 (ok_press hO (XS xs (j + 1)) 1 (Or.inr rfl))))

set_option maxHeartbeats 4000000 in
set_option maxRecDepth 100000 in
theorem lc_leak {γ : Gm} {φ : Fx} {b0 L : Nat} {xs : Nat → Int32} {A0 B0 : Nat} {Q : State → Prop} {j : Int} {τ : St} {w s a p u : Int} {t n x f d k i : Int → Int} (G : Glo γ) (N : GNc γ) (C : Cx γ φ RL cL_law 7 20) (E : LE γ φ b0 L xs) (hcr : A0 + 1 ≤ φ.2.2.1.cells ∧ B0 + 6 ≤ φ.2.2.1.slots) (hj : 0 ≤ j ∧ j + 6 ≤ L) (hI : LI τ w s a p u t n x f d k i)
    (K : ∀ (τ : St) (w s a p u : Int) (t n x f d k i : Int → Int), LI τ w s a p u t n x f d k i → Vw γ φ 7 (A0 + 1) (B0 + 6) Q τ 1932 [(4, .int (iI j)), (0, .ref b0), (1, .ref (bs γ + 0)), (2, .ref (bs γ + 255)), (3, .ref (bs γ + 263))] []) : Vw γ φ 7 A0 B0 Q τ 1006 [(4, .int (iI j)), (0, .ref b0), (1, .ref (bs γ + 0)), (2, .ref (bs γ + 255)), (3, .ref (bs γ + 263))] [] := by
  have hL := E.2.2.2
  obtain ⟨hM, hC, hO⟩ := hI
  have hW := hO.2.2.2.1
  refine v_aload_n (pc := 1006) C 2 rfl dL_law_1006 ?_
  refine v_aload_n (pc := 1007) C 1 rfl dL_law_1007 ?_
  refine v_iload (pc := 1008) C 0 rfl dL_law_1008 ?_
  refine v_iconst (pc := 1010) C dL_law_1010 ?_
  refine v_iadd (pc := 1011) C dL_law_1011 ?_
  refine v_sld (pc := 1012) C E (by omega) dL_law_1012 ?_
  refine v_aload_n (pc := 1013) C 1 rfl dL_law_1013 ?_
  refine v_iload (pc := 1014) C 0 rfl dL_law_1014 ?_
  refine v_iconst (pc := 1016) C dL_law_1016 ?_
  refine v_iadd (pc := 1017) C dL_law_1017 ?_
  refine v_sld (pc := 1018) C E (by omega) dL_law_1018 ?_
  refine v_aload_n (pc := 1019) C 4 rfl dL_law_1019 ?_
  refine v_csW (pc := 1020) (as := [.ref (bs γ + 0), .int (iI (XS xs (j + 1))), .int (iI (XS xs (j + 2))), .ref (bs γ + 263)]) C (cy_L_leak G) (wM_L_157 G) (k_L_leak G N hC hO (XS_r _ _) (XS_r _ _)) dL_law_1020 rfl rfl (by decide) (by decide) (Nat.le_of_ble_eq_true rfl) hcr (k_I (fun z1 σ1 q1 => ?_))
  obtain ⟨e1, h1o, hC1, hE1⟩ := q1
  refine v_st (mR_eq (hM.cong hE1)) ?_
  refine v_istore (pc := 1023) C [(5, .int (iI z1)), (4, .int (iI j)), (0, .ref b0), (1, .ref (bs γ + 0)), (2, .ref (bs γ + 255)), (3, .ref (bs γ + 263))] dL_law_1023 (by decide) rfl ?_
  refine v_aload_n (pc := 1025) C 4 rfl dL_law_1025 ?_
  refine v_aload_n (pc := 1026) C 2 rfl dL_law_1026 ?_
  refine v_iload (pc := 1027) C 1 rfl dL_law_1027 ?_
  refine v_iconst (pc := 1029) C dL_law_1029 ?_
  refine v_iadd (pc := 1030) C dL_law_1030 ?_
  refine v_sld (pc := 1031) C E (by omega) dL_law_1031 ?_
  refine v_aload_n (pc := 1032) C 2 rfl dL_law_1032 ?_
  refine v_iload (pc := 1033) C 1 rfl dL_law_1033 ?_
  refine v_iconst (pc := 1035) C dL_law_1035 ?_
  refine v_iadd (pc := 1036) C dL_law_1036 ?_
  refine v_sld (pc := 1037) C E (by omega) dL_law_1037 ?_
  refine v_cv (pc := 1038) (as := [.int (iI (XS xs (j + 1))), .int (iI (XS xs (j + 2)))]) C (cy_X6_leak G) (wM_L_159 G) sh_255 (ci := 4) rfl rfl (k_X6_leak G (XS_r _ _) (XS_r _ _) hO.2.1 hW) dL_law_1038 rfl rfl (by decide) (by decide) (Nat.le_of_ble_eq_true rfl) ⟨by omega, by omega⟩ (k_I (fun z2 σ2 q2 => ?_))
  obtain ⟨⟨p2, u2, x2, f2, rfl⟩, e2⟩ := q2
  refine v_istore (pc := 1041) C [(6, .int (iI z2)), (5, .int (iI z1)), (4, .int (iI j)), (0, .ref b0), (1, .ref (bs γ + 0)), (2, .ref (bs γ + 255)), (3, .ref (bs γ + 263))] dL_law_1041 (by decide) rfl ?_
  refine v_aload_n (pc := 1043) C 5 rfl dL_law_1043 ?_
  refine v_cv (pc := 1044) (as := []) C (cy_X6_thrown G) (wM_L_108 G) sh_255 (ci := 4) rfl rfl (k_X6_thrown G) dL_law_1044 rfl rfl (by decide) (by decide) (Nat.le_of_ble_eq_true rfl) ⟨by omega, by omega⟩ (k_I (fun z3 σ3 q3 => ?_))
  obtain ⟨e3, rfl⟩ := q3
  refine v_iload (pc := 1047) C 1 rfl dL_law_1047 ?_
  refine v_icmp_eqT (pc := 1049) C 1054 dL_law_1049 (by decide) ((e3.trans (mA_w _ _ _ _ _ _ _)).trans e1.symm) ?_
  refine v_iload (pc := 1054) C 1 rfl dL_law_1054 ?_
  have hcd := cd_leak s a t n d k i (XS xs (j + 1)) (XS xs (j + 2))
  refine v_if_ne (pc := 1056) C 1071 (by omega) dL_law_1056 (by decide) (fun h0 => ?_) (fun h0 => ?_)
  · refine v_goto (pc := 1071) C 1932 dL_law_1071 (by decide) ?_
    exact v_lv _ [2, 3, 4, 5, 6] rfl (K _ _ _ _ _ _ _ _ _ _ _ _ _ (LI_next hC1 (ok_leak hO (XS xs (j + 1)) (XS xs (j + 2)))))
  · refine v_aload_n (pc := 1059) C 6 rfl dL_law_1059 ?_
    refine v_iconst (pc := 1060) C dL_law_1060 ?_
    refine v_lald (pc := 1061) C sh_263 (by decide) (by decide) dL_law_1061 (fun z9 e9 r9 => ?_)
    have h9 : z9 = bmz z2 := by rw [e9, mA_out, e2 (by omega)]; exact h1o (by omega)
    refine v_iload (pc := 1062) C 0 rfl dL_law_1062 ?_
    refine v_bm ?_
    refine v_i2l (pc := 1064) C (bmz_r _) dL_law_1064 ?_
    refine v_lcmp (pc := 1065) C (by omega) (by have := bmz_r z2; omega) dL_law_1065 ?_
    refine v_ti (x2 := 0) (by rw [if_neg (by omega), if_pos h9]) ?_
    refine v_if_eq (pc := 1066) C 1071 (by first | omega | assumption) dL_law_1066 (by decide) (fun _ => ?_) (fun h => absurd h (by decide))
    refine v_goto (pc := 1071) C 1932 dL_law_1071 (by decide) ?_
    exact v_lv _ [2, 3, 4, 5, 6] rfl (K _ _ _ _ _ _ _ _ _ _ _ _ _ (LI_next hC1 (ok_leak hO (XS xs (j + 1)) (XS xs (j + 2)))))

set_option maxHeartbeats 4000000 in
set_option maxRecDepth 100000 in
theorem lc_feed {γ : Gm} {φ : Fx} {b0 L : Nat} {xs : Nat → Int32} {A0 B0 : Nat} {Q : State → Prop} {j : Int} {τ : St} {w s a p u : Int} {t n x f d k i : Int → Int} (G : Glo γ) (N : GNc γ) (C : Cx γ φ RL cL_law 7 20) (E : LE γ φ b0 L xs) (hcr : A0 + 1 ≤ φ.2.2.1.cells ∧ B0 + 6 ≤ φ.2.2.1.slots) (hj : 0 ≤ j ∧ j + 6 ≤ L) (hI : LI τ w s a p u t n x f d k i)
    (K : ∀ (τ : St) (w s a p u : Int) (t n x f d k i : Int → Int), LI τ w s a p u t n x f d k i → Vw γ φ 7 (A0 + 1) (B0 + 6) Q τ 1932 [(4, .int (iI j)), (0, .ref b0), (1, .ref (bs γ + 0)), (2, .ref (bs γ + 255)), (3, .ref (bs γ + 263))] []) : Vw γ φ 7 A0 B0 Q τ 1074 [(4, .int (iI j)), (0, .ref b0), (1, .ref (bs γ + 0)), (2, .ref (bs γ + 255)), (3, .ref (bs γ + 263))] [] := by
  have hL := E.2.2.2
  obtain ⟨hM, hC, hO⟩ := hI
  have hW := hO.2.2.2.1
  refine v_aload_n (pc := 1074) C 2 rfl dL_law_1074 ?_
  refine v_aload_n (pc := 1075) C 1 rfl dL_law_1075 ?_
  refine v_iload (pc := 1076) C 0 rfl dL_law_1076 ?_
  refine v_iconst (pc := 1078) C dL_law_1078 ?_
  refine v_iadd (pc := 1079) C dL_law_1079 ?_
  refine v_sld (pc := 1080) C E (by omega) dL_law_1080 ?_
  refine v_aload_n (pc := 1081) C 1 rfl dL_law_1081 ?_
  refine v_iload (pc := 1082) C 0 rfl dL_law_1082 ?_
  refine v_iconst (pc := 1084) C dL_law_1084 ?_
  refine v_iadd (pc := 1085) C dL_law_1085 ?_
  refine v_sld (pc := 1086) C E (by omega) dL_law_1086 ?_
  refine v_aload_n (pc := 1087) C 4 rfl dL_law_1087 ?_
  refine v_csW (pc := 1088) (as := [.ref (bs γ + 0), .int (iI (XS xs (j + 1))), .int (iI (XS xs (j + 2))), .ref (bs γ + 263)]) C (cy_L_feed G) (wM_L_160 G) (k_L_feed G N hC hO (XS_r _ _) (XS_r _ _)) dL_law_1088 rfl rfl (by decide) (by decide) (Nat.le_of_ble_eq_true rfl) hcr (k_I (fun z1 σ1 q1 => ?_))
  obtain ⟨e1, h1o, hC1, hE1⟩ := q1
  refine v_st (mR_eq (hM.cong hE1)) ?_
  refine v_istore (pc := 1091) C [(5, .int (iI z1)), (4, .int (iI j)), (0, .ref b0), (1, .ref (bs γ + 0)), (2, .ref (bs γ + 255)), (3, .ref (bs γ + 263))] dL_law_1091 (by decide) rfl ?_
  refine v_aload_n (pc := 1093) C 4 rfl dL_law_1093 ?_
  refine v_aload_n (pc := 1094) C 2 rfl dL_law_1094 ?_
  refine v_iload (pc := 1095) C 1 rfl dL_law_1095 ?_
  refine v_iconst (pc := 1097) C dL_law_1097 ?_
  refine v_iadd (pc := 1098) C dL_law_1098 ?_
  refine v_sld (pc := 1099) C E (by omega) dL_law_1099 ?_
  refine v_aload_n (pc := 1100) C 2 rfl dL_law_1100 ?_
  refine v_iload (pc := 1101) C 1 rfl dL_law_1101 ?_
  refine v_iconst (pc := 1103) C dL_law_1103 ?_
  refine v_iadd (pc := 1104) C dL_law_1104 ?_
  refine v_sld (pc := 1105) C E (by omega) dL_law_1105 ?_
  refine v_cv (pc := 1106) (as := [.int (iI (XS xs (j + 1))), .int (iI (XS xs (j + 2)))]) C (cy_X6_feed G) (wM_L_162 G) sh_255 (ci := 4) rfl rfl (k_X6_feed G (XS_r _ _) (XS_r _ _) hO.2.1 hW) dL_law_1106 rfl rfl (by decide) (by decide) (Nat.le_of_ble_eq_true rfl) ⟨by omega, by omega⟩ (k_I (fun z2 σ2 q2 => ?_))
  obtain ⟨⟨p2, u2, x2, f2, rfl⟩, e2⟩ := q2
  refine v_istore (pc := 1109) C [(6, .int (iI z2)), (5, .int (iI z1)), (4, .int (iI j)), (0, .ref b0), (1, .ref (bs γ + 0)), (2, .ref (bs γ + 255)), (3, .ref (bs γ + 263))] dL_law_1109 (by decide) rfl ?_
  refine v_aload_n (pc := 1111) C 5 rfl dL_law_1111 ?_
  refine v_cv (pc := 1112) (as := []) C (cy_X6_thrown G) (wM_L_108 G) sh_255 (ci := 4) rfl rfl (k_X6_thrown G) dL_law_1112 rfl rfl (by decide) (by decide) (Nat.le_of_ble_eq_true rfl) ⟨by omega, by omega⟩ (k_I (fun z3 σ3 q3 => ?_))
  obtain ⟨e3, rfl⟩ := q3
  refine v_iload (pc := 1115) C 1 rfl dL_law_1115 ?_
  refine v_icmp_eqT (pc := 1117) C 1122 dL_law_1117 (by decide) ((e3.trans (mA_w _ _ _ _ _ _ _)).trans e1.symm) ?_
  refine v_iload (pc := 1122) C 1 rfl dL_law_1122 ?_
  have hcd := cd_feed s a t n d k i (XS xs (j + 1)) (XS xs (j + 2))
  refine v_if_ne (pc := 1124) C 1139 (by omega) dL_law_1124 (by decide) (fun h0 => ?_) (fun h0 => ?_)
  · refine v_goto (pc := 1139) C 1932 dL_law_1139 (by decide) ?_
    exact v_lv _ [2, 3, 4, 5, 6] rfl (K _ _ _ _ _ _ _ _ _ _ _ _ _ (LI_next hC1 (ok_feed hO (XS xs (j + 1)) (XS xs (j + 2)))))
  · refine v_aload_n (pc := 1127) C 6 rfl dL_law_1127 ?_
    refine v_iconst (pc := 1128) C dL_law_1128 ?_
    refine v_lald (pc := 1129) C sh_263 (by decide) (by decide) dL_law_1129 (fun z9 e9 r9 => ?_)
    have h9 : z9 = bmz z2 := by rw [e9, mA_out, e2 (by omega)]; exact h1o (by omega)
    refine v_iload (pc := 1130) C 0 rfl dL_law_1130 ?_
    refine v_bm ?_
    refine v_i2l (pc := 1132) C (bmz_r _) dL_law_1132 ?_
    refine v_lcmp (pc := 1133) C (by omega) (by have := bmz_r z2; omega) dL_law_1133 ?_
    refine v_ti (x2 := 0) (by rw [if_neg (by omega), if_pos h9]) ?_
    refine v_if_eq (pc := 1134) C 1139 (by first | omega | assumption) dL_law_1134 (by decide) (fun _ => ?_) (fun h => absurd h (by decide))
    refine v_goto (pc := 1139) C 1932 dL_law_1139 (by decide) ?_
    exact v_lv _ [2, 3, 4, 5, 6] rfl (K _ _ _ _ _ _ _ _ _ _ _ _ _ (LI_next hC1 (ok_feed hO (XS xs (j + 1)) (XS xs (j + 2)))))

set_option maxHeartbeats 4000000 in
set_option maxRecDepth 100000 in
theorem lc_set {γ : Gm} {φ : Fx} {b0 L : Nat} {xs : Nat → Int32} {A0 B0 : Nat} {Q : State → Prop} {j : Int} {τ : St} {w s a p u : Int} {t n x f d k i : Int → Int} (G : Glo γ) (N : GNc γ) (C : Cx γ φ RL cL_law 7 20) (E : LE γ φ b0 L xs) (hcr : A0 + 1 ≤ φ.2.2.1.cells ∧ B0 + 6 ≤ φ.2.2.1.slots) (hj : 0 ≤ j ∧ j + 6 ≤ L) (hI : LI τ w s a p u t n x f d k i)
    (K : ∀ (τ : St) (w s a p u : Int) (t n x f d k i : Int → Int), LI τ w s a p u t n x f d k i → Vw γ φ 7 (A0 + 1) (B0 + 6) Q τ 1932 [(4, .int (iI j)), (0, .ref b0), (1, .ref (bs γ + 0)), (2, .ref (bs γ + 255)), (3, .ref (bs γ + 263))] []) : Vw γ φ 7 A0 B0 Q τ 1142 [(4, .int (iI j)), (0, .ref b0), (1, .ref (bs γ + 0)), (2, .ref (bs γ + 255)), (3, .ref (bs γ + 263))] [] := by
  have hL := E.2.2.2
  obtain ⟨hM, hC, hO⟩ := hI
  have hW := hO.2.2.2.1
  refine v_aload_n (pc := 1142) C 2 rfl dL_law_1142 ?_
  refine v_aload_n (pc := 1143) C 1 rfl dL_law_1143 ?_
  refine v_iload (pc := 1144) C 0 rfl dL_law_1144 ?_
  refine v_iconst (pc := 1146) C dL_law_1146 ?_
  refine v_iadd (pc := 1147) C dL_law_1147 ?_
  refine v_sld (pc := 1148) C E (by omega) dL_law_1148 ?_
  refine v_aload_n (pc := 1149) C 1 rfl dL_law_1149 ?_
  refine v_iload (pc := 1150) C 0 rfl dL_law_1150 ?_
  refine v_iconst (pc := 1152) C dL_law_1152 ?_
  refine v_iadd (pc := 1153) C dL_law_1153 ?_
  refine v_sld (pc := 1154) C E (by omega) dL_law_1154 ?_
  refine v_aload_n (pc := 1155) C 4 rfl dL_law_1155 ?_
  refine v_csW (pc := 1156) (as := [.ref (bs γ + 0), .int (iI (XS xs (j + 1))), .int (iI (XS xs (j + 2))), .ref (bs γ + 263)]) C (cy_L_set G) (wM_L_163 G) (k_L_set G N hC hO (XS_r _ _) (XS_r _ _)) dL_law_1156 rfl rfl (by decide) (by decide) (Nat.le_of_ble_eq_true rfl) hcr (k_I (fun z1 σ1 q1 => ?_))
  obtain ⟨e1, h1o, hC1, hE1⟩ := q1
  refine v_st (mR_eq (hM.cong hE1)) ?_
  refine v_istore (pc := 1159) C [(5, .int (iI z1)), (4, .int (iI j)), (0, .ref b0), (1, .ref (bs γ + 0)), (2, .ref (bs γ + 255)), (3, .ref (bs γ + 263))] dL_law_1159 (by decide) rfl ?_
  refine v_aload_n (pc := 1161) C 4 rfl dL_law_1161 ?_
  refine v_aload_n (pc := 1162) C 2 rfl dL_law_1162 ?_
  refine v_iload (pc := 1163) C 1 rfl dL_law_1163 ?_
  refine v_iconst (pc := 1165) C dL_law_1165 ?_
  refine v_iadd (pc := 1166) C dL_law_1166 ?_
  refine v_sld (pc := 1167) C E (by omega) dL_law_1167 ?_
  refine v_aload_n (pc := 1168) C 2 rfl dL_law_1168 ?_
  refine v_iload (pc := 1169) C 1 rfl dL_law_1169 ?_
  refine v_iconst (pc := 1171) C dL_law_1171 ?_
  refine v_iadd (pc := 1172) C dL_law_1172 ?_
  refine v_sld (pc := 1173) C E (by omega) dL_law_1173 ?_
  refine v_cv (pc := 1174) (as := [.int (iI (XS xs (j + 1))), .int (iI (XS xs (j + 2)))]) C (cy_X6_set G) (wM_L_165 G) sh_255 (ci := 4) rfl rfl (k2_X6_set G (XS_r _ _) (XS_r _ _) hO.2.1 hW) dL_law_1174 rfl rfl (by decide) (by decide) (Nat.le_of_ble_eq_true rfl) ⟨by omega, by omega⟩ (k_I (fun z2 σ2 q2 => ?_))
  obtain ⟨⟨p2, u2, x2, f2, rfl⟩, e2⟩ := q2
  refine v_istore (pc := 1177) C [(6, .int (iI z2)), (5, .int (iI z1)), (4, .int (iI j)), (0, .ref b0), (1, .ref (bs γ + 0)), (2, .ref (bs γ + 255)), (3, .ref (bs γ + 263))] dL_law_1177 (by decide) rfl ?_
  refine v_aload_n (pc := 1179) C 5 rfl dL_law_1179 ?_
  refine v_cv (pc := 1180) (as := []) C (cy_X6_thrown G) (wM_L_108 G) sh_255 (ci := 4) rfl rfl (k_X6_thrown G) dL_law_1180 rfl rfl (by decide) (by decide) (Nat.le_of_ble_eq_true rfl) ⟨by omega, by omega⟩ (k_I (fun z3 σ3 q3 => ?_))
  obtain ⟨e3, rfl⟩ := q3
  refine v_iload (pc := 1183) C 1 rfl dL_law_1183 ?_
  refine v_icmp_eqT (pc := 1185) C 1190 dL_law_1185 (by decide) ((e3.trans (mA_w _ _ _ _ _ _ _)).trans e1.symm) ?_
  refine v_iload (pc := 1190) C 1 rfl dL_law_1190 ?_
  have hcd := cd_set s a t n d k i (XS xs (j + 1)) (XS xs (j + 2))
  refine v_if_ne (pc := 1192) C 1207 (by omega) dL_law_1192 (by decide) (fun h0 => ?_) (fun h0 => ?_)
  · refine v_goto (pc := 1207) C 1932 dL_law_1207 (by decide) ?_
    exact v_lv _ [2, 3, 4, 5, 6] rfl (K _ _ _ _ _ _ _ _ _ _ _ _ _ (LI_next hC1 (ok_set hO (XS xs (j + 1)) (XS xs (j + 2)))))
  · refine v_aload_n (pc := 1195) C 6 rfl dL_law_1195 ?_
    refine v_iconst (pc := 1196) C dL_law_1196 ?_
    refine v_lald (pc := 1197) C sh_263 (by decide) (by decide) dL_law_1197 (fun z9 e9 r9 => ?_)
    have h9 : z9 = bmz z2 := by rw [e9, mA_out, e2 (by omega)]; exact h1o (by omega)
    refine v_iload (pc := 1198) C 0 rfl dL_law_1198 ?_
    refine v_bm ?_
    refine v_i2l (pc := 1200) C (bmz_r _) dL_law_1200 ?_
    refine v_lcmp (pc := 1201) C (by omega) (by have := bmz_r z2; omega) dL_law_1201 ?_
    refine v_ti (x2 := 0) (by rw [if_neg (by omega), if_pos h9]) ?_
    refine v_if_eq (pc := 1202) C 1207 (by first | omega | assumption) dL_law_1202 (by decide) (fun _ => ?_) (fun h => absurd h (by decide))
    refine v_goto (pc := 1207) C 1932 dL_law_1207 (by decide) ?_
    exact v_lv _ [2, 3, 4, 5, 6] rfl (K _ _ _ _ _ _ _ _ _ _ _ _ _ (LI_next hC1 (ok_set hO (XS xs (j + 1)) (XS xs (j + 2)))))

set_option maxHeartbeats 4000000 in
set_option maxRecDepth 100000 in
theorem lc_ticks {γ : Gm} {φ : Fx} {b0 L : Nat} {xs : Nat → Int32} {A0 B0 : Nat} {Q : State → Prop} {j : Int} {τ : St} {w s a p u : Int} {t n x f d k i : Int → Int} (G : Glo γ) (N : GNc γ) (C : Cx γ φ RL cL_law 7 20) (E : LE γ φ b0 L xs) (hcr : A0 + 1 ≤ φ.2.2.1.cells ∧ B0 + 6 ≤ φ.2.2.1.slots) (hj : 0 ≤ j ∧ j + 6 ≤ L) (hI : LI τ w s a p u t n x f d k i)
    (K : ∀ (τ : St) (w s a p u : Int) (t n x f d k i : Int → Int), LI τ w s a p u t n x f d k i → Vw γ φ 7 (A0 + 1) (B0 + 6) Q τ 1932 [(4, .int (iI j)), (0, .ref b0), (1, .ref (bs γ + 0)), (2, .ref (bs γ + 255)), (3, .ref (bs γ + 263))] []) : Vw γ φ 7 A0 B0 Q τ 1210 [(4, .int (iI j)), (0, .ref b0), (1, .ref (bs γ + 0)), (2, .ref (bs γ + 255)), (3, .ref (bs γ + 263))] [] := by
  have hL := E.2.2.2
  obtain ⟨hM, hC, hO⟩ := hI
  have hW := hO.2.2.2.1
  refine v_aload_n (pc := 1210) C 2 rfl dL_law_1210 ?_
  refine v_aload_n (pc := 1211) C 1 rfl dL_law_1211 ?_
  refine v_iload (pc := 1212) C 0 rfl dL_law_1212 ?_
  refine v_iconst (pc := 1214) C dL_law_1214 ?_
  refine v_iadd (pc := 1215) C dL_law_1215 ?_
  refine v_sld (pc := 1216) C E (by omega) dL_law_1216 ?_
  refine v_aload_n (pc := 1217) C 4 rfl dL_law_1217 ?_
  refine v_csW (pc := 1218) (as := [.ref (bs γ + 0), .int (iI (XS xs (j + 1))), .ref (bs γ + 263)]) C (cy_L_ticks G) (wM_L_166 G) (k_L_ticks G N hC hO (XS_r _ _)) dL_law_1218 rfl rfl (by decide) (by decide) (Nat.le_of_ble_eq_true rfl) hcr (k_I (fun z1 σ1 q1 => ?_))
  obtain ⟨e1, h1o, hC1, hE1⟩ := q1
  refine v_st (mR_eq (hM.cong hE1)) ?_
  refine v_istore (pc := 1221) C [(5, .int (iI z1)), (4, .int (iI j)), (0, .ref b0), (1, .ref (bs γ + 0)), (2, .ref (bs γ + 255)), (3, .ref (bs γ + 263))] dL_law_1221 (by decide) rfl ?_
  refine v_aload_n (pc := 1223) C 4 rfl dL_law_1223 ?_
  refine v_aload_n (pc := 1224) C 2 rfl dL_law_1224 ?_
  refine v_iload (pc := 1225) C 1 rfl dL_law_1225 ?_
  refine v_iconst (pc := 1227) C dL_law_1227 ?_
  refine v_iadd (pc := 1228) C dL_law_1228 ?_
  refine v_sld (pc := 1229) C E (by omega) dL_law_1229 ?_
  refine v_cv (pc := 1230) (as := [.int (iI (XS xs (j + 1)))]) C (cy_X6_ticks G) (wM_L_168 G) sh_255 (ci := 4) rfl rfl (k_X6_ticks G (XS_r _ _) hO.2.1 hW) dL_law_1230 rfl rfl (by decide) (by decide) (Nat.le_of_ble_eq_true rfl) ⟨by omega, by omega⟩ (k_I (fun z2 σ2 q2 => ?_))
  obtain ⟨⟨p2, u2, x2, f2, rfl⟩, e2⟩ := q2
  refine v_istore (pc := 1233) C [(6, .int (iI z2)), (5, .int (iI z1)), (4, .int (iI j)), (0, .ref b0), (1, .ref (bs γ + 0)), (2, .ref (bs γ + 255)), (3, .ref (bs γ + 263))] dL_law_1233 (by decide) rfl ?_
  refine v_aload_n (pc := 1235) C 5 rfl dL_law_1235 ?_
  refine v_cv (pc := 1236) (as := []) C (cy_X6_thrown G) (wM_L_108 G) sh_255 (ci := 4) rfl rfl (k_X6_thrown G) dL_law_1236 rfl rfl (by decide) (by decide) (Nat.le_of_ble_eq_true rfl) ⟨by omega, by omega⟩ (k_I (fun z3 σ3 q3 => ?_))
  obtain ⟨e3, rfl⟩ := q3
  refine v_iload (pc := 1239) C 1 rfl dL_law_1239 ?_
  refine v_icmp_eqT (pc := 1241) C 1246 dL_law_1241 (by decide) ((e3.trans (mA_w _ _ _ _ _ _ _)).trans e1.symm) ?_
  refine v_iload (pc := 1246) C 1 rfl dL_law_1246 ?_
  have hcd := cd_ticks s a t n d k i (XS xs (j + 1))
  refine v_if_ne (pc := 1248) C 1263 (by omega) dL_law_1248 (by decide) (fun h0 => ?_) (fun h0 => ?_)
  · refine v_goto (pc := 1263) C 1932 dL_law_1263 (by decide) ?_
    exact v_lv _ [2, 3, 4, 5, 6] rfl (K _ _ _ _ _ _ _ _ _ _ _ _ _ (LI_next hC1 (ok_ticks hO (XS xs (j + 1)))))
  · refine v_aload_n (pc := 1251) C 6 rfl dL_law_1251 ?_
    refine v_iconst (pc := 1252) C dL_law_1252 ?_
    refine v_lald (pc := 1253) C sh_263 (by decide) (by decide) dL_law_1253 (fun z9 e9 r9 => ?_)
    have h9 : z9 = bmz z2 := by rw [e9, mA_out, e2 (by omega)]; exact h1o (by omega)
    refine v_iload (pc := 1254) C 0 rfl dL_law_1254 ?_
    refine v_bm ?_
    refine v_i2l (pc := 1256) C (bmz_r _) dL_law_1256 ?_
    refine v_lcmp (pc := 1257) C (by omega) (by have := bmz_r z2; omega) dL_law_1257 ?_
    refine v_ti (x2 := 0) (by rw [if_neg (by omega), if_pos h9]) ?_
    refine v_if_eq (pc := 1258) C 1263 (by first | omega | assumption) dL_law_1258 (by decide) (fun _ => ?_) (fun h => absurd h (by decide))
    refine v_goto (pc := 1263) C 1932 dL_law_1263 (by decide) ?_
    exact v_lv _ [2, 3, 4, 5, 6] rfl (K _ _ _ _ _ _ _ _ _ _ _ _ _ (LI_next hC1 (ok_ticks hO (XS xs (j + 1)))))

set_option maxHeartbeats 4000000 in
set_option maxRecDepth 100000 in
theorem lc_undo {γ : Gm} {φ : Fx} {b0 L : Nat} {xs : Nat → Int32} {A0 B0 : Nat} {Q : State → Prop} {j : Int} {τ : St} {w s a p u : Int} {t n x f d k i : Int → Int} (G : Glo γ) (N : GNc γ) (C : Cx γ φ RL cL_law 7 20) (E : LE γ φ b0 L xs) (hcr : A0 + 1 ≤ φ.2.2.1.cells ∧ B0 + 6 ≤ φ.2.2.1.slots) (hj : 0 ≤ j ∧ j + 6 ≤ L) (hI : LI τ w s a p u t n x f d k i)
    (K : ∀ (τ : St) (w s a p u : Int) (t n x f d k i : Int → Int), LI τ w s a p u t n x f d k i → Vw γ φ 7 (A0 + 1) (B0 + 6) Q τ 1932 [(4, .int (iI j)), (0, .ref b0), (1, .ref (bs γ + 0)), (2, .ref (bs γ + 255)), (3, .ref (bs γ + 263))] []) : Vw γ φ 7 A0 B0 Q τ 1266 [(4, .int (iI j)), (0, .ref b0), (1, .ref (bs γ + 0)), (2, .ref (bs γ + 255)), (3, .ref (bs γ + 263))] [] := by
  have hL := E.2.2.2
  obtain ⟨hM, hC, hO⟩ := hI
  have hW := hO.2.2.2.1
  refine v_aload_n (pc := 1266) C 2 rfl dL_law_1266 ?_
  refine v_aload_n (pc := 1267) C 4 rfl dL_law_1267 ?_
  refine v_csW (pc := 1268) (as := [.ref (bs γ + 0), .ref (bs γ + 263)]) C (cy_L_undo G) (wM_L_169 G) (k_L_undo G N hC hO) dL_law_1268 rfl rfl (by decide) (by decide) (Nat.le_of_ble_eq_true rfl) hcr (k_I (fun z1 σ1 q1 => ?_))
  obtain ⟨e1, h1o, hC1, hE1⟩ := q1
  refine v_st (mR_eq (hM.cong hE1)) ?_
  refine v_istore (pc := 1271) C [(5, .int (iI z1)), (4, .int (iI j)), (0, .ref b0), (1, .ref (bs γ + 0)), (2, .ref (bs γ + 255)), (3, .ref (bs γ + 263))] dL_law_1271 (by decide) rfl ?_
  refine v_aload_n (pc := 1273) C 4 rfl dL_law_1273 ?_
  refine v_cv (pc := 1274) (as := []) C (cy_X6_undo G) (wM_L_171 G) sh_255 (ci := 4) rfl rfl (k_X6_undo G hO.2.1) dL_law_1274 rfl rfl (by decide) (by decide) (Nat.le_of_ble_eq_true rfl) ⟨by omega, by omega⟩ (k_I (fun z2 σ2 q2 => ?_))
  obtain ⟨⟨p2, u2, x2, f2, rfl⟩, e2⟩ := q2
  refine v_istore (pc := 1277) C [(6, .int (iI z2)), (5, .int (iI z1)), (4, .int (iI j)), (0, .ref b0), (1, .ref (bs γ + 0)), (2, .ref (bs γ + 255)), (3, .ref (bs γ + 263))] dL_law_1277 (by decide) rfl ?_
  refine v_aload_n (pc := 1279) C 5 rfl dL_law_1279 ?_
  refine v_cv (pc := 1280) (as := []) C (cy_X6_thrown G) (wM_L_108 G) sh_255 (ci := 4) rfl rfl (k_X6_thrown G) dL_law_1280 rfl rfl (by decide) (by decide) (Nat.le_of_ble_eq_true rfl) ⟨by omega, by omega⟩ (k_I (fun z3 σ3 q3 => ?_))
  obtain ⟨e3, rfl⟩ := q3
  refine v_iload (pc := 1283) C 1 rfl dL_law_1283 ?_
  refine v_icmp_eqT (pc := 1285) C 1290 dL_law_1285 (by decide) ((e3.trans (mA_w _ _ _ _ _ _ _)).trans e1.symm) ?_
  refine v_iload (pc := 1290) C 1 rfl dL_law_1290 ?_
  have hcd := cd_undo s a t n d k i
  refine v_if_ne (pc := 1292) C 1307 (by omega) dL_law_1292 (by decide) (fun h0 => ?_) (fun h0 => ?_)
  · refine v_goto (pc := 1307) C 1932 dL_law_1307 (by decide) ?_
    exact v_lv _ [2, 3, 4, 5, 6] rfl (K _ _ _ _ _ _ _ _ _ _ _ _ _ (LI_next hC1 (ok_undo hO)))
  · refine v_aload_n (pc := 1295) C 6 rfl dL_law_1295 ?_
    refine v_iconst (pc := 1296) C dL_law_1296 ?_
    refine v_lald (pc := 1297) C sh_263 (by decide) (by decide) dL_law_1297 (fun z9 e9 r9 => ?_)
    have h9 : z9 = bmz z2 := by rw [e9, mA_out, e2 (by omega)]; exact h1o (by omega)
    refine v_iload (pc := 1298) C 0 rfl dL_law_1298 ?_
    refine v_bm ?_
    refine v_i2l (pc := 1300) C (bmz_r _) dL_law_1300 ?_
    refine v_lcmp (pc := 1301) C (by omega) (by have := bmz_r z2; omega) dL_law_1301 ?_
    refine v_ti (x2 := 0) (by rw [if_neg (by omega), if_pos h9]) ?_
    refine v_if_eq (pc := 1302) C 1307 (by first | omega | assumption) dL_law_1302 (by decide) (fun _ => ?_) (fun h => absurd h (by decide))
    refine v_goto (pc := 1307) C 1932 dL_law_1307 (by decide) ?_
    exact v_lv _ [2, 3, 4, 5, 6] rfl (K _ _ _ _ _ _ _ _ _ _ _ _ _ (LI_next hC1 (ok_undo hO)))

set_option maxHeartbeats 4000000 in
set_option maxRecDepth 100000 in
theorem lc_restIn {γ : Gm} {φ : Fx} {b0 L : Nat} {xs : Nat → Int32} {A0 B0 : Nat} {Q : State → Prop} {j : Int} {τ : St} {w s a p u : Int} {t n x f d k i : Int → Int} (G : Glo γ) (N : GNc γ) (C : Cx γ φ RL cL_law 7 20) (E : LE γ φ b0 L xs) (hcr : A0 + 1 ≤ φ.2.2.1.cells ∧ B0 + 6 ≤ φ.2.2.1.slots) (hj : 0 ≤ j ∧ j + 6 ≤ L) (hI : LI τ w s a p u t n x f d k i)
    (K : ∀ (τ : St) (w s a p u : Int) (t n x f d k i : Int → Int), LI τ w s a p u t n x f d k i → Vw γ φ 7 (A0 + 1) (B0 + 6) Q τ 1932 [(4, .int (iI j)), (0, .ref b0), (1, .ref (bs γ + 0)), (2, .ref (bs γ + 255)), (3, .ref (bs γ + 263))] []) : Vw γ φ 7 A0 B0 Q τ 1310 [(4, .int (iI j)), (0, .ref b0), (1, .ref (bs γ + 0)), (2, .ref (bs γ + 255)), (3, .ref (bs γ + 263))] [] := by
  have hL := E.2.2.2
  obtain ⟨hM, hC, hO⟩ := hI
  have hW := hO.2.2.2.1
  refine v_aload_n (pc := 1310) C 2 rfl dL_law_1310 ?_
  refine v_cv (pc := 1311) (as := []) C (cy_X5_restIn G) (wM_L_172 G) sh_0 (ci := 3) rfl rfl (k_X5_restIn G hC hO) dL_law_1311 rfl rfl (by decide) (by decide) (Nat.le_of_ble_eq_true rfl) ⟨by omega, by omega⟩ (k_I (fun z1 σ1 q1 => ?_))
  obtain ⟨g1, e1, hC1, hE1⟩ := q1
  refine v_st (mR_eq (hM.cong (fun c c0 _ => hE1 c c0))) ?_
  refine v_aload_n (pc := 1314) C 3 rfl dL_law_1314 ?_
  refine v_cv (pc := 1315) (as := []) C (cy_X6_restIn G) (wM_L_175 G) sh_255 (ci := 4) rfl rfl (k_X6_restIn G hW) dL_law_1315 rfl rfl (by decide) (by decide) (Nat.le_of_ble_eq_true rfl) ⟨by omega, by omega⟩ (k_I (fun z2 σ2 q2 => ?_))
  obtain ⟨⟨p2, u2, x2, f2, rfl⟩, e2⟩ := q2
  refine v_icmp_eqT (pc := 1318) C 1932 dL_law_1318 (by decide) (e1.trans (e2 g1).symm) ?_
  exact v_wide (by omega) (by omega) (v_lv _ [0, 1, 2, 3, 4] rfl (K _ _ _ _ _ _ _ _ _ _ _ _ _ (LI_next hC1 (ok_restIn hO))))
