theorem figV_b {z : Int} {t : Int → Int} {n p a k lo hi : Int} (h : z = figV t n p a k lo hi) (h0 : 0 ≤ lo) (h1 : hi ≤ 99) (h2 : lo ≤ hi) : -1 ≤ z ∧ z ≤ hi := by
  rw [h]
  rcases figV_r t n p a k h0 h1 h2 with q | q <;> omega
theorem nums_s {t : Int → Int} {n : Int} {k : Nat} {p a q : Int} {i : Nat} {kk lo hi : Int} (h : (nums t n k p i).1 = a ∧ (nums t n k p i).2 = q) (hk : dgB k i = kk) (hl : loB k i = lo) (hh : hiB k i = hi) : (nums t n k p (i + 1)).1 = figV t n q a kk lo hi ∧ (nums t n k p (i + 1)).2 = figP t n q a kk lo hi := by
  subst hk; subst hl; subst hh
  rw [← h.1, ← h.2]
  exact ⟨rfl, rfl⟩

set_option maxHeartbeats 4000000 in
set_option maxRecDepth 100000 in
theorem k_X6_readDuct {γ : Gm} (G : Glo γ) {σ : St} {p u : Int} {r f : Int → Int} (hn : 0 ≤ σ 255 2 ∧ σ 255 2 ≤ 120) (hp : 0 ≤ p ∧ p ≤ 180) (ht : ∀ i, 0 ≤ i → i < σ 255 2 → 0 ≤ σ 256 i ∧ σ 256 i ≤ 255) (hW : Wf r) (hu : 0 ≤ u ∧ u ≤ 200) : Ct γ yX6_readDuct cX6_readDuct 7 (some .boolean) 7 [.ref (bs γ + 255), .ref (bs γ + 258)] (mT σ p u r f) (pI (fun z σ2 => (z = 1 ∧ ((nums (σ 256) (σ 255 2) 1 p 5).1 ≠ -1) ∧ σ2 = mT σ (nums (σ 256) (σ 255 2) 1 p 5).2 (u + cmdNo r 100 (fun i => (nums (σ 256) (σ 255 2) 1 p (i + 1)).1)) (cmdDo r 100 (fun i => (nums (σ 256) (σ 255 2) 1 p (i + 1)).1)) f) ∨ (z = 0 ∧ ¬ ((nums (σ 256) (σ 255 2) 1 p 5).1 ≠ -1) ∧ σ2 = mT σ (nums (σ 256) (σ 255 2) 1 p 5).2 u r f))) := by
  refine Ct.of G (by decide +kernel) (Nat.le_of_ble_eq_true rfl) (fun φ C hr => ?_)
  have C : Cx γ φ RX6 cX6_readDuct 7 7 := C
  have hc : sh 258 = (0, 268) ∧ 268 ≤ 4000 := ⟨sh_258, by decide⟩
  have hn0 := hW.1
  have hn1 := hW.2.1
  refine v_lv [(0, .ref (bs γ + 255)), (1, .ref (bs γ + 258))] [0, 1] rfl ?_
  have nd0 : (nums (σ 256) (σ 255 2) 1 p 0).1 = 0 ∧ (nums (σ 256) (σ 255 2) 1 p 0).2 = p := ⟨rfl, rfl⟩
  refine v_aload_n (pc := 0) C 0 rfl dX6_readDuct_0 ?_
  refine v_iconst (pc := 1) C dX6_readDuct_1 ?_
  refine v_cv (pc := 2) (as := [.int (iI 0)]) C (cy_X6_who G) (wM_X6_137 G) sh_255 (ci := 4) rfl rfl (k_X6_who G hn (by omega) ht (by omega)) dX6_readDuct_2 rfl rfl (by decide) (by decide) (Nat.le_of_ble_eq_true rfl) zc (k_I (fun z2 s2 q2 => ?_))
  obtain ⟨ez2, rfl⟩ := q2
  have bz2 := figV_b ez2 (by decide) (by decide) (by decide)
  have bp_2 := figP_r (σ 256) (σ 255 2) p 0 1 0 9
  have nd1 := nums_s (k := 1) (i := 0) nd0 (by decide : _ = (1 : Int)) (by decide : _ = (0 : Int)) (by decide : _ = (9 : Int))
  rw [← ez2] at nd1
  generalize figP (σ 256) (σ 255 2) p 0 1 0 9 = p_2 at bp_2 nd1 ⊢
  refine v_istore_n (pc := 5) C [(2, .int (iI z2)), (0, .ref (bs γ + 255)), (1, .ref (bs γ + 258))] dX6_readDuct_5 rfl (by decide) rfl ?_
  refine v_aload_n (pc := 6) C 1 rfl dX6_readDuct_6 ?_
  refine v_iload_n (pc := 7) C 0 rfl dX6_readDuct_7 ?_
  refine v_iconst (pc := 8) C dX6_readDuct_8 ?_
  refine v_iconst (pc := 9) C dX6_readDuct_9 ?_
  refine v_iconst (pc := 10) C dX6_readDuct_10 ?_
  refine v_cv (pc := 11) (as := [.int (iI z2), .int (iI 1), .int (iI 0), .int (iI 1)]) C (cy_X6_figures G) (wM_X6_133 G) sh_255 (ci := 4) rfl rfl (k_X6_figures1 G hn (by omega) ht (by omega) (by omega)) dX6_readDuct_11 rfl rfl (by decide) (by decide) (Nat.le_of_ble_eq_true rfl) zc (k_I (fun z11 s11 q11 => ?_))
  obtain ⟨ez11, rfl⟩ := q11
  have bz11 := figV_b ez11 (by decide) (by decide) (by decide)
  have bp_11 := figP_r (σ 256) (σ 255 2) p_2 z2 1 0 1
  have nd2 := nums_s (k := 1) (i := 1) nd1 (by decide : _ = (1 : Int)) (by decide : _ = (0 : Int)) (by decide : _ = (1 : Int))
  rw [← ez11] at nd2
  generalize figP (σ 256) (σ 255 2) p_2 z2 1 0 1 = p_11 at bp_11 nd2 ⊢
  refine v_istore_n (pc := 14) C [(3, .int (iI z11)), (2, .int (iI z2)), (0, .ref (bs γ + 255)), (1, .ref (bs γ + 258))] dX6_readDuct_14 rfl (by decide) rfl ?_
  refine v_aload_n (pc := 15) C 2 rfl dX6_readDuct_15 ?_
  refine v_iload_n (pc := 16) C 0 rfl dX6_readDuct_16 ?_
  refine v_cv (pc := 17) (as := [.int (iI z11)]) C (cy_X6_who G) (wM_X6_137 G) sh_255 (ci := 4) rfl rfl (k_X6_who G hn (by omega) ht (by omega)) dX6_readDuct_17 rfl rfl (by decide) (by decide) (Nat.le_of_ble_eq_true rfl) zc (k_I (fun z17 s17 q17 => ?_))
  obtain ⟨ez17, rfl⟩ := q17
  have bz17 := figV_b ez17 (by decide) (by decide) (by decide)
  have bp_17 := figP_r (σ 256) (σ 255 2) p_11 z11 1 0 9
  have nd3 := nums_s (k := 1) (i := 2) nd2 (by decide : _ = (1 : Int)) (by decide : _ = (0 : Int)) (by decide : _ = (9 : Int))
  rw [← ez17] at nd3
  generalize figP (σ 256) (σ 255 2) p_11 z11 1 0 9 = p_17 at bp_17 nd3 ⊢
  refine v_istore (pc := 20) C [(4, .int (iI z17)), (3, .int (iI z11)), (2, .int (iI z2)), (0, .ref (bs γ + 255)), (1, .ref (bs γ + 258))] dX6_readDuct_20 (by decide) rfl ?_
  refine v_aload_n (pc := 22) C 3 rfl dX6_readDuct_22 ?_
  refine v_iload (pc := 23) C 0 rfl dX6_readDuct_23 ?_
  refine v_iconst (pc := 25) C dX6_readDuct_25 ?_
  refine v_iconst (pc := 26) C dX6_readDuct_26 ?_
  refine v_iconst (pc := 27) C dX6_readDuct_27 ?_
  refine v_cv (pc := 28) (as := [.int (iI z17), .int (iI 1), .int (iI 0), .int (iI 1)]) C (cy_X6_figures G) (wM_X6_133 G) sh_255 (ci := 4) rfl rfl (k_X6_figures1 G hn (by omega) ht (by omega) (by omega)) dX6_readDuct_28 rfl rfl (by decide) (by decide) (Nat.le_of_ble_eq_true rfl) zc (k_I (fun z28 s28 q28 => ?_))
  obtain ⟨ez28, rfl⟩ := q28
  have bz28 := figV_b ez28 (by decide) (by decide) (by decide)
  have bp_28 := figP_r (σ 256) (σ 255 2) p_17 z17 1 0 1
  have nd4 := nums_s (k := 1) (i := 3) nd3 (by decide : _ = (1 : Int)) (by decide : _ = (0 : Int)) (by decide : _ = (1 : Int))
  rw [← ez28] at nd4
  generalize figP (σ 256) (σ 255 2) p_17 z17 1 0 1 = p_28 at bp_28 nd4 ⊢
  refine v_istore (pc := 31) C [(5, .int (iI z28)), (4, .int (iI z17)), (3, .int (iI z11)), (2, .int (iI z2)), (0, .ref (bs γ + 255)), (1, .ref (bs γ + 258))] dX6_readDuct_31 (by decide) rfl ?_
  refine v_aload_n (pc := 33) C 4 rfl dX6_readDuct_33 ?_
  refine v_iload (pc := 34) C 0 rfl dX6_readDuct_34 ?_
  refine v_iconst (pc := 36) C dX6_readDuct_36 ?_
  refine v_iconst (pc := 37) C dX6_readDuct_37 ?_
  refine v_bipush (pc := 38) C (by decide +kernel) dX6_readDuct_38 ?_
  refine v_cv (pc := 40) (as := [.int (iI z28), .int (iI 1), .int (iI 1), .int (iI 6)]) C (cy_X6_figures G) (wM_X6_133 G) sh_255 (ci := 4) rfl rfl (k_X6_figures1 G hn (by omega) ht (by omega) (by omega)) dX6_readDuct_40 rfl rfl (by decide) (by decide) (Nat.le_of_ble_eq_true rfl) zc (k_I (fun z40 s40 q40 => ?_))
  obtain ⟨ez40, rfl⟩ := q40
  have bz40 := figV_b ez40 (by decide) (by decide) (by decide)
  have bp_40 := figP_r (σ 256) (σ 255 2) p_28 z28 1 1 6
  have nd5 := nums_s (k := 1) (i := 4) nd4 (by decide : _ = (1 : Int)) (by decide : _ = (1 : Int)) (by decide : _ = (6 : Int))
  rw [← ez40] at nd5
  generalize figP (σ 256) (σ 255 2) p_28 z28 1 1 6 = p_40 at bp_40 nd5 ⊢
  refine v_istore (pc := 43) C [(6, .int (iI z40)), (5, .int (iI z28)), (4, .int (iI z17)), (3, .int (iI z11)), (2, .int (iI z2)), (0, .ref (bs γ + 255)), (1, .ref (bs γ + 258))] dX6_readDuct_43 (by decide) rfl ?_
  refine v_iload (pc := 45) C 0 rfl dX6_readDuct_45 ?_
  refine v_iconst (pc := 47) C dX6_readDuct_47 ?_
  refine v_icmp_eq (pc := 48) C 97 (by first | omega | assumption) (by first | omega | assumption) dX6_readDuct_48 (by decide) (fun h48 => ?_) (fun h48 => ?_)
  · refine v_iconst (pc := 97) C dX6_readDuct_97 ?_
    exact v_iret (pc := 98) C hr (rfl) dX6_readDuct_98 (⟨_, rfl, Or.inr ⟨rfl, fun h => h (nd5.1.trans h48), by rw [nd5.2]⟩⟩)
  · refine v_aload_n (pc := 51) C 5 rfl dX6_readDuct_51 ?_
    refine v_aload_n (pc := 52) C 6 rfl dX6_readDuct_52 ?_
    refine v_iload_n (pc := 53) C 4 rfl dX6_readDuct_53 ?_
    refine v_iload_n (pc := 54) C 3 rfl dX6_readDuct_54 ?_
    refine v_iload (pc := 55) C 2 rfl dX6_readDuct_55 ?_
    refine v_iload (pc := 57) C 1 rfl dX6_readDuct_57 ?_
    refine v_iload (pc := 59) C 0 rfl dX6_readDuct_59 ?_
    refine v_st (mT_i8 _ _ _ _ _) ?_
    refine v_cs (pc := 61) (as := [.ref (bs γ + 258), .int (iI z2), .int (iI z11), .int (iI z17), .int (iI z28), .int (iI z40)]) C (cy_X6_canDuct G) (wM_X6_141 G) (k_X6_canDuct G hc (by omega) (by omega) (by omega) (by omega) (by omega) (by omega)) dX6_readDuct_61 rfl rfl (by decide) (by decide) (Nat.le_of_ble_eq_true rfl) zc (k_I (fun z61 s61 q61 => ?_))
    rcases q61 with ⟨⟨rfl, q61⟩ | ⟨rfl, q61⟩, rfl⟩
    · rw [mT_o8]
      have hno : cmdNo r 100 (fun i => (nums (σ 256) (σ 255 2) 1 p (i + 1)).1) = 0 := by unfold cmdNo; rw [if_neg (by decide), if_pos rfl]; refine if_pos ?_; dsimp only; rw [nd1.1, nd2.1, nd3.1, nd4.1, nd5.1]; exact q61
      have hdo : cmdDo r 100 (fun i => (nums (σ 256) (σ 255 2) 1 p (i + 1)).1) = ductR r z2 z11 z17 z28 z40 := by unfold cmdDo; rw [hno, if_neg (by decide), if_neg (by decide), if_pos rfl]; dsimp only; rw [nd1.1, nd2.1, nd3.1, nd4.1, nd5.1]
      refine v_if_eq (pc := 64) C 86 (by first | omega | assumption) dX6_readDuct_64 (by decide) (fun h => absurd h (by decide)) (fun _ => ?_)
      refine v_aload_n (pc := 67) C 6 rfl dX6_readDuct_67 ?_
      refine v_iload_n (pc := 68) C 4 rfl dX6_readDuct_68 ?_
      refine v_iload_n (pc := 69) C 3 rfl dX6_readDuct_69 ?_
      refine v_iload (pc := 70) C 2 rfl dX6_readDuct_70 ?_
      refine v_iload (pc := 72) C 1 rfl dX6_readDuct_72 ?_
      refine v_iload (pc := 74) C 0 rfl dX6_readDuct_74 ?_
      obtain ⟨⟨⟨c1, c2⟩, c3, c4⟩, c5, c6⟩ := id q61
      refine v_st (mT_i8 _ _ _ _ _) ?_
      refine v_cs (pc := 76) (as := [.ref (bs γ + 258), .int (iI z2), .int (iI z11), .int (iI z17), .int (iI z28), .int (iI z40)]) C (cy_X6_ductOn G) (wM_X6_145 G) (k_X6_ductOn G hc (by omega) (by first | omega | assumption) (by first | omega | assumption) (by first | omega | assumption) (by first | omega | assumption) (by first | omega | assumption)) dX6_readDuct_76 rfl rfl (by decide) (by decide) (Nat.le_of_ble_eq_true rfl) zc (k_I (fun z76 s76 q76 => ?_))
      obtain ⟨ez76, rfl⟩ := q76
      rw [mT_o8]
      refine v_if_lt (pc := 79) C 86 (by first | omega | assumption) dX6_readDuct_79 (by decide) (fun h79 => absurd h79 (by omega)) (fun h79 => ?_)
      refine v_iconst (pc := 82) C dX6_readDuct_82 ?_
      refine v_goto (pc := 83) C 87 dX6_readDuct_83 (by decide) ?_
      refine v_cv (pc := 87) (as := [.int (iI 1)]) C (cy_X6_done G) (wM_X6_149 G) sh_255 (ci := 4) rfl rfl (k_X6_done G (by omega) (by omega)) dX6_readDuct_87 rfl rfl (by decide) (by decide) (Nat.le_of_ble_eq_true rfl) zc (k_I (fun z87 s87 q87 => ?_))
      obtain ⟨rfl, rfl⟩ := q87
      refine v_if_eq (pc := 90) C 97 (by first | omega | assumption) dX6_readDuct_90 (by decide) (fun h => absurd h (by decide)) (fun _ => ?_)
      refine v_iconst (pc := 93) C dX6_readDuct_93 ?_
      refine v_goto (pc := 94) C 98 dX6_readDuct_94 (by decide) ?_
      exact v_iret (pc := 98) C hr (rfl) dX6_readDuct_98 (⟨_, rfl, Or.inl ⟨rfl, fun h => h48 (nd5.1.symm.trans h), by rw [nd5.2, hno, hdo]; rfl⟩⟩)
    · rw [mT_o8]
      have hno : cmdNo r 100 (fun i => (nums (σ 256) (σ 255 2) 1 p (i + 1)).1) = 1 := by unfold cmdNo; rw [if_neg (by decide), if_pos rfl]; refine if_neg ?_; dsimp only; rw [nd1.1, nd2.1, nd3.1, nd4.1, nd5.1]; exact q61
      have hdo : cmdDo r 100 (fun i => (nums (σ 256) (σ 255 2) 1 p (i + 1)).1) = r := by unfold cmdDo; rw [hno, if_pos rfl]
      refine v_if_eq (pc := 64) C 86 (by first | omega | assumption) dX6_readDuct_64 (by decide) (fun _ => ?_) (fun h => absurd h (by decide))
      refine v_iconst (pc := 86) C dX6_readDuct_86 ?_
      refine v_cv (pc := 87) (as := [.int (iI 0)]) C (cy_X6_done G) (wM_X6_149 G) sh_255 (ci := 4) rfl rfl (k_X6_done G (by omega) (by omega)) dX6_readDuct_87 rfl rfl (by decide) (by decide) (Nat.le_of_ble_eq_true rfl) zc (k_I (fun z87_1 s87_1 q87_1 => ?_))
      obtain ⟨rfl, rfl⟩ := q87_1
      refine v_if_eq (pc := 90) C 97 (by first | omega | assumption) dX6_readDuct_90 (by decide) (fun h => absurd h (by decide)) (fun _ => ?_)
      refine v_iconst (pc := 93) C dX6_readDuct_93 ?_
      refine v_goto (pc := 94) C 98 dX6_readDuct_94 (by decide) ?_
      exact v_iret (pc := 98) C hr (rfl) dX6_readDuct_98 (⟨_, rfl, Or.inl ⟨rfl, fun h => h48 (nd5.1.symm.trans h), by rw [nd5.2, hno, hdo]; rfl⟩⟩)
