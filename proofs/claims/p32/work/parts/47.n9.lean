set_option maxHeartbeats 4000000 in
set_option maxRecDepth 100000 in
theorem k_X4_readStart {γ : Gm} (G : Glo γ) {σ : St} {s p l : Int} {N t : Int → Int} (hs : 0 ≤ s ∧ s ≤ 120) (h1 : σ 1 1 = s) (ht : ∀ j, 0 ≤ j → j < s → σ 2 j = t j) (htr : ∀ j, 0 ≤ j → j < s → 0 ≤ t j ∧ t j ≤ 255)  : Ct γ yX4_readStart cX4_readStart 1 (some .boolean) 1 [.ref (bs γ + 1)] (tS σ p l N) (pI (fun z σ2 => (z = 1 ∧ ¬ (s = 0 ∨ t 0 ≠ 87) ∧ σ2 = tS σ 1 l N) ∨ (z = 0 ∧ (s = 0 ∨ t 0 ≠ 87) ∧ σ2 = tS σ 0 l N))) := by
  refine Ct.of G (by decide +kernel) (Nat.le_of_ble_eq_true rfl) (fun φ C hr => ?_)
  have C : Cx γ φ RX4 cX4_readStart 1 1 := C
  refine v_lv [(0, .ref (bs γ + 1))] [0] rfl ?_
  refine v_aload_n (pc := 0) C 0 rfl dX4_readStart_0 ?_
  refine v_iconst (pc := 1) C dX4_readStart_1 ?_
  refine v_puti (pc := 2) C inX4 goX4 (ci := 2) rfl 2 (by decide) (wF_X4_23 G) rfl sh_1 tyX4 tyX4_ok nmX4 rfl rfl (fun _ => Nat.le_of_ble_eq_true rfl) (fun _ _ => ob_set_X4_2) (by first | omega | assumption) dX4_readStart_2 ?_
  refine v_st (tS_p2 _ _ _ _ _) ?_
  refine v_aload_n (pc := 5) C 0 rfl dX4_readStart_5 ?_
  refine v_geti (pc := 6) C inX4 goX4 (ci := 2) rfl 1 (by decide) (wF_X4_33 G) rfl sh_1 1 rfl dX4_readStart_6 (fun z6 ez6 rz6 => ?_)
  rw [tS_1] at ez6
  refine v_if_eq (pc := 9) C 23 (by first | omega | assumption) dX4_readStart_9 (by decide) (fun h9 => ?_) (fun h9 => ?_)
  · refine v_iconst (pc := 23) C dX4_readStart_23 ?_
    exact v_iret (pc := 24) C hr (rfl) dX4_readStart_24 (⟨_, rfl, Or.inr ⟨rfl, by omega, rfl⟩⟩)
  · refine v_aload_n (pc := 12) C 0 rfl dX4_readStart_12 ?_
    refine v_getr (pc := 13) C inX4 goX4 (ci := 2) rfl 0 (by decide) (wF_X4_9 G) rfl sh_1 (2) rfl dX4_readStart_13 ?_
    refine v_iconst (pc := 16) C dX4_readStart_16 ?_
    refine v_cald (pc := 17) C sh_2 (by decide) (by first | omega | assumption) dX4_readStart_17 (fun z17 ez17 rz17 => ?_)
    rw [tS_s] at ez17
    have wz17 : z17 = t 0 := ez17.trans (ht 0 (by omega) (by omega))
    refine v_bipush (pc := 18) C (by decide +kernel) dX4_readStart_18 ?_
    refine v_icmp_eq (pc := 20) C 25 (by first | omega | assumption) (by first | omega | assumption) dX4_readStart_20 (by decide) (fun h20 => ?_) (fun h20 => ?_)
    · refine v_aload_n (pc := 25) C 0 rfl dX4_readStart_25 ?_
      refine v_iconst (pc := 26) C dX4_readStart_26 ?_
      refine v_puti (pc := 27) C inX4 goX4 (ci := 2) rfl 2 (by decide) (wF_X4_23 G) rfl sh_1 tyX4 tyX4_ok nmX4 rfl rfl (fun _ => Nat.le_of_ble_eq_true rfl) (fun _ _ => ob_set_X4_2) (by first | omega | assumption) dX4_readStart_27 ?_
      refine v_st (tS_p2 _ _ _ _ _) ?_
      refine v_iconst (pc := 30) C dX4_readStart_30 ?_
      exact v_iret (pc := 31) C hr (rfl) dX4_readStart_31 (⟨_, rfl, Or.inl ⟨rfl, by omega, rfl⟩⟩)
    · refine v_iconst (pc := 23) C dX4_readStart_23 ?_
      exact v_iret (pc := 24) C hr (rfl) dX4_readStart_24 (⟨_, rfl, Or.inr ⟨rfl, by omega, rfl⟩⟩)

set_option maxHeartbeats 4000000 in
set_option maxRecDepth 100000 in
theorem k_X4_hasMore {γ : Gm} (G : Glo γ) {σ : St} {s p l : Int} {N t : Int → Int} (hs : 0 ≤ s ∧ s ≤ 120) (h1 : σ 1 1 = s) (ht : ∀ j, 0 ≤ j → j < s → σ 2 j = t j) (htr : ∀ j, 0 ≤ j → j < s → 0 ≤ t j ∧ t j ≤ 255)  : Ct γ yX4_hasMore cX4_hasMore 1 (some .boolean) 1 [.ref (bs γ + 1)] (tS σ p l N) (pI (fun z σ2 => (z = 1 ∧ (p < s) ∨ z = 0 ∧ ¬ (p < s)) ∧ σ2 = tS σ p l N)) := by
  refine Ct.of G (by decide +kernel) (Nat.le_of_ble_eq_true rfl) (fun φ C hr => ?_)
  have C : Cx γ φ RX4 cX4_hasMore 1 1 := C
  refine v_lv [(0, .ref (bs γ + 1))] [0] rfl ?_
  refine v_aload_n (pc := 0) C 0 rfl dX4_hasMore_0 ?_
  refine v_geti (pc := 1) C inX4 goX4 (ci := 2) rfl 2 (by decide) (wF_X4_23 G) rfl sh_1 2 rfl dX4_hasMore_1 (fun z1 ez1 rz1 => ?_)
  rw [tS_2] at ez1
  refine v_aload_n (pc := 4) C 0 rfl dX4_hasMore_4 ?_
  refine v_geti (pc := 5) C inX4 goX4 (ci := 2) rfl 1 (by decide) (wF_X4_33 G) rfl sh_1 1 rfl dX4_hasMore_5 (fun z5 ez5 rz5 => ?_)
  rw [tS_1] at ez5
  refine v_icmp_ge (pc := 8) C 15 (by first | omega | assumption) (by first | omega | assumption) dX4_hasMore_8 (by decide) (fun h8 => ?_) (fun h8 => ?_)
  · refine v_iconst (pc := 15) C dX4_hasMore_15 ?_
    exact v_iret (pc := 16) C hr (rfl) dX4_hasMore_16 (⟨_, rfl, Or.inr ⟨rfl, by omega⟩, rfl⟩)
  · refine v_iconst (pc := 11) C dX4_hasMore_11 ?_
    refine v_goto (pc := 12) C 16 dX4_hasMore_12 (by decide) ?_
    exact v_iret (pc := 16) C hr (rfl) dX4_hasMore_16 (⟨_, rfl, Or.inl ⟨rfl, by omega⟩, rfl⟩)

set_option maxHeartbeats 4000000 in
set_option maxRecDepth 100000 in
theorem k_X4_readNumber {γ : Gm} (G : Glo γ) {σ : St} {s p l : Int} {N t : Int → Int} {i lo hi : Int} (hs : 0 ≤ s ∧ s ≤ 120) (h1 : σ 1 1 = s) (ht : ∀ j, 0 ≤ j → j < s → σ 2 j = t j) (htr : ∀ j, 0 ≤ j → j < s → 0 ≤ t j ∧ t j ≤ 255) (hp : 0 ≤ p ∧ p ≤ 200) (hi5 : 0 ≤ i ∧ i < 5) (hl : 0 ≤ lo ∧ lo ≤ hi ∧ hi ≤ 99) : Ct γ yX4_readNumber cX4_readNumber 9 (some .boolean) 2 [.ref (bs γ + 1), .int (iI i), .int (iI lo), .int (iI hi)] (tS σ p l N) (pI (fun z σ2 => (z = 1 ∧ figV t s p 0 (if hi > 9 then 2 else 1) lo hi ≠ -1 ∧ σ2 = tS σ (figP t s p 0 (if hi > 9 then 2 else 1) lo hi) l (upr N i (figV t s p 0 (if hi > 9 then 2 else 1) lo hi))) ∨ (z = 0 ∧ figV t s p 0 (if hi > 9 then 2 else 1) lo hi = -1 ∧ σ2 = tS σ (figP t s p 0 (if hi > 9 then 2 else 1) lo hi) l N))) := by
  refine Ct.of G (by decide +kernel) (Nat.le_of_ble_eq_true rfl) (fun φ C hr => ?_)
  have C : Cx γ φ RX4 cX4_readNumber 9 2 := C
  refine v_lv [(0, .ref (bs γ + 1)), (1, .int (iI i)), (2, .int (iI lo)), (3, .int (iI hi))] [0, 1, 2, 3] rfl ?_
  refine v_iload_n (pc := 0) C 3 rfl dX4_readNumber_0 ?_
  refine v_bipush (pc := 1) C (by decide +kernel) dX4_readNumber_1 ?_
  refine v_icmp_le (pc := 3) C 10 (by first | omega | assumption) (by first | omega | assumption) dX4_readNumber_3 (by decide) (fun h3 => ?_) (fun h3 => ?_)
  · refine v_iconst (pc := 10) C dX4_readNumber_10 ?_
    refine v_istore (pc := 11) C [(4, .int (iI 1)), (0, .ref (bs γ + 1)), (1, .int (iI i)), (2, .int (iI lo)), (3, .int (iI hi))] dX4_readNumber_11 (by decide) rfl ?_
    have hdd : (if hi > 9 then (2 : Int) else 1) = 1 := if_neg (by omega)
    refine v_iconst (pc := 13) C dX4_readNumber_13 ?_
    refine v_istore (pc := 14) C [(5, .int (iI 0)), (4, .int (iI 1)), (0, .ref (bs γ + 1)), (1, .int (iI i)), (2, .int (iI lo)), (3, .int (iI hi))] dX4_readNumber_14 (by decide) rfl ?_
    refine v_iconst (pc := 16) C dX4_readNumber_16 ?_
    refine v_istore (pc := 17) C [(6, .int (iI 1)), (5, .int (iI 0)), (4, .int (iI 1)), (0, .ref (bs γ + 1)), (1, .int (iI i)), (2, .int (iI lo)), (3, .int (iI hi))] dX4_readNumber_17 (by decide) rfl ?_
    refine v_iload (pc := 19) C 0 rfl dX4_readNumber_19 ?_
    refine v_iload (pc := 21) C 2 rfl dX4_readNumber_21 ?_
    refine v_icmp_gt (pc := 23) C 131 (by first | omega | assumption) (by first | omega | assumption) dX4_readNumber_23 (by decide) (fun h => absurd h (by decide)) (fun _ => ?_)
    refine v_aload_n (pc := 26) C 3 rfl dX4_readNumber_26 ?_
    refine v_cv (pc := 27) (as := []) C (cy_X4_hasMore G) (wM_X4_27 G) sh_1 (ci := 2) rfl rfl (k_X4_hasMore G hs h1 ht htr ) dX4_readNumber_27 rfl rfl (by decide) (by decide) (Nat.le_of_ble_eq_true rfl) zc (k_I (fun z27 s27 q27 => ?_))
    rcases q27 with ⟨⟨rfl, q27⟩ | ⟨rfl, q27⟩, rfl⟩
    · refine v_if_eq (pc := 30) C 52 (by first | omega | assumption) dX4_readNumber_30 (by decide) (fun h => absurd h (by decide)) (fun _ => ?_)
      refine v_aload_n (pc := 33) C 3 rfl dX4_readNumber_33 ?_
      refine v_getr (pc := 34) C inX4 goX4 (ci := 2) rfl 0 (by decide) (wF_X4_9 G) rfl sh_1 (2) rfl dX4_readNumber_34 ?_
      refine v_aload_n (pc := 37) C 3 rfl dX4_readNumber_37 ?_
      refine v_geti (pc := 38) C inX4 goX4 (ci := 2) rfl 2 (by decide) (wF_X4_23 G) rfl sh_1 2 rfl dX4_readNumber_38 (fun z38 ez38 rz38 => ?_)
      rw [tS_2] at ez38
      refine v_cald (pc := 41) C sh_2 (by decide) (by first | omega | assumption) dX4_readNumber_41 (fun z41 ez41 rz41 => ?_)
      rw [tS_s] at ez41
      have wz41 : z41 = t p := ez41.trans ((congrArg (σ 2) (by omega)).trans (ht p (by omega) (by omega)))
      have hz41 := htr p (by omega) (by omega)
      have gz41 : dg t s p = z41 - 48 := by unfold dg; rw [if_pos (by omega), wz41]
      refine v_bipush (pc := 42) C (by decide +kernel) dX4_readNumber_42 ?_
      refine v_bipush (pc := 44) C (by decide +kernel) dX4_readNumber_44 ?_
      refine v_csN (pc := 46) (as := [.int (iI z41), .int (iI 48), .int (iI 57)]) C (cy_X5_isIn G) (wN_X4_65 G) (k_X5_isIn G (by first | omega | assumption) (by first | omega | assumption) (by first | omega | assumption)) dX4_readNumber_46 rfl rfl (by decide) (by decide) (Nat.le_of_ble_eq_true rfl) zc (k_I (fun z46 s46 q46 => ?_))
      rcases q46 with ⟨⟨rfl, q46⟩ | ⟨rfl, q46⟩, rfl⟩
      · refine v_if_ne (pc := 49) C 54 (by first | omega | assumption) dX4_readNumber_49 (by decide) (fun _ => ?_) (fun h => absurd h (by decide))
        refine v_bipush (pc := 54) C (by decide +kernel) dX4_readNumber_54 ?_
        refine v_iload (pc := 56) C 1 rfl dX4_readNumber_56 ?_
        refine v_imul (pc := 58) C dX4_readNumber_58 ?_
        refine v_ti (x2 := 0) (by decide) ?_
        refine v_aload_n (pc := 59) C 3 rfl dX4_readNumber_59 ?_
        refine v_getr (pc := 60) C inX4 goX4 (ci := 2) rfl 0 (by decide) (wF_X4_9 G) rfl sh_1 (2) rfl dX4_readNumber_60 ?_
        refine v_aload_n (pc := 63) C 3 rfl dX4_readNumber_63 ?_
        refine v_geti (pc := 64) C inX4 goX4 (ci := 2) rfl 2 (by decide) (wF_X4_23 G) rfl sh_1 2 rfl dX4_readNumber_64 (fun z64 ez64 rz64 => ?_)
        rw [tS_2] at ez64
        refine v_cald (pc := 67) C sh_2 (by decide) (by first | omega | assumption) dX4_readNumber_67 (fun z67 ez67 rz67 => ?_)
        rw [tS_s] at ez67
        have wz67 : z67 = t p := ez67.trans ((congrArg (σ 2) (by omega)).trans (ht p (by omega) (by omega)))
        have hz67 := htr p (by omega) (by omega)
        have gz67 : dg t s p = z67 - 48 := by unfold dg; rw [if_pos (by omega), wz67]
        refine v_iadd (pc := 68) C dX4_readNumber_68 ?_
        refine v_bipush (pc := 69) C (by decide +kernel) dX4_readNumber_69 ?_
        refine v_isub (pc := 71) C dX4_readNumber_71 ?_
        refine v_nm (fun num enum => ?_)
        refine v_istore (pc := 72) C [(5, .int (iI num)), (6, .int (iI 1)), (4, .int (iI 1)), (0, .ref (bs γ + 1)), (1, .int (iI i)), (2, .int (iI lo)), (3, .int (iI hi))] dX4_readNumber_72 (by decide) rfl ?_
        refine v_iload (pc := 74) C 1 rfl dX4_readNumber_74 ?_
        refine v_iload (pc := 76) C 2 rfl dX4_readNumber_76 ?_
        refine v_icmp_ge (pc := 78) C 86 (by first | omega | assumption) (by first | omega | assumption) dX4_readNumber_78 (by decide) (fun _ => ?_) (fun h => absurd h (by decide))
        refine v_iconst (pc := 86) C dX4_readNumber_86 ?_
        refine v_istore (pc := 87) C [(7, .int (iI 1)), (5, .int (iI num)), (6, .int (iI 1)), (4, .int (iI 1)), (0, .ref (bs γ + 1)), (1, .int (iI i)), (2, .int (iI lo)), (3, .int (iI hi))] dX4_readNumber_87 (by decide) rfl ?_
        refine v_iload (pc := 89) C 1 rfl dX4_readNumber_89 ?_
        refine v_iload (pc := 91) C 0 rfl dX4_readNumber_91 ?_
        refine v_imul (pc := 93) C dX4_readNumber_93 ?_
        refine v_istore (pc := 94) C [(8, .int (iI (num * 1))), (7, .int (iI 1)), (5, .int (iI num)), (6, .int (iI 1)), (4, .int (iI 1)), (0, .ref (bs γ + 1)), (1, .int (iI i)), (2, .int (iI lo)), (3, .int (iI hi))] dX4_readNumber_94 (by decide) rfl ?_
        refine v_iload (pc := 96) C 0 rfl dX4_readNumber_96 ?_
        refine v_iload_n (pc := 98) C 8 rfl dX4_readNumber_98 ?_
        refine v_icmp_gt (pc := 99) C 113 (by first | omega | assumption) (by first | omega | assumption) dX4_readNumber_99 (by decide) (fun h99 => ?_) (fun h99 => ?_)
        · refine v_iconst (pc := 113) C dX4_readNumber_113 ?_
          exact v_iret (pc := 114) C hr (rfl) dX4_readNumber_114 (⟨_, rfl, Or.inr ⟨rfl, by rw [hdd]; unfold figV; (repeat' split) <;> omega, congrArg (fun x => tS σ x l N) (by rw [hdd]; unfold figP; (repeat' split) <;> omega)⟩⟩)
        · refine v_iload (pc := 102) C 0 rfl dX4_readNumber_102 ?_
          refine v_iload (pc := 104) C 1 rfl dX4_readNumber_104 ?_
          refine v_iadd (pc := 106) C dX4_readNumber_106 ?_
          refine v_iconst (pc := 107) C dX4_readNumber_107 ?_
          refine v_isub (pc := 108) C dX4_readNumber_108 ?_
          refine v_iload_n (pc := 109) C 7 rfl dX4_readNumber_109 ?_
          refine v_icmp_ge (pc := 110) C 115 (by first | omega | assumption) (by first | omega | assumption) dX4_readNumber_110 (by decide) (fun h110 => ?_) (fun h110 => ?_)
          · refine v_aload_n (pc := 115) C 5 rfl dX4_readNumber_115 ?_
            refine v_dup (pc := 116) C rfl dX4_readNumber_116 ?_
            refine v_geti (pc := 117) C inX4 goX4 (ci := 2) rfl 2 (by decide) (wF_X4_23 G) rfl sh_1 2 rfl dX4_readNumber_117 (fun z117 ez117 rz117 => ?_)
            rw [tS_2] at ez117
            refine v_iconst (pc := 120) C dX4_readNumber_120 ?_
            refine v_iadd (pc := 121) C dX4_readNumber_121 ?_
            refine v_puti (pc := 122) C inX4 goX4 (ci := 2) rfl 2 (by decide) (wF_X4_23 G) rfl sh_1 tyX4 tyX4_ok nmX4 rfl rfl (fun _ => Nat.le_of_ble_eq_true rfl) (fun _ _ => ob_set_X4_2) (by first | omega | assumption) dX4_readNumber_122 ?_
            refine v_st (tS_p2 _ _ _ _ _) ?_
            refine v_iinc (pc := 125) C 3 [(6, .int (iI 2)), (8, .int (iI (num * 1))), (7, .int (iI 1)), (5, .int (iI num)), (4, .int (iI 1)), (0, .ref (bs γ + 1)), (1, .int (iI i)), (2, .int (iI lo)), (3, .int (iI hi))] dX4_readNumber_125 rfl (by decide) rfl ?_
            refine v_goto (pc := 128) C 19 dX4_readNumber_128 (by decide) ?_
            refine v_iload (pc := 19) C 0 rfl dX4_readNumber_19 ?_
            refine v_iload (pc := 21) C 4 rfl dX4_readNumber_21 ?_
            refine v_icmp_gt (pc := 23) C 131 (by first | omega | assumption) (by first | omega | assumption) dX4_readNumber_23 (by decide) (fun _ => ?_) (fun h => absurd h (by decide))
            refine v_aload_n (pc := 131) C 5 rfl dX4_readNumber_131 ?_
            refine v_getr (pc := 132) C inX4 goX4 (ci := 2) rfl 4 (by decide) (wF_X4_15 G) rfl sh_1 (3) rfl dX4_readNumber_132 ?_
            refine v_iload_n (pc := 135) C 6 rfl dX4_readNumber_135 ?_
            refine v_iload (pc := 136) C 3 rfl dX4_readNumber_136 ?_
            refine v_iast (pc := 138) C sh_3 (by decide) (by first | omega | assumption) (by first | omega | assumption) dX4_readNumber_138 ?_
            rw [tS_o3, tS_n]
            refine v_iconst (pc := 139) C dX4_readNumber_139 ?_
            exact v_iret (pc := 140) C hr (rfl) dX4_readNumber_140 (⟨_, rfl, Or.inl ⟨rfl, by rw [hdd]; unfold figV; (repeat' split) <;> omega, by rw [show figV t s p 0 (if hi > 9 then 2 else 1) lo hi = num from by rw [hdd]; unfold figV; (repeat' split) <;> omega]; exact congrArg (fun x => tS σ x l (upr N i num)) (by rw [hdd]; unfold figP; (repeat' split) <;> omega)⟩⟩)
          · refine v_iconst (pc := 113) C dX4_readNumber_113 ?_
            exact v_iret (pc := 114) C hr (rfl) dX4_readNumber_114 (⟨_, rfl, Or.inr ⟨rfl, by rw [hdd]; unfold figV; (repeat' split) <;> omega, congrArg (fun x => tS σ x l N) (by rw [hdd]; unfold figP; (repeat' split) <;> omega)⟩⟩)
      · refine v_if_ne (pc := 49) C 54 (by first | omega | assumption) dX4_readNumber_49 (by decide) (fun h => absurd h (by decide)) (fun _ => ?_)
        have g52 : ¬ (0 ≤ dg t s p ∧ dg t s p ≤ 9) := by first | omega | (unfold dg; rw [if_neg (by omega)]; omega)
        refine v_iconst (pc := 52) C dX4_readNumber_52 ?_
        exact v_iret (pc := 53) C hr (rfl) dX4_readNumber_53 (⟨_, rfl, Or.inr ⟨rfl, by rw [hdd]; unfold figV; (repeat' split) <;> omega, congrArg (fun x => tS σ x l N) (by rw [hdd]; unfold figP; (repeat' split) <;> omega)⟩⟩)
    · refine v_if_eq (pc := 30) C 52 (by first | omega | assumption) dX4_readNumber_30 (by decide) (fun _ => ?_) (fun h => absurd h (by decide))
      have g52 : ¬ (0 ≤ dg t s p ∧ dg t s p ≤ 9) := by first | omega | (unfold dg; rw [if_neg (by omega)]; omega)
      refine v_iconst (pc := 52) C dX4_readNumber_52 ?_
      exact v_iret (pc := 53) C hr (rfl) dX4_readNumber_53 (⟨_, rfl, Or.inr ⟨rfl, by rw [hdd]; unfold figV; (repeat' split) <;> omega, congrArg (fun x => tS σ x l N) (by rw [hdd]; unfold figP; (repeat' split) <;> omega)⟩⟩)
  · refine v_iconst (pc := 6) C dX4_readNumber_6 ?_
    refine v_goto (pc := 7) C 11 dX4_readNumber_7 (by decide) ?_
    refine v_istore (pc := 11) C [(4, .int (iI 2)), (0, .ref (bs γ + 1)), (1, .int (iI i)), (2, .int (iI lo)), (3, .int (iI hi))] dX4_readNumber_11 (by decide) rfl ?_
    have hdd : (if hi > 9 then (2 : Int) else 1) = 2 := if_pos (by omega)
    refine v_iconst (pc := 13) C dX4_readNumber_13 ?_
    refine v_istore (pc := 14) C [(5, .int (iI 0)), (4, .int (iI 2)), (0, .ref (bs γ + 1)), (1, .int (iI i)), (2, .int (iI lo)), (3, .int (iI hi))] dX4_readNumber_14 (by decide) rfl ?_
    refine v_iconst (pc := 16) C dX4_readNumber_16 ?_
    refine v_istore (pc := 17) C [(6, .int (iI 1)), (5, .int (iI 0)), (4, .int (iI 2)), (0, .ref (bs γ + 1)), (1, .int (iI i)), (2, .int (iI lo)), (3, .int (iI hi))] dX4_readNumber_17 (by decide) rfl ?_
    refine v_iload (pc := 19) C 0 rfl dX4_readNumber_19 ?_
    refine v_iload (pc := 21) C 2 rfl dX4_readNumber_21 ?_
    refine v_icmp_gt (pc := 23) C 131 (by first | omega | assumption) (by first | omega | assumption) dX4_readNumber_23 (by decide) (fun h => absurd h (by decide)) (fun _ => ?_)
    refine v_aload_n (pc := 26) C 3 rfl dX4_readNumber_26 ?_
    refine v_cv (pc := 27) (as := []) C (cy_X4_hasMore G) (wM_X4_27 G) sh_1 (ci := 2) rfl rfl (k_X4_hasMore G hs h1 ht htr ) dX4_readNumber_27 rfl rfl (by decide) (by decide) (Nat.le_of_ble_eq_true rfl) zc (k_I (fun z27_1 s27_1 q27_1 => ?_))
    rcases q27_1 with ⟨⟨rfl, q27_1⟩ | ⟨rfl, q27_1⟩, rfl⟩
    · refine v_if_eq (pc := 30) C 52 (by first | omega | assumption) dX4_readNumber_30 (by decide) (fun h => absurd h (by decide)) (fun _ => ?_)
      refine v_aload_n (pc := 33) C 3 rfl dX4_readNumber_33 ?_
      refine v_getr (pc := 34) C inX4 goX4 (ci := 2) rfl 0 (by decide) (wF_X4_9 G) rfl sh_1 (2) rfl dX4_readNumber_34 ?_
      refine v_aload_n (pc := 37) C 3 rfl dX4_readNumber_37 ?_
      refine v_geti (pc := 38) C inX4 goX4 (ci := 2) rfl 2 (by decide) (wF_X4_23 G) rfl sh_1 2 rfl dX4_readNumber_38 (fun z38_1 ez38_1 rz38_1 => ?_)
      rw [tS_2] at ez38_1
      refine v_cald (pc := 41) C sh_2 (by decide) (by first | omega | assumption) dX4_readNumber_41 (fun z41_1 ez41_1 rz41_1 => ?_)
      rw [tS_s] at ez41_1
      have wz41_1 : z41_1 = t p := ez41_1.trans ((congrArg (σ 2) (by omega)).trans (ht p (by omega) (by omega)))
      have hz41_1 := htr p (by omega) (by omega)
      have gz41_1 : dg t s p = z41_1 - 48 := by unfold dg; rw [if_pos (by omega), wz41_1]
      refine v_bipush (pc := 42) C (by decide +kernel) dX4_readNumber_42 ?_
      refine v_bipush (pc := 44) C (by decide +kernel) dX4_readNumber_44 ?_
      refine v_csN (pc := 46) (as := [.int (iI z41_1), .int (iI 48), .int (iI 57)]) C (cy_X5_isIn G) (wN_X4_65 G) (k_X5_isIn G (by first | omega | assumption) (by first | omega | assumption) (by first | omega | assumption)) dX4_readNumber_46 rfl rfl (by decide) (by decide) (Nat.le_of_ble_eq_true rfl) zc (k_I (fun z46_1 s46_1 q46_1 => ?_))
      rcases q46_1 with ⟨⟨rfl, q46_1⟩ | ⟨rfl, q46_1⟩, rfl⟩
      · refine v_if_ne (pc := 49) C 54 (by first | omega | assumption) dX4_readNumber_49 (by decide) (fun _ => ?_) (fun h => absurd h (by decide))
        refine v_bipush (pc := 54) C (by decide +kernel) dX4_readNumber_54 ?_
        refine v_iload (pc := 56) C 1 rfl dX4_readNumber_56 ?_
        refine v_imul (pc := 58) C dX4_readNumber_58 ?_
        refine v_ti (x2 := 0) (by decide) ?_
        refine v_aload_n (pc := 59) C 3 rfl dX4_readNumber_59 ?_
        refine v_getr (pc := 60) C inX4 goX4 (ci := 2) rfl 0 (by decide) (wF_X4_9 G) rfl sh_1 (2) rfl dX4_readNumber_60 ?_
        refine v_aload_n (pc := 63) C 3 rfl dX4_readNumber_63 ?_
        refine v_geti (pc := 64) C inX4 goX4 (ci := 2) rfl 2 (by decide) (wF_X4_23 G) rfl sh_1 2 rfl dX4_readNumber_64 (fun z64_1 ez64_1 rz64_1 => ?_)
        rw [tS_2] at ez64_1
        refine v_cald (pc := 67) C sh_2 (by decide) (by first | omega | assumption) dX4_readNumber_67 (fun z67_1 ez67_1 rz67_1 => ?_)
        rw [tS_s] at ez67_1
        have wz67_1 : z67_1 = t p := ez67_1.trans ((congrArg (σ 2) (by omega)).trans (ht p (by omega) (by omega)))
        have hz67_1 := htr p (by omega) (by omega)
        have gz67_1 : dg t s p = z67_1 - 48 := by unfold dg; rw [if_pos (by omega), wz67_1]
        refine v_iadd (pc := 68) C dX4_readNumber_68 ?_
        refine v_bipush (pc := 69) C (by decide +kernel) dX4_readNumber_69 ?_
        refine v_isub (pc := 71) C dX4_readNumber_71 ?_
        refine v_nm (fun num_1 enum_1 => ?_)
        refine v_istore (pc := 72) C [(5, .int (iI num_1)), (6, .int (iI 1)), (4, .int (iI 2)), (0, .ref (bs γ + 1)), (1, .int (iI i)), (2, .int (iI lo)), (3, .int (iI hi))] dX4_readNumber_72 (by decide) rfl ?_
        refine v_iload (pc := 74) C 1 rfl dX4_readNumber_74 ?_
        refine v_iload (pc := 76) C 2 rfl dX4_readNumber_76 ?_
        refine v_icmp_ge (pc := 78) C 86 (by first | omega | assumption) (by first | omega | assumption) dX4_readNumber_78 (by decide) (fun h => absurd h (by decide)) (fun _ => ?_)
        refine v_bipush (pc := 81) C (by decide +kernel) dX4_readNumber_81 ?_
        refine v_goto (pc := 83) C 87 dX4_readNumber_83 (by decide) ?_
        refine v_istore (pc := 87) C [(7, .int (iI 10)), (5, .int (iI num_1)), (6, .int (iI 1)), (4, .int (iI 2)), (0, .ref (bs γ + 1)), (1, .int (iI i)), (2, .int (iI lo)), (3, .int (iI hi))] dX4_readNumber_87 (by decide) rfl ?_
        refine v_iload (pc := 89) C 1 rfl dX4_readNumber_89 ?_
        refine v_iload (pc := 91) C 0 rfl dX4_readNumber_91 ?_
        refine v_imul (pc := 93) C dX4_readNumber_93 ?_
        refine v_istore (pc := 94) C [(8, .int (iI (num_1 * 10))), (7, .int (iI 10)), (5, .int (iI num_1)), (6, .int (iI 1)), (4, .int (iI 2)), (0, .ref (bs γ + 1)), (1, .int (iI i)), (2, .int (iI lo)), (3, .int (iI hi))] dX4_readNumber_94 (by decide) rfl ?_
        refine v_iload (pc := 96) C 0 rfl dX4_readNumber_96 ?_
        refine v_iload_n (pc := 98) C 8 rfl dX4_readNumber_98 ?_
        refine v_icmp_gt (pc := 99) C 113 (by first | omega | assumption) (by first | omega | assumption) dX4_readNumber_99 (by decide) (fun h99_1 => ?_) (fun h99_1 => ?_)
        · refine v_iconst (pc := 113) C dX4_readNumber_113 ?_
          exact v_iret (pc := 114) C hr (rfl) dX4_readNumber_114 (⟨_, rfl, Or.inr ⟨rfl, by rw [hdd]; unfold figV; (repeat' split) <;> omega, congrArg (fun x => tS σ x l N) (by rw [hdd]; unfold figP; (repeat' split) <;> omega)⟩⟩)
        · refine v_iload (pc := 102) C 0 rfl dX4_readNumber_102 ?_
          refine v_iload (pc := 104) C 1 rfl dX4_readNumber_104 ?_
          refine v_iadd (pc := 106) C dX4_readNumber_106 ?_
          refine v_iconst (pc := 107) C dX4_readNumber_107 ?_
          refine v_isub (pc := 108) C dX4_readNumber_108 ?_
          refine v_iload_n (pc := 109) C 7 rfl dX4_readNumber_109 ?_
          refine v_icmp_ge (pc := 110) C 115 (by first | omega | assumption) (by first | omega | assumption) dX4_readNumber_110 (by decide) (fun h110_1 => ?_) (fun h110_1 => ?_)
          · refine v_aload_n (pc := 115) C 5 rfl dX4_readNumber_115 ?_
            refine v_dup (pc := 116) C rfl dX4_readNumber_116 ?_
            refine v_geti (pc := 117) C inX4 goX4 (ci := 2) rfl 2 (by decide) (wF_X4_23 G) rfl sh_1 2 rfl dX4_readNumber_117 (fun z117_1 ez117_1 rz117_1 => ?_)
            rw [tS_2] at ez117_1
            refine v_iconst (pc := 120) C dX4_readNumber_120 ?_
            refine v_iadd (pc := 121) C dX4_readNumber_121 ?_
            refine v_puti (pc := 122) C inX4 goX4 (ci := 2) rfl 2 (by decide) (wF_X4_23 G) rfl sh_1 tyX4 tyX4_ok nmX4 rfl rfl (fun _ => Nat.le_of_ble_eq_true rfl) (fun _ _ => ob_set_X4_2) (by first | omega | assumption) dX4_readNumber_122 ?_
            refine v_st (tS_p2 _ _ _ _ _) ?_
            refine v_iinc (pc := 125) C 3 [(6, .int (iI 2)), (8, .int (iI (num_1 * 10))), (7, .int (iI 10)), (5, .int (iI num_1)), (4, .int (iI 2)), (0, .ref (bs γ + 1)), (1, .int (iI i)), (2, .int (iI lo)), (3, .int (iI hi))] dX4_readNumber_125 rfl (by decide) rfl ?_
            refine v_goto (pc := 128) C 19 dX4_readNumber_128 (by decide) ?_
            refine v_iload (pc := 19) C 0 rfl dX4_readNumber_19 ?_
            refine v_iload (pc := 21) C 4 rfl dX4_readNumber_21 ?_
            refine v_icmp_gt (pc := 23) C 131 (by first | omega | assumption) (by first | omega | assumption) dX4_readNumber_23 (by decide) (fun h => absurd h (by decide)) (fun _ => ?_)
            refine v_aload_n (pc := 26) C 5 rfl dX4_readNumber_26 ?_
            refine v_cv (pc := 27) (as := []) C (cy_X4_hasMore G) (wM_X4_27 G) sh_1 (ci := 2) rfl rfl (k_X4_hasMore G hs h1 ht htr ) dX4_readNumber_27 rfl rfl (by decide) (by decide) (Nat.le_of_ble_eq_true rfl) zc (k_I (fun z27_2 s27_2 q27_2 => ?_))
            rcases q27_2 with ⟨⟨rfl, q27_2⟩ | ⟨rfl, q27_2⟩, rfl⟩
            · refine v_if_eq (pc := 30) C 52 (by first | omega | assumption) dX4_readNumber_30 (by decide) (fun h => absurd h (by decide)) (fun _ => ?_)
              refine v_aload_n (pc := 33) C 5 rfl dX4_readNumber_33 ?_
              refine v_getr (pc := 34) C inX4 goX4 (ci := 2) rfl 0 (by decide) (wF_X4_9 G) rfl sh_1 (2) rfl dX4_readNumber_34 ?_
              refine v_aload_n (pc := 37) C 5 rfl dX4_readNumber_37 ?_
              refine v_geti (pc := 38) C inX4 goX4 (ci := 2) rfl 2 (by decide) (wF_X4_23 G) rfl sh_1 2 rfl dX4_readNumber_38 (fun z38_2 ez38_2 rz38_2 => ?_)
              rw [tS_2] at ez38_2
              refine v_cald (pc := 41) C sh_2 (by decide) (by first | omega | assumption) dX4_readNumber_41 (fun z41_2 ez41_2 rz41_2 => ?_)
              rw [tS_s] at ez41_2
              have wz41_2 : z41_2 = t (p + 1) := ez41_2.trans ((congrArg (σ 2) (by omega)).trans (ht (p + 1) (by omega) (by omega)))
              have hz41_2 := htr (p + 1) (by omega) (by omega)
              have gz41_2 : dg t s (p + 1) = z41_2 - 48 := by unfold dg; rw [if_pos (by omega), wz41_2]
              refine v_bipush (pc := 42) C (by decide +kernel) dX4_readNumber_42 ?_
              refine v_bipush (pc := 44) C (by decide +kernel) dX4_readNumber_44 ?_
              refine v_csN (pc := 46) (as := [.int (iI z41_2), .int (iI 48), .int (iI 57)]) C (cy_X5_isIn G) (wN_X4_65 G) (k_X5_isIn G (by first | omega | assumption) (by first | omega | assumption) (by first | omega | assumption)) dX4_readNumber_46 rfl rfl (by decide) (by decide) (Nat.le_of_ble_eq_true rfl) zc (k_I (fun z46_2 s46_2 q46_2 => ?_))
              rcases q46_2 with ⟨⟨rfl, q46_2⟩ | ⟨rfl, q46_2⟩, rfl⟩
              · refine v_if_ne (pc := 49) C 54 (by first | omega | assumption) dX4_readNumber_49 (by decide) (fun _ => ?_) (fun h => absurd h (by decide))
                refine v_bipush (pc := 54) C (by decide +kernel) dX4_readNumber_54 ?_
                refine v_iload (pc := 56) C 3 rfl dX4_readNumber_56 ?_
                refine v_imul (pc := 58) C dX4_readNumber_58 ?_
                refine v_aload_n (pc := 59) C 5 rfl dX4_readNumber_59 ?_
                refine v_getr (pc := 60) C inX4 goX4 (ci := 2) rfl 0 (by decide) (wF_X4_9 G) rfl sh_1 (2) rfl dX4_readNumber_60 ?_
                refine v_aload_n (pc := 63) C 5 rfl dX4_readNumber_63 ?_
                refine v_geti (pc := 64) C inX4 goX4 (ci := 2) rfl 2 (by decide) (wF_X4_23 G) rfl sh_1 2 rfl dX4_readNumber_64 (fun z64_2 ez64_2 rz64_2 => ?_)
                rw [tS_2] at ez64_2
                refine v_cald (pc := 67) C sh_2 (by decide) (by first | omega | assumption) dX4_readNumber_67 (fun z67_2 ez67_2 rz67_2 => ?_)
                rw [tS_s] at ez67_2
                have wz67_2 : z67_2 = t (p + 1) := ez67_2.trans ((congrArg (σ 2) (by omega)).trans (ht (p + 1) (by omega) (by omega)))
                have hz67_2 := htr (p + 1) (by omega) (by omega)
                have gz67_2 : dg t s (p + 1) = z67_2 - 48 := by unfold dg; rw [if_pos (by omega), wz67_2]
                refine v_iadd (pc := 68) C dX4_readNumber_68 ?_
                refine v_bipush (pc := 69) C (by decide +kernel) dX4_readNumber_69 ?_
                refine v_isub (pc := 71) C dX4_readNumber_71 ?_
                refine v_nm (fun num_2 enum_2 => ?_)
                refine v_istore (pc := 72) C [(5, .int (iI num_2)), (6, .int (iI 2)), (8, .int (iI (num_1 * 10))), (7, .int (iI 10)), (4, .int (iI 2)), (0, .ref (bs γ + 1)), (1, .int (iI i)), (2, .int (iI lo)), (3, .int (iI hi))] dX4_readNumber_72 (by decide) rfl ?_
                refine v_iload (pc := 74) C 1 rfl dX4_readNumber_74 ?_
                refine v_iload (pc := 76) C 4 rfl dX4_readNumber_76 ?_
                refine v_icmp_ge (pc := 78) C 86 (by first | omega | assumption) (by first | omega | assumption) dX4_readNumber_78 (by decide) (fun _ => ?_) (fun h => absurd h (by decide))
                refine v_iconst (pc := 86) C dX4_readNumber_86 ?_
                refine v_istore (pc := 87) C [(7, .int (iI 1)), (5, .int (iI num_2)), (6, .int (iI 2)), (8, .int (iI (num_1 * 10))), (4, .int (iI 2)), (0, .ref (bs γ + 1)), (1, .int (iI i)), (2, .int (iI lo)), (3, .int (iI hi))] dX4_readNumber_87 (by decide) rfl ?_
                refine v_iload (pc := 89) C 1 rfl dX4_readNumber_89 ?_
                refine v_iload (pc := 91) C 0 rfl dX4_readNumber_91 ?_
                refine v_imul (pc := 93) C dX4_readNumber_93 ?_
                refine v_istore (pc := 94) C [(8, .int (iI (num_2 * 1))), (7, .int (iI 1)), (5, .int (iI num_2)), (6, .int (iI 2)), (4, .int (iI 2)), (0, .ref (bs γ + 1)), (1, .int (iI i)), (2, .int (iI lo)), (3, .int (iI hi))] dX4_readNumber_94 (by decide) rfl ?_
                refine v_iload (pc := 96) C 0 rfl dX4_readNumber_96 ?_
                refine v_iload_n (pc := 98) C 8 rfl dX4_readNumber_98 ?_
                refine v_icmp_gt (pc := 99) C 113 (by first | omega | assumption) (by first | omega | assumption) dX4_readNumber_99 (by decide) (fun h99_2 => ?_) (fun h99_2 => ?_)
                · refine v_iconst (pc := 113) C dX4_readNumber_113 ?_
                  exact v_iret (pc := 114) C hr (rfl) dX4_readNumber_114 (⟨_, rfl, Or.inr ⟨rfl, by rw [hdd]; unfold figV; (repeat' split) <;> omega, congrArg (fun x => tS σ x l N) (by rw [hdd]; unfold figP; (repeat' split) <;> omega)⟩⟩)
                · refine v_iload (pc := 102) C 0 rfl dX4_readNumber_102 ?_
                  refine v_iload (pc := 104) C 1 rfl dX4_readNumber_104 ?_
                  refine v_iadd (pc := 106) C dX4_readNumber_106 ?_
                  refine v_iconst (pc := 107) C dX4_readNumber_107 ?_
                  refine v_isub (pc := 108) C dX4_readNumber_108 ?_
                  refine v_iload_n (pc := 109) C 7 rfl dX4_readNumber_109 ?_
                  refine v_icmp_ge (pc := 110) C 115 (by first | omega | assumption) (by first | omega | assumption) dX4_readNumber_110 (by decide) (fun h110_2 => ?_) (fun h110_2 => ?_)
                  · refine v_aload_n (pc := 115) C 5 rfl dX4_readNumber_115 ?_
                    refine v_dup (pc := 116) C rfl dX4_readNumber_116 ?_
                    refine v_geti (pc := 117) C inX4 goX4 (ci := 2) rfl 2 (by decide) (wF_X4_23 G) rfl sh_1 2 rfl dX4_readNumber_117 (fun z117_2 ez117_2 rz117_2 => ?_)
                    rw [tS_2] at ez117_2
                    refine v_iconst (pc := 120) C dX4_readNumber_120 ?_
                    refine v_iadd (pc := 121) C dX4_readNumber_121 ?_
                    refine v_puti (pc := 122) C inX4 goX4 (ci := 2) rfl 2 (by decide) (wF_X4_23 G) rfl sh_1 tyX4 tyX4_ok nmX4 rfl rfl (fun _ => Nat.le_of_ble_eq_true rfl) (fun _ _ => ob_set_X4_2) (by first | omega | assumption) dX4_readNumber_122 ?_
                    refine v_st (tS_p2 _ _ _ _ _) ?_
                    refine v_iinc (pc := 125) C 3 [(6, .int (iI 3)), (8, .int (iI (num_2 * 1))), (7, .int (iI 1)), (5, .int (iI num_2)), (4, .int (iI 2)), (0, .ref (bs γ + 1)), (1, .int (iI i)), (2, .int (iI lo)), (3, .int (iI hi))] dX4_readNumber_125 rfl (by decide) rfl ?_
                    refine v_goto (pc := 128) C 19 dX4_readNumber_128 (by decide) ?_
                    refine v_iload (pc := 19) C 0 rfl dX4_readNumber_19 ?_
                    refine v_iload (pc := 21) C 4 rfl dX4_readNumber_21 ?_
                    refine v_icmp_gt (pc := 23) C 131 (by first | omega | assumption) (by first | omega | assumption) dX4_readNumber_23 (by decide) (fun _ => ?_) (fun h => absurd h (by decide))
                    refine v_aload_n (pc := 131) C 5 rfl dX4_readNumber_131 ?_
                    refine v_getr (pc := 132) C inX4 goX4 (ci := 2) rfl 4 (by decide) (wF_X4_15 G) rfl sh_1 (3) rfl dX4_readNumber_132 ?_
                    refine v_iload_n (pc := 135) C 6 rfl dX4_readNumber_135 ?_
                    refine v_iload (pc := 136) C 3 rfl dX4_readNumber_136 ?_
                    refine v_iast (pc := 138) C sh_3 (by decide) (by first | omega | assumption) (by first | omega | assumption) dX4_readNumber_138 ?_
                    rw [tS_o3, tS_n]
                    refine v_iconst (pc := 139) C dX4_readNumber_139 ?_
                    exact v_iret (pc := 140) C hr (rfl) dX4_readNumber_140 (⟨_, rfl, Or.inl ⟨rfl, by rw [hdd]; unfold figV; (repeat' split) <;> omega, by rw [show figV t s p 0 (if hi > 9 then 2 else 1) lo hi = num_2 from by rw [hdd]; unfold figV; (repeat' split) <;> omega]; exact congrArg (fun x => tS σ x l (upr N i num_2)) (by rw [hdd]; unfold figP; (repeat' split) <;> omega)⟩⟩)
                  · refine v_iconst (pc := 113) C dX4_readNumber_113 ?_
                    exact v_iret (pc := 114) C hr (rfl) dX4_readNumber_114 (⟨_, rfl, Or.inr ⟨rfl, by rw [hdd]; unfold figV; (repeat' split) <;> omega, congrArg (fun x => tS σ x l N) (by rw [hdd]; unfold figP; (repeat' split) <;> omega)⟩⟩)
              · refine v_if_ne (pc := 49) C 54 (by first | omega | assumption) dX4_readNumber_49 (by decide) (fun h => absurd h (by decide)) (fun _ => ?_)
                have g52 : ¬ (0 ≤ dg t s (p + 1) ∧ dg t s (p + 1) ≤ 9) := by first | omega | (unfold dg; rw [if_neg (by omega)]; omega)
                refine v_iconst (pc := 52) C dX4_readNumber_52 ?_
                exact v_iret (pc := 53) C hr (rfl) dX4_readNumber_53 (⟨_, rfl, Or.inr ⟨rfl, by rw [hdd]; unfold figV; (repeat' split) <;> omega, congrArg (fun x => tS σ x l N) (by rw [hdd]; unfold figP; (repeat' split) <;> omega)⟩⟩)
            · refine v_if_eq (pc := 30) C 52 (by first | omega | assumption) dX4_readNumber_30 (by decide) (fun _ => ?_) (fun h => absurd h (by decide))
              have g52 : ¬ (0 ≤ dg t s (p + 1) ∧ dg t s (p + 1) ≤ 9) := by first | omega | (unfold dg; rw [if_neg (by omega)]; omega)
              refine v_iconst (pc := 52) C dX4_readNumber_52 ?_
              exact v_iret (pc := 53) C hr (rfl) dX4_readNumber_53 (⟨_, rfl, Or.inr ⟨rfl, by rw [hdd]; unfold figV; (repeat' split) <;> omega, congrArg (fun x => tS σ x l N) (by rw [hdd]; unfold figP; (repeat' split) <;> omega)⟩⟩)
          · refine v_iconst (pc := 113) C dX4_readNumber_113 ?_
            exact v_iret (pc := 114) C hr (rfl) dX4_readNumber_114 (⟨_, rfl, Or.inr ⟨rfl, by rw [hdd]; unfold figV; (repeat' split) <;> omega, congrArg (fun x => tS σ x l N) (by rw [hdd]; unfold figP; (repeat' split) <;> omega)⟩⟩)
      · refine v_if_ne (pc := 49) C 54 (by first | omega | assumption) dX4_readNumber_49 (by decide) (fun h => absurd h (by decide)) (fun _ => ?_)
        have g52 : ¬ (0 ≤ dg t s p ∧ dg t s p ≤ 9) := by first | omega | (unfold dg; rw [if_neg (by omega)]; omega)
        refine v_iconst (pc := 52) C dX4_readNumber_52 ?_
        exact v_iret (pc := 53) C hr (rfl) dX4_readNumber_53 (⟨_, rfl, Or.inr ⟨rfl, by rw [hdd]; unfold figV; (repeat' split) <;> omega, congrArg (fun x => tS σ x l N) (by rw [hdd]; unfold figP; (repeat' split) <;> omega)⟩⟩)
    · refine v_if_eq (pc := 30) C 52 (by first | omega | assumption) dX4_readNumber_30 (by decide) (fun _ => ?_) (fun h => absurd h (by decide))
      have g52 : ¬ (0 ≤ dg t s p ∧ dg t s p ≤ 9) := by first | omega | (unfold dg; rw [if_neg (by omega)]; omega)
      refine v_iconst (pc := 52) C dX4_readNumber_52 ?_
      exact v_iret (pc := 53) C hr (rfl) dX4_readNumber_53 (⟨_, rfl, Or.inr ⟨rfl, by rw [hdd]; unfold figV; (repeat' split) <;> omega, congrArg (fun x => tS σ x l N) (by rw [hdd]; unfold figP; (repeat' split) <;> omega)⟩⟩)
