set_option maxHeartbeats 4000000 in
set_option maxRecDepth 100000 in
theorem k_X6_turnDuct {γ : Gm} (G : Glo γ) {σ : St} {c : Nat} {r : Int → Int} {q : Int} (hc : sh c = (0, 268) ∧ 268 ≤ 4000) (h : Wf r) (hq : 0 ≤ q ∧ q < 2147483648) : Ct γ yX6_turnDuct cX6_turnDuct 2 none 5 [.ref (bs γ + c), .int (iI q)] (setc σ c r) (pV (fun σ2 => σ2 = setc σ c (turnD r q))) := by
  refine Ct.of G (by decide +kernel) (Nat.le_of_ble_eq_true rfl) (fun φ C hr => ?_)
  have C : Cx γ φ RX6 cX6_turnDuct 2 5 := C
  have hn0 := h.1
  have hn1 := h.2.1
  refine v_lv [(0, .ref (bs γ + c)), (1, .int (iI q))] [0, 1] rfl ?_
  refine v_aload_n (pc := 0) C 0 rfl dX6_turnDuct_0 ?_
  refine v_iload_n (pc := 1) C 1 rfl dX6_turnDuct_1 ?_
  refine v_bipush (pc := 2) C (by decide +kernel) dX6_turnDuct_2 ?_
  refine v_irem (pc := 4) C (by first | omega | assumption) (by first | omega | assumption) dX6_turnDuct_4 ?_
  refine v_iload_n (pc := 5) C 1 rfl dX6_turnDuct_5 ?_
  refine v_bipush (pc := 6) C (by decide +kernel) dX6_turnDuct_6 ?_
  refine v_idiv (pc := 8) C (by first | omega | assumption) (by first | omega | assumption) dX6_turnDuct_8 ?_
  refine v_iconst (pc := 9) C dX6_turnDuct_9 ?_
  refine v_irem (pc := 10) C (by first | omega | assumption) (by first | omega | assumption) dX6_turnDuct_10 ?_
  refine v_iload_n (pc := 11) C 1 rfl dX6_turnDuct_11 ?_
  refine v_bipush (pc := 12) C (by decide +kernel) dX6_turnDuct_12 ?_
  refine v_idiv (pc := 14) C (by first | omega | assumption) (by first | omega | assumption) dX6_turnDuct_14 ?_
  refine v_bipush (pc := 15) C (by decide +kernel) dX6_turnDuct_15 ?_
  refine v_irem (pc := 17) C (by first | omega | assumption) (by first | omega | assumption) dX6_turnDuct_17 ?_
  refine v_iload_n (pc := 18) C 1 rfl dX6_turnDuct_18 ?_
  refine v_sipush (pc := 19) C (by decide +kernel) dX6_turnDuct_19 ?_
  refine v_idiv (pc := 22) C (by first | omega | assumption) (by first | omega | assumption) dX6_turnDuct_22 ?_
  refine v_iconst (pc := 23) C dX6_turnDuct_23 ?_
  refine v_irem (pc := 24) C (by first | omega | assumption) (by first | omega | assumption) dX6_turnDuct_24 ?_
  refine v_iconst (pc := 25) C dX6_turnDuct_25 ?_
  refine v_iload_n (pc := 26) C 1 rfl dX6_turnDuct_26 ?_
  refine v_sipush (pc := 27) C (by decide +kernel) dX6_turnDuct_27 ?_
  refine v_idiv (pc := 30) C (by first | omega | assumption) (by first | omega | assumption) dX6_turnDuct_30 ?_
  refine v_bipush (pc := 31) C (by decide +kernel) dX6_turnDuct_31 ?_
  refine v_irem (pc := 33) C (by first | omega | assumption) (by first | omega | assumption) dX6_turnDuct_33 ?_
  refine v_iadd (pc := 34) C dX6_turnDuct_34 ?_
  refine v_cs (pc := 35) (as := [.ref (bs γ + c), .int (iI (q % 10)), .int (iI ((q / 16) % 2)), .int (iI ((q / 32) % 10)), .int (iI ((q / 512) % 2)), .int (iI (1 + ((q / 1024) % 6)))]) C (cy_X6_canDuct G) (wM_X6_141 G) (k_X6_canDuct G hc (by first | omega | assumption) (by first | omega | assumption) (by first | omega | assumption) (by first | omega | assumption) (by first | omega | assumption) (by first | omega | assumption)) dX6_turnDuct_35 rfl rfl (by decide) (by decide) (Nat.le_of_ble_eq_true rfl) zc (k_I (fun z35 s35 q35 => ?_))
  rcases q35 with ⟨⟨rfl, q35⟩ | ⟨rfl, q35⟩, rfl⟩
  · have QC := q35
    obtain ⟨⟨⟨c1, c2⟩, c3, c4⟩, c5, c6⟩ := id q35
    refine v_if_eq (pc := 38) C 80 (by first | omega | assumption) dX6_turnDuct_38 (by decide) (fun h => absurd h (by decide)) (fun _ => ?_)
    refine v_aload_n (pc := 41) C 0 rfl dX6_turnDuct_41 ?_
    refine v_iload_n (pc := 42) C 1 rfl dX6_turnDuct_42 ?_
    refine v_bipush (pc := 43) C (by decide +kernel) dX6_turnDuct_43 ?_
    refine v_irem (pc := 45) C (by first | omega | assumption) (by first | omega | assumption) dX6_turnDuct_45 ?_
    refine v_iload_n (pc := 46) C 1 rfl dX6_turnDuct_46 ?_
    refine v_bipush (pc := 47) C (by decide +kernel) dX6_turnDuct_47 ?_
    refine v_idiv (pc := 49) C (by first | omega | assumption) (by first | omega | assumption) dX6_turnDuct_49 ?_
    refine v_iconst (pc := 50) C dX6_turnDuct_50 ?_
    refine v_irem (pc := 51) C (by first | omega | assumption) (by first | omega | assumption) dX6_turnDuct_51 ?_
    refine v_iload_n (pc := 52) C 1 rfl dX6_turnDuct_52 ?_
    refine v_bipush (pc := 53) C (by decide +kernel) dX6_turnDuct_53 ?_
    refine v_idiv (pc := 55) C (by first | omega | assumption) (by first | omega | assumption) dX6_turnDuct_55 ?_
    refine v_bipush (pc := 56) C (by decide +kernel) dX6_turnDuct_56 ?_
    refine v_irem (pc := 58) C (by first | omega | assumption) (by first | omega | assumption) dX6_turnDuct_58 ?_
    refine v_iload_n (pc := 59) C 1 rfl dX6_turnDuct_59 ?_
    refine v_sipush (pc := 60) C (by decide +kernel) dX6_turnDuct_60 ?_
    refine v_idiv (pc := 63) C (by first | omega | assumption) (by first | omega | assumption) dX6_turnDuct_63 ?_
    refine v_iconst (pc := 64) C dX6_turnDuct_64 ?_
    refine v_irem (pc := 65) C (by first | omega | assumption) (by first | omega | assumption) dX6_turnDuct_65 ?_
    refine v_iconst (pc := 66) C dX6_turnDuct_66 ?_
    refine v_iload_n (pc := 67) C 1 rfl dX6_turnDuct_67 ?_
    refine v_sipush (pc := 68) C (by decide +kernel) dX6_turnDuct_68 ?_
    refine v_idiv (pc := 71) C (by first | omega | assumption) (by first | omega | assumption) dX6_turnDuct_71 ?_
    refine v_bipush (pc := 72) C (by decide +kernel) dX6_turnDuct_72 ?_
    refine v_irem (pc := 74) C (by first | omega | assumption) (by first | omega | assumption) dX6_turnDuct_74 ?_
    refine v_iadd (pc := 75) C dX6_turnDuct_75 ?_
    refine v_cs (pc := 76) (as := [.ref (bs γ + c), .int (iI (q % 10)), .int (iI ((q / 16) % 2)), .int (iI ((q / 32) % 10)), .int (iI ((q / 512) % 2)), .int (iI (1 + ((q / 1024) % 6)))]) C (cy_X6_ductOn G) (wM_X6_145 G) (k_X6_ductOn G hc (by omega) (by first | omega | assumption) (by first | omega | assumption) (by first | omega | assumption) (by first | omega | assumption) (by first | omega | assumption)) dX6_turnDuct_76 rfl rfl (by decide) (by decide) (Nat.le_of_ble_eq_true rfl) zc (k_I (fun z76 s76 q76 => ?_))
    obtain ⟨ez76, rfl⟩ := q76
    refine v_pop (pc := 79) C rfl dX6_turnDuct_79 ?_
    exact v_vret (pc := 80) C hr dX6_turnDuct_80 ⟨rfl, by unfold turnD; first | rw [if_pos (by assumption)] | rw [if_neg (by assumption)]⟩
  · refine v_if_eq (pc := 38) C 80 (by first | omega | assumption) dX6_turnDuct_38 (by decide) (fun _ => ?_) (fun h => absurd h (by decide))
    exact v_vret (pc := 80) C hr dX6_turnDuct_80 ⟨rfl, by unfold turnD; first | rw [if_pos (by assumption)] | rw [if_neg (by assumption)]⟩

set_option maxHeartbeats 4000000 in
set_option maxRecDepth 100000 in
theorem k_X6_turn {γ : Gm} (G : Glo γ) {σ : St} {c : Nat} {r : Int → Int} {y : Int} (hc : sh c = (0, 268) ∧ 268 ≤ 4000) (h : Wf r) (hy : 0 ≤ y ∧ y < 2147483648) : Ct γ yX6_turn cX6_turn 3 none 7 [.ref (bs γ + c), .int (iI y)] (setc σ c r) (pV (fun σ2 => σ2 = setc σ c (turnR r y))) := by
  refine Ct.of G (by decide +kernel) (Nat.le_of_ble_eq_true rfl) (fun φ C hr => ?_)
  have C : Cx γ φ RX6 cX6_turn 3 7 := C
  have hn0 := h.1
  have hn1 := h.2.1
  refine v_lv [(0, .ref (bs γ + c)), (1, .int (iI y))] [0, 1] rfl ?_
  refine v_iload_n (pc := 0) C 1 rfl dX6_turn_0 ?_
  refine v_bipush (pc := 1) C (by decide +kernel) dX6_turn_1 ?_
  refine v_idiv (pc := 3) C (by first | omega | assumption) (by first | omega | assumption) dX6_turn_3 ?_
  refine v_istore_n (pc := 4) C [(2, .int (iI (y / 8))), (0, .ref (bs γ + c)), (1, .int (iI y))] dX6_turn_4 rfl (by decide) rfl ?_
  refine v_iload_n (pc := 5) C 2 rfl dX6_turn_5 ?_
  refine v_bipush (pc := 6) C (by decide +kernel) dX6_turn_6 ?_
  refine v_irem (pc := 8) C (by first | omega | assumption) (by first | omega | assumption) dX6_turn_8 ?_
  by_cases hs9 : 0 ≤ y % 8 ∧ y % 8 ≤ 5
  · have hs9 : y % 8 = 0 ∨ y % 8 = 1 ∨ y % 8 = 2 ∨ y % 8 = 3 ∨ y % 8 = 4 ∨ y % 8 = 5 := by omega
    rcases hs9 with hs9 | hs9 | hs9 | hs9 | hs9 | hs9
    · refine v_tabIn (pc := 9) C 48 (by first | omega | assumption) dX6_turn_9 (by omega) (by rw [hs9]; rfl) (by decide) ?_
      refine v_aload_n (pc := 48) C 1 rfl dX6_turn_48 ?_
      refine v_iconst (pc := 49) C dX6_turn_49 ?_
      refine v_ialdR (pc := 50) C hc (by first | omega | assumption) dX6_turn_50 (fun z50 ez50 rz50 => ?_)
      refine v_bipush (pc := 51) C (by decide +kernel) dX6_turn_51 ?_
      refine v_icmp_ge (pc := 53) C 239 (by first | omega | assumption) (by first | omega | assumption) dX6_turn_53 (by decide) (fun h53 => ?_) (fun h53 => ?_)
      · exact v_vret (pc := 239) C hr dX6_turn_239 ⟨rfl, by unfold turnR; rw [if_pos (by omega)]; (first | rw [if_pos (by omega)] | rw [if_neg (by omega)])⟩
      · refine v_aload_n (pc := 56) C 1 rfl dX6_turn_56 ?_
        refine v_iload_n (pc := 57) C 0 rfl dX6_turn_57 ?_
        refine v_iconst (pc := 58) C dX6_turn_58 ?_
        refine v_irem (pc := 59) C (by first | omega | assumption) (by first | omega | assumption) dX6_turn_59 ?_
        refine v_bipush (pc := 60) C (by decide +kernel) dX6_turn_60 ?_
        refine v_iload_n (pc := 62) C 0 rfl dX6_turn_62 ?_
        refine v_bipush (pc := 63) C (by decide +kernel) dX6_turn_63 ?_
        refine v_idiv (pc := 65) C (by first | omega | assumption) (by first | omega | assumption) dX6_turn_65 ?_
        refine v_bipush (pc := 66) C (by decide +kernel) dX6_turn_66 ?_
        refine v_irem (pc := 68) C (by first | omega | assumption) (by first | omega | assumption) dX6_turn_68 ?_
        refine v_iadd (pc := 69) C dX6_turn_69 ?_
        refine v_cs (pc := 70) (as := [.ref (bs γ + c), .int (iI ((y / 8) % 5)), .int (iI (10 + (((y / 8) / 8) % 90)))]) C (cy_X6_valveOn G) (wM_X6_153 G) (k_X6_valveOn G hc (by omega) (by first | omega | assumption) (by first | omega | assumption)) dX6_turn_70 rfl rfl (by decide) (by decide) (Nat.le_of_ble_eq_true rfl) zc (k_I (fun z70 s70 q70 => ?_))
        obtain ⟨ez70, rfl⟩ := q70
        refine v_pop (pc := 73) C rfl dX6_turn_73 ?_
        refine v_goto (pc := 74) C 239 dX6_turn_74 (by decide) ?_
        exact v_vret (pc := 239) C hr dX6_turn_239 ⟨rfl, by unfold turnR; rw [if_pos (by omega)]; (first | rw [if_pos (by omega)] | rw [if_neg (by omega)])⟩
    · refine v_tabIn (pc := 9) C 77 (by first | omega | assumption) dX6_turn_9 (by omega) (by rw [hs9]; rfl) (by decide) ?_
      refine v_aload_n (pc := 77) C 1 rfl dX6_turn_77 ?_
      refine v_iload_n (pc := 78) C 0 rfl dX6_turn_78 ?_
      refine v_cs (pc := 79) (as := [.ref (bs γ + c), .int (iI (y / 8))]) C (cy_X6_turnDuct G) (wM_X6_229 G) (k_X6_turnDuct G hc ‹_› (by omega)) dX6_turn_79 rfl rfl (by decide) (by decide) (Nat.le_of_ble_eq_true rfl) zc (k_V (fun s79 q79 => ?_))
      subst q79
      refine v_goto (pc := 82) C 239 dX6_turn_82 (by decide) ?_
      exact v_vret (pc := 239) C hr dX6_turn_239 ⟨rfl, by unfold turnR; rw [if_neg (by omega), if_pos (by omega)]; skip⟩
    · refine v_tabIn (pc := 9) C 77 (by first | omega | assumption) dX6_turn_9 (by omega) (by rw [hs9]; rfl) (by decide) ?_
      refine v_aload_n (pc := 77) C 1 rfl dX6_turn_77 ?_
      refine v_iload_n (pc := 78) C 0 rfl dX6_turn_78 ?_
      refine v_cs (pc := 79) (as := [.ref (bs γ + c), .int (iI (y / 8))]) C (cy_X6_turnDuct G) (wM_X6_229 G) (k_X6_turnDuct G hc ‹_› (by omega)) dX6_turn_79 rfl rfl (by decide) (by decide) (Nat.le_of_ble_eq_true rfl) zc (k_V (fun s79_1 q79_1 => ?_))
      subst q79_1
      refine v_goto (pc := 82) C 239 dX6_turn_82 (by decide) ?_
      exact v_vret (pc := 239) C hr dX6_turn_239 ⟨rfl, by unfold turnR; rw [if_neg (by omega), if_pos (by omega)]; skip⟩
    · refine v_tabIn (pc := 9) C 85 (by first | omega | assumption) dX6_turn_9 (by omega) (by rw [hs9]; rfl) (by decide) ?_
      refine v_aload_n (pc := 85) C 1 rfl dX6_turn_85 ?_
      refine v_iload_n (pc := 86) C 0 rfl dX6_turn_86 ?_
      refine v_bipush (pc := 87) C (by decide +kernel) dX6_turn_87 ?_
      refine v_irem (pc := 89) C (by first | omega | assumption) (by first | omega | assumption) dX6_turn_89 ?_
      refine v_cs (pc := 90) (as := [.ref (bs γ + c), .int (iI ((y / 8) % 10))]) C (cy_X6_isKey G) (wM_X6_160 G) (k_X6_isKey G hc (by first | omega | assumption) (by first | omega | assumption)) dX6_turn_90 rfl rfl (by decide) (by decide) (Nat.le_of_ble_eq_true rfl) zc (k_I (fun z90 s90 q90 => ?_))
      rcases q90 with ⟨⟨rfl, q90⟩ | ⟨rfl, q90⟩, rfl⟩
      · refine v_if_eq (pc := 93) C 239 (by first | omega | assumption) dX6_turn_93 (by decide) (fun h => absurd h (by decide)) (fun _ => ?_)
        refine v_aload_n (pc := 96) C 1 rfl dX6_turn_96 ?_
        refine v_iload_n (pc := 97) C 0 rfl dX6_turn_97 ?_
        refine v_bipush (pc := 98) C (by decide +kernel) dX6_turn_98 ?_
        refine v_irem (pc := 100) C (by first | omega | assumption) (by first | omega | assumption) dX6_turn_100 ?_
        refine v_iload_n (pc := 101) C 0 rfl dX6_turn_101 ?_
        refine v_bipush (pc := 102) C (by decide +kernel) dX6_turn_102 ?_
        refine v_idiv (pc := 104) C (by first | omega | assumption) (by first | omega | assumption) dX6_turn_104 ?_
        refine v_iconst (pc := 105) C dX6_turn_105 ?_
        refine v_irem (pc := 106) C (by first | omega | assumption) (by first | omega | assumption) dX6_turn_106 ?_
        refine v_iconst (pc := 107) C dX6_turn_107 ?_
        refine v_icmp_ne (pc := 108) C 115 (by first | omega | assumption) (by first | omega | assumption) dX6_turn_108 (by decide) (fun h108 => ?_) (fun h108 => ?_)
        · refine v_iconst (pc := 115) C dX6_turn_115 ?_
          refine v_cs (pc := 116) (as := [.ref (bs γ + c), .int (iI ((y / 8) % 10)), .int (iI 0)]) C (cy_X6_pressOn G) (wM_X6_163 G) (k_X6_pressOn G hc (by omega) (by first | omega | assumption)) dX6_turn_116 rfl rfl (by decide) (by decide) (Nat.le_of_ble_eq_true rfl) zc (k_I (fun z116 s116 q116 => ?_))
          obtain ⟨ez116, rfl⟩ := q116
          refine v_pop (pc := 119) C rfl dX6_turn_119 ?_
          refine v_goto (pc := 120) C 239 dX6_turn_120 (by decide) ?_
          exact v_vret (pc := 239) C hr dX6_turn_239 ⟨rfl, by unfold turnR; rw [if_neg (by omega), if_neg (by omega), if_pos (by omega)]; first | (exfalso; omega) | (rw [if_pos (by omega)]; first | rw [if_pos (by omega)] | rw [if_neg (by omega)]) | rw [if_neg (by omega)]⟩
        · refine v_iconst (pc := 111) C dX6_turn_111 ?_
          refine v_goto (pc := 112) C 116 dX6_turn_112 (by decide) ?_
          refine v_cs (pc := 116) (as := [.ref (bs γ + c), .int (iI ((y / 8) % 10)), .int (iI 1)]) C (cy_X6_pressOn G) (wM_X6_163 G) (k_X6_pressOn G hc (by omega) (by first | omega | assumption)) dX6_turn_116 rfl rfl (by decide) (by decide) (Nat.le_of_ble_eq_true rfl) zc (k_I (fun z116_1 s116_1 q116_1 => ?_))
          obtain ⟨ez116_1, rfl⟩ := q116_1
          refine v_pop (pc := 119) C rfl dX6_turn_119 ?_
          refine v_goto (pc := 120) C 239 dX6_turn_120 (by decide) ?_
          exact v_vret (pc := 239) C hr dX6_turn_239 ⟨rfl, by unfold turnR; rw [if_neg (by omega), if_neg (by omega), if_pos (by omega)]; first | (exfalso; omega) | (rw [if_pos (by omega)]; first | rw [if_pos (by omega)] | rw [if_neg (by omega)]) | rw [if_neg (by omega)]⟩
      · refine v_if_eq (pc := 93) C 239 (by first | omega | assumption) dX6_turn_93 (by decide) (fun _ => ?_) (fun h => absurd h (by decide))
        exact v_vret (pc := 239) C hr dX6_turn_239 ⟨rfl, by unfold turnR; rw [if_neg (by omega), if_neg (by omega), if_pos (by omega)]; first | (exfalso; omega) | (rw [if_pos (by omega)]; first | rw [if_pos (by omega)] | rw [if_neg (by omega)]) | rw [if_neg (by omega)]⟩
    · refine v_tabIn (pc := 9) C 123 (by first | omega | assumption) dX6_turn_9 (by omega) (by rw [hs9]; rfl) (by decide) ?_
      refine v_aload_n (pc := 123) C 1 rfl dX6_turn_123 ?_
      refine v_iload_n (pc := 124) C 0 rfl dX6_turn_124 ?_
      refine v_bipush (pc := 125) C (by decide +kernel) dX6_turn_125 ?_
      refine v_irem (pc := 127) C (by first | omega | assumption) (by first | omega | assumption) dX6_turn_127 ?_
      refine v_cs (pc := 128) (as := [.ref (bs γ + c), .int (iI ((y / 8) % 16))]) C (cy_X6_isDuct G) (wM_X6_167 G) (k_X6_isDuct G hc (by first | omega | assumption) (by first | omega | assumption)) dX6_turn_128 rfl rfl (by decide) (by decide) (Nat.le_of_ble_eq_true rfl) zc (k_I (fun z128 s128 q128 => ?_))
      rcases q128 with ⟨⟨rfl, q128⟩ | ⟨rfl, q128⟩, rfl⟩
      · refine v_if_eq (pc := 131) C 168 (by first | omega | assumption) dX6_turn_131 (by decide) (fun h => absurd h (by decide)) (fun _ => ?_)
        refine v_iload_n (pc := 134) C 0 rfl dX6_turn_134 ?_
        refine v_sipush (pc := 135) C (by decide +kernel) dX6_turn_135 ?_
        refine v_idiv (pc := 138) C (by first | omega | assumption) (by first | omega | assumption) dX6_turn_138 ?_
        refine v_iconst (pc := 139) C dX6_turn_139 ?_
        refine v_irem (pc := 140) C (by first | omega | assumption) (by first | omega | assumption) dX6_turn_140 ?_
        refine v_if_ne (pc := 141) C 168 (by first | omega | assumption) dX6_turn_141 (by decide) (fun h141 => ?_) (fun h141 => ?_)
        · refine v_aload_n (pc := 168) C 1 rfl dX6_turn_168 ?_
          refine v_iload_n (pc := 169) C 0 rfl dX6_turn_169 ?_
          refine v_bipush (pc := 170) C (by decide +kernel) dX6_turn_170 ?_
          refine v_irem (pc := 172) C (by first | omega | assumption) (by first | omega | assumption) dX6_turn_172 ?_
          refine v_cs (pc := 173) (as := [.ref (bs γ + c), .int (iI ((y / 8) % 16))]) C (cy_X6_isDuct G) (wM_X6_167 G) (k_X6_isDuct G hc (by first | omega | assumption) (by first | omega | assumption)) dX6_turn_173 rfl rfl (by decide) (by decide) (Nat.le_of_ble_eq_true rfl) zc (k_I (fun z173 s173 q173 => ?_))
          rcases q173 with ⟨⟨rfl, q173⟩ | ⟨rfl, q173⟩, rfl⟩
          · refine v_if_eq (pc := 176) C 239 (by first | omega | assumption) dX6_turn_176 (by decide) (fun h => absurd h (by decide)) (fun _ => ?_)
            refine v_aload_n (pc := 179) C 1 rfl dX6_turn_179 ?_
            refine v_iload_n (pc := 180) C 0 rfl dX6_turn_180 ?_
            refine v_bipush (pc := 181) C (by decide +kernel) dX6_turn_181 ?_
            refine v_irem (pc := 183) C (by first | omega | assumption) (by first | omega | assumption) dX6_turn_183 ?_
            refine v_cs (pc := 184) (as := [.ref (bs γ + c), .int (iI ((y / 8) % 16))]) C (cy_X6_removeOn G) (wM_X6_201 G) (k_X6_removeOn G hc (by omega) (by omega)) dX6_turn_184 rfl rfl (by decide) (by decide) (Nat.le_of_ble_eq_true rfl) zc (k_I (fun z184 s184 q184 => ?_))
            obtain ⟨ez184, rfl⟩ := q184
            refine v_pop (pc := 187) C rfl dX6_turn_187 ?_
            refine v_goto (pc := 188) C 239 dX6_turn_188 (by decide) ?_
            exact v_vret (pc := 239) C hr dX6_turn_239 ⟨rfl, by unfold turnR; rw [if_neg (by omega), if_neg (by omega), if_neg (by omega), if_pos (by omega)]; first | (exfalso; omega) | (rw [if_pos (by omega)]; first | rw [if_pos (by omega)] | rw [if_neg (by omega)]) | rw [if_neg (by omega)]⟩
          · refine v_if_eq (pc := 176) C 239 (by first | omega | assumption) dX6_turn_176 (by decide) (fun _ => ?_) (fun h => absurd h (by decide))
            exact v_vret (pc := 239) C hr dX6_turn_239 ⟨rfl, by unfold turnR; rw [if_neg (by omega), if_neg (by omega), if_neg (by omega), if_pos (by omega)]; first | (exfalso; omega) | (rw [if_pos (by omega)]; first | rw [if_pos (by omega)] | rw [if_neg (by omega)]) | rw [if_neg (by omega)]⟩
        · refine v_aload_n (pc := 144) C 1 rfl dX6_turn_144 ?_
          refine v_bipush (pc := 145) C (by decide +kernel) dX6_turn_145 ?_
          refine v_bipush (pc := 147) C (by decide +kernel) dX6_turn_147 ?_
          refine v_iload_n (pc := 149) C 0 rfl dX6_turn_149 ?_
          refine v_bipush (pc := 150) C (by decide +kernel) dX6_turn_150 ?_
          refine v_irem (pc := 152) C (by first | omega | assumption) (by first | omega | assumption) dX6_turn_152 ?_
          refine v_imul (pc := 153) C dX6_turn_153 ?_
          refine v_iadd (pc := 154) C dX6_turn_154 ?_
          refine v_iconst (pc := 155) C dX6_turn_155 ?_
          refine v_iadd (pc := 156) C dX6_turn_156 ?_
          refine v_iload_n (pc := 157) C 0 rfl dX6_turn_157 ?_
          refine v_bipush (pc := 158) C (by decide +kernel) dX6_turn_158 ?_
          refine v_idiv (pc := 160) C (by first | omega | assumption) (by first | omega | assumption) dX6_turn_160 ?_
          refine v_bipush (pc := 161) C (by decide +kernel) dX6_turn_161 ?_
          refine v_irem (pc := 163) C (by first | omega | assumption) (by first | omega | assumption) dX6_turn_163 ?_
          refine v_iastR (pc := 164) C hc (by first | omega | assumption) (by first | omega | assumption) dX6_turn_164 ?_
          refine v_goto (pc := 165) C 239 dX6_turn_165 (by decide) ?_
          exact v_vret (pc := 239) C hr dX6_turn_239 ⟨rfl, by unfold turnR; rw [if_neg (by omega), if_neg (by omega), if_neg (by omega), if_pos (by omega)]; first | (exfalso; omega) | (rw [if_pos (by omega)]; first | rw [if_pos (by omega)] | rw [if_neg (by omega)]) | rw [if_neg (by omega)]⟩
      · refine v_if_eq (pc := 131) C 168 (by first | omega | assumption) dX6_turn_131 (by decide) (fun _ => ?_) (fun h => absurd h (by decide))
        refine v_aload_n (pc := 168) C 1 rfl dX6_turn_168 ?_
        refine v_iload_n (pc := 169) C 0 rfl dX6_turn_169 ?_
        refine v_bipush (pc := 170) C (by decide +kernel) dX6_turn_170 ?_
        refine v_irem (pc := 172) C (by first | omega | assumption) (by first | omega | assumption) dX6_turn_172 ?_
        refine v_cs (pc := 173) (as := [.ref (bs γ + c), .int (iI ((y / 8) % 16))]) C (cy_X6_isDuct G) (wM_X6_167 G) (k_X6_isDuct G hc (by first | omega | assumption) (by first | omega | assumption)) dX6_turn_173 rfl rfl (by decide) (by decide) (Nat.le_of_ble_eq_true rfl) zc (k_I (fun z173_1 s173_1 q173_1 => ?_))
        rcases q173_1 with ⟨⟨rfl, q173_1⟩ | ⟨rfl, q173_1⟩, rfl⟩
        · refine v_if_eq (pc := 176) C 239 (by first | omega | assumption) dX6_turn_176 (by decide) (fun h => absurd h (by decide)) (fun _ => ?_)
          refine v_aload_n (pc := 179) C 1 rfl dX6_turn_179 ?_
          refine v_iload_n (pc := 180) C 0 rfl dX6_turn_180 ?_
          refine v_bipush (pc := 181) C (by decide +kernel) dX6_turn_181 ?_
          refine v_irem (pc := 183) C (by first | omega | assumption) (by first | omega | assumption) dX6_turn_183 ?_
          refine v_cs (pc := 184) (as := [.ref (bs γ + c), .int (iI ((y / 8) % 16))]) C (cy_X6_removeOn G) (wM_X6_201 G) (k_X6_removeOn G hc (by omega) (by omega)) dX6_turn_184 rfl rfl (by decide) (by decide) (Nat.le_of_ble_eq_true rfl) zc (k_I (fun z184_1 s184_1 q184_1 => ?_))
          obtain ⟨ez184_1, rfl⟩ := q184_1
          refine v_pop (pc := 187) C rfl dX6_turn_187 ?_
          refine v_goto (pc := 188) C 239 dX6_turn_188 (by decide) ?_
          exact v_vret (pc := 239) C hr dX6_turn_239 ⟨rfl, by unfold turnR; rw [if_neg (by omega), if_neg (by omega), if_neg (by omega), if_pos (by omega)]; first | (exfalso; omega) | (rw [if_pos (by omega)]; first | rw [if_pos (by omega)] | rw [if_neg (by omega)]) | rw [if_neg (by omega)]⟩
        · refine v_if_eq (pc := 176) C 239 (by first | omega | assumption) dX6_turn_176 (by decide) (fun _ => ?_) (fun h => absurd h (by decide))
          exact v_vret (pc := 239) C hr dX6_turn_239 ⟨rfl, by unfold turnR; rw [if_neg (by omega), if_neg (by omega), if_neg (by omega), if_pos (by omega)]; first | (exfalso; omega) | (rw [if_pos (by omega)]; first | rw [if_pos (by omega)] | rw [if_neg (by omega)]) | rw [if_neg (by omega)]⟩
    · refine v_tabIn (pc := 9) C 191 (by first | omega | assumption) dX6_turn_9 (by omega) (by rw [hs9]; rfl) (by decide) ?_
      refine v_aload_n (pc := 191) C 1 rfl dX6_turn_191 ?_
      refine v_iload_n (pc := 192) C 0 rfl dX6_turn_192 ?_
      refine v_bipush (pc := 193) C (by decide +kernel) dX6_turn_193 ?_
      refine v_irem (pc := 195) C (by first | omega | assumption) (by first | omega | assumption) dX6_turn_195 ?_
      refine v_cs (pc := 196) (as := [.ref (bs γ + c), .int (iI ((y / 8) % 10))]) C (cy_X6_isValve G) (wM_X6_44 G) (k_X6_isValve G hc (by first | omega | assumption) (by first | omega | assumption)) dX6_turn_196 rfl rfl (by decide) (by decide) (Nat.le_of_ble_eq_true rfl) zc (k_I (fun z196 s196 q196 => ?_))
      rcases q196 with ⟨⟨rfl, q196⟩ | ⟨rfl, q196⟩, rfl⟩
      · refine v_if_eq (pc := 199) C 239 (by first | omega | assumption) dX6_turn_199 (by decide) (fun h => absurd h (by decide)) (fun _ => ?_)
        refine v_aload_n (pc := 202) C 1 rfl dX6_turn_202 ?_
        refine v_bipush (pc := 203) C (by decide +kernel) dX6_turn_203 ?_
        refine v_bipush (pc := 205) C (by decide +kernel) dX6_turn_205 ?_
        refine v_iload_n (pc := 207) C 0 rfl dX6_turn_207 ?_
        refine v_bipush (pc := 208) C (by decide +kernel) dX6_turn_208 ?_
        refine v_irem (pc := 210) C (by first | omega | assumption) (by first | omega | assumption) dX6_turn_210 ?_
        refine v_imul (pc := 211) C dX6_turn_211 ?_
        refine v_iadd (pc := 212) C dX6_turn_212 ?_
        refine v_iconst (pc := 213) C dX6_turn_213 ?_
        refine v_iadd (pc := 214) C dX6_turn_214 ?_
        refine v_bipush (pc := 215) C (by decide +kernel) dX6_turn_215 ?_
        refine v_iload_n (pc := 217) C 0 rfl dX6_turn_217 ?_
        refine v_bipush (pc := 218) C (by decide +kernel) dX6_turn_218 ?_
        refine v_idiv (pc := 220) C (by first | omega | assumption) (by first | omega | assumption) dX6_turn_220 ?_
        refine v_bipush (pc := 221) C (by decide +kernel) dX6_turn_221 ?_
        refine v_irem (pc := 223) C (by first | omega | assumption) (by first | omega | assumption) dX6_turn_223 ?_
        refine v_iadd (pc := 224) C dX6_turn_224 ?_
        refine v_iastR (pc := 225) C hc (by first | omega | assumption) (by first | omega | assumption) dX6_turn_225 ?_
        refine v_goto (pc := 226) C 239 dX6_turn_226 (by decide) ?_
        exact v_vret (pc := 239) C hr dX6_turn_239 ⟨rfl, by unfold turnR; rw [if_neg (by omega), if_neg (by omega), if_neg (by omega), if_neg (by omega), if_pos (by omega)]; first | rw [if_pos (by omega)] | rw [if_neg (by omega)]⟩
      · refine v_if_eq (pc := 199) C 239 (by first | omega | assumption) dX6_turn_199 (by decide) (fun _ => ?_) (fun h => absurd h (by decide))
        exact v_vret (pc := 239) C hr dX6_turn_239 ⟨rfl, by unfold turnR; rw [if_neg (by omega), if_neg (by omega), if_neg (by omega), if_neg (by omega), if_pos (by omega)]; first | rw [if_pos (by omega)] | rw [if_neg (by omega)]⟩
  · refine v_tabOut (pc := 9) C 229 (by first | omega | assumption) dX6_turn_9 (by omega) (by decide) ?_
    refine v_aload_n (pc := 229) C 1 rfl dX6_turn_229 ?_
    refine v_iconst (pc := 230) C dX6_turn_230 ?_
    refine v_iload_n (pc := 231) C 0 rfl dX6_turn_231 ?_
    refine v_bipush (pc := 232) C (by decide +kernel) dX6_turn_232 ?_
    refine v_irem (pc := 234) C (by first | omega | assumption) (by first | omega | assumption) dX6_turn_234 ?_
    refine v_iadd (pc := 235) C dX6_turn_235 ?_
    refine v_cs (pc := 236) (as := [.ref (bs γ + c), .int (iI (1 + ((y / 8) % 20)))]) C (cy_X6_run G) (wM_X6_97 G) (k_X6_run G hc ‹_› (by first | omega | assumption)) dX6_turn_236 rfl rfl (by decide) (by decide) (Nat.le_of_ble_eq_true rfl) zc (k_V (fun s236 q236 => ?_))
    subst q236
    exact v_vret (pc := 239) C hr dX6_turn_239 ⟨rfl, by unfold turnR; rw [if_neg (by omega), if_neg (by omega), if_neg (by omega), if_neg (by omega), if_neg (by omega)]; skip⟩

set_option maxHeartbeats 4000000 in
set_option maxRecDepth 100000 in
theorem k_X6_simulate {γ : Gm} (G : Glo γ) {σ : St} {w s a p u : Int} {t n x f d k i : Int → Int} {b m : Int} (hm : R3 m) (hW : Wf n) : Ct γ yX6_simulate cX6_simulate 7 (some .int) 9 [.ref (bs γ + 255), .long (lI b), .int (iI m)] (mS σ w s a p u t n x f d k i) (pI (fun z σ2 => mQ σ (op_simulate s a t n d k i b m) z σ2)) := by
  refine Ct.of G (by decide +kernel) (Nat.le_of_ble_eq_true rfl) (fun φ C hr => ?_)
  have C : Cx γ φ RX6 cX6_simulate 7 9 := C
  have hn0 := hW.1
  have hn1 := hW.2.1
  have hn4 := hW.2.2.1
  have hn5 := hW.2.2.2.1
  refine v_lv [(0, .ref (bs γ + 255)), (1, .long (lI b)), (3, .int (iI m))] [0, 1, 2] rfl ?_
  refine v_aload_n (pc := 0) C 0 rfl dX6_simulate_0 ?_
  refine v_iload_n (pc := 1) C 2 rfl dX6_simulate_1 ?_
  refine v_i2l (pc := 2) C (by first | omega | assumption) dX6_simulate_2 ?_
  refine v_lconst (pc := 3) C (z := 1) rfl dX6_simulate_3 ?_
  refine v_ldc2 (pc := 4) C (wCL_X6_232 G) dX6_simulate_4 ?_
  refine v_cs (pc := 7) (as := [.long (lI m), .long (lI 1), .long (lI 60)]) C (cy_X6_in G) (wM_X6_40 G) (k_X6_in G (by first | omega | assumption) (by first | omega | assumption) (by first | omega | assumption)) dX6_simulate_7 rfl rfl (by decide) (by decide) (Nat.le_of_ble_eq_true rfl) zc (k_I (fun z7 s7 q7 => ?_))
  rcases q7 with ⟨⟨rfl, q7⟩ | ⟨rfl, q7⟩, rfl⟩
  · refine v_if_eq (pc := 10) C 17 (by first | omega | assumption) dX6_simulate_10 (by decide) (fun h => absurd h (by decide)) (fun _ => ?_)
    refine v_iconst (pc := 13) C dX6_simulate_13 ?_
    refine v_goto (pc := 14) C 18 dX6_simulate_14 (by decide) ?_
    refine v_cv (pc := 18) (as := [.int (iI 0)]) C (cy_X6_refused G) (wM_X6_124 G) sh_255 (ci := 4) rfl rfl (refN G) dX6_simulate_18 rfl rfl (by decide) (by decide) (Nat.le_of_ble_eq_true rfl) zc (k_I (fun z18 s18 q18 => ?_))
    obtain ⟨rfl, rfl⟩ := q18
    refine v_if_eq (pc := 21) C 26 (by first | omega | assumption) dX6_simulate_21 (by decide) (fun _ => ?_) (fun h => absurd h (by decide))
    refine v_aload_n (pc := 26) C 0 rfl dX6_simulate_26 ?_
    refine v_getr (pc := 27) C inX6 goX6 (ci := 4) rfl 3 (by decide) (wF_X6_13 G) rfl sh_255 (257) rfl dX6_simulate_27 ?_
    refine v_iconst (pc := 30) C dX6_simulate_30 ?_
    refine v_aload_n (pc := 31) C 0 rfl dX6_simulate_31 ?_
    refine v_getr (pc := 32) C inX6 goX6 (ci := 4) rfl 4 (by decide) (wF_X6_16 G) rfl sh_255 (258) rfl dX6_simulate_32 ?_
    refine v_iconst (pc := 35) C dX6_simulate_35 ?_
    refine v_ok (fun hz => ?_)
    refine v_cs (pc := 36) (as := [.ref (bs γ + 257), .int (iI 0), .ref (bs γ + 258), .int (iI 0)]) C (cy_X6_copyState G) (wM_X6_93 G) (copyR G ⟨sh_257, by decide⟩ ⟨sh_258, by decide⟩ (by decide) (by omega) hz) dX6_simulate_36 rfl rfl (by decide) (by decide) (Nat.le_of_ble_eq_true rfl) zc (k_V (fun s36 q36 => ?_))
    subst q36
    rw [blk0 hz sh_257, mS_o258, mS_n]
    refine v_lload_n (pc := 39) C 1 rfl dX6_simulate_39 ?_
    refine v_lstore (pc := 40) C [(4, .long (lI b)), (0, .ref (bs γ + 255)), (1, .long (lI b)), (3, .int (iI m))] dX6_simulate_40 (by decide) rfl ?_
    refine v_iconst (pc := 42) C dX6_simulate_42 ?_
    refine v_istore (pc := 43) C [(6, .int (iI 0)), (4, .long (lI b)), (0, .ref (bs γ + 255)), (1, .long (lI b)), (3, .int (iI m))] dX6_simulate_43 (by decide) rfl ?_
    have L45 : ∀ (fu : Nat) (j : Nat), (hj : j ≤ m.toNat) → m.toNat - j < fu → Vw γ φ 7 0 0 (QE γ φ (pI (fun z σ2 => mQ σ (op_simulate s a t n d k i b m) z σ2))) (mS σ 0 s a p u t n (simR n b j) f d k i) 45 [(6, .int (iI (j : Int))), (4, .long (lI (simX b j))), (3, .int (iI m)), (0, .ref (bs γ + 255))] [] := by
      intro fu
      induction fu with
      | zero => intro j hj hz; exact absurd hz (Nat.not_lt_zero _)
      | succ fu ih =>
        intro j hj hz
        have hsw := simR_Wf hW b j
        refine v_iload (pc := 45) C 0 rfl dX6_simulate_45 ?_
        refine v_iload_n (pc := 47) C 2 rfl dX6_simulate_47 ?_
        refine v_icmp_ge (pc := 48) C 82 (by first | omega | assumption) (by first | omega | assumption) dX6_simulate_48 (by decide) (fun h48 => ?_) (fun h48 => ?_)
        · obtain rfl : j = m.toNat := by omega
          have hl3 := hsw.1
          have hl1 := livelyR_b (simR n b m.toNat) (simR n b m.toNat 0).toNat
          have hl2 := allPR_b hsw (simR n b m.toNat 0).toNat (by omega)
          refine v_sipush (pc := 82) C (by decide +kernel) dX6_simulate_82 ?_
          refine v_aload_n (pc := 85) C 3 rfl dX6_simulate_85 ?_
          refine v_getr (pc := 86) C inX6 goX6 (ci := 4) rfl 4 (by decide) (wF_X6_16 G) rfl sh_255 (258) rfl dX6_simulate_86 ?_
          refine v_st (mS_i258 _ _ _ _ _ _ _ _ _ _ _ _ _ ) ?_
          refine v_cs (pc := 89) (as := [.ref (bs γ + 258)]) C (cy_X6_livelyLegs G) (wM_X6_183 G) (k_X6_livelyLegs G (⟨sh_258, by decide⟩ : sh 258 = (0, 268) ∧ 268 ≤ 4000) ‹_›) dX6_simulate_89 rfl rfl (by decide) (by decide) (Nat.le_of_ble_eq_true rfl) zc (k_I (fun z89 s89 q89 => ?_))
          obtain ⟨ez89, rfl⟩ := q89
          rw [mS_o258]
          refine v_imul (pc := 92) C dX6_simulate_92 ?_
          refine v_aload_n (pc := 93) C 3 rfl dX6_simulate_93 ?_
          refine v_getr (pc := 94) C inX6 goX6 (ci := 4) rfl 4 (by decide) (wF_X6_16 G) rfl sh_255 (258) rfl dX6_simulate_94 ?_
          refine v_st (mS_i258 _ _ _ _ _ _ _ _ _ _ _ _ _ ) ?_
          refine v_cs (pc := 97) (as := [.ref (bs γ + 258)]) C (cy_X6_allPressures G) (wM_X6_186 G) (k_X6_allPressures G (⟨sh_258, by decide⟩ : sh 258 = (0, 268) ∧ 268 ≤ 4000) ‹_›) dX6_simulate_97 rfl rfl (by decide) (by decide) (Nat.le_of_ble_eq_true rfl) zc (k_I (fun z97 s97 q97 => ?_))
          obtain ⟨ez97, rfl⟩ := q97
          rw [mS_o258]
          refine v_sipush (pc := 100) C (by decide +kernel) dX6_simulate_100 ?_
          refine v_irem (pc := 103) C (by first | omega | assumption) (by first | omega | assumption) dX6_simulate_103 ?_
          refine v_iadd (pc := 104) C dX6_simulate_104 ?_
          exact v_iret (pc := 105) C hr (rfl) dX6_simulate_105 (⟨_, rfl, mQ_ok (z' := simA (simR n b m.toNat)) (by unfold op_simulate; rw [if_neg (by omega)]) (by unfold simA; rw [ez89, ez97])⟩)
        · refine v_lload (pc := 51) C 1 rfl dX6_simulate_51 ?_
          refine v_ldc2 (pc := 53) C (wCL_X6_234 G) dX6_simulate_53 ?_
          refine v_lmul (pc := 56) C dX6_simulate_56 ?_
          refine v_ldc2 (pc := 57) C (wCL_X6_236 G) dX6_simulate_57 ?_
          refine v_ladd (pc := 60) C dX6_simulate_60 ?_
          refine v_lstore (pc := 61) C [(4, .long (lI (((simX b j) * 6364136223846793005) + 1442695040888963407))), (6, .int (iI (j : Int))), (3, .int (iI m)), (0, .ref (bs γ + 255))] dX6_simulate_61 (by decide) rfl ?_
          refine v_aload_n (pc := 63) C 3 rfl dX6_simulate_63 ?_
          refine v_getr (pc := 64) C inX6 goX6 (ci := 4) rfl 4 (by decide) (wF_X6_16 G) rfl sh_255 (258) rfl dX6_simulate_64 ?_
          refine v_lload (pc := 67) C 0 rfl dX6_simulate_67 ?_
          refine v_bipush (pc := 69) C (by decide +kernel) dX6_simulate_69 ?_
          refine v_lushr (pc := 71) C dX6_simulate_71 ?_
          refine v_l2i (pc := 72) C dX6_simulate_72 ?_
          refine v_st (mS_i258 _ _ _ _ _ _ _ _ _ _ _ _ _ ) ?_
          refine v_cs (pc := 73) (as := [.ref (bs γ + 258), .int (iI (lUsh (((simX b j) * 6364136223846793005) + 1442695040888963407) 33))]) C (cy_X6_turn G) (wM_X6_238 G) (k_X6_turn G (⟨sh_258, by decide⟩ : sh 258 = (0, 268) ∧ 268 ≤ 4000) ‹_› (lUsh33 _)) dX6_simulate_73 rfl rfl (by decide) (by decide) (Nat.le_of_ble_eq_true rfl) zc (k_V (fun s73 q73 => ?_))
          subst q73
          rw [mS_o258]
          refine v_iinc (pc := 76) C 1 [(6, .int (iI ((j : Int) + 1))), (4, .long (lI (((simX b j) * 6364136223846793005) + 1442695040888963407))), (3, .int (iI m)), (0, .ref (bs γ + 255))] dX6_simulate_76 rfl (by decide) rfl ?_
          refine v_goto (pc := 79) C 45 dX6_simulate_79 (by decide) ?_
          exact v_lv _ [0, 1, 2, 3] rfl (ih (j + 1) (by omega) (by omega))
    exact v_lv _ [0, 1, 4, 2] rfl (L45 (m.toNat + 1) 0 (by omega) (by omega))
  · refine v_if_eq (pc := 10) C 17 (by first | omega | assumption) dX6_simulate_10 (by decide) (fun _ => ?_) (fun h => absurd h (by decide))
    refine v_iconst (pc := 17) C dX6_simulate_17 ?_
    refine v_cv (pc := 18) (as := [.int (iI 1)]) C (cy_X6_refused G) (wM_X6_124 G) sh_255 (ci := 4) rfl rfl (refY G (by decide)) dX6_simulate_18 rfl rfl (by decide) (by decide) (Nat.le_of_ble_eq_true rfl) zc (k_I (fun z18_1 s18_1 q18_1 => ?_))
    obtain ⟨rfl, rfl⟩ := q18_1
    refine v_if_eq (pc := 21) C 26 (by first | omega | assumption) dX6_simulate_21 (by decide) (fun h => absurd h (by decide)) (fun _ => ?_)
    refine v_iconst (pc := 24) C dX6_simulate_24 ?_
    exact v_iret (pc := 25) C hr (rfl) dX6_simulate_25 (⟨_, rfl, mQ_no (by unfold op_simulate; rw [if_pos (by omega)]) (by decide)⟩)

set_option maxHeartbeats 4000000 in
set_option maxRecDepth 100000 in
theorem k_X6_runScript {γ : Gm} (G : Glo γ) {σ : St} {w s a p u : Int} {t n x f d k i : Int → Int} {m b : Int} (hm : R3 m) (hW : Wf n) (hb : R6 b) : Ct γ yX6_runScript cX6_runScript 8 (some .int) 10 [.ref (bs γ + 255), .int (iI m), .long (lI b)] (mS σ w s a p u t n x f d k i) (pI (fun z σ2 => mQ σ (op_runScript s a t n d k i m b) z σ2)) := by
  refine Ct.of G (by decide +kernel) (Nat.le_of_ble_eq_true rfl) (fun φ C hr => ?_)
  have C : Cx γ φ RX6 cX6_runScript 8 10 := C
  have hn0 := hW.1
  have hn1 := hW.2.1
  have hn4 := hW.2.2.1
  have hn5 := hW.2.2.2.1
  obtain ⟨V, hV⟩ : ∃ V, V = scrL b m m.toNat n 0 := ⟨_, rfl⟩
  refine v_lv [(0, .ref (bs γ + 255)), (1, .int (iI m)), (2, .long (lI b))] [0, 1, 2] rfl ?_
  refine v_lconst (pc := 0) C (z := 1) rfl dX6_runScript_0 ?_
  refine v_lstore (pc := 1) C [(4, .long (lI 1)), (0, .ref (bs γ + 255)), (1, .int (iI m)), (2, .long (lI b))] dX6_runScript_1 (by decide) rfl ?_
  refine v_iconst (pc := 3) C dX6_runScript_3 ?_
  refine v_istore (pc := 4) C [(6, .int (iI 0)), (4, .long (lI 1)), (0, .ref (bs γ + 255)), (1, .int (iI m)), (2, .long (lI b))] dX6_runScript_4 (by decide) rfl ?_
  have L6 : ∀ (fu : Nat) (j : Nat), (hj : j ≤ 3 ∧ j ≤ m.toNat) → 3 - j < fu → Vw γ φ 8 0 0 (QE γ φ (pI (fun z σ2 => mQ σ (op_runScript s a t n d k i m b) z σ2))) (mS σ w s a p u t n x f d k i) 6 [(6, .int (iI (j : Int))), (4, .long (lI (1000000 ^ j))), (2, .long (lI b)), (1, .int (iI m)), (0, .ref (bs γ + 255))] [] := by
    intro fu
    induction fu with
    | zero => intro j hj hz; exact absurd hz (Nat.not_lt_zero _)
    | succ fu ih =>
      intro j hj hz
      have hpwj : (1 : Int) ≤ 1000000 ^ j ∧ (1000000 : Int) ^ j ≤ 1000000000000000000 := by rcases (show j = 0 ∨ j = 1 ∨ j = 2 ∨ j = 3 by omega) with e | e | e | e <;> rw [e] <;> decide
      refine v_iload (pc := 6) C 0 rfl dX6_runScript_6 ?_
      refine v_iload_n (pc := 8) C 3 rfl dX6_runScript_8 ?_
      refine v_icmp_ge (pc := 9) C 32 (by first | omega | assumption) (by first | omega | assumption) dX6_runScript_9 (by decide) (fun h9 => ?_) (fun h9 => ?_)
      · refine v_aload_n (pc := 32) C 4 rfl dX6_runScript_32 ?_
        refine v_iload_n (pc := 33) C 3 rfl dX6_runScript_33 ?_
        refine v_i2l (pc := 34) C (by first | omega | assumption) dX6_runScript_34 ?_
        refine v_lconst (pc := 35) C (z := 1) rfl dX6_runScript_35 ?_
        refine v_ldc2 (pc := 36) C (wCL_X6_223 G) dX6_runScript_36 ?_
        refine v_cs (pc := 39) (as := [.long (lI m), .long (lI 1), .long (lI 3)]) C (cy_X6_in G) (wM_X6_40 G) (k_X6_in G (by first | omega | assumption) (by first | omega | assumption) (by first | omega | assumption)) dX6_runScript_39 rfl rfl (by decide) (by decide) (Nat.le_of_ble_eq_true rfl) zc (k_I (fun z39 s39 q39 => ?_))
        rcases q39 with ⟨⟨rfl, q39⟩ | ⟨rfl, q39⟩, rfl⟩
        · have hpj : (1000000 : Int) ^ j = 1000000 ^ m.toNat := by rw [show j = m.toNat by omega]
          refine v_if_eq (pc := 42) C 61 (by first | omega | assumption) dX6_runScript_42 (by decide) (fun h => absurd h (by decide)) (fun _ => ?_)
          refine v_lload_n (pc := 45) C 2 rfl dX6_runScript_45 ?_
          refine v_lconst (pc := 46) C (z := 0) rfl dX6_runScript_46 ?_
          refine v_lload (pc := 47) C 1 rfl dX6_runScript_47 ?_
          refine v_lconst (pc := 49) C (z := 1) rfl dX6_runScript_49 ?_
          refine v_lsub (pc := 50) C dX6_runScript_50 ?_
          refine v_cs (pc := 51) (as := [.long (lI b), .long (lI 0), .long (lI ((1000000 ^ j) - 1))]) C (cy_X6_in G) (wM_X6_40 G) (k_X6_in G (by first | omega | assumption) (by first | omega | assumption) (by first | omega | assumption)) dX6_runScript_51 rfl rfl (by decide) (by decide) (Nat.le_of_ble_eq_true rfl) zc (k_I (fun z51 s51 q51 => ?_))
          rcases q51 with ⟨⟨rfl, q51⟩ | ⟨rfl, q51⟩, rfl⟩
          · refine v_if_eq (pc := 54) C 61 (by first | omega | assumption) dX6_runScript_54 (by decide) (fun h => absurd h (by decide)) (fun _ => ?_)
            refine v_iconst (pc := 57) C dX6_runScript_57 ?_
            refine v_goto (pc := 58) C 62 dX6_runScript_58 (by decide) ?_
            refine v_cv (pc := 62) (as := [.int (iI 0)]) C (cy_X6_refused G) (wM_X6_124 G) sh_255 (ci := 4) rfl rfl (refN G) dX6_runScript_62 rfl rfl (by decide) (by decide) (Nat.le_of_ble_eq_true rfl) zc (k_I (fun z62 s62 q62 => ?_))
            obtain ⟨rfl, rfl⟩ := q62
            refine v_if_eq (pc := 65) C 70 (by first | omega | assumption) dX6_runScript_65 (by decide) (fun _ => ?_) (fun h => absurd h (by decide))
            refine v_aload_n (pc := 70) C 4 rfl dX6_runScript_70 ?_
            refine v_getr (pc := 71) C inX6 goX6 (ci := 4) rfl 3 (by decide) (wF_X6_13 G) rfl sh_255 (257) rfl dX6_runScript_71 ?_
            refine v_iconst (pc := 74) C dX6_runScript_74 ?_
            refine v_aload_n (pc := 75) C 4 rfl dX6_runScript_75 ?_
            refine v_getr (pc := 76) C inX6 goX6 (ci := 4) rfl 4 (by decide) (wF_X6_16 G) rfl sh_255 (258) rfl dX6_runScript_76 ?_
            refine v_iconst (pc := 79) C dX6_runScript_79 ?_
            refine v_ok (fun hz => ?_)
            refine v_cs (pc := 80) (as := [.ref (bs γ + 257), .int (iI 0), .ref (bs γ + 258), .int (iI 0)]) C (cy_X6_copyState G) (wM_X6_93 G) (copyR G ⟨sh_257, by decide⟩ ⟨sh_258, by decide⟩ (by decide) (by omega) hz) dX6_runScript_80 rfl rfl (by decide) (by decide) (Nat.le_of_ble_eq_true rfl) zc (k_V (fun s80 q80 => ?_))
            subst q80
            rw [blk0 hz sh_257, mS_o258, mS_n]
            refine v_iconst (pc := 83) C dX6_runScript_83 ?_
            refine v_istore (pc := 84) C [(6, .int (iI 0)), (4, .long (lI (1000000 ^ j))), (2, .long (lI b)), (1, .int (iI m)), (0, .ref (bs γ + 255))] dX6_runScript_84 (by decide) rfl ?_
            have L86 : ∀ (fu : Nat) (fl : Nat) (q : Int) (r g : Int → Int), (hrr : V = scrL b m fl r q) → (hq : 0 ≤ q ∧ q + fl = m) → (hX : Wf r) → fl < fu → Vw γ φ 8 0 0 (QE γ φ (pI (fun z σ2 => mQ σ (op_runScript s a t n d k i m b) z σ2))) (mS σ 0 s a p u t n r g d k i) 86 [(6, .int (iI q)), (4, .long (lI (1000000 ^ fl))), (2, .long (lI b)), (1, .int (iI m)), (0, .ref (bs γ + 255))] [] := by
              intro fu2
              induction fu2 with
              | zero => intro fl q r g hrr hq hX hz; exact absurd hz (Nat.not_lt_zero _)
              | succ fu2 ih2 =>
                intro fl q r g hrr hq hX hz
                have hpwfl : (1 : Int) ≤ 1000000 ^ fl ∧ (1000000 : Int) ^ fl ≤ 1000000000000000000 := by rcases (show fl = 0 ∨ fl = 1 ∨ fl = 2 ∨ fl = 3 by omega) with e | e | e | e <;> rw [e] <;> decide
                refine v_iload (pc := 86) C 0 rfl dX6_runScript_86 ?_
                refine v_iload_n (pc := 88) C 3 rfl dX6_runScript_88 ?_
                refine v_icmp_ge (pc := 89) C 137 (by first | omega | assumption) (by first | omega | assumption) dX6_runScript_89 (by decide) (fun h89 => ?_) (fun h89 => ?_)
                · obtain rfl : fl = 0 := by omega
                  refine v_iconst (pc := 137) C dX6_runScript_137 ?_
                  exact v_iret (pc := 138) C hr (rfl) dX6_runScript_138 (⟨_, rfl, mQ_ok (z' := scrL b m m.toNat n 0) (by unfold op_runScript; rw [if_neg (by omega)]) (by rw [← hV, hrr]; try rfl)⟩)
                · obtain ⟨fl2, hfl⟩ : ∃ g, fl = g + 1 := ⟨fl - 1, by omega⟩
                  rw [hfl] at hrr
                  unfold scrL at hrr
                  refine v_lload (pc := 92) C 1 rfl dX6_runScript_92 ?_
                  refine v_ldc2 (pc := 94) C (wCL_X6_221 G) dX6_runScript_94 ?_
                  refine v_ldiv (pc := 97) C (by first | omega | assumption) (by first | omega | assumption) dX6_runScript_97 ?_
                  rw [show (1000000 : Int) ^ fl / 1000000 = 1000000 ^ fl2 from by rw [hfl, Int.pow_succ, Int.mul_ediv_cancel _ (by decide)]]
                  have hpwfl2 : (1 : Int) ≤ 1000000 ^ fl2 ∧ (1000000 : Int) ^ fl2 ≤ 1000000000000000000 := by rcases (show fl2 = 0 ∨ fl2 = 1 ∨ fl2 = 2 ∨ fl2 = 3 by omega) with e | e | e | e <;> rw [e] <;> decide
                  have hbd : 0 ≤ b / 1000000 ^ fl2 ∧ b / 1000000 ^ fl2 ≤ b := ⟨Int.ediv_nonneg (by omega) (by omega), Int.ediv_le_self _ (by omega)⟩
                  refine v_lstore (pc := 98) C [(4, .long (lI (1000000 ^ fl2))), (6, .int (iI q)), (2, .long (lI b)), (1, .int (iI m)), (0, .ref (bs γ + 255))] dX6_runScript_98 (by decide) rfl ?_
                  refine v_lload_n (pc := 100) C 2 rfl dX6_runScript_100 ?_
                  refine v_lload (pc := 101) C 0 rfl dX6_runScript_101 ?_
                  refine v_ldiv (pc := 103) C (by first | omega | assumption) (by first | omega | assumption) dX6_runScript_103 ?_
                  refine v_ldc2 (pc := 104) C (wCL_X6_221 G) dX6_runScript_104 ?_
                  refine v_lrem (pc := 107) C (by first | omega | assumption) (by first | omega | assumption) dX6_runScript_107 ?_
                  refine v_l2i (pc := 108) C dX6_runScript_108 ?_
                  refine v_nm (fun gp egp => ?_)
                  refine v_istore (pc := 109) C [(7, .int (iI gp)), (4, .long (lI (1000000 ^ fl2))), (6, .int (iI q)), (2, .long (lI b)), (1, .int (iI m)), (0, .ref (bs γ + 255))] dX6_runScript_109 (by decide) rfl ?_
                  have hG2 : gp = grpZ b m q := by rw [egp]; unfold grpZ; rw [show (m - 1 - q).toNat = fl2 by omega]
                  have hGr : 0 ≤ gp ∧ gp < 1000000 := by rw [egp]; omega
                  rw [← hG2] at hrr
                  refine v_aload_n (pc := 111) C 5 rfl dX6_runScript_111 ?_
                  refine v_iload (pc := 112) C 0 rfl dX6_runScript_112 ?_
                  refine v_ldc (pc := 114) C (wC_X6_225 G) dX6_runScript_114 ?_
                  refine v_idiv (pc := 116) C (by first | omega | assumption) (by first | omega | assumption) dX6_runScript_116 ?_
                  refine v_iload (pc := 117) C 0 rfl dX6_runScript_117 ?_
                  refine v_ldc (pc := 119) C (wC_X6_225 G) dX6_runScript_119 ?_
                  refine v_irem (pc := 121) C (by first | omega | assumption) (by first | omega | assumption) dX6_runScript_121 ?_
                  refine v_cv (pc := 122) (as := [.int (iI (gp / 100000)), .int (iI (gp % 100000))]) C (cy_X6_command G) (wM_X6_226 G) sh_255 (ci := 4) rfl rfl (k_X6_command G ‹_› (by omega) (by omega)) dX6_runScript_122 rfl rfl (by decide) (by decide) (Nat.le_of_ble_eq_true rfl) zc (k_I (fun z122 s122 q122 => ?_))
                  rcases q122 with ⟨⟨rfl, q122⟩ | ⟨rfl, q122⟩, f9, rfl⟩
                  · rw [if_pos q122] at hrr
                    refine v_if_ne (pc := 125) C 131 (by first | omega | assumption) dX6_runScript_125 (by decide) (fun _ => ?_) (fun h => absurd h (by decide))
                    refine v_iinc (pc := 131) C 2 [(6, .int (iI (q + 1))), (7, .int (iI gp)), (4, .long (lI (1000000 ^ fl2))), (2, .long (lI b)), (1, .int (iI m)), (0, .ref (bs γ + 255))] dX6_runScript_131 rfl (by decide) rfl ?_
                    refine v_goto (pc := 134) C 86 dX6_runScript_134 (by decide) ?_
                    have hsw := cmdS_Wf (g := gp / 100000) hX (q := gp % 100000) (by omega)
                    exact v_lv _ [0, 2, 3, 4, 5] rfl (ih2 fl2 (q + 1) _ _ hrr (by omega) hsw (by omega))
                  · rw [if_neg (by omega)] at hrr
                    refine v_if_ne (pc := 125) C 131 (by first | omega | assumption) dX6_runScript_125 (by decide) (fun h => absurd h (by decide)) (fun _ => ?_)
                    refine v_iload (pc := 128) C 2 rfl dX6_runScript_128 ?_
                    exact v_iret (pc := 130) C hr (rfl) dX6_runScript_130 (⟨_, rfl, mQ_ok (z' := scrL b m m.toNat n 0) (by unfold op_runScript; rw [if_neg (by omega)]) (by rw [← hV, hrr]; try rfl)⟩)
            exact v_lv _ [0, 1, 2, 3, 4] (by rw [← hpj]; rfl) (L86 (m.toNat + 1) m.toNat 0 n f hV (by omega) hW (by omega))
          · refine v_if_eq (pc := 54) C 61 (by first | omega | assumption) dX6_runScript_54 (by decide) (fun _ => ?_) (fun h => absurd h (by decide))
            refine v_iconst (pc := 61) C dX6_runScript_61 ?_
            refine v_cv (pc := 62) (as := [.int (iI 1)]) C (cy_X6_refused G) (wM_X6_124 G) sh_255 (ci := 4) rfl rfl (refY G (by decide)) dX6_runScript_62 rfl rfl (by decide) (by decide) (Nat.le_of_ble_eq_true rfl) zc (k_I (fun z62_1 s62_1 q62_1 => ?_))
            obtain ⟨rfl, rfl⟩ := q62_1
            refine v_if_eq (pc := 65) C 70 (by first | omega | assumption) dX6_runScript_65 (by decide) (fun h => absurd h (by decide)) (fun _ => ?_)
            refine v_iconst (pc := 68) C dX6_runScript_68 ?_
            exact v_iret (pc := 69) C hr (rfl) dX6_runScript_69 (⟨_, rfl, mQ_no (by unfold op_runScript; rw [if_pos (by omega)]) (by decide)⟩)
        · refine v_if_eq (pc := 42) C 61 (by first | omega | assumption) dX6_runScript_42 (by decide) (fun _ => ?_) (fun h => absurd h (by decide))
          refine v_iconst (pc := 61) C dX6_runScript_61 ?_
          refine v_cv (pc := 62) (as := [.int (iI 1)]) C (cy_X6_refused G) (wM_X6_124 G) sh_255 (ci := 4) rfl rfl (refY G (by decide)) dX6_runScript_62 rfl rfl (by decide) (by decide) (Nat.le_of_ble_eq_true rfl) zc (k_I (fun z62_2 s62_2 q62_2 => ?_))
          obtain ⟨rfl, rfl⟩ := q62_2
          refine v_if_eq (pc := 65) C 70 (by first | omega | assumption) dX6_runScript_65 (by decide) (fun h => absurd h (by decide)) (fun _ => ?_)
          refine v_iconst (pc := 68) C dX6_runScript_68 ?_
          exact v_iret (pc := 69) C hr (rfl) dX6_runScript_69 (⟨_, rfl, mQ_no (by unfold op_runScript; rw [if_pos (by omega)]) (by decide)⟩)
      · refine v_iload (pc := 12) C 0 rfl dX6_runScript_12 ?_
        refine v_iconst (pc := 14) C dX6_runScript_14 ?_
        refine v_icmp_ge (pc := 15) C 32 (by first | omega | assumption) (by first | omega | assumption) dX6_runScript_15 (by decide) (fun h15 => ?_) (fun h15 => ?_)
        · refine v_aload_n (pc := 32) C 4 rfl dX6_runScript_32 ?_
          refine v_iload_n (pc := 33) C 3 rfl dX6_runScript_33 ?_
          refine v_i2l (pc := 34) C (by first | omega | assumption) dX6_runScript_34 ?_
          refine v_lconst (pc := 35) C (z := 1) rfl dX6_runScript_35 ?_
          refine v_ldc2 (pc := 36) C (wCL_X6_223 G) dX6_runScript_36 ?_
          refine v_cs (pc := 39) (as := [.long (lI m), .long (lI 1), .long (lI 3)]) C (cy_X6_in G) (wM_X6_40 G) (k_X6_in G (by first | omega | assumption) (by first | omega | assumption) (by first | omega | assumption)) dX6_runScript_39 rfl rfl (by decide) (by decide) (Nat.le_of_ble_eq_true rfl) zc (k_I (fun z39_1 s39_1 q39_1 => ?_))
          rcases q39_1 with ⟨⟨rfl, q39_1⟩ | ⟨rfl, q39_1⟩, rfl⟩
          · have hpj : (1000000 : Int) ^ j = 1000000 ^ m.toNat := by rw [show j = m.toNat by omega]
            refine v_if_eq (pc := 42) C 61 (by first | omega | assumption) dX6_runScript_42 (by decide) (fun h => absurd h (by decide)) (fun _ => ?_)
            refine v_lload_n (pc := 45) C 2 rfl dX6_runScript_45 ?_
            refine v_lconst (pc := 46) C (z := 0) rfl dX6_runScript_46 ?_
            refine v_lload (pc := 47) C 1 rfl dX6_runScript_47 ?_
            refine v_lconst (pc := 49) C (z := 1) rfl dX6_runScript_49 ?_
            refine v_lsub (pc := 50) C dX6_runScript_50 ?_
            refine v_cs (pc := 51) (as := [.long (lI b), .long (lI 0), .long (lI ((1000000 ^ j) - 1))]) C (cy_X6_in G) (wM_X6_40 G) (k_X6_in G (by first | omega | assumption) (by first | omega | assumption) (by first | omega | assumption)) dX6_runScript_51 rfl rfl (by decide) (by decide) (Nat.le_of_ble_eq_true rfl) zc (k_I (fun z51_1 s51_1 q51_1 => ?_))
            rcases q51_1 with ⟨⟨rfl, q51_1⟩ | ⟨rfl, q51_1⟩, rfl⟩
            · refine v_if_eq (pc := 54) C 61 (by first | omega | assumption) dX6_runScript_54 (by decide) (fun h => absurd h (by decide)) (fun _ => ?_)
              refine v_iconst (pc := 57) C dX6_runScript_57 ?_
              refine v_goto (pc := 58) C 62 dX6_runScript_58 (by decide) ?_
              refine v_cv (pc := 62) (as := [.int (iI 0)]) C (cy_X6_refused G) (wM_X6_124 G) sh_255 (ci := 4) rfl rfl (refN G) dX6_runScript_62 rfl rfl (by decide) (by decide) (Nat.le_of_ble_eq_true rfl) zc (k_I (fun z62_3 s62_3 q62_3 => ?_))
              obtain ⟨rfl, rfl⟩ := q62_3
              refine v_if_eq (pc := 65) C 70 (by first | omega | assumption) dX6_runScript_65 (by decide) (fun _ => ?_) (fun h => absurd h (by decide))
              refine v_aload_n (pc := 70) C 4 rfl dX6_runScript_70 ?_
              refine v_getr (pc := 71) C inX6 goX6 (ci := 4) rfl 3 (by decide) (wF_X6_13 G) rfl sh_255 (257) rfl dX6_runScript_71 ?_
              refine v_iconst (pc := 74) C dX6_runScript_74 ?_
              refine v_aload_n (pc := 75) C 4 rfl dX6_runScript_75 ?_
              refine v_getr (pc := 76) C inX6 goX6 (ci := 4) rfl 4 (by decide) (wF_X6_16 G) rfl sh_255 (258) rfl dX6_runScript_76 ?_
              refine v_iconst (pc := 79) C dX6_runScript_79 ?_
              refine v_ok (fun hz => ?_)
              refine v_cs (pc := 80) (as := [.ref (bs γ + 257), .int (iI 0), .ref (bs γ + 258), .int (iI 0)]) C (cy_X6_copyState G) (wM_X6_93 G) (copyR G ⟨sh_257, by decide⟩ ⟨sh_258, by decide⟩ (by decide) (by omega) hz) dX6_runScript_80 rfl rfl (by decide) (by decide) (Nat.le_of_ble_eq_true rfl) zc (k_V (fun s80_1 q80_1 => ?_))
              subst q80_1
              rw [blk0 hz sh_257, mS_o258, mS_n]
              refine v_iconst (pc := 83) C dX6_runScript_83 ?_
              refine v_istore (pc := 84) C [(6, .int (iI 0)), (4, .long (lI (1000000 ^ j))), (2, .long (lI b)), (1, .int (iI m)), (0, .ref (bs γ + 255))] dX6_runScript_84 (by decide) rfl ?_
              have L86 : ∀ (fu : Nat) (fl : Nat) (q : Int) (r g : Int → Int), (hrr : V = scrL b m fl r q) → (hq : 0 ≤ q ∧ q + fl = m) → (hX : Wf r) → fl < fu → Vw γ φ 8 0 0 (QE γ φ (pI (fun z σ2 => mQ σ (op_runScript s a t n d k i m b) z σ2))) (mS σ 0 s a p u t n r g d k i) 86 [(6, .int (iI q)), (4, .long (lI (1000000 ^ fl))), (2, .long (lI b)), (1, .int (iI m)), (0, .ref (bs γ + 255))] [] := by
                intro fu2
                induction fu2 with
                | zero => intro fl q r g hrr hq hX hz; exact absurd hz (Nat.not_lt_zero _)
                | succ fu2 ih2 =>
                  intro fl q r g hrr hq hX hz
                  have hpwfl : (1 : Int) ≤ 1000000 ^ fl ∧ (1000000 : Int) ^ fl ≤ 1000000000000000000 := by rcases (show fl = 0 ∨ fl = 1 ∨ fl = 2 ∨ fl = 3 by omega) with e | e | e | e <;> rw [e] <;> decide
                  refine v_iload (pc := 86) C 0 rfl dX6_runScript_86 ?_
                  refine v_iload_n (pc := 88) C 3 rfl dX6_runScript_88 ?_
                  refine v_icmp_ge (pc := 89) C 137 (by first | omega | assumption) (by first | omega | assumption) dX6_runScript_89 (by decide) (fun h89_1 => ?_) (fun h89_1 => ?_)
                  · obtain rfl : fl = 0 := by omega
                    refine v_iconst (pc := 137) C dX6_runScript_137 ?_
                    exact v_iret (pc := 138) C hr (rfl) dX6_runScript_138 (⟨_, rfl, mQ_ok (z' := scrL b m m.toNat n 0) (by unfold op_runScript; rw [if_neg (by omega)]) (by rw [← hV, hrr]; try rfl)⟩)
                  · obtain ⟨fl2, hfl⟩ : ∃ g, fl = g + 1 := ⟨fl - 1, by omega⟩
                    rw [hfl] at hrr
                    unfold scrL at hrr
                    refine v_lload (pc := 92) C 1 rfl dX6_runScript_92 ?_
                    refine v_ldc2 (pc := 94) C (wCL_X6_221 G) dX6_runScript_94 ?_
                    refine v_ldiv (pc := 97) C (by first | omega | assumption) (by first | omega | assumption) dX6_runScript_97 ?_
                    rw [show (1000000 : Int) ^ fl / 1000000 = 1000000 ^ fl2 from by rw [hfl, Int.pow_succ, Int.mul_ediv_cancel _ (by decide)]]
                    have hpwfl2 : (1 : Int) ≤ 1000000 ^ fl2 ∧ (1000000 : Int) ^ fl2 ≤ 1000000000000000000 := by rcases (show fl2 = 0 ∨ fl2 = 1 ∨ fl2 = 2 ∨ fl2 = 3 by omega) with e | e | e | e <;> rw [e] <;> decide
                    have hbd : 0 ≤ b / 1000000 ^ fl2 ∧ b / 1000000 ^ fl2 ≤ b := ⟨Int.ediv_nonneg (by omega) (by omega), Int.ediv_le_self _ (by omega)⟩
                    refine v_lstore (pc := 98) C [(4, .long (lI (1000000 ^ fl2))), (6, .int (iI q)), (2, .long (lI b)), (1, .int (iI m)), (0, .ref (bs γ + 255))] dX6_runScript_98 (by decide) rfl ?_
                    refine v_lload_n (pc := 100) C 2 rfl dX6_runScript_100 ?_
                    refine v_lload (pc := 101) C 0 rfl dX6_runScript_101 ?_
                    refine v_ldiv (pc := 103) C (by first | omega | assumption) (by first | omega | assumption) dX6_runScript_103 ?_
                    refine v_ldc2 (pc := 104) C (wCL_X6_221 G) dX6_runScript_104 ?_
                    refine v_lrem (pc := 107) C (by first | omega | assumption) (by first | omega | assumption) dX6_runScript_107 ?_
                    refine v_l2i (pc := 108) C dX6_runScript_108 ?_
                    refine v_nm (fun gp egp => ?_)
                    refine v_istore (pc := 109) C [(7, .int (iI gp)), (4, .long (lI (1000000 ^ fl2))), (6, .int (iI q)), (2, .long (lI b)), (1, .int (iI m)), (0, .ref (bs γ + 255))] dX6_runScript_109 (by decide) rfl ?_
                    have hG2 : gp = grpZ b m q := by rw [egp]; unfold grpZ; rw [show (m - 1 - q).toNat = fl2 by omega]
                    have hGr : 0 ≤ gp ∧ gp < 1000000 := by rw [egp]; omega
                    rw [← hG2] at hrr
                    refine v_aload_n (pc := 111) C 5 rfl dX6_runScript_111 ?_
                    refine v_iload (pc := 112) C 0 rfl dX6_runScript_112 ?_
                    refine v_ldc (pc := 114) C (wC_X6_225 G) dX6_runScript_114 ?_
                    refine v_idiv (pc := 116) C (by first | omega | assumption) (by first | omega | assumption) dX6_runScript_116 ?_
                    refine v_iload (pc := 117) C 0 rfl dX6_runScript_117 ?_
                    refine v_ldc (pc := 119) C (wC_X6_225 G) dX6_runScript_119 ?_
                    refine v_irem (pc := 121) C (by first | omega | assumption) (by first | omega | assumption) dX6_runScript_121 ?_
                    refine v_cv (pc := 122) (as := [.int (iI (gp / 100000)), .int (iI (gp % 100000))]) C (cy_X6_command G) (wM_X6_226 G) sh_255 (ci := 4) rfl rfl (k_X6_command G ‹_› (by omega) (by omega)) dX6_runScript_122 rfl rfl (by decide) (by decide) (Nat.le_of_ble_eq_true rfl) zc (k_I (fun z122_1 s122_1 q122_1 => ?_))
                    rcases q122_1 with ⟨⟨rfl, q122_1⟩ | ⟨rfl, q122_1⟩, f9, rfl⟩
                    · rw [if_pos q122_1] at hrr
                      refine v_if_ne (pc := 125) C 131 (by first | omega | assumption) dX6_runScript_125 (by decide) (fun _ => ?_) (fun h => absurd h (by decide))
                      refine v_iinc (pc := 131) C 2 [(6, .int (iI (q + 1))), (7, .int (iI gp)), (4, .long (lI (1000000 ^ fl2))), (2, .long (lI b)), (1, .int (iI m)), (0, .ref (bs γ + 255))] dX6_runScript_131 rfl (by decide) rfl ?_
                      refine v_goto (pc := 134) C 86 dX6_runScript_134 (by decide) ?_
                      have hsw := cmdS_Wf (g := gp / 100000) hX (q := gp % 100000) (by omega)
                      exact v_lv _ [0, 2, 3, 4, 5] rfl (ih2 fl2 (q + 1) _ _ hrr (by omega) hsw (by omega))
                    · rw [if_neg (by omega)] at hrr
                      refine v_if_ne (pc := 125) C 131 (by first | omega | assumption) dX6_runScript_125 (by decide) (fun h => absurd h (by decide)) (fun _ => ?_)
                      refine v_iload (pc := 128) C 2 rfl dX6_runScript_128 ?_
                      exact v_iret (pc := 130) C hr (rfl) dX6_runScript_130 (⟨_, rfl, mQ_ok (z' := scrL b m m.toNat n 0) (by unfold op_runScript; rw [if_neg (by omega)]) (by rw [← hV, hrr]; try rfl)⟩)
              exact v_lv _ [0, 1, 2, 3, 4] (by rw [← hpj]; rfl) (L86 (m.toNat + 1) m.toNat 0 n f hV (by omega) hW (by omega))
            · refine v_if_eq (pc := 54) C 61 (by first | omega | assumption) dX6_runScript_54 (by decide) (fun _ => ?_) (fun h => absurd h (by decide))
              refine v_iconst (pc := 61) C dX6_runScript_61 ?_
              refine v_cv (pc := 62) (as := [.int (iI 1)]) C (cy_X6_refused G) (wM_X6_124 G) sh_255 (ci := 4) rfl rfl (refY G (by decide)) dX6_runScript_62 rfl rfl (by decide) (by decide) (Nat.le_of_ble_eq_true rfl) zc (k_I (fun z62_4 s62_4 q62_4 => ?_))
              obtain ⟨rfl, rfl⟩ := q62_4
              refine v_if_eq (pc := 65) C 70 (by first | omega | assumption) dX6_runScript_65 (by decide) (fun h => absurd h (by decide)) (fun _ => ?_)
              refine v_iconst (pc := 68) C dX6_runScript_68 ?_
              exact v_iret (pc := 69) C hr (rfl) dX6_runScript_69 (⟨_, rfl, mQ_no (by unfold op_runScript; rw [if_pos (by omega)]) (by decide)⟩)
          · refine v_if_eq (pc := 42) C 61 (by first | omega | assumption) dX6_runScript_42 (by decide) (fun _ => ?_) (fun h => absurd h (by decide))
            refine v_iconst (pc := 61) C dX6_runScript_61 ?_
            refine v_cv (pc := 62) (as := [.int (iI 1)]) C (cy_X6_refused G) (wM_X6_124 G) sh_255 (ci := 4) rfl rfl (refY G (by decide)) dX6_runScript_62 rfl rfl (by decide) (by decide) (Nat.le_of_ble_eq_true rfl) zc (k_I (fun z62_5 s62_5 q62_5 => ?_))
            obtain ⟨rfl, rfl⟩ := q62_5
            refine v_if_eq (pc := 65) C 70 (by first | omega | assumption) dX6_runScript_65 (by decide) (fun h => absurd h (by decide)) (fun _ => ?_)
            refine v_iconst (pc := 68) C dX6_runScript_68 ?_
            exact v_iret (pc := 69) C hr (rfl) dX6_runScript_69 (⟨_, rfl, mQ_no (by unfold op_runScript; rw [if_pos (by omega)]) (by decide)⟩)
        · refine v_lload (pc := 18) C 1 rfl dX6_runScript_18 ?_
          refine v_ldc2 (pc := 20) C (wCL_X6_221 G) dX6_runScript_20 ?_
          refine v_lmul (pc := 23) C dX6_runScript_23 ?_
          refine v_lstore (pc := 24) C [(4, .long (lI ((1000000 ^ j) * 1000000))), (6, .int (iI (j : Int))), (2, .long (lI b)), (1, .int (iI m)), (0, .ref (bs γ + 255))] dX6_runScript_24 (by decide) rfl ?_
          refine v_iinc (pc := 26) C 1 [(6, .int (iI ((j : Int) + 1))), (4, .long (lI ((1000000 ^ j) * 1000000))), (2, .long (lI b)), (1, .int (iI m)), (0, .ref (bs γ + 255))] dX6_runScript_26 rfl (by decide) rfl ?_
          refine v_goto (pc := 29) C 6 dX6_runScript_29 (by decide) ?_
          exact v_lv _ [0, 1, 2, 3, 4] rfl (ih (j + 1) (by omega) (by omega))
  exact v_lv _ [0, 1, 4, 3, 2] rfl (L6 4 0 (by omega) (by omega))
