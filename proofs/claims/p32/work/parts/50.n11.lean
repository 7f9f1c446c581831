theorem arg_r {t : Int → Int} {n p : Int} (hok : cmdOk t n p) {j : Nat} (hj : j < cntB (tabS (t p))) : loB (tabS (t p)) j ≤ argV t n p j ∧ argV t n p j ≤ hiB (tabS (t p)) j :=
  nums_ok t n (k := tabS (t p)) (by have h1 := tabS_6 (t p); have h2 := hok.1; omega) (p + 1) (cntB (tabS (t p))) (Nat.le_refl _) hok.2 j hj
theorem cmd_v (r : Int → Int) (a : Nat → Int) : cmdNo r 118 a = (if r 0 < 10 then 0 else 1) ∧ cmdDo r 118 a = (if r 0 < 10 then valveR r (a 0) (a 1) else r) := by
  have e : cmdNo r 118 a = (if r 0 < 10 then 0 else 1) := by unfold cmdNo; rw [if_pos rfl]
  refine ⟨e, ?_⟩
  unfold cmdDo
  rw [e]
  by_cases h : r 0 < 10
  · rw [if_pos h, if_pos h, if_neg (by decide), if_pos rfl]
  · rw [if_neg h, if_neg h, if_pos rfl]
theorem cmd_d (r : Int → Int) (a : Nat → Int) : cmdNo r 100 a = (if canD r (a 0) (a 1) (a 2) (a 3) (a 4) then 0 else 1) ∧ cmdDo r 100 a = (if canD r (a 0) (a 1) (a 2) (a 3) (a 4) then ductR r (a 0) (a 1) (a 2) (a 3) (a 4) else r) := by
  have e : cmdNo r 100 a = (if canD r (a 0) (a 1) (a 2) (a 3) (a 4) then 0 else 1) := by unfold cmdNo; rw [if_neg (by decide), if_pos rfl]
  refine ⟨e, ?_⟩
  unfold cmdDo
  rw [e]
  by_cases h : canD r (a 0) (a 1) (a 2) (a 3) (a 4)
  · rw [if_pos h, if_pos h, if_neg (by decide), if_neg (by decide), if_pos rfl]
  · rw [if_neg h, if_neg h, if_pos rfl]
theorem cmd_k (r : Int → Int) (a : Nat → Int) : cmdNo r 107 a = (if isK r (a 0) then 0 else 1) ∧ cmdDo r 107 a = (if isK r (a 0) then upr r (6 + 7 * a 0 + 2) 1 else r) := by
  have e : cmdNo r 107 a = (if isK r (a 0) then 0 else 1) := by unfold cmdNo; rw [if_neg (by decide), if_neg (by decide), if_pos (Or.inl rfl)]
  refine ⟨e, ?_⟩
  unfold cmdDo
  rw [e]
  by_cases h : isK r (a 0)
  · rw [if_pos h, if_pos h, if_neg (by decide), if_neg (by decide), if_neg (by decide), if_pos (Or.inl rfl), if_pos rfl]
  · rw [if_neg h, if_neg h, if_pos rfl]
theorem cmd_r (r : Int → Int) (a : Nat → Int) : cmdNo r 114 a = (if isK r (a 0) then 0 else 1) ∧ cmdDo r 114 a = (if isK r (a 0) then upr r (6 + 7 * a 0 + 2) 0 else r) := by
  have e : cmdNo r 114 a = (if isK r (a 0) then 0 else 1) := by unfold cmdNo; rw [if_neg (by decide), if_neg (by decide), if_pos (Or.inr rfl)]
  refine ⟨e, ?_⟩
  unfold cmdDo
  rw [e]
  by_cases h : isK r (a 0)
  · rw [if_pos h, if_pos h, if_neg (by decide), if_neg (by decide), if_neg (by decide), if_pos (Or.inr rfl), if_neg (by decide)]
  · rw [if_neg h, if_neg h, if_pos rfl]
theorem cmd_l (r : Int → Int) (a : Nat → Int) : cmdNo r 108 a = (if 0 ≤ a 0 ∧ a 0 < r 1 then 0 else 1) ∧ cmdDo r 108 a = (if 0 ≤ a 0 ∧ a 0 < r 1 then upr r (76 + 12 * a 0 + 5) (a 1) else r) := by
  have e : cmdNo r 108 a = (if 0 ≤ a 0 ∧ a 0 < r 1 then 0 else 1) := by unfold cmdNo; rw [if_neg (by decide), if_neg (by decide), if_neg (by decide), if_pos rfl]
  refine ⟨e, ?_⟩
  unfold cmdDo
  rw [e]
  by_cases h : 0 ≤ a 0 ∧ a 0 < r 1
  · rw [if_pos h, if_pos h, if_neg (by decide), if_neg (by decide), if_neg (by decide), if_neg (by decide), if_pos rfl]
  · rw [if_neg h, if_neg h, if_pos rfl]
theorem cmd_t (r : Int → Int) (a : Nat → Int) : cmdNo r 116 a = 0 ∧ cmdDo r 116 a = runR r (a 0).toNat := by
  have e : cmdNo r 116 a = 0 := by unfold cmdNo; rw [if_neg (by decide), if_neg (by decide), if_neg (by decide), if_neg (by decide)]
  refine ⟨e, ?_⟩
  unfold cmdDo
  rw [e, if_neg (by decide), if_neg (by decide), if_neg (by decide), if_neg (by decide), if_neg (by decide)]

set_option maxHeartbeats 4000000 in
set_option maxRecDepth 100000 in
theorem k_X4_firstError {γ : Gm} (G : Glo γ) {σ : St} {s p l : Int} {N t : Int → Int} (hs : 0 ≤ s ∧ s ≤ 120) (h1 : σ 1 1 = s) (ht : ∀ j, 0 ≤ j → j < s → σ 2 j = t j) (htr : ∀ j, 0 ≤ j → j < s → 0 ≤ t j ∧ t j ≤ 255)  : Ct γ yX4_firstError cX4_firstError 2 (some .int) 4 [.ref (bs γ + 1)] (tS σ p l N) (pI (fun z σ2 => z = errR t s ∧ R3 z ∧ ∃ p9 l9 N9, σ2 = tS σ p9 l9 N9)) := by
  refine Ct.of G (by decide +kernel) (Nat.le_of_ble_eq_true rfl) (fun φ C hr => ?_)
  have C : Cx γ φ RX4 cX4_firstError 2 4 := C
  obtain ⟨V, hV⟩ : ∃ V, V = errT t s 120 1 := ⟨_, rfl⟩
  refine v_lv [(0, .ref (bs γ + 1))] [0] rfl ?_
  refine v_aload_n (pc := 0) C 0 rfl dX4_firstError_0 ?_
  refine v_cv (pc := 1) (as := []) C (cy_X4_readStart G) (wM_X4_19 G) sh_1 (ci := 2) rfl rfl (k_X4_readStart G hs h1 ht htr ) dX4_firstError_1 rfl rfl (by decide) (by decide) (Nat.le_of_ble_eq_true rfl) zc (k_I (fun z1 s1 q1 => ?_))
  rcases q1 with ⟨rfl, q1, rfl⟩ | ⟨rfl, q1, rfl⟩
  · refine v_if_ne (pc := 4) C 12 (by first | omega | assumption) dX4_firstError_4 (by decide) (fun _ => ?_) (fun h => absurd h (by decide))
    refine v_iconst (pc := 12) C dX4_firstError_12 ?_
    refine v_istore_n (pc := 13) C [(1, .int (iI 0)), (0, .ref (bs γ + 1))] dX4_firstError_13 rfl (by decide) rfl ?_
    have L14 : ∀ (fu : Nat) (i fl : Nat) (q l1 : Int) (N1 : Int → Int), (hrr : V = errT t s fl q) → (hq : 1 ≤ q ∧ q ≤ 131 ∧ s - q ≤ fl) → (hi : i + fl = 120) → fl < fu → Vw γ φ 2 0 0 (QE γ φ (pI (fun z σ2 => z = errR t s ∧ R3 z ∧ ∃ p9 l9 N9, σ2 = tS σ p9 l9 N9))) (tS σ q l1 N1) 14 [(1, .int (iI (i : Int))), (0, .ref (bs γ + 1))] [] := by
      intro fu
      induction fu with
      | zero => intro i fl q l1 N1 hrr hq hi hz; exact absurd hz (Nat.not_lt_zero _)
      | succ fu ih =>
        intro i fl q l1 N1 hrr hq hi hz
        refine v_iload_n (pc := 14) C 0 rfl dX4_firstError_14 ?_
        refine v_bipush (pc := 15) C (by decide +kernel) dX4_firstError_15 ?_
        refine v_icmp_ge (pc := 17) C 45 (by first | omega | assumption) (by first | omega | assumption) dX4_firstError_17 (by decide) (fun h17 => ?_) (fun h17 => ?_)
        · refine v_iconst (pc := 45) C dX4_firstError_45 ?_
          exact v_iret (pc := 46) C hr (rfl) dX4_firstError_46 (⟨_, rfl, by unfold errR; rw [if_neg q1, ← hV, hrr]; cases fl with
              | zero => rfl
              | succ f2 => unfold errT; rw [if_neg (by omega)], by decide, _, _, _, rfl⟩)
        · refine v_aload_n (pc := 20) C 1 rfl dX4_firstError_20 ?_
          refine v_cv (pc := 21) (as := []) C (cy_X4_hasMore G) (wM_X4_27 G) sh_1 (ci := 2) rfl rfl (k_X4_hasMore G hs h1 ht htr ) dX4_firstError_21 rfl rfl (by decide) (by decide) (Nat.le_of_ble_eq_true rfl) zc (k_I (fun z21 s21 q21 => ?_))
          rcases q21 with ⟨⟨rfl, q21⟩ | ⟨rfl, q21⟩, rfl⟩
          · refine v_if_eq (pc := 24) C 45 (by first | omega | assumption) dX4_firstError_24 (by decide) (fun h => absurd h (by decide)) (fun _ => ?_)
            refine v_aload_n (pc := 27) C 1 rfl dX4_firstError_27 ?_
            refine v_cv (pc := 28) (as := []) C (cy_X4_readCommand G) (wM_X4_30 G) sh_1 (ci := 2) rfl rfl (k_X4_readCommand G hs h1 ht htr (by omega)) dX4_firstError_28 rfl rfl (by decide) (by decide) (Nat.le_of_ble_eq_true rfl) zc (k_I (fun z28 s28 q28 => ?_))
            rcases q28 with ⟨rfl, q28, N9, hN9, rfl⟩ | ⟨rfl, q28, l9, N9, rfl⟩
            · obtain ⟨fl2, rfl⟩ : ∃ g, fl = g + 1 := ⟨fl - 1, by omega⟩
              unfold errT at hrr
              rw [if_pos q21, if_pos q28] at hrr
              have hcp := cmdP_r t s q
              refine v_if_ne (pc := 31) C 39 (by first | omega | assumption) dX4_firstError_31 (by decide) (fun _ => ?_) (fun h => absurd h (by decide))
              refine v_iinc (pc := 39) C 0 [(1, .int (iI ((i : Int) + 1))), (0, .ref (bs γ + 1))] dX4_firstError_39 rfl (by decide) rfl ?_
              refine v_goto (pc := 42) C 14 dX4_firstError_42 (by decide) ?_
              exact v_lv _ [0, 1] rfl (ih (i + 1) fl2 _ _ _ hrr (by have := hcp.2.2 q28.1; omega) (by omega) (by omega))
            · obtain ⟨fl2, rfl⟩ : ∃ g, fl = g + 1 := ⟨fl - 1, by omega⟩
              unfold errT at hrr
              rw [if_pos q21, if_neg q28] at hrr
              have hcp := cmdP_r t s q
              refine v_if_ne (pc := 31) C 39 (by first | omega | assumption) dX4_firstError_31 (by decide) (fun h => absurd h (by decide)) (fun _ => ?_)
              refine v_aload_n (pc := 34) C 1 rfl dX4_firstError_34 ?_
              refine v_geti (pc := 35) C inX4 goX4 (ci := 2) rfl 2 (by decide) (wF_X4_23 G) rfl sh_1 2 rfl dX4_firstError_35 (fun z35 ez35 rz35 => ?_)
              rw [tS_2] at ez35
              exact v_iret (pc := 38) C hr (rfl) dX4_firstError_38 (⟨_, rfl, by unfold errR; rw [if_neg q1, ← hV, hrr]; exact ez35, by omega, _, _, _, rfl⟩)
          · refine v_if_eq (pc := 24) C 45 (by first | omega | assumption) dX4_firstError_24 (by decide) (fun _ => ?_) (fun h => absurd h (by decide))
            refine v_iconst (pc := 45) C dX4_firstError_45 ?_
            exact v_iret (pc := 46) C hr (rfl) dX4_firstError_46 (⟨_, rfl, by unfold errR; rw [if_neg q1, ← hV, hrr]; cases fl with
                | zero => rfl
                | succ f2 => unfold errT; rw [if_neg (by omega)], by decide, _, _, _, rfl⟩)
    exact v_lv _ [0, 1] rfl (L14 121 0 120 1 l N hV (by omega) (by omega) (by omega))
  · refine v_if_ne (pc := 4) C 12 (by first | omega | assumption) dX4_firstError_4 (by decide) (fun h => absurd h (by decide)) (fun _ => ?_)
    refine v_aload_n (pc := 7) C 0 rfl dX4_firstError_7 ?_
    refine v_geti (pc := 8) C inX4 goX4 (ci := 2) rfl 2 (by decide) (wF_X4_23 G) rfl sh_1 2 rfl dX4_firstError_8 (fun z8 ez8 rz8 => ?_)
    rw [tS_2] at ez8
    exact v_iret (pc := 11) C hr (rfl) dX4_firstError_11 (⟨_, rfl, by unfold errR; rw [if_pos q1]; omega, by omega, _, _, _, rfl⟩)

set_option maxHeartbeats 4000000 in
set_option maxRecDepth 100000 in
theorem k_X4_doCommand {γ : Gm} (G : Glo γ) {σ α : St} {s p q l : Int} {N t r : Int → Int} (hlt : l = t q) (htq : 0 ≤ t q ∧ t q ≤ 255) (hok : cmdOk t s q) (hNm : ∀ j : Nat, j < cntB (tabS (t q)) → N (j : Int) = argV t s q j) (hR : Rep α r) (h : Wf r) : Ct γ yX4_doCommand cX4_doCommand 2 (some .boolean) 6 [.ref (bs γ + 1), .ref (bs γ + 4)] (setN (tS σ p l N) 4 α) (pI (fun z σ2 => (z = 1 ∧ cmdNo r (t q) (argV t s q) = 0 ∨ z = 0 ∧ cmdNo r (t q) (argV t s q) = 1) ∧ ∃ α2, Rep α2 (cmdDo r (t q) (argV t s q)) ∧ σ2 = setN (tS σ p l N) 4 α2)) := by
  refine Ct.of G (by decide +kernel) (Nat.le_of_ble_eq_true rfl) (fun φ C hr => ?_)
  have C : Cx γ φ RX4 cX4_doCommand 2 6 := C
  have hN : NetB 4 := Or.inl rfl
  have hn0 := h.1
  have hn1 := h.2.1
  have hn4 := h.2.2.1
  have hn5 := h.2.2.2.1
  refine v_lv [(0, .ref (bs γ + 1)), (1, .ref (bs γ + 4))] [0, 1] rfl ?_
  refine v_aload_n (pc := 0) C 0 rfl dX4_doCommand_0 ?_
  refine v_geti (pc := 1) C inX4 goX4 (ci := 2) rfl 3 (by decide) (wF_X4_36 G) rfl sh_1 3 rfl dX4_doCommand_1 (fun z1 ez1 rz1 => ?_)
  have wz1 : z1 = t q := ez1.trans hlt
  have hs4 : z1 = 100 ∨ z1 = 107 ∨ z1 = 108 ∨ z1 = 114 ∨ z1 = 118 ∨ (¬ z1 = 100 ∧ ¬ z1 = 107 ∧ ¬ z1 = 108 ∧ ¬ z1 = 114 ∧ ¬ z1 = 118) := by omega
  rcases hs4 with hs4 | hs4 | hs4 | hs4 | hs4 | hs4
  · refine v_look (pc := 4) C 73 (by first | omega | assumption) dX4_doCommand_4 (by decide) (off := 69) (by rw [hs4]; rfl) (by decide) ?_
    have hl : t q = 100 := by omega
    have hk : tabS (t q) = 1 := by rw [hl]; rfl
    have b0 := arg_r hok (j := 0) (by rw [hk]; decide)
    rw [hk] at b0
    have b0 : 0 ≤ argV t s q 0 ∧ argV t s q 0 ≤ 9 := b0
    have n0 := hNm 0 (by rw [hk]; decide)
    have b1 := arg_r hok (j := 1) (by rw [hk]; decide)
    rw [hk] at b1
    have b1 : 0 ≤ argV t s q 1 ∧ argV t s q 1 ≤ 1 := b1
    have n1 := hNm 1 (by rw [hk]; decide)
    have b2 := arg_r hok (j := 2) (by rw [hk]; decide)
    rw [hk] at b2
    have b2 : 0 ≤ argV t s q 2 ∧ argV t s q 2 ≤ 9 := b2
    have n2 := hNm 2 (by rw [hk]; decide)
    have b3 := arg_r hok (j := 3) (by rw [hk]; decide)
    rw [hk] at b3
    have b3 : 0 ≤ argV t s q 3 ∧ argV t s q 3 ≤ 1 := b3
    have n3 := hNm 3 (by rw [hk]; decide)
    have b4 := arg_r hok (j := 4) (by rw [hk]; decide)
    rw [hk] at b4
    have b4 : 1 ≤ argV t s q 4 ∧ argV t s q 4 ≤ 6 := b4
    have n4 := hNm 4 (by rw [hk]; decide)
    refine v_aload_n (pc := 73) C 1 rfl dX4_doCommand_73 ?_
    refine v_aload_n (pc := 74) C 0 rfl dX4_doCommand_74 ?_
    refine v_getr (pc := 75) C inX4 goX4 (ci := 2) rfl 4 (by decide) (wF_X4_15 G) rfl sh_1 (3) rfl dX4_doCommand_75 ?_
    refine v_iconst (pc := 78) C dX4_doCommand_78 ?_
    refine v_iald (pc := 79) C sh_3 (by decide) (by first | omega | assumption) dX4_doCommand_79 (fun z79 ez79 rz79 => ?_)
    have wz79 : z79 = argV t s q 0 := ez79.trans n0
    refine v_aload_n (pc := 80) C 0 rfl dX4_doCommand_80 ?_
    refine v_getr (pc := 81) C inX4 goX4 (ci := 2) rfl 4 (by decide) (wF_X4_15 G) rfl sh_1 (3) rfl dX4_doCommand_81 ?_
    refine v_iconst (pc := 84) C dX4_doCommand_84 ?_
    refine v_iald (pc := 85) C sh_3 (by decide) (by first | omega | assumption) dX4_doCommand_85 (fun z85 ez85 rz85 => ?_)
    have wz85 : z85 = argV t s q 1 := ez85.trans n1
    refine v_aload_n (pc := 86) C 0 rfl dX4_doCommand_86 ?_
    refine v_getr (pc := 87) C inX4 goX4 (ci := 2) rfl 4 (by decide) (wF_X4_15 G) rfl sh_1 (3) rfl dX4_doCommand_87 ?_
    refine v_iconst (pc := 90) C dX4_doCommand_90 ?_
    refine v_iald (pc := 91) C sh_3 (by decide) (by first | omega | assumption) dX4_doCommand_91 (fun z91 ez91 rz91 => ?_)
    have wz91 : z91 = argV t s q 2 := ez91.trans n2
    refine v_aload_n (pc := 92) C 0 rfl dX4_doCommand_92 ?_
    refine v_getr (pc := 93) C inX4 goX4 (ci := 2) rfl 4 (by decide) (wF_X4_15 G) rfl sh_1 (3) rfl dX4_doCommand_93 ?_
    refine v_iconst (pc := 96) C dX4_doCommand_96 ?_
    refine v_iald (pc := 97) C sh_3 (by decide) (by first | omega | assumption) dX4_doCommand_97 (fun z97 ez97 rz97 => ?_)
    have wz97 : z97 = argV t s q 3 := ez97.trans n3
    refine v_aload_n (pc := 98) C 0 rfl dX4_doCommand_98 ?_
    refine v_getr (pc := 99) C inX4 goX4 (ci := 2) rfl 4 (by decide) (wF_X4_15 G) rfl sh_1 (3) rfl dX4_doCommand_99 ?_
    refine v_iconst (pc := 102) C dX4_doCommand_102 ?_
    refine v_iald (pc := 103) C sh_3 (by decide) (by first | omega | assumption) dX4_doCommand_103 (fun z103 ez103 rz103 => ?_)
    have wz103 : z103 = argV t s q 4 := ez103.trans n4
    refine v_cs (pc := 104) (as := [.ref (bs γ + 4), .int (iI z79), .int (iI z85), .int (iI z91), .int (iI z97), .int (iI z103)]) C (cy_X0_tryDuct G) (wM_X4_74 G) (k_X0_tryDuct G hN hR h (by first | omega | assumption) (by first | omega | assumption) (by first | omega | assumption) (by first | omega | assumption) (by first | omega | assumption)) dX4_doCommand_104 rfl rfl (by decide) (by decide) (Nat.le_of_ble_eq_true rfl) zc (k_I (fun z104 s104 q104 => ?_))
    rcases q104 with ⟨rfl, q104, α9, hR9, rfl⟩ | ⟨rfl, q104, rfl⟩
    · exact v_iret (pc := 107) C hr (rfl) dX4_doCommand_107 (⟨_, rfl, Or.inl ⟨rfl, by rw [hl, (cmd_d r (argV t s q)).1]; exact if_pos (by omega)⟩, α9, by rw [hl, (cmd_d r (argV t s q)).2, if_pos (by omega), ← wz79, ← wz85, ← wz91, ← wz97, ← wz103]; exact hR9, rfl⟩)
    · exact v_iret (pc := 107) C hr (rfl) dX4_doCommand_107 (⟨_, rfl, Or.inr ⟨rfl, by rw [hl, (cmd_d r (argV t s q)).1]; exact if_neg (by omega)⟩, α, by rw [hl, (cmd_d r (argV t s q)).2, if_neg (by omega)]; exact hR, rfl⟩)
  · refine v_look (pc := 4) C 108 (by first | omega | assumption) dX4_doCommand_4 (by decide) (off := 104) (by rw [hs4]; rfl) (by decide) ?_
    have hl : t q = 107 := by omega
    have hk : tabS (t q) = 2 := by rw [hl]; rfl
    have b0 := arg_r hok (j := 0) (by rw [hk]; decide)
    rw [hk] at b0
    have b0 : 0 ≤ argV t s q 0 ∧ argV t s q 0 ≤ 9 := b0
    have n0 := hNm 0 (by rw [hk]; decide)
    refine v_aload_n (pc := 108) C 1 rfl dX4_doCommand_108 ?_
    refine v_aload_n (pc := 109) C 0 rfl dX4_doCommand_109 ?_
    refine v_getr (pc := 110) C inX4 goX4 (ci := 2) rfl 4 (by decide) (wF_X4_15 G) rfl sh_1 (3) rfl dX4_doCommand_110 ?_
    refine v_iconst (pc := 113) C dX4_doCommand_113 ?_
    refine v_iald (pc := 114) C sh_3 (by decide) (by first | omega | assumption) dX4_doCommand_114 (fun z114 ez114 rz114 => ?_)
    have wz114 : z114 = argV t s q 0 := ez114.trans n0
    refine v_iconst (pc := 115) C dX4_doCommand_115 ?_
    refine v_cs (pc := 116) (as := [.ref (bs γ + 4), .int (iI z114), .int (iI 1)]) C (cy_X0_tryPress G) (wM_X4_78 G) (k_X0_tryPress G hN hR h (by first | omega | assumption) (by omega)) dX4_doCommand_116 rfl rfl (by decide) (by decide) (Nat.le_of_ble_eq_true rfl) zc (k_I (fun z116 s116 q116 => ?_))
    rcases q116 with ⟨rfl, q116, α9, hR9, rfl⟩ | ⟨rfl, q116, rfl⟩
    · rw [wz114] at q116
      exact v_iret (pc := 119) C hr (rfl) dX4_doCommand_119 (⟨_, rfl, Or.inl ⟨rfl, by rw [hl, (cmd_k r (argV t s q)).1]; exact if_pos (by omega)⟩, α9, by rw [hl, (cmd_k r (argV t s q)).2, if_pos (by omega), ← wz114]; exact hR9, rfl⟩)
    · rw [wz114] at q116
      exact v_iret (pc := 119) C hr (rfl) dX4_doCommand_119 (⟨_, rfl, Or.inr ⟨rfl, by rw [hl, (cmd_k r (argV t s q)).1]; exact if_neg (by omega)⟩, α, by rw [hl, (cmd_k r (argV t s q)).2, if_neg (by omega)]; exact hR, rfl⟩)
  · refine v_look (pc := 4) C 132 (by first | omega | assumption) dX4_doCommand_4 (by decide) (off := 128) (by rw [hs4]; rfl) (by decide) ?_
    have hl : t q = 108 := by omega
    have hk : tabS (t q) = 3 := by rw [hl]; rfl
    have b0 := arg_r hok (j := 0) (by rw [hk]; decide)
    rw [hk] at b0
    have b0 : 0 ≤ argV t s q 0 ∧ argV t s q 0 ≤ 15 := b0
    have n0 := hNm 0 (by rw [hk]; decide)
    have b1 := arg_r hok (j := 1) (by rw [hk]; decide)
    rw [hk] at b1
    have b1 : 0 ≤ argV t s q 1 ∧ argV t s q 1 ≤ 30 := b1
    have n1 := hNm 1 (by rw [hk]; decide)
    refine v_aload_n (pc := 132) C 1 rfl dX4_doCommand_132 ?_
    refine v_aload_n (pc := 133) C 0 rfl dX4_doCommand_133 ?_
    refine v_getr (pc := 134) C inX4 goX4 (ci := 2) rfl 4 (by decide) (wF_X4_15 G) rfl sh_1 (3) rfl dX4_doCommand_134 ?_
    refine v_iconst (pc := 137) C dX4_doCommand_137 ?_
    refine v_iald (pc := 138) C sh_3 (by decide) (by first | omega | assumption) dX4_doCommand_138 (fun z138 ez138 rz138 => ?_)
    have wz138 : z138 = argV t s q 0 := ez138.trans n0
    refine v_aload_n (pc := 139) C 0 rfl dX4_doCommand_139 ?_
    refine v_getr (pc := 140) C inX4 goX4 (ci := 2) rfl 4 (by decide) (wF_X4_15 G) rfl sh_1 (3) rfl dX4_doCommand_140 ?_
    refine v_iconst (pc := 143) C dX4_doCommand_143 ?_
    refine v_iald (pc := 144) C sh_3 (by decide) (by first | omega | assumption) dX4_doCommand_144 (fun z144 ez144 rz144 => ?_)
    have wz144 : z144 = argV t s q 1 := ez144.trans n1
    refine v_cs (pc := 145) (as := [.ref (bs γ + 4), .int (iI z138), .int (iI z144)]) C (cy_X0_tryLeak G) (wM_X4_82 G) (k_X0_tryLeak G hN hR h (by first | omega | assumption) (by first | omega | assumption)) dX4_doCommand_145 rfl rfl (by decide) (by decide) (Nat.le_of_ble_eq_true rfl) zc (k_I (fun z145 s145 q145 => ?_))
    rcases q145 with ⟨rfl, q145, α9, hR9, rfl⟩ | ⟨rfl, q145, rfl⟩
    · exact v_iret (pc := 148) C hr (rfl) dX4_doCommand_148 (⟨_, rfl, Or.inl ⟨rfl, by rw [hl, (cmd_l r (argV t s q)).1]; exact if_pos (by omega)⟩, α9, by rw [hl, (cmd_l r (argV t s q)).2, if_pos (by omega), ← wz138, ← wz144]; exact hR9, rfl⟩)
    · exact v_iret (pc := 148) C hr (rfl) dX4_doCommand_148 (⟨_, rfl, Or.inr ⟨rfl, by rw [hl, (cmd_l r (argV t s q)).1]; exact if_neg (by omega)⟩, α, by rw [hl, (cmd_l r (argV t s q)).2, if_neg (by omega)]; exact hR, rfl⟩)
  · refine v_look (pc := 4) C 120 (by first | omega | assumption) dX4_doCommand_4 (by decide) (off := 116) (by rw [hs4]; rfl) (by decide) ?_
    have hl : t q = 114 := by omega
    have hk : tabS (t q) = 2 := by rw [hl]; rfl
    have b0 := arg_r hok (j := 0) (by rw [hk]; decide)
    rw [hk] at b0
    have b0 : 0 ≤ argV t s q 0 ∧ argV t s q 0 ≤ 9 := b0
    have n0 := hNm 0 (by rw [hk]; decide)
    refine v_aload_n (pc := 120) C 1 rfl dX4_doCommand_120 ?_
    refine v_aload_n (pc := 121) C 0 rfl dX4_doCommand_121 ?_
    refine v_getr (pc := 122) C inX4 goX4 (ci := 2) rfl 4 (by decide) (wF_X4_15 G) rfl sh_1 (3) rfl dX4_doCommand_122 ?_
    refine v_iconst (pc := 125) C dX4_doCommand_125 ?_
    refine v_iald (pc := 126) C sh_3 (by decide) (by first | omega | assumption) dX4_doCommand_126 (fun z126 ez126 rz126 => ?_)
    have wz126 : z126 = argV t s q 0 := ez126.trans n0
    refine v_iconst (pc := 127) C dX4_doCommand_127 ?_
    refine v_cs (pc := 128) (as := [.ref (bs γ + 4), .int (iI z126), .int (iI 0)]) C (cy_X0_tryPress G) (wM_X4_78 G) (k_X0_tryPress G hN hR h (by first | omega | assumption) (by omega)) dX4_doCommand_128 rfl rfl (by decide) (by decide) (Nat.le_of_ble_eq_true rfl) zc (k_I (fun z128 s128 q128 => ?_))
    rcases q128 with ⟨rfl, q128, α9, hR9, rfl⟩ | ⟨rfl, q128, rfl⟩
    · rw [wz126] at q128
      exact v_iret (pc := 131) C hr (rfl) dX4_doCommand_131 (⟨_, rfl, Or.inl ⟨rfl, by rw [hl, (cmd_r r (argV t s q)).1]; exact if_pos (by omega)⟩, α9, by rw [hl, (cmd_r r (argV t s q)).2, if_pos (by omega), ← wz126]; exact hR9, rfl⟩)
    · rw [wz126] at q128
      exact v_iret (pc := 131) C hr (rfl) dX4_doCommand_131 (⟨_, rfl, Or.inr ⟨rfl, by rw [hl, (cmd_r r (argV t s q)).1]; exact if_neg (by omega)⟩, α, by rw [hl, (cmd_r r (argV t s q)).2, if_neg (by omega)]; exact hR, rfl⟩)
  · refine v_look (pc := 4) C 56 (by first | omega | assumption) dX4_doCommand_4 (by decide) (off := 52) (by rw [hs4]; rfl) (by decide) ?_
    have hl : t q = 118 := by omega
    have hk : tabS (t q) = 0 := by rw [hl]; rfl
    have b0 := arg_r hok (j := 0) (by rw [hk]; decide)
    rw [hk] at b0
    have b0 : 0 ≤ argV t s q 0 ∧ argV t s q 0 ≤ 4 := b0
    have n0 := hNm 0 (by rw [hk]; decide)
    have b1 := arg_r hok (j := 1) (by rw [hk]; decide)
    rw [hk] at b1
    have b1 : 10 ≤ argV t s q 1 ∧ argV t s q 1 ≤ 99 := b1
    have n1 := hNm 1 (by rw [hk]; decide)
    refine v_aload_n (pc := 56) C 1 rfl dX4_doCommand_56 ?_
    refine v_aload_n (pc := 57) C 0 rfl dX4_doCommand_57 ?_
    refine v_getr (pc := 58) C inX4 goX4 (ci := 2) rfl 4 (by decide) (wF_X4_15 G) rfl sh_1 (3) rfl dX4_doCommand_58 ?_
    refine v_iconst (pc := 61) C dX4_doCommand_61 ?_
    refine v_iald (pc := 62) C sh_3 (by decide) (by first | omega | assumption) dX4_doCommand_62 (fun z62 ez62 rz62 => ?_)
    have wz62 : z62 = argV t s q 0 := ez62.trans n0
    refine v_aload_n (pc := 63) C 0 rfl dX4_doCommand_63 ?_
    refine v_getr (pc := 64) C inX4 goX4 (ci := 2) rfl 4 (by decide) (wF_X4_15 G) rfl sh_1 (3) rfl dX4_doCommand_64 ?_
    refine v_iconst (pc := 67) C dX4_doCommand_67 ?_
    refine v_iald (pc := 68) C sh_3 (by decide) (by first | omega | assumption) dX4_doCommand_68 (fun z68 ez68 rz68 => ?_)
    have wz68 : z68 = argV t s q 1 := ez68.trans n1
    refine v_cs (pc := 69) (as := [.ref (bs γ + 4), .int (iI z62), .int (iI z68)]) C (cy_X0_tryValve G) (wM_X4_68 G) (k_X0_tryValve G hN hR h (by first | omega | assumption) (by first | omega | assumption)) dX4_doCommand_69 rfl rfl (by decide) (by decide) (Nat.le_of_ble_eq_true rfl) zc (k_I (fun z69 s69 q69 => ?_))
    rcases q69 with ⟨rfl, q69, α9, hR9, rfl⟩ | ⟨rfl, q69, rfl⟩
    · exact v_iret (pc := 72) C hr (rfl) dX4_doCommand_72 (⟨_, rfl, Or.inl ⟨rfl, by rw [hl, (cmd_v r (argV t s q)).1]; exact if_pos (by omega)⟩, α9, by rw [hl, (cmd_v r (argV t s q)).2, if_pos (by omega), ← wz62, ← wz68]; exact hR9, rfl⟩)
    · exact v_iret (pc := 72) C hr (rfl) dX4_doCommand_72 (⟨_, rfl, Or.inr ⟨rfl, by rw [hl, (cmd_v r (argV t s q)).1]; exact if_neg (by omega)⟩, α, by rw [hl, (cmd_v r (argV t s q)).2, if_neg (by omega)]; exact hR, rfl⟩)
  · refine v_look (pc := 4) C 149 (by first | omega | assumption) dX4_doCommand_4 (by decide) (off := 145) (by simp [Op.lookupswitch.offset, hs4]; try omega) (by decide) ?_
    have hl1 : t q = 116 := by have h1 := hok.1; unfold tabS at h1; (repeat' split at h1) <;> omega
    have hl : t q = 116 := by omega
    have hk : tabS (t q) = 4 := by rw [hl]; rfl
    have b0 := arg_r hok (j := 0) (by rw [hk]; decide)
    rw [hk] at b0
    have b0 : 1 ≤ argV t s q 0 ∧ argV t s q 0 ≤ 99 := b0
    have n0 := hNm 0 (by rw [hk]; decide)
    refine v_aload_n (pc := 149) C 1 rfl dX4_doCommand_149 ?_
    refine v_aload_n (pc := 150) C 0 rfl dX4_doCommand_150 ?_
    refine v_getr (pc := 151) C inX4 goX4 (ci := 2) rfl 4 (by decide) (wF_X4_15 G) rfl sh_1 (3) rfl dX4_doCommand_151 ?_
    refine v_iconst (pc := 154) C dX4_doCommand_154 ?_
    refine v_iald (pc := 155) C sh_3 (by decide) (by first | omega | assumption) dX4_doCommand_155 (fun z155 ez155 rz155 => ?_)
    have wz155 : z155 = argV t s q 0 := ez155.trans n0
    refine v_cs (pc := 156) (as := [.ref (bs γ + 4), .int (iI z155)]) C (cy_X0_tryTicks G) (wM_X4_85 G) (k_X0_tryTicks G hN hR h (by first | omega | assumption)) dX4_doCommand_156 rfl rfl (by decide) (by decide) (Nat.le_of_ble_eq_true rfl) zc (k_I (fun z156 s156 q156 => ?_))
    rcases q156 with ⟨rfl, q156, α9, hR9, rfl⟩ | ⟨rfl, q156, rfl⟩
    · exact v_iret (pc := 159) C hr (rfl) dX4_doCommand_159 (⟨_, rfl, Or.inl ⟨rfl, by rw [hl, (cmd_t r (argV t s q)).1]⟩, α9, by rw [hl, (cmd_t r (argV t s q)).2, ← wz155]; exact hR9, rfl⟩)
    · exact v_iret (pc := 159) C hr (rfl) dX4_doCommand_159 (by exfalso; omega)
