set_option maxHeartbeats 4000000 in
set_option maxRecDepth 100000 in
theorem k_X0_faultOfValve {γ : Gm} (G : Glo γ) {σ α : St} {n : Nat} {r : Int → Int} {c s : Int} (hN : NetB n) (hR : Rep α r) (h : Wf r) (hc : R3 c) (hs : R3 s) : Ct γ yX0_faultOfValve cX0_faultOfValve 3 (some .int) 2 [.ref (bs γ + n), .int (iI c), .int (iI s)] (setN σ n α) (pI (fun z σ2 => (z = 2 ∧ (¬ ((0 ≤ c ∧ c ≤ 4) ∧ (10 ≤ s ∧ s ≤ 99))) ∨ z = 0 ∧ (((0 ≤ c ∧ c ≤ 4) ∧ (10 ≤ s ∧ s ≤ 99)) ∧ r 0 < 10) ∨ z = 3 ∧ (((0 ≤ c ∧ c ≤ 4) ∧ (10 ≤ s ∧ s ≤ 99)) ∧ ¬ r 0 < 10)) ∧ σ2 = setN σ n α)) := by
  refine Ct.of G (by decide +kernel) (Nat.le_of_ble_eq_true rfl) (fun φ C hr => ?_)
  have C : Cx γ φ RX0 cX0_faultOfValve 3 2 := C
  have hn0 := h.1
  have hn1 := h.2.1
  have hn4 := h.2.2.1
  have hn5 := h.2.2.2.1
  refine v_lv [(0, .ref (bs γ + n)), (1, .int (iI c)), (2, .int (iI s))] [0, 1, 2] rfl ?_
  refine v_iload_n (pc := 0) C 1 rfl dX0_faultOfValve_0 ?_
  refine v_iconst (pc := 1) C dX0_faultOfValve_1 ?_
  refine v_iconst (pc := 2) C dX0_faultOfValve_2 ?_
  refine v_csN (pc := 3) (as := [.int (iI c), .int (iI 0), .int (iI 4)]) C (cy_X5_isIn G) (wN_X0_9 G) (k_X5_isIn G (by first | omega | assumption) (by first | omega | assumption) (by first | omega | assumption)) dX0_faultOfValve_3 rfl rfl (by decide) (by decide) (Nat.le_of_ble_eq_true rfl) zc (k_I (fun z3 s3 q3 => ?_))
  rcases q3 with ⟨⟨rfl, q3⟩ | ⟨rfl, q3⟩, rfl⟩
  · refine v_if_eq (pc := 6) C 20 (by first | omega | assumption) dX0_faultOfValve_6 (by decide) (fun h => absurd h (by decide)) (fun _ => ?_)
    refine v_iload_n (pc := 9) C 2 rfl dX0_faultOfValve_9 ?_
    refine v_bipush (pc := 10) C (by decide +kernel) dX0_faultOfValve_10 ?_
    refine v_bipush (pc := 12) C (by decide +kernel) dX0_faultOfValve_12 ?_
    refine v_csN (pc := 14) (as := [.int (iI s), .int (iI 10), .int (iI 99)]) C (cy_X5_isIn G) (wN_X0_9 G) (k_X5_isIn G (by first | omega | assumption) (by first | omega | assumption) (by first | omega | assumption)) dX0_faultOfValve_14 rfl rfl (by decide) (by decide) (Nat.le_of_ble_eq_true rfl) zc (k_I (fun z14 s14 q14 => ?_))
    rcases q14 with ⟨⟨rfl, q14⟩ | ⟨rfl, q14⟩, rfl⟩
    · refine v_if_ne (pc := 17) C 22 (by first | omega | assumption) dX0_faultOfValve_17 (by decide) (fun _ => ?_) (fun h => absurd h (by decide))
      refine v_aload_n (pc := 22) C 0 rfl dX0_faultOfValve_22 ?_
      refine v_getiM (pc := 23) C hN 2 (by decide) (wF_X0_13 G) rfl 2 rfl dX0_faultOfValve_23 (fun z23 ez23 rz23 => ?_)
      rw [hR.nv] at ez23
      refine v_bipush (pc := 26) C (by decide +kernel) dX0_faultOfValve_26 ?_
      refine v_icmp_ge (pc := 28) C 35 (by first | omega | assumption) (by first | omega | assumption) dX0_faultOfValve_28 (by decide) (fun h28 => ?_) (fun h28 => ?_)
      · refine v_iconst (pc := 35) C dX0_faultOfValve_35 ?_
        exact v_iret (pc := 36) C hr (rfl) dX0_faultOfValve_36 (⟨_, rfl, by omega, rfl⟩)
      · refine v_iconst (pc := 31) C dX0_faultOfValve_31 ?_
        refine v_goto (pc := 32) C 36 dX0_faultOfValve_32 (by decide) ?_
        exact v_iret (pc := 36) C hr (rfl) dX0_faultOfValve_36 (⟨_, rfl, by omega, rfl⟩)
    · refine v_if_ne (pc := 17) C 22 (by first | omega | assumption) dX0_faultOfValve_17 (by decide) (fun h => absurd h (by decide)) (fun _ => ?_)
      refine v_iconst (pc := 20) C dX0_faultOfValve_20 ?_
      exact v_iret (pc := 21) C hr (rfl) dX0_faultOfValve_21 (⟨_, rfl, by omega, rfl⟩)
  · refine v_if_eq (pc := 6) C 20 (by first | omega | assumption) dX0_faultOfValve_6 (by decide) (fun _ => ?_) (fun h => absurd h (by decide))
    refine v_iconst (pc := 20) C dX0_faultOfValve_20 ?_
    exact v_iret (pc := 21) C hr (rfl) dX0_faultOfValve_21 (⟨_, rfl, by omega, rfl⟩)

set_option maxHeartbeats 4000000 in
set_option maxRecDepth 100000 in
theorem k_X0_faultOfDuct {γ : Gm} (G : Glo γ) {σ α : St} {n : Nat} {r : Int → Int} {f l t p m : Int} (hN : NetB n) (hR : Rep α r) (h : Wf r) (hf : R3 f) (hl : R3 l) (ht : R3 t) (hp : R3 p) (hm : R3 m) : Ct γ yX0_faultOfDuct cX0_faultOfDuct 6 (some .int) 3 [.ref (bs γ + n), .int (iI f), .int (iI l), .int (iI t), .int (iI p), .int (iI m)] (setN σ n α) (pI (fun z σ2 => (z = 1 ∧ (¬ (((0 ≤ f ∧ f < r 0) ∧ (0 ≤ l ∧ l ≤ 1)) ∧ ((0 ≤ t ∧ t < r 0) ∧ (0 ≤ p ∧ p ≤ 1)))) ∨ z = 2 ∧ ((((0 ≤ f ∧ f < r 0) ∧ (0 ≤ l ∧ l ≤ 1)) ∧ ((0 ≤ t ∧ t < r 0) ∧ (0 ≤ p ∧ p ≤ 1))) ∧ ¬ (1 ≤ m ∧ m ≤ 6)) ∨ z = 0 ∧ ((((0 ≤ f ∧ f < r 0) ∧ (0 ≤ l ∧ l ≤ 1)) ∧ ((0 ≤ t ∧ t < r 0) ∧ (0 ≤ p ∧ p ≤ 1))) ∧ (1 ≤ m ∧ m ≤ 6) ∧ r 1 < 16) ∨ z = 3 ∧ ((((0 ≤ f ∧ f < r 0) ∧ (0 ≤ l ∧ l ≤ 1)) ∧ ((0 ≤ t ∧ t < r 0) ∧ (0 ≤ p ∧ p ≤ 1))) ∧ (1 ≤ m ∧ m ≤ 6) ∧ ¬ r 1 < 16)) ∧ σ2 = setN σ n α)) := by
  refine Ct.of G (by decide +kernel) (Nat.le_of_ble_eq_true rfl) (fun φ C hr => ?_)
  have C : Cx γ φ RX0 cX0_faultOfDuct 6 3 := C
  have hn0 := h.1
  have hn1 := h.2.1
  have hn4 := h.2.2.1
  have hn5 := h.2.2.2.1
  refine v_lv [(0, .ref (bs γ + n)), (1, .int (iI f)), (2, .int (iI l)), (3, .int (iI t)), (4, .int (iI p)), (5, .int (iI m))] [0, 1, 2, 3, 4, 5] rfl ?_
  refine v_aload_n (pc := 0) C 0 rfl dX0_faultOfDuct_0 ?_
  refine v_iload_n (pc := 1) C 1 rfl dX0_faultOfDuct_1 ?_
  refine v_iload_n (pc := 2) C 2 rfl dX0_faultOfDuct_2 ?_
  refine v_cv (pc := 3) (as := [.int (iI f), .int (iI l)]) C (cy_X2_hasEnd G) (wM_X0_29 G) (show sh n = (5, 1) from hN.sh (k := 0) (by decide)) (ci := 1) rfl rfl (k_X2_hasEnd G hN hR h (by first | omega | assumption) (by first | omega | assumption)) dX0_faultOfDuct_3 rfl rfl (by decide) (by decide) (Nat.le_of_ble_eq_true rfl) zc (k_I (fun z3 s3 q3 => ?_))
  rcases q3 with ⟨⟨rfl, q3⟩ | ⟨rfl, q3⟩, rfl⟩
  · refine v_if_eq (pc := 6) C 19 (by first | omega | assumption) dX0_faultOfDuct_6 (by decide) (fun h => absurd h (by decide)) (fun _ => ?_)
    refine v_aload_n (pc := 9) C 0 rfl dX0_faultOfDuct_9 ?_
    refine v_iload_n (pc := 10) C 3 rfl dX0_faultOfDuct_10 ?_
    refine v_iload (pc := 11) C 4 rfl dX0_faultOfDuct_11 ?_
    refine v_cv (pc := 13) (as := [.int (iI t), .int (iI p)]) C (cy_X2_hasEnd G) (wM_X0_29 G) (show sh n = (5, 1) from hN.sh (k := 0) (by decide)) (ci := 1) rfl rfl (k_X2_hasEnd G hN hR h (by first | omega | assumption) (by first | omega | assumption)) dX0_faultOfDuct_13 rfl rfl (by decide) (by decide) (Nat.le_of_ble_eq_true rfl) zc (k_I (fun z13 s13 q13 => ?_))
    rcases q13 with ⟨⟨rfl, q13⟩ | ⟨rfl, q13⟩, rfl⟩
    · refine v_if_ne (pc := 16) C 21 (by first | omega | assumption) dX0_faultOfDuct_16 (by decide) (fun _ => ?_) (fun h => absurd h (by decide))
      refine v_iload (pc := 21) C 5 rfl dX0_faultOfDuct_21 ?_
      refine v_iconst (pc := 23) C dX0_faultOfDuct_23 ?_
      refine v_bipush (pc := 24) C (by decide +kernel) dX0_faultOfDuct_24 ?_
      refine v_csN (pc := 26) (as := [.int (iI m), .int (iI 1), .int (iI 6)]) C (cy_X5_isIn G) (wN_X0_9 G) (k_X5_isIn G (by first | omega | assumption) (by first | omega | assumption) (by first | omega | assumption)) dX0_faultOfDuct_26 rfl rfl (by decide) (by decide) (Nat.le_of_ble_eq_true rfl) zc (k_I (fun z26 s26 q26 => ?_))
      rcases q26 with ⟨⟨rfl, q26⟩ | ⟨rfl, q26⟩, rfl⟩
      · refine v_if_ne (pc := 29) C 34 (by first | omega | assumption) dX0_faultOfDuct_29 (by decide) (fun _ => ?_) (fun h => absurd h (by decide))
        refine v_aload_n (pc := 34) C 0 rfl dX0_faultOfDuct_34 ?_
        refine v_getiM (pc := 35) C hN 3 (by decide) (wF_X0_33 G) rfl 3 rfl dX0_faultOfDuct_35 (fun z35 ez35 rz35 => ?_)
        rw [hR.nd] at ez35
        refine v_bipush (pc := 38) C (by decide +kernel) dX0_faultOfDuct_38 ?_
        refine v_icmp_ge (pc := 40) C 47 (by first | omega | assumption) (by first | omega | assumption) dX0_faultOfDuct_40 (by decide) (fun h40 => ?_) (fun h40 => ?_)
        · refine v_iconst (pc := 47) C dX0_faultOfDuct_47 ?_
          exact v_iret (pc := 48) C hr (rfl) dX0_faultOfDuct_48 (⟨_, rfl, by omega, rfl⟩)
        · refine v_iconst (pc := 43) C dX0_faultOfDuct_43 ?_
          refine v_goto (pc := 44) C 48 dX0_faultOfDuct_44 (by decide) ?_
          exact v_iret (pc := 48) C hr (rfl) dX0_faultOfDuct_48 (⟨_, rfl, by omega, rfl⟩)
      · refine v_if_ne (pc := 29) C 34 (by first | omega | assumption) dX0_faultOfDuct_29 (by decide) (fun h => absurd h (by decide)) (fun _ => ?_)
        refine v_iconst (pc := 32) C dX0_faultOfDuct_32 ?_
        exact v_iret (pc := 33) C hr (rfl) dX0_faultOfDuct_33 (⟨_, rfl, by omega, rfl⟩)
    · refine v_if_ne (pc := 16) C 21 (by first | omega | assumption) dX0_faultOfDuct_16 (by decide) (fun h => absurd h (by decide)) (fun _ => ?_)
      refine v_iconst (pc := 19) C dX0_faultOfDuct_19 ?_
      exact v_iret (pc := 20) C hr (rfl) dX0_faultOfDuct_20 (⟨_, rfl, by omega, rfl⟩)
  · refine v_if_eq (pc := 6) C 19 (by first | omega | assumption) dX0_faultOfDuct_6 (by decide) (fun _ => ?_) (fun h => absurd h (by decide))
    refine v_iconst (pc := 19) C dX0_faultOfDuct_19 ?_
    exact v_iret (pc := 20) C hr (rfl) dX0_faultOfDuct_20 (⟨_, rfl, by omega, rfl⟩)

set_option maxHeartbeats 4000000 in
set_option maxRecDepth 100000 in
theorem k_X0_faultOfRemove {γ : Gm} (G : Glo γ) {σ α : St} {n : Nat} {r : Int → Int} {e : Int} (hN : NetB n) (hR : Rep α r) (h : Wf r) (he : R3 e) : Ct γ yX0_faultOfRemove cX0_faultOfRemove 2 (some .int) 2 [.ref (bs γ + n), .int (iI e)] (setN σ n α) (pI (fun z σ2 => (z = 0 ∧ (0 ≤ e ∧ e < r 1) ∨ z = 1 ∧ (¬ (0 ≤ e ∧ e < r 1))) ∧ σ2 = setN σ n α)) := by
  refine Ct.of G (by decide +kernel) (Nat.le_of_ble_eq_true rfl) (fun φ C hr => ?_)
  have C : Cx γ φ RX0 cX0_faultOfRemove 2 2 := C
  have hn0 := h.1
  have hn1 := h.2.1
  have hn4 := h.2.2.1
  have hn5 := h.2.2.2.1
  refine v_lv [(0, .ref (bs γ + n)), (1, .int (iI e))] [0, 1] rfl ?_
  refine v_aload_n (pc := 0) C 0 rfl dX0_faultOfRemove_0 ?_
  refine v_iload_n (pc := 1) C 1 rfl dX0_faultOfRemove_1 ?_
  refine v_cv (pc := 2) (as := [.int (iI e)]) C (cy_X2_hasDuct G) (wM_X0_48 G) (show sh n = (5, 1) from hN.sh (k := 0) (by decide)) (ci := 1) rfl rfl (k_X2_hasDuct G hN hR h (by first | omega | assumption)) dX0_faultOfRemove_2 rfl rfl (by decide) (by decide) (Nat.le_of_ble_eq_true rfl) zc (k_I (fun z2 s2 q2 => ?_))
  rcases q2 with ⟨⟨rfl, q2⟩ | ⟨rfl, q2⟩, rfl⟩
  · refine v_if_eq (pc := 5) C 12 (by first | omega | assumption) dX0_faultOfRemove_5 (by decide) (fun h => absurd h (by decide)) (fun _ => ?_)
    refine v_iconst (pc := 8) C dX0_faultOfRemove_8 ?_
    refine v_goto (pc := 9) C 13 dX0_faultOfRemove_9 (by decide) ?_
    exact v_iret (pc := 13) C hr (rfl) dX0_faultOfRemove_13 (⟨_, rfl, by omega, rfl⟩)
  · refine v_if_eq (pc := 5) C 12 (by first | omega | assumption) dX0_faultOfRemove_5 (by decide) (fun _ => ?_) (fun h => absurd h (by decide))
    refine v_iconst (pc := 12) C dX0_faultOfRemove_12 ?_
    exact v_iret (pc := 13) C hr (rfl) dX0_faultOfRemove_13 (⟨_, rfl, by omega, rfl⟩)

set_option maxHeartbeats 4000000 in
set_option maxRecDepth 100000 in
theorem k_X0_faultOfPress {γ : Gm} (G : Glo γ) {σ α : St} {n : Nat} {r : Int → Int} {v : Int} (hN : NetB n) (hR : Rep α r) (h : Wf r) (hv : R3 v) : Ct γ yX0_faultOfPress cX0_faultOfPress 2 (some .int) 2 [.ref (bs γ + n), .int (iI v)] (setN σ n α) (pI (fun z σ2 => (z = 1 ∧ (¬ (0 ≤ v ∧ v < r 0)) ∨ z = 0 ∧ ((0 ≤ v ∧ v < r 0) ∧ r (6 + 7 * v + 0) = 0) ∨ z = 3 ∧ ((0 ≤ v ∧ v < r 0) ∧ ¬ r (6 + 7 * v + 0) = 0)) ∧ σ2 = setN σ n α)) := by
  refine Ct.of G (by decide +kernel) (Nat.le_of_ble_eq_true rfl) (fun φ C hr => ?_)
  have C : Cx γ φ RX0 cX0_faultOfPress 2 2 := C
  have hn0 := h.1
  have hn1 := h.2.1
  have hn4 := h.2.2.1
  have hn5 := h.2.2.2.1
  refine v_lv [(0, .ref (bs γ + n)), (1, .int (iI v))] [0, 1] rfl ?_
  refine v_aload_n (pc := 0) C 0 rfl dX0_faultOfPress_0 ?_
  refine v_iload_n (pc := 1) C 1 rfl dX0_faultOfPress_1 ?_
  refine v_cv (pc := 2) (as := [.int (iI v)]) C (cy_X2_hasValve G) (wM_X0_60 G) (show sh n = (5, 1) from hN.sh (k := 0) (by decide)) (ci := 1) rfl rfl (k_X2_hasValve G hN hR h (by first | omega | assumption)) dX0_faultOfPress_2 rfl rfl (by decide) (by decide) (Nat.le_of_ble_eq_true rfl) zc (k_I (fun z2 s2 q2 => ?_))
  rcases q2 with ⟨⟨rfl, q2⟩ | ⟨rfl, q2⟩, rfl⟩
  · refine v_if_ne (pc := 5) C 10 (by first | omega | assumption) dX0_faultOfPress_5 (by decide) (fun _ => ?_) (fun h => absurd h (by decide))
    refine v_aload_n (pc := 10) C 0 rfl dX0_faultOfPress_10 ?_
    refine v_getrN (pc := 11) C hN 5 2 (by decide) (wF_X0_63 G) rfl dX0_faultOfPress_11 ?_
    refine v_iload_n (pc := 14) C 1 rfl dX0_faultOfPress_14 ?_
    refine v_ialdN (pc := 15) C hN 2 (by decide) (m := 10) rfl (by first | omega | assumption) dX0_faultOfPress_15 (fun z15 ez15 rz15 => ?_)
    have wz15 := ez15.trans (hR.2.1 v (by omega) (by omega)).1
    refine v_if_ne (pc := 16) C 23 (by first | omega | assumption) dX0_faultOfPress_16 (by decide) (fun h16 => ?_) (fun h16 => ?_)
    · refine v_iconst (pc := 23) C dX0_faultOfPress_23 ?_
      exact v_iret (pc := 24) C hr (rfl) dX0_faultOfPress_24 (⟨_, rfl, by omega, rfl⟩)
    · refine v_iconst (pc := 19) C dX0_faultOfPress_19 ?_
      refine v_goto (pc := 20) C 24 dX0_faultOfPress_20 (by decide) ?_
      exact v_iret (pc := 24) C hr (rfl) dX0_faultOfPress_24 (⟨_, rfl, by omega, rfl⟩)
  · refine v_if_ne (pc := 5) C 10 (by first | omega | assumption) dX0_faultOfPress_5 (by decide) (fun h => absurd h (by decide)) (fun _ => ?_)
    refine v_iconst (pc := 8) C dX0_faultOfPress_8 ?_
    exact v_iret (pc := 9) C hr (rfl) dX0_faultOfPress_9 (⟨_, rfl, by omega, rfl⟩)

set_option maxHeartbeats 4000000 in
set_option maxRecDepth 100000 in
theorem k_X0_faultOfLeak {γ : Gm} (G : Glo γ) {σ α : St} {n : Nat} {r : Int → Int} {e l : Int} (hN : NetB n) (hR : Rep α r) (h : Wf r) (he : R3 e) (hl : R3 l) : Ct γ yX0_faultOfLeak cX0_faultOfLeak 3 (some .int) 2 [.ref (bs γ + n), .int (iI e), .int (iI l)] (setN σ n α) (pI (fun z σ2 => (z = 1 ∧ (¬ (0 ≤ e ∧ e < r 1)) ∨ z = 0 ∧ ((0 ≤ e ∧ e < r 1) ∧ (0 ≤ l ∧ l ≤ 30)) ∨ z = 2 ∧ ((0 ≤ e ∧ e < r 1) ∧ ¬ (0 ≤ l ∧ l ≤ 30))) ∧ σ2 = setN σ n α)) := by
  refine Ct.of G (by decide +kernel) (Nat.le_of_ble_eq_true rfl) (fun φ C hr => ?_)
  have C : Cx γ φ RX0 cX0_faultOfLeak 3 2 := C
  have hn0 := h.1
  have hn1 := h.2.1
  have hn4 := h.2.2.1
  have hn5 := h.2.2.2.1
  refine v_lv [(0, .ref (bs γ + n)), (1, .int (iI e)), (2, .int (iI l))] [0, 1, 2] rfl ?_
  refine v_aload_n (pc := 0) C 0 rfl dX0_faultOfLeak_0 ?_
  refine v_iload_n (pc := 1) C 1 rfl dX0_faultOfLeak_1 ?_
  refine v_cv (pc := 2) (as := [.int (iI e)]) C (cy_X2_hasDuct G) (wM_X0_48 G) (show sh n = (5, 1) from hN.sh (k := 0) (by decide)) (ci := 1) rfl rfl (k_X2_hasDuct G hN hR h (by first | omega | assumption)) dX0_faultOfLeak_2 rfl rfl (by decide) (by decide) (Nat.le_of_ble_eq_true rfl) zc (k_I (fun z2 s2 q2 => ?_))
  rcases q2 with ⟨⟨rfl, q2⟩ | ⟨rfl, q2⟩, rfl⟩
  · refine v_if_ne (pc := 5) C 10 (by first | omega | assumption) dX0_faultOfLeak_5 (by decide) (fun _ => ?_) (fun h => absurd h (by decide))
    refine v_iload_n (pc := 10) C 2 rfl dX0_faultOfLeak_10 ?_
    refine v_iconst (pc := 11) C dX0_faultOfLeak_11 ?_
    refine v_bipush (pc := 12) C (by decide +kernel) dX0_faultOfLeak_12 ?_
    refine v_csN (pc := 14) (as := [.int (iI l), .int (iI 0), .int (iI 30)]) C (cy_X5_isIn G) (wN_X0_9 G) (k_X5_isIn G (by first | omega | assumption) (by first | omega | assumption) (by first | omega | assumption)) dX0_faultOfLeak_14 rfl rfl (by decide) (by decide) (Nat.le_of_ble_eq_true rfl) zc (k_I (fun z14 s14 q14 => ?_))
    rcases q14 with ⟨⟨rfl, q14⟩ | ⟨rfl, q14⟩, rfl⟩
    · refine v_if_eq (pc := 17) C 24 (by first | omega | assumption) dX0_faultOfLeak_17 (by decide) (fun h => absurd h (by decide)) (fun _ => ?_)
      refine v_iconst (pc := 20) C dX0_faultOfLeak_20 ?_
      refine v_goto (pc := 21) C 25 dX0_faultOfLeak_21 (by decide) ?_
      exact v_iret (pc := 25) C hr (rfl) dX0_faultOfLeak_25 (⟨_, rfl, by omega, rfl⟩)
    · refine v_if_eq (pc := 17) C 24 (by first | omega | assumption) dX0_faultOfLeak_17 (by decide) (fun _ => ?_) (fun h => absurd h (by decide))
      refine v_iconst (pc := 24) C dX0_faultOfLeak_24 ?_
      exact v_iret (pc := 25) C hr (rfl) dX0_faultOfLeak_25 (⟨_, rfl, by omega, rfl⟩)
  · refine v_if_ne (pc := 5) C 10 (by first | omega | assumption) dX0_faultOfLeak_5 (by decide) (fun h => absurd h (by decide)) (fun _ => ?_)
    refine v_iconst (pc := 8) C dX0_faultOfLeak_8 ?_
    exact v_iret (pc := 9) C hr (rfl) dX0_faultOfLeak_9 (⟨_, rfl, by omega, rfl⟩)

set_option maxHeartbeats 4000000 in
set_option maxRecDepth 100000 in
theorem k_X0_faultOfFeed {γ : Gm} (G : Glo γ) {σ α : St} {n : Nat} {r : Int → Int} {v s : Int} (hN : NetB n) (hR : Rep α r) (h : Wf r) (hv : R3 v) (hs : R3 s) : Ct γ yX0_faultOfFeed cX0_faultOfFeed 3 (some .int) 2 [.ref (bs γ + n), .int (iI v), .int (iI s)] (setN σ n α) (pI (fun z σ2 => (z = 1 ∧ (¬ (0 ≤ v ∧ v < r 0)) ∨ z = 0 ∧ ((0 ≤ v ∧ v < r 0) ∧ (10 ≤ s ∧ s ≤ 99)) ∨ z = 2 ∧ ((0 ≤ v ∧ v < r 0) ∧ ¬ (10 ≤ s ∧ s ≤ 99))) ∧ σ2 = setN σ n α)) := by
  refine Ct.of G (by decide +kernel) (Nat.le_of_ble_eq_true rfl) (fun φ C hr => ?_)
  have C : Cx γ φ RX0 cX0_faultOfFeed 3 2 := C
  have hn0 := h.1
  have hn1 := h.2.1
  have hn4 := h.2.2.1
  have hn5 := h.2.2.2.1
  refine v_lv [(0, .ref (bs γ + n)), (1, .int (iI v)), (2, .int (iI s))] [0, 1, 2] rfl ?_
  refine v_aload_n (pc := 0) C 0 rfl dX0_faultOfFeed_0 ?_
  refine v_iload_n (pc := 1) C 1 rfl dX0_faultOfFeed_1 ?_
  refine v_cv (pc := 2) (as := [.int (iI v)]) C (cy_X2_hasValve G) (wM_X0_60 G) (show sh n = (5, 1) from hN.sh (k := 0) (by decide)) (ci := 1) rfl rfl (k_X2_hasValve G hN hR h (by first | omega | assumption)) dX0_faultOfFeed_2 rfl rfl (by decide) (by decide) (Nat.le_of_ble_eq_true rfl) zc (k_I (fun z2 s2 q2 => ?_))
  rcases q2 with ⟨⟨rfl, q2⟩ | ⟨rfl, q2⟩, rfl⟩
  · refine v_if_ne (pc := 5) C 10 (by first | omega | assumption) dX0_faultOfFeed_5 (by decide) (fun _ => ?_) (fun h => absurd h (by decide))
    refine v_iload_n (pc := 10) C 2 rfl dX0_faultOfFeed_10 ?_
    refine v_bipush (pc := 11) C (by decide +kernel) dX0_faultOfFeed_11 ?_
    refine v_bipush (pc := 13) C (by decide +kernel) dX0_faultOfFeed_13 ?_
    refine v_csN (pc := 15) (as := [.int (iI s), .int (iI 10), .int (iI 99)]) C (cy_X5_isIn G) (wN_X0_9 G) (k_X5_isIn G (by first | omega | assumption) (by first | omega | assumption) (by first | omega | assumption)) dX0_faultOfFeed_15 rfl rfl (by decide) (by decide) (Nat.le_of_ble_eq_true rfl) zc (k_I (fun z15 s15 q15 => ?_))
    rcases q15 with ⟨⟨rfl, q15⟩ | ⟨rfl, q15⟩, rfl⟩
    · refine v_if_eq (pc := 18) C 25 (by first | omega | assumption) dX0_faultOfFeed_18 (by decide) (fun h => absurd h (by decide)) (fun _ => ?_)
      refine v_iconst (pc := 21) C dX0_faultOfFeed_21 ?_
      refine v_goto (pc := 22) C 26 dX0_faultOfFeed_22 (by decide) ?_
      exact v_iret (pc := 26) C hr (rfl) dX0_faultOfFeed_26 (⟨_, rfl, by omega, rfl⟩)
    · refine v_if_eq (pc := 18) C 25 (by first | omega | assumption) dX0_faultOfFeed_18 (by decide) (fun _ => ?_) (fun h => absurd h (by decide))
      refine v_iconst (pc := 25) C dX0_faultOfFeed_25 ?_
      exact v_iret (pc := 26) C hr (rfl) dX0_faultOfFeed_26 (⟨_, rfl, by omega, rfl⟩)
  · refine v_if_ne (pc := 5) C 10 (by first | omega | assumption) dX0_faultOfFeed_5 (by decide) (fun h => absurd h (by decide)) (fun _ => ?_)
    refine v_iconst (pc := 8) C dX0_faultOfFeed_8 ?_
    exact v_iret (pc := 9) C hr (rfl) dX0_faultOfFeed_9 (⟨_, rfl, by omega, rfl⟩)

set_option maxHeartbeats 4000000 in
set_option maxRecDepth 100000 in
theorem k_X0_faultOfSet {γ : Gm} (G : Glo γ) {σ : St} {w v : Int} (hw : R3 w) (hv : R3 v) : Ct γ yX0_faultOfSet cX0_faultOfSet 3 (some .int) 2 [.int (iI w), .int (iI v)] σ (pI (fun z σ2 => (z = 0 ∧ (w = 0 ∧ (0 ≤ v ∧ v ≤ 9) ∨ w = 1 ∧ (5 ≤ v ∧ v ≤ 90)) ∨ z = 2 ∧ (¬ (w = 0 ∧ (0 ≤ v ∧ v ≤ 9) ∨ w = 1 ∧ (5 ≤ v ∧ v ≤ 90)))) ∧ σ2 = σ)) := by
  refine Ct.of G (by decide +kernel) (Nat.le_of_ble_eq_true rfl) (fun φ C hr => ?_)
  have C : Cx γ φ RX0 cX0_faultOfSet 3 2 := C
  refine v_lv [(0, .int (iI w)), (1, .int (iI v))] [0, 1] rfl ?_
  refine v_iload_n (pc := 0) C 0 rfl dX0_faultOfSet_0 ?_
  refine v_if_ne (pc := 1) C 14 (by first | omega | assumption) dX0_faultOfSet_1 (by decide) (fun h1 => ?_) (fun h1 => ?_)
  · refine v_iload_n (pc := 14) C 0 rfl dX0_faultOfSet_14 ?_
    refine v_iconst (pc := 15) C dX0_faultOfSet_15 ?_
    refine v_icmp_ne (pc := 16) C 33 (by first | omega | assumption) (by first | omega | assumption) dX0_faultOfSet_16 (by decide) (fun h16 => ?_) (fun h16 => ?_)
    · refine v_iconst (pc := 33) C dX0_faultOfSet_33 ?_
      refine v_istore_n (pc := 34) C [(2, .int (iI 0)), (0, .int (iI w)), (1, .int (iI v))] dX0_faultOfSet_34 rfl (by decide) rfl ?_
      refine v_iload_n (pc := 35) C 0 rfl dX0_faultOfSet_35 ?_
      refine v_if_eq (pc := 36) C 43 (by first | omega | assumption) dX0_faultOfSet_36 (by decide) (fun _ => ?_) (fun h => absurd h (by decide))
      refine v_iconst (pc := 43) C dX0_faultOfSet_43 ?_
      exact v_iret (pc := 44) C hr (rfl) dX0_faultOfSet_44 (⟨_, rfl, by omega, rfl⟩)
    · refine v_iload_n (pc := 19) C 1 rfl dX0_faultOfSet_19 ?_
      refine v_iconst (pc := 20) C dX0_faultOfSet_20 ?_
      refine v_bipush (pc := 21) C (by decide +kernel) dX0_faultOfSet_21 ?_
      refine v_csN (pc := 23) (as := [.int (iI v), .int (iI 5), .int (iI 90)]) C (cy_X5_isIn G) (wN_X0_9 G) (k_X5_isIn G (by first | omega | assumption) (by first | omega | assumption) (by first | omega | assumption)) dX0_faultOfSet_23 rfl rfl (by decide) (by decide) (Nat.le_of_ble_eq_true rfl) zc (k_I (fun z23 s23 q23 => ?_))
      rcases q23 with ⟨⟨rfl, q23⟩ | ⟨rfl, q23⟩, rfl⟩
      · refine v_if_eq (pc := 26) C 33 (by first | omega | assumption) dX0_faultOfSet_26 (by decide) (fun h => absurd h (by decide)) (fun _ => ?_)
        refine v_iconst (pc := 29) C dX0_faultOfSet_29 ?_
        refine v_goto (pc := 30) C 34 dX0_faultOfSet_30 (by decide) ?_
        refine v_istore_n (pc := 34) C [(2, .int (iI 1)), (0, .int (iI w)), (1, .int (iI v))] dX0_faultOfSet_34 rfl (by decide) rfl ?_
        refine v_iload_n (pc := 35) C 0 rfl dX0_faultOfSet_35 ?_
        refine v_if_eq (pc := 36) C 43 (by first | omega | assumption) dX0_faultOfSet_36 (by decide) (fun h => absurd h (by decide)) (fun _ => ?_)
        refine v_iconst (pc := 39) C dX0_faultOfSet_39 ?_
        refine v_goto (pc := 40) C 44 dX0_faultOfSet_40 (by decide) ?_
        exact v_iret (pc := 44) C hr (rfl) dX0_faultOfSet_44 (⟨_, rfl, by omega, rfl⟩)
      · refine v_if_eq (pc := 26) C 33 (by first | omega | assumption) dX0_faultOfSet_26 (by decide) (fun _ => ?_) (fun h => absurd h (by decide))
        refine v_iconst (pc := 33) C dX0_faultOfSet_33 ?_
        refine v_istore_n (pc := 34) C [(2, .int (iI 0)), (0, .int (iI w)), (1, .int (iI v))] dX0_faultOfSet_34 rfl (by decide) rfl ?_
        refine v_iload_n (pc := 35) C 0 rfl dX0_faultOfSet_35 ?_
        refine v_if_eq (pc := 36) C 43 (by first | omega | assumption) dX0_faultOfSet_36 (by decide) (fun _ => ?_) (fun h => absurd h (by decide))
        refine v_iconst (pc := 43) C dX0_faultOfSet_43 ?_
        exact v_iret (pc := 44) C hr (rfl) dX0_faultOfSet_44 (⟨_, rfl, by omega, rfl⟩)
  · refine v_iload_n (pc := 4) C 1 rfl dX0_faultOfSet_4 ?_
    refine v_iconst (pc := 5) C dX0_faultOfSet_5 ?_
    refine v_bipush (pc := 6) C (by decide +kernel) dX0_faultOfSet_6 ?_
    refine v_csN (pc := 8) (as := [.int (iI v), .int (iI 0), .int (iI 9)]) C (cy_X5_isIn G) (wN_X0_9 G) (k_X5_isIn G (by first | omega | assumption) (by first | omega | assumption) (by first | omega | assumption)) dX0_faultOfSet_8 rfl rfl (by decide) (by decide) (Nat.le_of_ble_eq_true rfl) zc (k_I (fun z8 s8 q8 => ?_))
    rcases q8 with ⟨⟨rfl, q8⟩ | ⟨rfl, q8⟩, rfl⟩
    · refine v_if_ne (pc := 11) C 29 (by first | omega | assumption) dX0_faultOfSet_11 (by decide) (fun _ => ?_) (fun h => absurd h (by decide))
      refine v_iconst (pc := 29) C dX0_faultOfSet_29 ?_
      refine v_goto (pc := 30) C 34 dX0_faultOfSet_30 (by decide) ?_
      refine v_istore_n (pc := 34) C [(2, .int (iI 1)), (0, .int (iI w)), (1, .int (iI v))] dX0_faultOfSet_34 rfl (by decide) rfl ?_
      refine v_iload_n (pc := 35) C 0 rfl dX0_faultOfSet_35 ?_
      refine v_if_eq (pc := 36) C 43 (by first | omega | assumption) dX0_faultOfSet_36 (by decide) (fun h => absurd h (by decide)) (fun _ => ?_)
      refine v_iconst (pc := 39) C dX0_faultOfSet_39 ?_
      refine v_goto (pc := 40) C 44 dX0_faultOfSet_40 (by decide) ?_
      exact v_iret (pc := 44) C hr (rfl) dX0_faultOfSet_44 (⟨_, rfl, by omega, rfl⟩)
    · refine v_if_ne (pc := 11) C 29 (by first | omega | assumption) dX0_faultOfSet_11 (by decide) (fun h => absurd h (by decide)) (fun _ => ?_)
      refine v_iload_n (pc := 14) C 0 rfl dX0_faultOfSet_14 ?_
      refine v_iconst (pc := 15) C dX0_faultOfSet_15 ?_
      refine v_icmp_ne (pc := 16) C 33 (by first | omega | assumption) (by first | omega | assumption) dX0_faultOfSet_16 (by decide) (fun h16_1 => ?_) (fun h16_1 => ?_)
      · refine v_iconst (pc := 33) C dX0_faultOfSet_33 ?_
        refine v_istore_n (pc := 34) C [(2, .int (iI 0)), (0, .int (iI w)), (1, .int (iI v))] dX0_faultOfSet_34 rfl (by decide) rfl ?_
        refine v_iload_n (pc := 35) C 0 rfl dX0_faultOfSet_35 ?_
        refine v_if_eq (pc := 36) C 43 (by first | omega | assumption) dX0_faultOfSet_36 (by decide) (fun _ => ?_) (fun h => absurd h (by decide))
        refine v_iconst (pc := 43) C dX0_faultOfSet_43 ?_
        exact v_iret (pc := 44) C hr (rfl) dX0_faultOfSet_44 (⟨_, rfl, by omega, rfl⟩)
      · refine v_iload_n (pc := 19) C 1 rfl dX0_faultOfSet_19 ?_
        refine v_iconst (pc := 20) C dX0_faultOfSet_20 ?_
        refine v_bipush (pc := 21) C (by decide +kernel) dX0_faultOfSet_21 ?_
        refine v_csN (pc := 23) (as := [.int (iI v), .int (iI 5), .int (iI 90)]) C (cy_X5_isIn G) (wN_X0_9 G) (k_X5_isIn G (by first | omega | assumption) (by first | omega | assumption) (by first | omega | assumption)) dX0_faultOfSet_23 rfl rfl (by decide) (by decide) (Nat.le_of_ble_eq_true rfl) zc (k_I (fun z23_1 s23_1 q23_1 => ?_))
        rcases q23_1 with ⟨⟨rfl, q23_1⟩ | ⟨rfl, q23_1⟩, rfl⟩
        · refine v_if_eq (pc := 26) C 33 (by first | omega | assumption) dX0_faultOfSet_26 (by decide) (fun h => absurd h (by decide)) (fun _ => ?_)
          refine v_iconst (pc := 29) C dX0_faultOfSet_29 ?_
          refine v_goto (pc := 30) C 34 dX0_faultOfSet_30 (by decide) ?_
          refine v_istore_n (pc := 34) C [(2, .int (iI 1)), (0, .int (iI w)), (1, .int (iI v))] dX0_faultOfSet_34 rfl (by decide) rfl ?_
          refine v_iload_n (pc := 35) C 0 rfl dX0_faultOfSet_35 ?_
          refine v_if_eq (pc := 36) C 43 (by first | omega | assumption) dX0_faultOfSet_36 (by decide) (fun h => absurd h (by decide)) (fun _ => ?_)
          refine v_iconst (pc := 39) C dX0_faultOfSet_39 ?_
          refine v_goto (pc := 40) C 44 dX0_faultOfSet_40 (by decide) ?_
          exact v_iret (pc := 44) C hr (rfl) dX0_faultOfSet_44 (⟨_, rfl, by omega, rfl⟩)
        · refine v_if_eq (pc := 26) C 33 (by first | omega | assumption) dX0_faultOfSet_26 (by decide) (fun _ => ?_) (fun h => absurd h (by decide))
          refine v_iconst (pc := 33) C dX0_faultOfSet_33 ?_
          refine v_istore_n (pc := 34) C [(2, .int (iI 0)), (0, .int (iI w)), (1, .int (iI v))] dX0_faultOfSet_34 rfl (by decide) rfl ?_
          refine v_iload_n (pc := 35) C 0 rfl dX0_faultOfSet_35 ?_
          refine v_if_eq (pc := 36) C 43 (by first | omega | assumption) dX0_faultOfSet_36 (by decide) (fun _ => ?_) (fun h => absurd h (by decide))
          refine v_iconst (pc := 43) C dX0_faultOfSet_43 ?_
          exact v_iret (pc := 44) C hr (rfl) dX0_faultOfSet_44 (⟨_, rfl, by omega, rfl⟩)

set_option maxHeartbeats 4000000 in
set_option maxRecDepth 100000 in
theorem k_X0_faultOfTicks {γ : Gm} (G : Glo γ) {σ : St} {m : Int} (hm : R3 m) : Ct γ yX0_faultOfTicks cX0_faultOfTicks 1 (some .int) 2 [.int (iI m)] σ (pI (fun z σ2 => (z = 0 ∧ (1 ≤ m ∧ m ≤ 99) ∨ z = 2 ∧ (¬ (1 ≤ m ∧ m ≤ 99))) ∧ σ2 = σ)) := by
  refine Ct.of G (by decide +kernel) (Nat.le_of_ble_eq_true rfl) (fun φ C hr => ?_)
  have C : Cx γ φ RX0 cX0_faultOfTicks 1 2 := C
  refine v_lv [(0, .int (iI m))] [0] rfl ?_
  refine v_iload_n (pc := 0) C 0 rfl dX0_faultOfTicks_0 ?_
  refine v_iconst (pc := 1) C dX0_faultOfTicks_1 ?_
  refine v_bipush (pc := 2) C (by decide +kernel) dX0_faultOfTicks_2 ?_
  refine v_csN (pc := 4) (as := [.int (iI m), .int (iI 1), .int (iI 99)]) C (cy_X5_isIn G) (wN_X0_9 G) (k_X5_isIn G (by first | omega | assumption) (by first | omega | assumption) (by first | omega | assumption)) dX0_faultOfTicks_4 rfl rfl (by decide) (by decide) (Nat.le_of_ble_eq_true rfl) zc (k_I (fun z4 s4 q4 => ?_))
  rcases q4 with ⟨⟨rfl, q4⟩ | ⟨rfl, q4⟩, rfl⟩
  · refine v_if_eq (pc := 7) C 14 (by first | omega | assumption) dX0_faultOfTicks_7 (by decide) (fun h => absurd h (by decide)) (fun _ => ?_)
    refine v_iconst (pc := 10) C dX0_faultOfTicks_10 ?_
    refine v_goto (pc := 11) C 15 dX0_faultOfTicks_11 (by decide) ?_
    exact v_iret (pc := 15) C hr (rfl) dX0_faultOfTicks_15 (⟨_, rfl, by omega, rfl⟩)
  · refine v_if_eq (pc := 7) C 14 (by first | omega | assumption) dX0_faultOfTicks_7 (by decide) (fun _ => ?_) (fun h => absurd h (by decide))
    refine v_iconst (pc := 14) C dX0_faultOfTicks_14 ?_
    exact v_iret (pc := 15) C hr (rfl) dX0_faultOfTicks_15 (⟨_, rfl, by omega, rfl⟩)

set_option maxHeartbeats 4000000 in
set_option maxRecDepth 100000 in
theorem k_X0_tryValve {γ : Gm} (G : Glo γ) {σ α : St} {n : Nat} {r : Int → Int} {c s : Int} (hN : NetB n) (hR : Rep α r) (h : Wf r) (hc : R3 c) (hs : R3 s) : Ct γ yX0_tryValve cX0_tryValve 3 (some .boolean) 4 [.ref (bs γ + n), .int (iI c), .int (iI s)] (setN σ n α) (pI (fun z σ2 => (z = 1 ∧ (((0 ≤ c ∧ c ≤ 4) ∧ (10 ≤ s ∧ s ≤ 99)) ∧ r 0 < 10) ∧ ∃ α2, Rep α2 (valveR r c s) ∧ σ2 = setN σ n α2) ∨ (z = 0 ∧ ¬ (((0 ≤ c ∧ c ≤ 4) ∧ (10 ≤ s ∧ s ≤ 99)) ∧ r 0 < 10) ∧ σ2 = setN σ n α))) := by
  refine Ct.of G (by decide +kernel) (Nat.le_of_ble_eq_true rfl) (fun φ C hr => ?_)
  have C : Cx γ φ RX0 cX0_tryValve 3 4 := C
  have hn0 := h.1
  have hn1 := h.2.1
  have hn4 := h.2.2.1
  have hn5 := h.2.2.2.1
  refine v_lv [(0, .ref (bs γ + n)), (1, .int (iI c)), (2, .int (iI s))] [0, 1, 2] rfl ?_
  refine v_aload_n (pc := 0) C 0 rfl dX0_tryValve_0 ?_
  refine v_iload_n (pc := 1) C 1 rfl dX0_tryValve_1 ?_
  refine v_iload_n (pc := 2) C 2 rfl dX0_tryValve_2 ?_
  refine v_cs (pc := 3) (as := [.ref (bs γ + n), .int (iI c), .int (iI s)]) C (cy_X0_faultOfValve G) (wM_X0_19 G) (k_X0_faultOfValve G hN hR h (by first | omega | assumption) (by first | omega | assumption)) dX0_tryValve_3 rfl rfl (by decide) (by decide) (Nat.le_of_ble_eq_true rfl) zc (k_I (fun z3 s3 q3 => ?_))
  obtain ⟨ez3, rfl⟩ := q3
  refine v_if_eq (pc := 6) C 11 (by first | omega | assumption) dX0_tryValve_6 (by decide) (fun h6 => ?_) (fun h6 => ?_)
  · refine v_aload_n (pc := 11) C 0 rfl dX0_tryValve_11 ?_
    refine v_iload_n (pc := 12) C 1 rfl dX0_tryValve_12 ?_
    refine v_iload_n (pc := 13) C 2 rfl dX0_tryValve_13 ?_
    refine v_cv (pc := 14) (as := [.int (iI c), .int (iI s)]) C (cy_X2_addValve G) (wM_X0_25 G) (show sh n = (5, 1) from hN.sh (k := 0) (by decide)) (ci := 1) rfl rfl (k_X2_addValve G hN hR h (by omega) (by first | omega | assumption) (by first | omega | assumption)) dX0_tryValve_14 rfl rfl (by decide) (by decide) (Nat.le_of_ble_eq_true rfl) zc (k_V (fun s14 q14 => ?_))
    obtain ⟨α9, hR9, rfl⟩ := q14
    refine v_iconst (pc := 17) C dX0_tryValve_17 ?_
    exact v_iret (pc := 18) C hr (rfl) dX0_tryValve_18 (⟨_, rfl, Or.inl ⟨rfl, by omega, _, hR9, rfl⟩⟩)
  · refine v_iconst (pc := 9) C dX0_tryValve_9 ?_
    exact v_iret (pc := 10) C hr (rfl) dX0_tryValve_10 (⟨_, rfl, Or.inr ⟨rfl, by omega, rfl⟩⟩)

set_option maxHeartbeats 4000000 in
set_option maxRecDepth 100000 in
theorem k_X0_tryDuct {γ : Gm} (G : Glo γ) {σ α : St} {n : Nat} {r : Int → Int} {f l t p m : Int} (hN : NetB n) (hR : Rep α r) (h : Wf r) (hf : R3 f) (hl : R3 l) (ht : R3 t) (hp : R3 p) (hm : R3 m) : Ct γ yX0_tryDuct cX0_tryDuct 6 (some .boolean) 4 [.ref (bs γ + n), .int (iI f), .int (iI l), .int (iI t), .int (iI p), .int (iI m)] (setN σ n α) (pI (fun z σ2 => (z = 1 ∧ ((((0 ≤ f ∧ f < r 0) ∧ (0 ≤ l ∧ l ≤ 1)) ∧ ((0 ≤ t ∧ t < r 0) ∧ (0 ≤ p ∧ p ≤ 1))) ∧ (1 ≤ m ∧ m ≤ 6) ∧ r 1 < 16) ∧ ∃ α2, Rep α2 (ductR r f l t p m) ∧ σ2 = setN σ n α2) ∨ (z = 0 ∧ ¬ ((((0 ≤ f ∧ f < r 0) ∧ (0 ≤ l ∧ l ≤ 1)) ∧ ((0 ≤ t ∧ t < r 0) ∧ (0 ≤ p ∧ p ≤ 1))) ∧ (1 ≤ m ∧ m ≤ 6) ∧ r 1 < 16) ∧ σ2 = setN σ n α))) := by
  refine Ct.of G (by decide +kernel) (Nat.le_of_ble_eq_true rfl) (fun φ C hr => ?_)
  have C : Cx γ φ RX0 cX0_tryDuct 6 4 := C
  have hn0 := h.1
  have hn1 := h.2.1
  have hn4 := h.2.2.1
  have hn5 := h.2.2.2.1
  refine v_lv [(0, .ref (bs γ + n)), (1, .int (iI f)), (2, .int (iI l)), (3, .int (iI t)), (4, .int (iI p)), (5, .int (iI m))] [0, 1, 2, 3, 4, 5] rfl ?_
  refine v_aload_n (pc := 0) C 0 rfl dX0_tryDuct_0 ?_
  refine v_iload_n (pc := 1) C 1 rfl dX0_tryDuct_1 ?_
  refine v_iload_n (pc := 2) C 2 rfl dX0_tryDuct_2 ?_
  refine v_iload_n (pc := 3) C 3 rfl dX0_tryDuct_3 ?_
  refine v_iload (pc := 4) C 4 rfl dX0_tryDuct_4 ?_
  refine v_iload (pc := 6) C 5 rfl dX0_tryDuct_6 ?_
  refine v_cs (pc := 8) (as := [.ref (bs γ + n), .int (iI f), .int (iI l), .int (iI t), .int (iI p), .int (iI m)]) C (cy_X0_faultOfDuct G) (wM_X0_36 G) (k_X0_faultOfDuct G hN hR h (by first | omega | assumption) (by first | omega | assumption) (by first | omega | assumption) (by first | omega | assumption) (by first | omega | assumption)) dX0_tryDuct_8 rfl rfl (by decide) (by decide) (Nat.le_of_ble_eq_true rfl) zc (k_I (fun z8 s8 q8 => ?_))
  obtain ⟨ez8, rfl⟩ := q8
  refine v_if_eq (pc := 11) C 16 (by first | omega | assumption) dX0_tryDuct_11 (by decide) (fun h11 => ?_) (fun h11 => ?_)
  · refine v_aload_n (pc := 16) C 0 rfl dX0_tryDuct_16 ?_
    refine v_iload_n (pc := 17) C 1 rfl dX0_tryDuct_17 ?_
    refine v_iload_n (pc := 18) C 2 rfl dX0_tryDuct_18 ?_
    refine v_csN (pc := 19) (as := [.int (iI f), .int (iI l)]) C (cy_X5_endOf G) (wN_X0_40 G) (k_X5_endOf G) dX0_tryDuct_19 rfl rfl (by decide) (by decide) (Nat.le_of_ble_eq_true rfl) zc (k_I (fun z19 s19 q19 => ?_))
    obtain ⟨ez19, rfl⟩ := q19
    refine v_iload_n (pc := 22) C 3 rfl dX0_tryDuct_22 ?_
    refine v_iload (pc := 23) C 4 rfl dX0_tryDuct_23 ?_
    refine v_csN (pc := 25) (as := [.int (iI t), .int (iI p)]) C (cy_X5_endOf G) (wN_X0_40 G) (k_X5_endOf G) dX0_tryDuct_25 rfl rfl (by decide) (by decide) (Nat.le_of_ble_eq_true rfl) zc (k_I (fun z25 s25 q25 => ?_))
    obtain ⟨ez25, rfl⟩ := q25
    refine v_iload (pc := 28) C 5 rfl dX0_tryDuct_28 ?_
    refine v_cv (pc := 30) (as := [.int (iI z19), .int (iI z25), .int (iI m)]) C (cy_X2_addDuct G) (wM_X0_44 G) (show sh n = (5, 1) from hN.sh (k := 0) (by decide)) (ci := 1) rfl rfl (k_X2_addDuct G hN hR h (f := f) (l := l) (t := t) (p := p) (by omega) (by omega) (by omega) (by omega) (by omega) (by omega) (by omega) (by omega)) dX0_tryDuct_30 rfl rfl (by decide) (by decide) (Nat.le_of_ble_eq_true rfl) zc (k_V (fun s30 q30 => ?_))
    obtain ⟨α9, hR9, rfl⟩ := q30
    refine v_iconst (pc := 33) C dX0_tryDuct_33 ?_
    exact v_iret (pc := 34) C hr (rfl) dX0_tryDuct_34 (⟨_, rfl, Or.inl ⟨rfl, by omega, _, hR9, rfl⟩⟩)
  · refine v_iconst (pc := 14) C dX0_tryDuct_14 ?_
    exact v_iret (pc := 15) C hr (rfl) dX0_tryDuct_15 (⟨_, rfl, Or.inr ⟨rfl, by omega, rfl⟩⟩)

set_option maxHeartbeats 4000000 in
set_option maxRecDepth 100000 in
theorem k_X0_tryRemove {γ : Gm} (G : Glo γ) {σ α : St} {n : Nat} {r : Int → Int} {e : Int} (hN : NetB n) (hR : Rep α r) (h : Wf r) (he : R3 e) : Ct γ yX0_tryRemove cX0_tryRemove 2 (some .boolean) 3 [.ref (bs γ + n), .int (iI e)] (setN σ n α) (pI (fun z σ2 => (z = 1 ∧ (0 ≤ e ∧ e < r 1) ∧ ∃ α2, Rep α2 (removeR r e) ∧ σ2 = setN σ n α2) ∨ (z = 0 ∧ ¬ (0 ≤ e ∧ e < r 1) ∧ σ2 = setN σ n α))) := by
  refine Ct.of G (by decide +kernel) (Nat.le_of_ble_eq_true rfl) (fun φ C hr => ?_)
  have C : Cx γ φ RX0 cX0_tryRemove 2 3 := C
  have hn0 := h.1
  have hn1 := h.2.1
  have hn4 := h.2.2.1
  have hn5 := h.2.2.2.1
  refine v_lv [(0, .ref (bs γ + n)), (1, .int (iI e))] [0, 1] rfl ?_
  refine v_aload_n (pc := 0) C 0 rfl dX0_tryRemove_0 ?_
  refine v_iload_n (pc := 1) C 1 rfl dX0_tryRemove_1 ?_
  refine v_cs (pc := 2) (as := [.ref (bs γ + n), .int (iI e)]) C (cy_X0_faultOfRemove G) (wM_X0_52 G) (k_X0_faultOfRemove G hN hR h (by first | omega | assumption)) dX0_tryRemove_2 rfl rfl (by decide) (by decide) (Nat.le_of_ble_eq_true rfl) zc (k_I (fun z2 s2 q2 => ?_))
  obtain ⟨ez2, rfl⟩ := q2
  refine v_if_eq (pc := 5) C 10 (by first | omega | assumption) dX0_tryRemove_5 (by decide) (fun h5 => ?_) (fun h5 => ?_)
  · refine v_aload_n (pc := 10) C 0 rfl dX0_tryRemove_10 ?_
    refine v_iload_n (pc := 11) C 1 rfl dX0_tryRemove_11 ?_
    refine v_cv (pc := 12) (as := [.int (iI e)]) C (cy_X2_removeDuct G) (wM_X0_56 G) (show sh n = (5, 1) from hN.sh (k := 0) (by decide)) (ci := 1) rfl rfl (k_X2_removeDuct G hN hR h (by omega)) dX0_tryRemove_12 rfl rfl (by decide) (by decide) (Nat.le_of_ble_eq_true rfl) zc (k_V (fun s12 q12 => ?_))
    obtain ⟨α9, hR9, rfl⟩ := q12
    refine v_iconst (pc := 15) C dX0_tryRemove_15 ?_
    exact v_iret (pc := 16) C hr (rfl) dX0_tryRemove_16 (⟨_, rfl, Or.inl ⟨rfl, by omega, _, hR9, rfl⟩⟩)
  · refine v_iconst (pc := 8) C dX0_tryRemove_8 ?_
    exact v_iret (pc := 9) C hr (rfl) dX0_tryRemove_9 (⟨_, rfl, Or.inr ⟨rfl, by omega, rfl⟩⟩)

set_option maxHeartbeats 4000000 in
set_option maxRecDepth 100000 in
theorem k_X0_tryPress {γ : Gm} (G : Glo γ) {σ α : St} {n : Nat} {r : Int → Int} {v b : Int} (hN : NetB n) (hR : Rep α r) (h : Wf r) (hv : R3 v) (hb : b = 0 ∨ b = 1) : Ct γ yX0_tryPress cX0_tryPress 3 (some .boolean) 3 [.ref (bs γ + n), .int (iI v), .int (iI b)] (setN σ n α) (pI (fun z σ2 => (z = 1 ∧ ((0 ≤ v ∧ v < r 0) ∧ r (6 + 7 * v + 0) = 0) ∧ ∃ α2, Rep α2 (upr r (6 + 7 * v + 2) b) ∧ σ2 = setN σ n α2) ∨ (z = 0 ∧ ¬ ((0 ≤ v ∧ v < r 0) ∧ r (6 + 7 * v + 0) = 0) ∧ σ2 = setN σ n α))) := by
  refine Ct.of G (by decide +kernel) (Nat.le_of_ble_eq_true rfl) (fun φ C hr => ?_)
  have C : Cx γ φ RX0 cX0_tryPress 3 3 := C
  have hn0 := h.1
  have hn1 := h.2.1
  have hn4 := h.2.2.1
  have hn5 := h.2.2.2.1
  refine v_lv [(0, .ref (bs γ + n)), (1, .int (iI v)), (2, .int (iI b))] [0, 1, 2] rfl ?_
  refine v_aload_n (pc := 0) C 0 rfl dX0_tryPress_0 ?_
  refine v_iload_n (pc := 1) C 1 rfl dX0_tryPress_1 ?_
  refine v_cs (pc := 2) (as := [.ref (bs γ + n), .int (iI v)]) C (cy_X0_faultOfPress G) (wM_X0_67 G) (k_X0_faultOfPress G hN hR h (by first | omega | assumption)) dX0_tryPress_2 rfl rfl (by decide) (by decide) (Nat.le_of_ble_eq_true rfl) zc (k_I (fun z2 s2 q2 => ?_))
  obtain ⟨ez2, rfl⟩ := q2
  refine v_if_eq (pc := 5) C 10 (by first | omega | assumption) dX0_tryPress_5 (by decide) (fun h5 => ?_) (fun h5 => ?_)
  · refine v_aload_n (pc := 10) C 0 rfl dX0_tryPress_10 ?_
    refine v_getrN (pc := 11) C hN 7 4 (by decide) (wF_X0_70 G) rfl dX0_tryPress_11 ?_
    refine v_iload_n (pc := 14) C 1 rfl dX0_tryPress_14 ?_
    refine v_iload_n (pc := 15) C 2 rfl dX0_tryPress_15 ?_
    refine v_if_eq (pc := 16) C 23 (by first | omega | assumption) dX0_tryPress_16 (by decide) (fun h16 => ?_) (fun h16 => ?_)
    · refine v_iconst (pc := 23) C dX0_tryPress_23 ?_
      refine v_ti (x2 := b) (by omega) ?_
      refine v_iastN (pc := 24) C hN 4 (by decide) (m := 10) rfl (by first | omega | assumption) (by first | omega | assumption) dX0_tryPress_24 ?_
      refine v_iconst (pc := 25) C dX0_tryPress_25 ?_
      exact v_iret (pc := 26) C hr (rfl) dX0_tryPress_26 (⟨_, rfl, Or.inl ⟨rfl, by omega, _, hR.sid (by omega) hn0.2, rfl⟩⟩)
    · refine v_iconst (pc := 19) C dX0_tryPress_19 ?_
      refine v_goto (pc := 20) C 24 dX0_tryPress_20 (by decide) ?_
      refine v_ti (x2 := b) (by omega) ?_
      refine v_iastN (pc := 24) C hN 4 (by decide) (m := 10) rfl (by first | omega | assumption) (by first | omega | assumption) dX0_tryPress_24 ?_
      refine v_iconst (pc := 25) C dX0_tryPress_25 ?_
      exact v_iret (pc := 26) C hr (rfl) dX0_tryPress_26 (⟨_, rfl, Or.inl ⟨rfl, by omega, _, hR.sid (by omega) hn0.2, rfl⟩⟩)
  · refine v_iconst (pc := 8) C dX0_tryPress_8 ?_
    exact v_iret (pc := 9) C hr (rfl) dX0_tryPress_9 (⟨_, rfl, Or.inr ⟨rfl, by omega, rfl⟩⟩)

set_option maxHeartbeats 4000000 in
set_option maxRecDepth 100000 in
theorem k_X0_tryLeak {γ : Gm} (G : Glo γ) {σ α : St} {n : Nat} {r : Int → Int} {e l : Int} (hN : NetB n) (hR : Rep α r) (h : Wf r) (he : R3 e) (hl : R3 l) : Ct γ yX0_tryLeak cX0_tryLeak 3 (some .boolean) 3 [.ref (bs γ + n), .int (iI e), .int (iI l)] (setN σ n α) (pI (fun z σ2 => (z = 1 ∧ ((0 ≤ e ∧ e < r 1) ∧ (0 ≤ l ∧ l ≤ 30)) ∧ ∃ α2, Rep α2 (upr r (76 + 12 * e + 5) l) ∧ σ2 = setN σ n α2) ∨ (z = 0 ∧ ¬ ((0 ≤ e ∧ e < r 1) ∧ (0 ≤ l ∧ l ≤ 30)) ∧ σ2 = setN σ n α))) := by
  refine Ct.of G (by decide +kernel) (Nat.le_of_ble_eq_true rfl) (fun φ C hr => ?_)
  have C : Cx γ φ RX0 cX0_tryLeak 3 3 := C
  have hn0 := h.1
  have hn1 := h.2.1
  have hn4 := h.2.2.1
  have hn5 := h.2.2.2.1
  refine v_lv [(0, .ref (bs γ + n)), (1, .int (iI e)), (2, .int (iI l))] [0, 1, 2] rfl ?_
  refine v_aload_n (pc := 0) C 0 rfl dX0_tryLeak_0 ?_
  refine v_iload_n (pc := 1) C 1 rfl dX0_tryLeak_1 ?_
  refine v_iload_n (pc := 2) C 2 rfl dX0_tryLeak_2 ?_
  refine v_cs (pc := 3) (as := [.ref (bs γ + n), .int (iI e), .int (iI l)]) C (cy_X0_faultOfLeak G) (wM_X0_73 G) (k_X0_faultOfLeak G hN hR h (by first | omega | assumption) (by first | omega | assumption)) dX0_tryLeak_3 rfl rfl (by decide) (by decide) (Nat.le_of_ble_eq_true rfl) zc (k_I (fun z3 s3 q3 => ?_))
  obtain ⟨ez3, rfl⟩ := q3
  refine v_if_eq (pc := 6) C 11 (by first | omega | assumption) dX0_tryLeak_6 (by decide) (fun h6 => ?_) (fun h6 => ?_)
  · refine v_aload_n (pc := 11) C 0 rfl dX0_tryLeak_11 ?_
    refine v_getrN (pc := 12) C hN 13 10 (by decide) (wF_X0_76 G) rfl dX0_tryLeak_12 ?_
    refine v_iload_n (pc := 15) C 1 rfl dX0_tryLeak_15 ?_
    refine v_iload_n (pc := 16) C 2 rfl dX0_tryLeak_16 ?_
    refine v_iastN (pc := 17) C hN 10 (by decide) (m := 16) rfl (by first | omega | assumption) (by first | omega | assumption) dX0_tryLeak_17 ?_
    refine v_iconst (pc := 18) C dX0_tryLeak_18 ?_
    exact v_iret (pc := 19) C hr (rfl) dX0_tryLeak_19 (⟨_, rfl, Or.inl ⟨rfl, by omega, _, hR.lek (by omega) hn0.2, rfl⟩⟩)
  · refine v_iconst (pc := 9) C dX0_tryLeak_9 ?_
    exact v_iret (pc := 10) C hr (rfl) dX0_tryLeak_10 (⟨_, rfl, Or.inr ⟨rfl, by omega, rfl⟩⟩)

set_option maxHeartbeats 4000000 in
set_option maxRecDepth 100000 in
theorem k_X0_tryFeed {γ : Gm} (G : Glo γ) {σ α : St} {n : Nat} {r : Int → Int} {v s : Int} (hN : NetB n) (hR : Rep α r) (h : Wf r) (hv : R3 v) (hs : R3 s) : Ct γ yX0_tryFeed cX0_tryFeed 3 (some .boolean) 3 [.ref (bs γ + n), .int (iI v), .int (iI s)] (setN σ n α) (pI (fun z σ2 => (z = 1 ∧ ((0 ≤ v ∧ v < r 0) ∧ (10 ≤ s ∧ s ≤ 99)) ∧ ∃ α2, Rep α2 (upr r (6 + 7 * v + 1) s) ∧ σ2 = setN σ n α2) ∨ (z = 0 ∧ ¬ ((0 ≤ v ∧ v < r 0) ∧ (10 ≤ s ∧ s ≤ 99)) ∧ σ2 = setN σ n α))) := by
  refine Ct.of G (by decide +kernel) (Nat.le_of_ble_eq_true rfl) (fun φ C hr => ?_)
  have C : Cx γ φ RX0 cX0_tryFeed 3 3 := C
  have hn0 := h.1
  have hn1 := h.2.1
  have hn4 := h.2.2.1
  have hn5 := h.2.2.2.1
  refine v_lv [(0, .ref (bs γ + n)), (1, .int (iI v)), (2, .int (iI s))] [0, 1, 2] rfl ?_
  refine v_aload_n (pc := 0) C 0 rfl dX0_tryFeed_0 ?_
  refine v_iload_n (pc := 1) C 1 rfl dX0_tryFeed_1 ?_
  refine v_iload_n (pc := 2) C 2 rfl dX0_tryFeed_2 ?_
  refine v_cs (pc := 3) (as := [.ref (bs γ + n), .int (iI v), .int (iI s)]) C (cy_X0_faultOfFeed G) (wM_X0_79 G) (k_X0_faultOfFeed G hN hR h (by first | omega | assumption) (by first | omega | assumption)) dX0_tryFeed_3 rfl rfl (by decide) (by decide) (Nat.le_of_ble_eq_true rfl) zc (k_I (fun z3 s3 q3 => ?_))
  obtain ⟨ez3, rfl⟩ := q3
  refine v_if_eq (pc := 6) C 11 (by first | omega | assumption) dX0_tryFeed_6 (by decide) (fun h6 => ?_) (fun h6 => ?_)
  · refine v_aload_n (pc := 11) C 0 rfl dX0_tryFeed_11 ?_
    refine v_getrN (pc := 12) C hN 6 3 (by decide) (wF_X0_82 G) rfl dX0_tryFeed_12 ?_
    refine v_iload_n (pc := 15) C 1 rfl dX0_tryFeed_15 ?_
    refine v_iload_n (pc := 16) C 2 rfl dX0_tryFeed_16 ?_
    refine v_iastN (pc := 17) C hN 3 (by decide) (m := 10) rfl (by first | omega | assumption) (by first | omega | assumption) dX0_tryFeed_17 ?_
    refine v_iconst (pc := 18) C dX0_tryFeed_18 ?_
    exact v_iret (pc := 19) C hr (rfl) dX0_tryFeed_19 (⟨_, rfl, Or.inl ⟨rfl, by omega, _, hR.sup (by omega) hn0.2, rfl⟩⟩)
  · refine v_iconst (pc := 9) C dX0_tryFeed_9 ?_
    exact v_iret (pc := 10) C hr (rfl) dX0_tryFeed_10 (⟨_, rfl, Or.inr ⟨rfl, by omega, rfl⟩⟩)

set_option maxHeartbeats 4000000 in
set_option maxRecDepth 100000 in
theorem k_X0_trySet {γ : Gm} (G : Glo γ) {σ α : St} {n : Nat} {r : Int → Int} {w v : Int} (hN : NetB n) (hR : Rep α r) (h : Wf r) (hw : R3 w) (hv : R3 v) : Ct γ yX0_trySet cX0_trySet 3 (some .boolean) 3 [.ref (bs γ + n), .int (iI w), .int (iI v)] (setN σ n α) (pI (fun z σ2 => (z = 1 ∧ (w = 0 ∧ (0 ≤ v ∧ v ≤ 9) ∨ w = 1 ∧ (5 ≤ v ∧ v ≤ 90)) ∧ ∃ α2, Rep α2 (upr r (4 + w) v) ∧ σ2 = setN σ n α2) ∨ (z = 0 ∧ ¬ (w = 0 ∧ (0 ≤ v ∧ v ≤ 9) ∨ w = 1 ∧ (5 ≤ v ∧ v ≤ 90)) ∧ σ2 = setN σ n α))) := by
  refine Ct.of G (by decide +kernel) (Nat.le_of_ble_eq_true rfl) (fun φ C hr => ?_)
  have C : Cx γ φ RX0 cX0_trySet 3 3 := C
  have hn0 := h.1
  have hn1 := h.2.1
  have hn4 := h.2.2.1
  have hn5 := h.2.2.2.1
  refine v_lv [(0, .ref (bs γ + n)), (1, .int (iI w)), (2, .int (iI v))] [0, 1, 2] rfl ?_
  refine v_iload_n (pc := 0) C 1 rfl dX0_trySet_0 ?_
  refine v_iload_n (pc := 1) C 2 rfl dX0_trySet_1 ?_
  refine v_cs (pc := 2) (as := [.int (iI w), .int (iI v)]) C (cy_X0_faultOfSet G) (wM_X0_85 G) (k_X0_faultOfSet G (by first | omega | assumption) (by first | omega | assumption)) dX0_trySet_2 rfl rfl (by decide) (by decide) (Nat.le_of_ble_eq_true rfl) zc (k_I (fun z2 s2 q2 => ?_))
  obtain ⟨ez2, rfl⟩ := q2
  refine v_if_eq (pc := 5) C 10 (by first | omega | assumption) dX0_trySet_5 (by decide) (fun h5 => ?_) (fun h5 => ?_)
  · refine v_aload_n (pc := 10) C 0 rfl dX0_trySet_10 ?_
    refine v_getrN (pc := 11) C hN 4 1 (by decide) (wF_X0_88 G) rfl dX0_trySet_11 ?_
    refine v_iload_n (pc := 14) C 1 rfl dX0_trySet_14 ?_
    refine v_iload_n (pc := 15) C 2 rfl dX0_trySet_15 ?_
    refine v_iastN (pc := 16) C hN 1 (by decide) (m := 2) rfl (by first | omega | assumption) (by first | omega | assumption) dX0_trySet_16 ?_
    refine v_iconst (pc := 17) C dX0_trySet_17 ?_
    exact v_iret (pc := 18) C hr (rfl) dX0_trySet_18 (⟨_, rfl, Or.inl ⟨rfl, by omega, _, hR.stg (by omega), rfl⟩⟩)
  · refine v_iconst (pc := 8) C dX0_trySet_8 ?_
    exact v_iret (pc := 9) C hr (rfl) dX0_trySet_9 (⟨_, rfl, Or.inr ⟨rfl, by omega, rfl⟩⟩)

set_option maxHeartbeats 4000000 in
set_option maxRecDepth 100000 in
theorem k_X0_tryTicks {γ : Gm} (G : Glo γ) {σ α : St} {n : Nat} {r : Int → Int} {m : Int} (hN : NetB n) (hR : Rep α r) (h : Wf r) (hm : R3 m) : Ct γ yX0_tryTicks cX0_tryTicks 3 (some .boolean) 5 [.ref (bs γ + n), .int (iI m)] (setN σ n α) (pI (fun z σ2 => (z = 1 ∧ (1 ≤ m ∧ m ≤ 99) ∧ ∃ α2, Rep α2 (runR r m.toNat) ∧ σ2 = setN σ n α2) ∨ (z = 0 ∧ ¬ (1 ≤ m ∧ m ≤ 99) ∧ σ2 = setN σ n α))) := by
  refine Ct.of G (by decide +kernel) (Nat.le_of_ble_eq_true rfl) (fun φ C hr => ?_)
  have C : Cx γ φ RX0 cX0_tryTicks 3 5 := C
  have hn0 := h.1
  have hn1 := h.2.1
  have hn4 := h.2.2.1
  have hn5 := h.2.2.2.1
  refine v_lv [(0, .ref (bs γ + n)), (1, .int (iI m))] [0, 1] rfl ?_
  refine v_iload_n (pc := 0) C 1 rfl dX0_tryTicks_0 ?_
  refine v_cs (pc := 1) (as := [.int (iI m)]) C (cy_X0_faultOfTicks G) (wM_X0_91 G) (k_X0_faultOfTicks G (by first | omega | assumption)) dX0_tryTicks_1 rfl rfl (by decide) (by decide) (Nat.le_of_ble_eq_true rfl) zc (k_I (fun z1 s1 q1 => ?_))
  obtain ⟨ez1, rfl⟩ := q1
  refine v_if_eq (pc := 4) C 9 (by first | omega | assumption) dX0_tryTicks_4 (by decide) (fun h4 => ?_) (fun h4 => ?_)
  · refine v_iconst (pc := 9) C dX0_tryTicks_9 ?_
    refine v_istore_n (pc := 10) C [(2, .int (iI 0)), (0, .ref (bs γ + n)), (1, .int (iI m))] dX0_tryTicks_10 rfl (by decide) rfl ?_
    have L11 : ∀ (fu : Nat) (i : Nat) (α1 : St), (hi : i ≤ m.toNat) → (hR1 : Rep α1 (runR r i)) → m.toNat - i < fu → Vw γ φ 3 0 0 (QE γ φ (pI (fun z σ2 => (z = 1 ∧ (1 ≤ m ∧ m ≤ 99) ∧ ∃ α2, Rep α2 (runR r m.toNat) ∧ σ2 = setN σ n α2) ∨ (z = 0 ∧ ¬ (1 ≤ m ∧ m ≤ 99) ∧ σ2 = setN σ n α)))) (setN σ n α1) 11 [(2, .int (iI (i : Int))), (1, .int (iI m)), (0, .ref (bs γ + n))] [] := by
      intro fu
      induction fu with
      | zero => intro i α1 hi hR1 hz; exact absurd hz (Nat.not_lt_zero _)
      | succ fu ih =>
        intro i α1 hi hR1 hz
        have hw1 := (runR_Wf h i).1
        refine v_iload_n (pc := 11) C 0 rfl dX0_tryTicks_11 ?_
        refine v_iload_n (pc := 12) C 1 rfl dX0_tryTicks_12 ?_
        refine v_icmp_ge (pc := 13) C 27 (by first | omega | assumption) (by first | omega | assumption) dX0_tryTicks_13 (by decide) (fun h13 => ?_) (fun h13 => ?_)
        · refine v_iconst (pc := 27) C dX0_tryTicks_27 ?_
          exact v_iret (pc := 28) C hr (rfl) dX0_tryTicks_28 (⟨_, rfl, Or.inl ⟨rfl, by omega, α1, by rw [show m.toNat = i by omega]; exact hR1, rfl⟩⟩)
        · refine v_aload_n (pc := 16) C 2 rfl dX0_tryTicks_16 ?_
          refine v_cv (pc := 17) (as := []) C (cy_X2_passTick G) (wM_X0_95 G) (show sh n = (5, 1) from hN.sh (k := 0) (by decide)) (ci := 1) rfl rfl (k_X2_passTick G hN hR1 hw1) dX0_tryTicks_17 rfl rfl (by decide) (by decide) (Nat.le_of_ble_eq_true rfl) zc (k_I (fun z17 s17 q17 => ?_))
          rcases q17 with ⟨⟨rfl, hq9⟩ | ⟨rfl, hq9⟩, α9, hR9, rfl⟩
          · refine v_pop (pc := 20) C rfl dX0_tryTicks_20 ?_
            refine v_iinc (pc := 21) C 0 [(2, .int (iI ((i : Int) + 1))), (1, .int (iI m)), (0, .ref (bs γ + n))] dX0_tryTicks_21 rfl (by decide) rfl ?_
            refine v_goto (pc := 24) C 11 dX0_tryTicks_24 (by decide) ?_
            exact v_lv _ [0, 1, 2] rfl (ih (i + 1) _ (by omega) hR9 (by omega))
          · refine v_pop (pc := 20) C rfl dX0_tryTicks_20 ?_
            refine v_iinc (pc := 21) C 0 [(2, .int (iI ((i : Int) + 1))), (1, .int (iI m)), (0, .ref (bs γ + n))] dX0_tryTicks_21 rfl (by decide) rfl ?_
            refine v_goto (pc := 24) C 11 dX0_tryTicks_24 (by decide) ?_
            exact v_lv _ [0, 1, 2] rfl (ih (i + 1) _ (by omega) hR9 (by omega))
    exact v_lv _ [0, 2, 1] rfl (L11 (m.toNat + 1) 0 α (by omega) hR (by omega))
  · refine v_iconst (pc := 7) C dX0_tryTicks_7 ?_
    exact v_iret (pc := 8) C hr (rfl) dX0_tryTicks_8 (⟨_, rfl, Or.inr ⟨rfl, by omega, rfl⟩⟩)

theorem Rep_of_copy {σ α2 : St} {n m : Nat} {α : St} {r : Int → Int} (hR : Rep α r) (h : Wf r) (hn : ∀ k, k < 13 → σ (m + k) = α k) (h0 : α2 0 0 = σ m 0 ∧ α2 0 1 = σ m 1 ∧ α2 0 2 = σ m 2 ∧ α2 0 3 = σ m 3) (h1 : ∀ k, 1 ≤ k → k < 12 → ∀ j, 0 ≤ j → j < ((shN.getD k (9, 0)).2 : Int) → α2 k j = σ (m + k) j) : Rep α2 r := by
  have e0 : σ m = α 0 := hn 0 (by decide)
  refine Rep_copy hR h.1.2 h.2.1.2 (fun j j0 j1 => ?_) (fun k k1 k2 j j1 j2 => (h1 k k1 k2 j j1 j2).trans (by rw [hn k (by omega)]))
  rw [← e0]
  rcases (show j = 0 ∨ j = 1 ∨ j = 2 ∨ j = 3 by omega) with rfl | rfl | rfl | rfl
  · exact h0.1
  · exact h0.2.1
  · exact h0.2.2.1
  · exact h0.2.2.2

set_option maxHeartbeats 4000000 in
set_option maxRecDepth 100000 in
theorem k_X3_isAtRest {γ : Gm} (G : Glo γ) {σ α : St} {n m : Nat} {r : Int → Int} (hN : NetB n) (hM : NetB m) (hd : m + 13 ≤ n ∨ n + 13 ≤ m) (hR : Rep α r) (h : Wf r) : Ct γ yX3_isAtRest cX3_isAtRest 2 (some .boolean) 5 [.ref (bs γ + n), .ref (bs γ + m)] (setN σ n α) (pI (fun z σ2 => (z = 1 ∧ restsR r ∨ z = 0 ∧ ¬ restsR r) ∧ ∃ β2, σ2 = setN (setN σ n α) m β2)) := by
  refine Ct.of G (by decide +kernel) (Nat.le_of_ble_eq_true rfl) (fun φ C hr => ?_)
  have C : Cx γ φ RX3 cX3_isAtRest 2 5 := C
  refine v_lv [(0, .ref (bs γ + n)), (1, .ref (bs γ + m))] [0, 1] rfl ?_
  refine v_aload_n (pc := 0) C 1 rfl dX3_isAtRest_0 ?_
  refine v_aload_n (pc := 1) C 0 rfl dX3_isAtRest_1 ?_
  refine v_cv (pc := 2) (as := [.ref (bs γ + n)]) C (cy_X2_copyFrom G) (wM_X3_61 G) (show sh m = (5, 1) from hM.sh (k := 0) (by decide)) (ci := 1) rfl rfl (k_X2_copyFrom G hM hN (by omega)) dX3_isAtRest_2 rfl rfl (by decide) (by decide) (Nat.le_of_ble_eq_true rfl) zc (k_V (fun s2 q2 => ?_))
  obtain ⟨β1, c0, c1, rfl⟩ := q2
  have hRb : Rep β1 r := Rep_of_copy (n := n) hR h (fun k hk => setN_at σ n α hk) c0 c1
  refine v_aload_n (pc := 5) C 1 rfl dX3_isAtRest_5 ?_
  refine v_cv (pc := 6) (as := []) C (cy_X2_passTick G) (wM_X3_65 G) (show sh m = (5, 1) from hM.sh (k := 0) (by decide)) (ci := 1) rfl rfl (k_X2_passTick G hM hRb h) dX3_isAtRest_6 rfl rfl (by decide) (by decide) (Nat.le_of_ble_eq_true rfl) zc (k_I (fun z6 s6 q6 => ?_))
  rcases q6 with ⟨⟨rfl, hq9⟩ | ⟨rfl, hq9⟩, α9, hR9, rfl⟩
  · refine v_if_ne (pc := 9) C 16 (by first | omega | assumption) dX3_isAtRest_9 (by decide) (fun _ => ?_) (fun h => absurd h (by decide))
    refine v_iconst (pc := 16) C dX3_isAtRest_16 ?_
    exact v_iret (pc := 17) C hr (rfl) dX3_isAtRest_17 (⟨_, rfl, Or.inr ⟨rfl, hq9⟩, _, rfl⟩)
  · refine v_if_ne (pc := 9) C 16 (by first | omega | assumption) dX3_isAtRest_9 (by decide) (fun h => absurd h (by decide)) (fun _ => ?_)
    refine v_iconst (pc := 12) C dX3_isAtRest_12 ?_
    refine v_goto (pc := 13) C 17 dX3_isAtRest_13 (by decide) ?_
    exact v_iret (pc := 17) C hr (rfl) dX3_isAtRest_17 (⟨_, rfl, Or.inl ⟨rfl, hq9⟩, _, rfl⟩)

set_option maxHeartbeats 4000000 in
set_option maxRecDepth 100000 in
theorem k_X3_doTurn {γ : Gm} (G : Glo γ) {σ α : St} {n : Nat} {r : Int → Int} {y : Int} (hN : NetB n) (hR : Rep α r) (h : Wf r) (hy : 0 ≤ y ∧ y < 2147483648) : Ct γ yX3_doTurn cX3_doTurn 3 none 6 [.ref (bs γ + n), .int (iI y)] (setN σ n α) (pV (fun σ2 => ∃ α2, Rep α2 (turnR r y) ∧ σ2 = setN σ n α2)) := by
  refine Ct.of G (by decide +kernel) (Nat.le_of_ble_eq_true rfl) (fun φ C hr => ?_)
  have C : Cx γ φ RX3 cX3_doTurn 3 6 := C
  have hn0 := h.1
  have hn1 := h.2.1
  have hn4 := h.2.2.1
  have hn5 := h.2.2.2.1
  refine v_lv [(0, .ref (bs γ + n)), (1, .int (iI y))] [0, 1] rfl ?_
  refine v_iload_n (pc := 0) C 1 rfl dX3_doTurn_0 ?_
  refine v_bipush (pc := 1) C (by decide +kernel) dX3_doTurn_1 ?_
  refine v_idiv (pc := 3) C (by first | omega | assumption) (by first | omega | assumption) dX3_doTurn_3 ?_
  refine v_istore_n (pc := 4) C [(2, .int (iI (y / 8))), (0, .ref (bs γ + n)), (1, .int (iI y))] dX3_doTurn_4 rfl (by decide) rfl ?_
  refine v_iload_n (pc := 5) C 2 rfl dX3_doTurn_5 ?_
  refine v_bipush (pc := 6) C (by decide +kernel) dX3_doTurn_6 ?_
  refine v_irem (pc := 8) C (by first | omega | assumption) (by first | omega | assumption) dX3_doTurn_8 ?_
  by_cases hs9 : 0 ≤ y % 8 ∧ y % 8 ≤ 5
  · have hs9 : y % 8 = 0 ∨ y % 8 = 1 ∨ y % 8 = 2 ∨ y % 8 = 3 ∨ y % 8 = 4 ∨ y % 8 = 5 := by omega
    rcases hs9 with hs9 | hs9 | hs9 | hs9 | hs9 | hs9
    · refine v_tabIn (pc := 9) C 48 (by first | omega | assumption) dX3_doTurn_9 (by omega) (by rw [hs9]; rfl) (by decide) ?_
      refine v_aload_n (pc := 48) C 1 rfl dX3_doTurn_48 ?_
      refine v_iload_n (pc := 49) C 0 rfl dX3_doTurn_49 ?_
      refine v_iconst (pc := 50) C dX3_doTurn_50 ?_
      refine v_irem (pc := 51) C (by first | omega | assumption) (by first | omega | assumption) dX3_doTurn_51 ?_
      refine v_bipush (pc := 52) C (by decide +kernel) dX3_doTurn_52 ?_
      refine v_iload_n (pc := 54) C 0 rfl dX3_doTurn_54 ?_
      refine v_bipush (pc := 55) C (by decide +kernel) dX3_doTurn_55 ?_
      refine v_idiv (pc := 57) C (by first | omega | assumption) (by first | omega | assumption) dX3_doTurn_57 ?_
      refine v_bipush (pc := 58) C (by decide +kernel) dX3_doTurn_58 ?_
      refine v_irem (pc := 60) C (by first | omega | assumption) (by first | omega | assumption) dX3_doTurn_60 ?_
      refine v_iadd (pc := 61) C dX3_doTurn_61 ?_
      refine v_cs (pc := 62) (as := [.ref (bs γ + n), .int (iI ((y / 8) % 5)), .int (iI (10 + (((y / 8) / 8) % 90)))]) C (cy_X0_tryValve G) (wM_X3_69 G) (k_X0_tryValve G hN hR h (by first | omega | assumption) (by first | omega | assumption)) dX3_doTurn_62 rfl rfl (by decide) (by decide) (Nat.le_of_ble_eq_true rfl) zc (k_I (fun z62 s62 q62 => ?_))
      rcases q62 with ⟨rfl, q62, α9, hR9, rfl⟩ | ⟨rfl, q62, rfl⟩
      · refine v_pop (pc := 65) C rfl dX3_doTurn_65 ?_
        refine v_goto (pc := 66) C 212 dX3_doTurn_66 (by decide) ?_
        exact v_vret (pc := 212) C hr dX3_doTurn_212 ⟨rfl, _, by unfold turnR; rw [if_pos (by omega)]; rw [if_pos (by omega)]; exact hR9, rfl⟩
      · refine v_pop (pc := 65) C rfl dX3_doTurn_65 ?_
        refine v_goto (pc := 66) C 212 dX3_doTurn_66 (by decide) ?_
        exact v_vret (pc := 212) C hr dX3_doTurn_212 ⟨rfl, _, by unfold turnR; rw [if_pos (by omega)]; rw [if_neg (by omega)]; exact hR, rfl⟩
    · refine v_tabIn (pc := 9) C 69 (by first | omega | assumption) dX3_doTurn_9 (by omega) (by rw [hs9]; rfl) (by decide) ?_
      refine v_aload_n (pc := 69) C 1 rfl dX3_doTurn_69 ?_
      refine v_iload_n (pc := 70) C 0 rfl dX3_doTurn_70 ?_
      refine v_bipush (pc := 71) C (by decide +kernel) dX3_doTurn_71 ?_
      refine v_irem (pc := 73) C (by first | omega | assumption) (by first | omega | assumption) dX3_doTurn_73 ?_
      refine v_iload_n (pc := 74) C 0 rfl dX3_doTurn_74 ?_
      refine v_bipush (pc := 75) C (by decide +kernel) dX3_doTurn_75 ?_
      refine v_idiv (pc := 77) C (by first | omega | assumption) (by first | omega | assumption) dX3_doTurn_77 ?_
      refine v_iconst (pc := 78) C dX3_doTurn_78 ?_
      refine v_irem (pc := 79) C (by first | omega | assumption) (by first | omega | assumption) dX3_doTurn_79 ?_
      refine v_iload_n (pc := 80) C 0 rfl dX3_doTurn_80 ?_
      refine v_bipush (pc := 81) C (by decide +kernel) dX3_doTurn_81 ?_
      refine v_idiv (pc := 83) C (by first | omega | assumption) (by first | omega | assumption) dX3_doTurn_83 ?_
      refine v_bipush (pc := 84) C (by decide +kernel) dX3_doTurn_84 ?_
      refine v_irem (pc := 86) C (by first | omega | assumption) (by first | omega | assumption) dX3_doTurn_86 ?_
      refine v_iload_n (pc := 87) C 0 rfl dX3_doTurn_87 ?_
      refine v_sipush (pc := 88) C (by decide +kernel) dX3_doTurn_88 ?_
      refine v_idiv (pc := 91) C (by first | omega | assumption) (by first | omega | assumption) dX3_doTurn_91 ?_
      refine v_iconst (pc := 92) C dX3_doTurn_92 ?_
      refine v_irem (pc := 93) C (by first | omega | assumption) (by first | omega | assumption) dX3_doTurn_93 ?_
      refine v_iconst (pc := 94) C dX3_doTurn_94 ?_
      refine v_iload_n (pc := 95) C 0 rfl dX3_doTurn_95 ?_
      refine v_sipush (pc := 96) C (by decide +kernel) dX3_doTurn_96 ?_
      refine v_idiv (pc := 99) C (by first | omega | assumption) (by first | omega | assumption) dX3_doTurn_99 ?_
      refine v_bipush (pc := 100) C (by decide +kernel) dX3_doTurn_100 ?_
      refine v_irem (pc := 102) C (by first | omega | assumption) (by first | omega | assumption) dX3_doTurn_102 ?_
      refine v_iadd (pc := 103) C dX3_doTurn_103 ?_
      refine v_cs (pc := 104) (as := [.ref (bs γ + n), .int (iI ((y / 8) % 10)), .int (iI (((y / 8) / 16) % 2)), .int (iI (((y / 8) / 32) % 10)), .int (iI (((y / 8) / 512) % 2)), .int (iI (1 + (((y / 8) / 1024) % 6)))]) C (cy_X0_tryDuct G) (wM_X3_72 G) (k_X0_tryDuct G hN hR h (by first | omega | assumption) (by first | omega | assumption) (by first | omega | assumption) (by first | omega | assumption) (by first | omega | assumption)) dX3_doTurn_104 rfl rfl (by decide) (by decide) (Nat.le_of_ble_eq_true rfl) zc (k_I (fun z104 s104 q104 => ?_))
      rcases q104 with ⟨rfl, q104, α9, hR9, rfl⟩ | ⟨rfl, q104, rfl⟩
      · refine v_pop (pc := 107) C rfl dX3_doTurn_107 ?_
        refine v_goto (pc := 108) C 212 dX3_doTurn_108 (by decide) ?_
        exact v_vret (pc := 212) C hr dX3_doTurn_212 ⟨rfl, _, by unfold turnR; rw [if_neg (by omega), if_pos (by omega)]; unfold turnD; rw [if_pos (by omega)]; exact hR9, rfl⟩
      · refine v_pop (pc := 107) C rfl dX3_doTurn_107 ?_
        refine v_goto (pc := 108) C 212 dX3_doTurn_108 (by decide) ?_
        exact v_vret (pc := 212) C hr dX3_doTurn_212 ⟨rfl, _, by unfold turnR; rw [if_neg (by omega), if_pos (by omega)]; unfold turnD; rw [if_neg (by omega)]; exact hR, rfl⟩
    · refine v_tabIn (pc := 9) C 69 (by first | omega | assumption) dX3_doTurn_9 (by omega) (by rw [hs9]; rfl) (by decide) ?_
      refine v_aload_n (pc := 69) C 1 rfl dX3_doTurn_69 ?_
      refine v_iload_n (pc := 70) C 0 rfl dX3_doTurn_70 ?_
      refine v_bipush (pc := 71) C (by decide +kernel) dX3_doTurn_71 ?_
      refine v_irem (pc := 73) C (by first | omega | assumption) (by first | omega | assumption) dX3_doTurn_73 ?_
      refine v_iload_n (pc := 74) C 0 rfl dX3_doTurn_74 ?_
      refine v_bipush (pc := 75) C (by decide +kernel) dX3_doTurn_75 ?_
      refine v_idiv (pc := 77) C (by first | omega | assumption) (by first | omega | assumption) dX3_doTurn_77 ?_
      refine v_iconst (pc := 78) C dX3_doTurn_78 ?_
      refine v_irem (pc := 79) C (by first | omega | assumption) (by first | omega | assumption) dX3_doTurn_79 ?_
      refine v_iload_n (pc := 80) C 0 rfl dX3_doTurn_80 ?_
      refine v_bipush (pc := 81) C (by decide +kernel) dX3_doTurn_81 ?_
      refine v_idiv (pc := 83) C (by first | omega | assumption) (by first | omega | assumption) dX3_doTurn_83 ?_
      refine v_bipush (pc := 84) C (by decide +kernel) dX3_doTurn_84 ?_
      refine v_irem (pc := 86) C (by first | omega | assumption) (by first | omega | assumption) dX3_doTurn_86 ?_
      refine v_iload_n (pc := 87) C 0 rfl dX3_doTurn_87 ?_
      refine v_sipush (pc := 88) C (by decide +kernel) dX3_doTurn_88 ?_
      refine v_idiv (pc := 91) C (by first | omega | assumption) (by first | omega | assumption) dX3_doTurn_91 ?_
      refine v_iconst (pc := 92) C dX3_doTurn_92 ?_
      refine v_irem (pc := 93) C (by first | omega | assumption) (by first | omega | assumption) dX3_doTurn_93 ?_
      refine v_iconst (pc := 94) C dX3_doTurn_94 ?_
      refine v_iload_n (pc := 95) C 0 rfl dX3_doTurn_95 ?_
      refine v_sipush (pc := 96) C (by decide +kernel) dX3_doTurn_96 ?_
      refine v_idiv (pc := 99) C (by first | omega | assumption) (by first | omega | assumption) dX3_doTurn_99 ?_
      refine v_bipush (pc := 100) C (by decide +kernel) dX3_doTurn_100 ?_
      refine v_irem (pc := 102) C (by first | omega | assumption) (by first | omega | assumption) dX3_doTurn_102 ?_
      refine v_iadd (pc := 103) C dX3_doTurn_103 ?_
      refine v_cs (pc := 104) (as := [.ref (bs γ + n), .int (iI ((y / 8) % 10)), .int (iI (((y / 8) / 16) % 2)), .int (iI (((y / 8) / 32) % 10)), .int (iI (((y / 8) / 512) % 2)), .int (iI (1 + (((y / 8) / 1024) % 6)))]) C (cy_X0_tryDuct G) (wM_X3_72 G) (k_X0_tryDuct G hN hR h (by first | omega | assumption) (by first | omega | assumption) (by first | omega | assumption) (by first | omega | assumption) (by first | omega | assumption)) dX3_doTurn_104 rfl rfl (by decide) (by decide) (Nat.le_of_ble_eq_true rfl) zc (k_I (fun z104_1 s104_1 q104_1 => ?_))
      rcases q104_1 with ⟨rfl, q104_1, α9, hR9, rfl⟩ | ⟨rfl, q104_1, rfl⟩
      · refine v_pop (pc := 107) C rfl dX3_doTurn_107 ?_
        refine v_goto (pc := 108) C 212 dX3_doTurn_108 (by decide) ?_
        exact v_vret (pc := 212) C hr dX3_doTurn_212 ⟨rfl, _, by unfold turnR; rw [if_neg (by omega), if_pos (by omega)]; unfold turnD; rw [if_pos (by omega)]; exact hR9, rfl⟩
      · refine v_pop (pc := 107) C rfl dX3_doTurn_107 ?_
        refine v_goto (pc := 108) C 212 dX3_doTurn_108 (by decide) ?_
        exact v_vret (pc := 212) C hr dX3_doTurn_212 ⟨rfl, _, by unfold turnR; rw [if_neg (by omega), if_pos (by omega)]; unfold turnD; rw [if_neg (by omega)]; exact hR, rfl⟩
    · refine v_tabIn (pc := 9) C 111 (by first | omega | assumption) dX3_doTurn_9 (by omega) (by rw [hs9]; rfl) (by decide) ?_
      refine v_aload_n (pc := 111) C 1 rfl dX3_doTurn_111 ?_
      refine v_iload_n (pc := 112) C 0 rfl dX3_doTurn_112 ?_
      refine v_bipush (pc := 113) C (by decide +kernel) dX3_doTurn_113 ?_
      refine v_irem (pc := 115) C (by first | omega | assumption) (by first | omega | assumption) dX3_doTurn_115 ?_
      refine v_iload_n (pc := 116) C 0 rfl dX3_doTurn_116 ?_
      refine v_bipush (pc := 117) C (by decide +kernel) dX3_doTurn_117 ?_
      refine v_idiv (pc := 119) C (by first | omega | assumption) (by first | omega | assumption) dX3_doTurn_119 ?_
      refine v_iconst (pc := 120) C dX3_doTurn_120 ?_
      refine v_irem (pc := 121) C (by first | omega | assumption) (by first | omega | assumption) dX3_doTurn_121 ?_
      refine v_iconst (pc := 122) C dX3_doTurn_122 ?_
      refine v_icmp_ne (pc := 123) C 130 (by first | omega | assumption) (by first | omega | assumption) dX3_doTurn_123 (by decide) (fun h123 => ?_) (fun h123 => ?_)
      · refine v_iconst (pc := 130) C dX3_doTurn_130 ?_
        refine v_cs (pc := 131) (as := [.ref (bs γ + n), .int (iI ((y / 8) % 10)), .int (iI 0)]) C (cy_X0_tryPress G) (wM_X3_14 G) (k_X0_tryPress G hN hR h (by first | omega | assumption) (by omega)) dX3_doTurn_131 rfl rfl (by decide) (by decide) (Nat.le_of_ble_eq_true rfl) zc (k_I (fun z131 s131 q131 => ?_))
        rcases q131 with ⟨rfl, q131, α9, hR9, rfl⟩ | ⟨rfl, q131, rfl⟩
        · refine v_pop (pc := 134) C rfl dX3_doTurn_134 ?_
          refine v_goto (pc := 135) C 212 dX3_doTurn_135 (by decide) ?_
          exact v_vret (pc := 212) C hr dX3_doTurn_212 ⟨rfl, _, by unfold turnR; rw [if_neg (by omega), if_neg (by omega), if_pos (by omega)]; rw [if_pos (by omega)]; first | (rw [if_pos (by omega)]; exact hR9) | (rw [if_neg (by omega)]; exact hR9), rfl⟩
        · refine v_pop (pc := 134) C rfl dX3_doTurn_134 ?_
          refine v_goto (pc := 135) C 212 dX3_doTurn_135 (by decide) ?_
          exact v_vret (pc := 212) C hr dX3_doTurn_212 ⟨rfl, _, by unfold turnR; rw [if_neg (by omega), if_neg (by omega), if_pos (by omega)]; rw [if_neg (by omega)]; exact hR, rfl⟩
      · refine v_iconst (pc := 126) C dX3_doTurn_126 ?_
        refine v_goto (pc := 127) C 131 dX3_doTurn_127 (by decide) ?_
        refine v_cs (pc := 131) (as := [.ref (bs γ + n), .int (iI ((y / 8) % 10)), .int (iI 1)]) C (cy_X0_tryPress G) (wM_X3_14 G) (k_X0_tryPress G hN hR h (by first | omega | assumption) (by omega)) dX3_doTurn_131 rfl rfl (by decide) (by decide) (Nat.le_of_ble_eq_true rfl) zc (k_I (fun z131_1 s131_1 q131_1 => ?_))
        rcases q131_1 with ⟨rfl, q131_1, α9, hR9, rfl⟩ | ⟨rfl, q131_1, rfl⟩
        · refine v_pop (pc := 134) C rfl dX3_doTurn_134 ?_
          refine v_goto (pc := 135) C 212 dX3_doTurn_135 (by decide) ?_
          exact v_vret (pc := 212) C hr dX3_doTurn_212 ⟨rfl, _, by unfold turnR; rw [if_neg (by omega), if_neg (by omega), if_pos (by omega)]; rw [if_pos (by omega)]; first | (rw [if_pos (by omega)]; exact hR9) | (rw [if_neg (by omega)]; exact hR9), rfl⟩
        · refine v_pop (pc := 134) C rfl dX3_doTurn_134 ?_
          refine v_goto (pc := 135) C 212 dX3_doTurn_135 (by decide) ?_
          exact v_vret (pc := 212) C hr dX3_doTurn_212 ⟨rfl, _, by unfold turnR; rw [if_neg (by omega), if_neg (by omega), if_pos (by omega)]; rw [if_neg (by omega)]; exact hR, rfl⟩
    · refine v_tabIn (pc := 9) C 138 (by first | omega | assumption) dX3_doTurn_9 (by omega) (by rw [hs9]; rfl) (by decide) ?_
      refine v_iload_n (pc := 138) C 0 rfl dX3_doTurn_138 ?_
      refine v_sipush (pc := 139) C (by decide +kernel) dX3_doTurn_139 ?_
      refine v_idiv (pc := 142) C (by first | omega | assumption) (by first | omega | assumption) dX3_doTurn_142 ?_
      refine v_iconst (pc := 143) C dX3_doTurn_143 ?_
      refine v_irem (pc := 144) C (by first | omega | assumption) (by first | omega | assumption) dX3_doTurn_144 ?_
      refine v_if_ne (pc := 145) C 167 (by first | omega | assumption) dX3_doTurn_145 (by decide) (fun h145 => ?_) (fun h145 => ?_)
      · refine v_aload_n (pc := 167) C 1 rfl dX3_doTurn_167 ?_
        refine v_iload_n (pc := 168) C 0 rfl dX3_doTurn_168 ?_
        refine v_bipush (pc := 169) C (by decide +kernel) dX3_doTurn_169 ?_
        refine v_irem (pc := 171) C (by first | omega | assumption) (by first | omega | assumption) dX3_doTurn_171 ?_
        refine v_cs (pc := 172) (as := [.ref (bs γ + n), .int (iI ((y / 8) % 16))]) C (cy_X0_tryRemove G) (wM_X3_76 G) (k_X0_tryRemove G hN hR h (by first | omega | assumption)) dX3_doTurn_172 rfl rfl (by decide) (by decide) (Nat.le_of_ble_eq_true rfl) zc (k_I (fun z172 s172 q172 => ?_))
        rcases q172 with ⟨rfl, q172, α9, hR9, rfl⟩ | ⟨rfl, q172, rfl⟩
        · refine v_pop (pc := 175) C rfl dX3_doTurn_175 ?_
          refine v_goto (pc := 176) C 212 dX3_doTurn_176 (by decide) ?_
          exact v_vret (pc := 212) C hr dX3_doTurn_212 ⟨rfl, _, by unfold turnR; rw [if_neg (by omega), if_neg (by omega), if_neg (by omega), if_pos (by omega)]; rw [if_pos (by omega)]; first | (rw [if_pos (by omega)]; exact hR9) | (rw [if_neg (by omega)]; exact hR9), rfl⟩
        · refine v_pop (pc := 175) C rfl dX3_doTurn_175 ?_
          refine v_goto (pc := 176) C 212 dX3_doTurn_176 (by decide) ?_
          exact v_vret (pc := 212) C hr dX3_doTurn_212 ⟨rfl, _, by unfold turnR; rw [if_neg (by omega), if_neg (by omega), if_neg (by omega), if_pos (by omega)]; rw [if_neg (by omega)]; exact hR, rfl⟩
      · refine v_aload_n (pc := 148) C 1 rfl dX3_doTurn_148 ?_
        refine v_iload_n (pc := 149) C 0 rfl dX3_doTurn_149 ?_
        refine v_bipush (pc := 150) C (by decide +kernel) dX3_doTurn_150 ?_
        refine v_irem (pc := 152) C (by first | omega | assumption) (by first | omega | assumption) dX3_doTurn_152 ?_
        refine v_iload_n (pc := 153) C 0 rfl dX3_doTurn_153 ?_
        refine v_bipush (pc := 154) C (by decide +kernel) dX3_doTurn_154 ?_
        refine v_idiv (pc := 156) C (by first | omega | assumption) (by first | omega | assumption) dX3_doTurn_156 ?_
        refine v_bipush (pc := 157) C (by decide +kernel) dX3_doTurn_157 ?_
        refine v_irem (pc := 159) C (by first | omega | assumption) (by first | omega | assumption) dX3_doTurn_159 ?_
        refine v_cs (pc := 160) (as := [.ref (bs γ + n), .int (iI ((y / 8) % 16)), .int (iI (((y / 8) / 16) % 31))]) C (cy_X0_tryLeak G) (wM_X3_18 G) (k_X0_tryLeak G hN hR h (by first | omega | assumption) (by first | omega | assumption)) dX3_doTurn_160 rfl rfl (by decide) (by decide) (Nat.le_of_ble_eq_true rfl) zc (k_I (fun z160 s160 q160 => ?_))
        rcases q160 with ⟨rfl, q160, α9, hR9, rfl⟩ | ⟨rfl, q160, rfl⟩
        · refine v_pop (pc := 163) C rfl dX3_doTurn_163 ?_
          refine v_goto (pc := 164) C 212 dX3_doTurn_164 (by decide) ?_
          exact v_vret (pc := 212) C hr dX3_doTurn_212 ⟨rfl, _, by unfold turnR; rw [if_neg (by omega), if_neg (by omega), if_neg (by omega), if_pos (by omega)]; rw [if_pos (by omega)]; first | (rw [if_pos (by omega)]; exact hR9) | (rw [if_neg (by omega)]; exact hR9), rfl⟩
        · refine v_pop (pc := 163) C rfl dX3_doTurn_163 ?_
          refine v_goto (pc := 164) C 212 dX3_doTurn_164 (by decide) ?_
          exact v_vret (pc := 212) C hr dX3_doTurn_212 ⟨rfl, _, by unfold turnR; rw [if_neg (by omega), if_neg (by omega), if_neg (by omega), if_pos (by omega)]; rw [if_neg (by omega)]; exact hR, rfl⟩
    · refine v_tabIn (pc := 9) C 179 (by first | omega | assumption) dX3_doTurn_9 (by omega) (by rw [hs9]; rfl) (by decide) ?_
      refine v_aload_n (pc := 179) C 1 rfl dX3_doTurn_179 ?_
      refine v_iload_n (pc := 180) C 0 rfl dX3_doTurn_180 ?_
      refine v_bipush (pc := 181) C (by decide +kernel) dX3_doTurn_181 ?_
      refine v_irem (pc := 183) C (by first | omega | assumption) (by first | omega | assumption) dX3_doTurn_183 ?_
      refine v_bipush (pc := 184) C (by decide +kernel) dX3_doTurn_184 ?_
      refine v_iload_n (pc := 186) C 0 rfl dX3_doTurn_186 ?_
      refine v_bipush (pc := 187) C (by decide +kernel) dX3_doTurn_187 ?_
      refine v_idiv (pc := 189) C (by first | omega | assumption) (by first | omega | assumption) dX3_doTurn_189 ?_
      refine v_bipush (pc := 190) C (by decide +kernel) dX3_doTurn_190 ?_
      refine v_irem (pc := 192) C (by first | omega | assumption) (by first | omega | assumption) dX3_doTurn_192 ?_
      refine v_iadd (pc := 193) C dX3_doTurn_193 ?_
      refine v_cs (pc := 194) (as := [.ref (bs γ + n), .int (iI ((y / 8) % 10)), .int (iI (10 + (((y / 8) / 16) % 90)))]) C (cy_X0_tryFeed G) (wM_X3_22 G) (k_X0_tryFeed G hN hR h (by first | omega | assumption) (by first | omega | assumption)) dX3_doTurn_194 rfl rfl (by decide) (by decide) (Nat.le_of_ble_eq_true rfl) zc (k_I (fun z194 s194 q194 => ?_))
      rcases q194 with ⟨rfl, q194, α9, hR9, rfl⟩ | ⟨rfl, q194, rfl⟩
      · refine v_pop (pc := 197) C rfl dX3_doTurn_197 ?_
        refine v_goto (pc := 198) C 212 dX3_doTurn_198 (by decide) ?_
        exact v_vret (pc := 212) C hr dX3_doTurn_212 ⟨rfl, _, by unfold turnR; rw [if_neg (by omega), if_neg (by omega), if_neg (by omega), if_neg (by omega), if_pos (by omega)]; rw [if_pos (by omega)]; exact hR9, rfl⟩
      · refine v_pop (pc := 197) C rfl dX3_doTurn_197 ?_
        refine v_goto (pc := 198) C 212 dX3_doTurn_198 (by decide) ?_
        exact v_vret (pc := 212) C hr dX3_doTurn_212 ⟨rfl, _, by unfold turnR; rw [if_neg (by omega), if_neg (by omega), if_neg (by omega), if_neg (by omega), if_pos (by omega)]; rw [if_neg (by omega)]; exact hR, rfl⟩
  · refine v_tabOut (pc := 9) C 201 (by first | omega | assumption) dX3_doTurn_9 (by omega) (by decide) ?_
    refine v_aload_n (pc := 201) C 1 rfl dX3_doTurn_201 ?_
    refine v_iconst (pc := 202) C dX3_doTurn_202 ?_
    refine v_iload_n (pc := 203) C 0 rfl dX3_doTurn_203 ?_
    refine v_bipush (pc := 204) C (by decide +kernel) dX3_doTurn_204 ?_
    refine v_irem (pc := 206) C (by first | omega | assumption) (by first | omega | assumption) dX3_doTurn_206 ?_
    refine v_iadd (pc := 207) C dX3_doTurn_207 ?_
    refine v_cs (pc := 208) (as := [.ref (bs γ + n), .int (iI (1 + ((y / 8) % 20)))]) C (cy_X0_tryTicks G) (wM_X3_8 G) (k_X0_tryTicks G hN hR h (by first | omega | assumption)) dX3_doTurn_208 rfl rfl (by decide) (by decide) (Nat.le_of_ble_eq_true rfl) zc (k_I (fun z208 s208 q208 => ?_))
    rcases q208 with ⟨rfl, q208, α9, hR9, rfl⟩ | ⟨rfl, q208, rfl⟩
    · refine v_pop (pc := 211) C rfl dX3_doTurn_211 ?_
      exact v_vret (pc := 212) C hr dX3_doTurn_212 ⟨rfl, _, by unfold turnR; rw [if_neg (by omega), if_neg (by omega), if_neg (by omega), if_neg (by omega), if_neg (by omega)]; exact hR9, rfl⟩
    · refine v_pop (pc := 211) C rfl dX3_doTurn_211 ?_
      exact v_vret (pc := 212) C hr dX3_doTurn_212 ⟨rfl, _, by unfold turnR; rw [if_neg (by omega), if_neg (by omega), if_neg (by omega), if_neg (by omega), if_neg (by omega)]; exfalso; omega, rfl⟩
