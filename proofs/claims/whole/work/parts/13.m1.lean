set_option maxHeartbeats 4000000 in
set_option maxRecDepth 100000 in
theorem k_X6_in {γ : Gm} (G : Glo γ) {σ : St} {v l h : Int} (hv : R6 v) (hl : R6 l) (hh : R6 h) : Ct γ yX6_in cX6_in 6 (some .boolean) 1 [.long (lI v), .long (lI l), .long (lI h)] σ (pI (fun z σ2 => (z = 1 ∧ (l ≤ v ∧ v ≤ h) ∨ z = 0 ∧ ¬ (l ≤ v ∧ v ≤ h)) ∧ σ2 = σ)) := by
  refine Ct.of G (by decide +kernel) (Nat.le_of_ble_eq_true rfl) (fun φ C hr => ?_)
  have C : Cx γ φ RX6 cX6_in 6 1 := C
  refine v_lv [(0, .long (lI v)), (2, .long (lI l)), (4, .long (lI h))] [0, 1, 2] rfl ?_
  refine v_lload_n (pc := 0) C 0 rfl dX6_in_0 ?_
  refine v_lload_n (pc := 1) C 1 rfl dX6_in_1 ?_
  refine v_lcmp (pc := 2) C (by first | exact hv | exact hl | exact hh | omega) (by first | exact hv | exact hl | exact hh | omega) dX6_in_2 ?_
  refine v_if_lt (pc := 3) C 17 (lc_r _ _) dX6_in_3 (by decide) (fun h3 => ?_) (fun h3 => ?_)
  · have h3 : v < l := lc_lt.mp h3
    refine v_iconst (pc := 17) C dX6_in_17 ?_
    exact v_iret (pc := 18) C hr (rfl) dX6_in_18 (⟨_, rfl, Or.inr ⟨rfl, by omega⟩, rfl⟩)
  · have h3 : ¬ v < l := fun e => h3 (lc_lt.mpr e)
    refine v_lload_n (pc := 6) C 0 rfl dX6_in_6 ?_
    refine v_lload (pc := 7) C 2 rfl dX6_in_7 ?_
    refine v_lcmp (pc := 9) C (by first | exact hv | exact hl | exact hh | omega) (by first | exact hv | exact hl | exact hh | omega) dX6_in_9 ?_
    refine v_if_gt (pc := 10) C 17 (lc_r _ _) dX6_in_10 (by decide) (fun h10 => ?_) (fun h10 => ?_)
    · have h10 : h < v := lc_gt.mp h10
      refine v_iconst (pc := 17) C dX6_in_17 ?_
      exact v_iret (pc := 18) C hr (rfl) dX6_in_18 (⟨_, rfl, Or.inr ⟨rfl, by omega⟩, rfl⟩)
    · have h10 : ¬ h < v := fun e => h10 (lc_gt.mpr e)
      refine v_iconst (pc := 13) C dX6_in_13 ?_
      refine v_goto (pc := 14) C 18 dX6_in_14 (by decide) ?_
      exact v_iret (pc := 18) C hr (rfl) dX6_in_18 (⟨_, rfl, Or.inl ⟨rfl, by omega⟩, rfl⟩)

set_option maxHeartbeats 4000000 in
set_option maxRecDepth 100000 in
theorem k_X6_of {γ : Gm} (G : Glo γ) {σ : St} {c : Nat} {r : Int → Int} {v w : Int} (hc : sh c = (0, 268) ∧ 268 ≤ 4000) (h0 : 0 ≤ 6 + 7 * v + w ∧ 6 + 7 * v + w < 268) : Ct γ yX6_of cX6_of 3 (some .int) 1 [.ref (bs γ + c), .int (iI v), .int (iI w)] (setc σ c r) (pI (fun z σ2 => (z = r (6 + 7 * v + w) ∧ R3 z) ∧ σ2 = setc σ c r)) := by
  refine Ct.of G (by decide +kernel) (Nat.le_of_ble_eq_true rfl) (fun φ C hr => ?_)
  have C : Cx γ φ RX6 cX6_of 3 1 := C
  refine v_lv [(0, .ref (bs γ + c)), (1, .int (iI v)), (2, .int (iI w))] [0, 1, 2] rfl ?_
  refine v_aload_n (pc := 0) C 0 rfl dX6_of_0 ?_
  refine v_bipush (pc := 1) C (by decide +kernel) dX6_of_1 ?_
  refine v_bipush (pc := 3) C (by decide +kernel) dX6_of_3 ?_
  refine v_iload_n (pc := 5) C 1 rfl dX6_of_5 ?_
  refine v_imul (pc := 6) C dX6_of_6 ?_
  refine v_iadd (pc := 7) C dX6_of_7 ?_
  refine v_iload_n (pc := 8) C 2 rfl dX6_of_8 ?_
  refine v_iadd (pc := 9) C dX6_of_9 ?_
  refine v_ialdR (pc := 10) C hc (by omega) dX6_of_10 (fun z10 ez10 rz10 => ?_)
  exact v_iret (pc := 11) C hr (rfl) dX6_of_11 (⟨_, rfl, ⟨by assumption, by assumption⟩, rfl⟩)

set_option maxHeartbeats 4000000 in
set_option maxRecDepth 100000 in
theorem k_X6_ofDuct {γ : Gm} (G : Glo γ) {σ : St} {c : Nat} {r : Int → Int} {v w : Int} (hc : sh c = (0, 268) ∧ 268 ≤ 4000) (h0 : 0 ≤ 76 + 12 * v + w ∧ 76 + 12 * v + w < 268) : Ct γ yX6_ofDuct cX6_ofDuct 3 (some .int) 1 [.ref (bs γ + c), .int (iI v), .int (iI w)] (setc σ c r) (pI (fun z σ2 => (z = r (76 + 12 * v + w) ∧ R3 z) ∧ σ2 = setc σ c r)) := by
  refine Ct.of G (by decide +kernel) (Nat.le_of_ble_eq_true rfl) (fun φ C hr => ?_)
  have C : Cx γ φ RX6 cX6_ofDuct 3 1 := C
  refine v_lv [(0, .ref (bs γ + c)), (1, .int (iI v)), (2, .int (iI w))] [0, 1, 2] rfl ?_
  refine v_aload_n (pc := 0) C 0 rfl dX6_ofDuct_0 ?_
  refine v_bipush (pc := 1) C (by decide +kernel) dX6_ofDuct_1 ?_
  refine v_bipush (pc := 3) C (by decide +kernel) dX6_ofDuct_3 ?_
  refine v_iload_n (pc := 5) C 1 rfl dX6_ofDuct_5 ?_
  refine v_imul (pc := 6) C dX6_ofDuct_6 ?_
  refine v_iadd (pc := 7) C dX6_ofDuct_7 ?_
  refine v_iload_n (pc := 8) C 2 rfl dX6_ofDuct_8 ?_
  refine v_iadd (pc := 9) C dX6_ofDuct_9 ?_
  refine v_ialdR (pc := 10) C hc (by omega) dX6_ofDuct_10 (fun z10 ez10 rz10 => ?_)
  exact v_iret (pc := 11) C hr (rfl) dX6_ofDuct_11 (⟨_, rfl, ⟨by assumption, by assumption⟩, rfl⟩)

set_option maxHeartbeats 4000000 in
set_option maxRecDepth 100000 in
theorem k_X6_isSide {γ : Gm} (G : Glo γ) {σ : St} {w : Int} (hw : R3 w) : Ct γ yX6_isSide cX6_isSide 1 (some .boolean) 2 [.int (iI w)] σ (pI (fun z σ2 => (z = 1 ∧ (0 ≤ w ∧ w ≤ 1) ∨ z = 0 ∧ ¬ (0 ≤ w ∧ w ≤ 1)) ∧ σ2 = σ)) := by
  refine Ct.of G (by decide +kernel) (Nat.le_of_ble_eq_true rfl) (fun φ C hr => ?_)
  have C : Cx γ φ RX6 cX6_isSide 1 2 := C
  refine v_lv [(0, .int (iI w))] [0] rfl ?_
  refine v_iload_n (pc := 0) C 0 rfl dX6_isSide_0 ?_
  refine v_i2l (pc := 1) C (by omega) dX6_isSide_1 ?_
  refine v_lconst (pc := 2) C (z := 0) rfl dX6_isSide_2 ?_
  refine v_lconst (pc := 3) C (z := 1) rfl dX6_isSide_3 ?_
  refine v_cs (pc := 4) (as := [.long (lI w), .long (lI 0), .long (lI 1)]) C (cy_X6_in G) (wM_X6_40 G) (k_X6_in G (by first | omega | assumption) (by first | omega | assumption) (by first | omega | assumption)) dX6_isSide_4 rfl rfl (by decide) (by decide) (Nat.le_of_ble_eq_true rfl) zc (k_I (fun z4 s4 q4 => ?_))
  rcases q4 with ⟨⟨rfl, q4⟩ | ⟨rfl, q4⟩, rfl⟩
  · exact v_iret (pc := 7) C hr (rfl) dX6_isSide_7 (⟨_, rfl, Or.inl ⟨rfl, by omega⟩, rfl⟩)
  · exact v_iret (pc := 7) C hr (rfl) dX6_isSide_7 (⟨_, rfl, Or.inr ⟨rfl, by omega⟩, rfl⟩)

set_option maxHeartbeats 4000000 in
set_option maxRecDepth 100000 in
theorem k_X6_isValve {γ : Gm} (G : Glo γ) {σ : St} {c : Nat} {r : Int → Int} {v : Int} (hc : sh c = (0, 268) ∧ 268 ≤ 4000) (hv : R3 v) (h0 : 0 ≤ r 0 ∧ r 0 ≤ 1000) : Ct γ yX6_isValve cX6_isValve 2 (some .boolean) 2 [.ref (bs γ + c), .int (iI v)] (setc σ c r) (pI (fun z σ2 => (z = 1 ∧ (0 ≤ v ∧ v < r 0) ∨ z = 0 ∧ ¬ (0 ≤ v ∧ v < r 0)) ∧ σ2 = setc σ c r)) := by
  refine Ct.of G (by decide +kernel) (Nat.le_of_ble_eq_true rfl) (fun φ C hr => ?_)
  have C : Cx γ φ RX6 cX6_isValve 2 2 := C
  refine v_lv [(0, .ref (bs γ + c)), (1, .int (iI v))] [0, 1] rfl ?_
  refine v_iload_n (pc := 0) C 1 rfl dX6_isValve_0 ?_
  refine v_i2l (pc := 1) C (by omega) dX6_isValve_1 ?_
  refine v_lconst (pc := 2) C (z := 0) rfl dX6_isValve_2 ?_
  refine v_aload_n (pc := 3) C 0 rfl dX6_isValve_3 ?_
  refine v_iconst (pc := 4) C dX6_isValve_4 ?_
  refine v_ialdR (pc := 5) C hc (by omega) dX6_isValve_5 (fun z5 ez5 rz5 => ?_)
  refine v_iconst (pc := 6) C dX6_isValve_6 ?_
  refine v_isub (pc := 7) C dX6_isValve_7 ?_
  refine v_i2l (pc := 8) C (by omega) dX6_isValve_8 ?_
  refine v_cs (pc := 9) (as := [.long (lI v), .long (lI 0), .long (lI (z5 - 1))]) C (cy_X6_in G) (wM_X6_40 G) (k_X6_in G (by first | omega | assumption) (by first | omega | assumption) (by first | omega | assumption)) dX6_isValve_9 rfl rfl (by decide) (by decide) (Nat.le_of_ble_eq_true rfl) zc (k_I (fun z9 s9 q9 => ?_))
  rcases q9 with ⟨⟨rfl, q9⟩ | ⟨rfl, q9⟩, rfl⟩
  · exact v_iret (pc := 12) C hr (rfl) dX6_isValve_12 (⟨_, rfl, Or.inl ⟨rfl, by omega⟩, rfl⟩)
  · exact v_iret (pc := 12) C hr (rfl) dX6_isValve_12 (⟨_, rfl, Or.inr ⟨rfl, by omega⟩, rfl⟩)

set_option maxHeartbeats 4000000 in
set_option maxRecDepth 100000 in
theorem k_X6_isDuct {γ : Gm} (G : Glo γ) {σ : St} {c : Nat} {r : Int → Int} {v : Int} (hc : sh c = (0, 268) ∧ 268 ≤ 4000) (hv : R3 v) (h0 : 0 ≤ r 1 ∧ r 1 ≤ 1000) : Ct γ yX6_isDuct cX6_isDuct 2 (some .boolean) 2 [.ref (bs γ + c), .int (iI v)] (setc σ c r) (pI (fun z σ2 => (z = 1 ∧ (0 ≤ v ∧ v < r 1) ∨ z = 0 ∧ ¬ (0 ≤ v ∧ v < r 1)) ∧ σ2 = setc σ c r)) := by
  refine Ct.of G (by decide +kernel) (Nat.le_of_ble_eq_true rfl) (fun φ C hr => ?_)
  have C : Cx γ φ RX6 cX6_isDuct 2 2 := C
  refine v_lv [(0, .ref (bs γ + c)), (1, .int (iI v))] [0, 1] rfl ?_
  refine v_iload_n (pc := 0) C 1 rfl dX6_isDuct_0 ?_
  refine v_i2l (pc := 1) C (by omega) dX6_isDuct_1 ?_
  refine v_lconst (pc := 2) C (z := 0) rfl dX6_isDuct_2 ?_
  refine v_aload_n (pc := 3) C 0 rfl dX6_isDuct_3 ?_
  refine v_iconst (pc := 4) C dX6_isDuct_4 ?_
  refine v_ialdR (pc := 5) C hc (by omega) dX6_isDuct_5 (fun z5 ez5 rz5 => ?_)
  refine v_iconst (pc := 6) C dX6_isDuct_6 ?_
  refine v_isub (pc := 7) C dX6_isDuct_7 ?_
  refine v_i2l (pc := 8) C (by omega) dX6_isDuct_8 ?_
  refine v_cs (pc := 9) (as := [.long (lI v), .long (lI 0), .long (lI (z5 - 1))]) C (cy_X6_in G) (wM_X6_40 G) (k_X6_in G (by first | omega | assumption) (by first | omega | assumption) (by first | omega | assumption)) dX6_isDuct_9 rfl rfl (by decide) (by decide) (Nat.le_of_ble_eq_true rfl) zc (k_I (fun z9 s9 q9 => ?_))
  rcases q9 with ⟨⟨rfl, q9⟩ | ⟨rfl, q9⟩, rfl⟩
  · exact v_iret (pc := 12) C hr (rfl) dX6_isDuct_12 (⟨_, rfl, Or.inl ⟨rfl, by omega⟩, rfl⟩)
  · exact v_iret (pc := 12) C hr (rfl) dX6_isDuct_12 (⟨_, rfl, Or.inr ⟨rfl, by omega⟩, rfl⟩)

set_option maxHeartbeats 4000000 in
set_option maxRecDepth 100000 in
theorem k_X6_isKey {γ : Gm} (G : Glo γ) {σ : St} {c : Nat} {r : Int → Int} {v : Int} (hc : sh c = (0, 268) ∧ 268 ≤ 4000) (hv : R3 v) (h0 : 0 ≤ r 0 ∧ r 0 ≤ 10) : Ct γ yX6_isKey cX6_isKey 2 (some .boolean) 3 [.ref (bs γ + c), .int (iI v)] (setc σ c r) (pI (fun z σ2 => (z = 1 ∧ ((0 ≤ v ∧ v < r 0) ∧ r (6 + 7 * v + 0) = 0) ∨ z = 0 ∧ ¬ ((0 ≤ v ∧ v < r 0) ∧ r (6 + 7 * v + 0) = 0)) ∧ σ2 = setc σ c r)) := by
  refine Ct.of G (by decide +kernel) (Nat.le_of_ble_eq_true rfl) (fun φ C hr => ?_)
  have C : Cx γ φ RX6 cX6_isKey 2 3 := C
  refine v_lv [(0, .ref (bs γ + c)), (1, .int (iI v))] [0, 1] rfl ?_
  refine v_aload_n (pc := 0) C 0 rfl dX6_isKey_0 ?_
  refine v_iload_n (pc := 1) C 1 rfl dX6_isKey_1 ?_
  refine v_cs (pc := 2) (as := [.ref (bs γ + c), .int (iI v)]) C (cy_X6_isValve G) (wM_X6_44 G) (k_X6_isValve G hc (by first | omega | assumption) (by first | omega | assumption)) dX6_isKey_2 rfl rfl (by decide) (by decide) (Nat.le_of_ble_eq_true rfl) zc (k_I (fun z2 s2 q2 => ?_))
  rcases q2 with ⟨⟨rfl, q2⟩ | ⟨rfl, q2⟩, rfl⟩
  · refine v_if_eq (pc := 5) C 21 (by omega) dX6_isKey_5 (by decide) (fun h => absurd h (by decide)) (fun _ => ?_)
    refine v_aload_n (pc := 8) C 0 rfl dX6_isKey_8 ?_
    refine v_iload_n (pc := 9) C 1 rfl dX6_isKey_9 ?_
    refine v_iconst (pc := 10) C dX6_isKey_10 ?_
    refine v_cs (pc := 11) (as := [.ref (bs γ + c), .int (iI v), .int (iI 0)]) C (cy_X6_of G) (wM_X6_48 G) (k_X6_of G hc (by omega)) dX6_isKey_11 rfl rfl (by decide) (by decide) (Nat.le_of_ble_eq_true rfl) zc (k_I (fun z11 s11 q11 => ?_))
    obtain ⟨⟨ez11, rz11⟩, rfl⟩ := q11
    refine v_if_ne (pc := 14) C 21 (by omega) dX6_isKey_14 (by decide) (fun h14 => ?_) (fun h14 => ?_)
    · refine v_iconst (pc := 21) C dX6_isKey_21 ?_
      exact v_iret (pc := 22) C hr (rfl) dX6_isKey_22 (⟨_, rfl, Or.inr ⟨rfl, by omega⟩, rfl⟩)
    · refine v_iconst (pc := 17) C dX6_isKey_17 ?_
      refine v_goto (pc := 18) C 22 dX6_isKey_18 (by decide) ?_
      exact v_iret (pc := 22) C hr (rfl) dX6_isKey_22 (⟨_, rfl, Or.inl ⟨rfl, by omega⟩, rfl⟩)
  · refine v_if_eq (pc := 5) C 21 (by omega) dX6_isKey_5 (by decide) (fun _ => ?_) (fun h => absurd h (by decide))
    refine v_iconst (pc := 21) C dX6_isKey_21 ?_
    exact v_iret (pc := 22) C hr (rfl) dX6_isKey_22 (⟨_, rfl, Or.inr ⟨rfl, by omega⟩, rfl⟩)

set_option maxHeartbeats 4000000 in
set_option maxRecDepth 100000 in
theorem k_X6_isSetting {γ : Gm} (G : Glo γ) {σ : St} {w v : Int} (hw : R3 w) (hv : R3 v) : Ct γ yX6_isSetting cX6_isSetting 2 (some .boolean) 2 [.int (iI w), .int (iI v)] σ (pI (fun z σ2 => (z = 1 ∧ (w = 0 ∧ (0 ≤ v ∧ v ≤ 9) ∨ w = 1 ∧ (5 ≤ v ∧ v ≤ 90)) ∨ z = 0 ∧ ¬ (w = 0 ∧ (0 ≤ v ∧ v ≤ 9) ∨ w = 1 ∧ (5 ≤ v ∧ v ≤ 90))) ∧ σ2 = σ)) := by
  refine Ct.of G (by decide +kernel) (Nat.le_of_ble_eq_true rfl) (fun φ C hr => ?_)
  have C : Cx γ φ RX6 cX6_isSetting 2 2 := C
  refine v_lv [(0, .int (iI w)), (1, .int (iI v))] [0, 1] rfl ?_
  refine v_iload_n (pc := 0) C 0 rfl dX6_isSetting_0 ?_
  refine v_if_ne (pc := 1) C 16 (by omega) dX6_isSetting_1 (by decide) (fun h1 => ?_) (fun h1 => ?_)
  · refine v_iload_n (pc := 16) C 0 rfl dX6_isSetting_16 ?_
    refine v_iconst (pc := 17) C dX6_isSetting_17 ?_
    refine v_icmp_ne (pc := 18) C 39 (by omega) (by omega) dX6_isSetting_18 (by decide) (fun h18 => ?_) (fun h18 => ?_)
    · refine v_iconst (pc := 39) C dX6_isSetting_39 ?_
      exact v_iret (pc := 40) C hr (rfl) dX6_isSetting_40 (⟨_, rfl, Or.inr ⟨rfl, by omega⟩, rfl⟩)
    · refine v_iload_n (pc := 21) C 1 rfl dX6_isSetting_21 ?_
      refine v_i2l (pc := 22) C (by omega) dX6_isSetting_22 ?_
      refine v_ldc2 (pc := 23) C (wCL_X6_54 G) dX6_isSetting_23 ?_
      refine v_ldc2 (pc := 26) C (wCL_X6_56 G) dX6_isSetting_26 ?_
      refine v_cs (pc := 29) (as := [.long (lI v), .long (lI 5), .long (lI 90)]) C (cy_X6_in G) (wM_X6_40 G) (k_X6_in G (by first | omega | assumption) (by first | omega | assumption) (by first | omega | assumption)) dX6_isSetting_29 rfl rfl (by decide) (by decide) (Nat.le_of_ble_eq_true rfl) zc (k_I (fun z29 s29 q29 => ?_))
      rcases q29 with ⟨⟨rfl, q29⟩ | ⟨rfl, q29⟩, rfl⟩
      · refine v_if_eq (pc := 32) C 39 (by omega) dX6_isSetting_32 (by decide) (fun h => absurd h (by decide)) (fun _ => ?_)
        refine v_iconst (pc := 35) C dX6_isSetting_35 ?_
        refine v_goto (pc := 36) C 40 dX6_isSetting_36 (by decide) ?_
        exact v_iret (pc := 40) C hr (rfl) dX6_isSetting_40 (⟨_, rfl, Or.inl ⟨rfl, by omega⟩, rfl⟩)
      · refine v_if_eq (pc := 32) C 39 (by omega) dX6_isSetting_32 (by decide) (fun _ => ?_) (fun h => absurd h (by decide))
        refine v_iconst (pc := 39) C dX6_isSetting_39 ?_
        exact v_iret (pc := 40) C hr (rfl) dX6_isSetting_40 (⟨_, rfl, Or.inr ⟨rfl, by omega⟩, rfl⟩)
  · refine v_iload_n (pc := 4) C 1 rfl dX6_isSetting_4 ?_
    refine v_i2l (pc := 5) C (by omega) dX6_isSetting_5 ?_
    refine v_lconst (pc := 6) C (z := 0) rfl dX6_isSetting_6 ?_
    refine v_ldc2 (pc := 7) C (wCL_X6_52 G) dX6_isSetting_7 ?_
    refine v_cs (pc := 10) (as := [.long (lI v), .long (lI 0), .long (lI 9)]) C (cy_X6_in G) (wM_X6_40 G) (k_X6_in G (by first | omega | assumption) (by first | omega | assumption) (by first | omega | assumption)) dX6_isSetting_10 rfl rfl (by decide) (by decide) (Nat.le_of_ble_eq_true rfl) zc (k_I (fun z10 s10 q10 => ?_))
    rcases q10 with ⟨⟨rfl, q10⟩ | ⟨rfl, q10⟩, rfl⟩
    · refine v_if_ne (pc := 13) C 35 (by omega) dX6_isSetting_13 (by decide) (fun _ => ?_) (fun h => absurd h (by decide))
      refine v_iconst (pc := 35) C dX6_isSetting_35 ?_
      refine v_goto (pc := 36) C 40 dX6_isSetting_36 (by decide) ?_
      exact v_iret (pc := 40) C hr (rfl) dX6_isSetting_40 (⟨_, rfl, Or.inl ⟨rfl, by omega⟩, rfl⟩)
    · refine v_if_ne (pc := 13) C 35 (by omega) dX6_isSetting_13 (by decide) (fun h => absurd h (by decide)) (fun _ => ?_)
      refine v_iload_n (pc := 16) C 0 rfl dX6_isSetting_16 ?_
      refine v_iconst (pc := 17) C dX6_isSetting_17 ?_
      refine v_icmp_ne (pc := 18) C 39 (by omega) (by omega) dX6_isSetting_18 (by decide) (fun h18_1 => ?_) (fun h18_1 => ?_)
      · refine v_iconst (pc := 39) C dX6_isSetting_39 ?_
        exact v_iret (pc := 40) C hr (rfl) dX6_isSetting_40 (⟨_, rfl, Or.inr ⟨rfl, by omega⟩, rfl⟩)
      · refine v_iload_n (pc := 21) C 1 rfl dX6_isSetting_21 ?_
        refine v_i2l (pc := 22) C (by omega) dX6_isSetting_22 ?_
        refine v_ldc2 (pc := 23) C (wCL_X6_54 G) dX6_isSetting_23 ?_
        refine v_ldc2 (pc := 26) C (wCL_X6_56 G) dX6_isSetting_26 ?_
        refine v_cs (pc := 29) (as := [.long (lI v), .long (lI 5), .long (lI 90)]) C (cy_X6_in G) (wM_X6_40 G) (k_X6_in G (by first | omega | assumption) (by first | omega | assumption) (by first | omega | assumption)) dX6_isSetting_29 rfl rfl (by decide) (by decide) (Nat.le_of_ble_eq_true rfl) zc (k_I (fun z29_1 s29_1 q29_1 => ?_))
        rcases q29_1 with ⟨⟨rfl, q29_1⟩ | ⟨rfl, q29_1⟩, rfl⟩
        · refine v_if_eq (pc := 32) C 39 (by omega) dX6_isSetting_32 (by decide) (fun h => absurd h (by decide)) (fun _ => ?_)
          refine v_iconst (pc := 35) C dX6_isSetting_35 ?_
          refine v_goto (pc := 36) C 40 dX6_isSetting_36 (by decide) ?_
          exact v_iret (pc := 40) C hr (rfl) dX6_isSetting_40 (⟨_, rfl, Or.inl ⟨rfl, by omega⟩, rfl⟩)
        · refine v_if_eq (pc := 32) C 39 (by omega) dX6_isSetting_32 (by decide) (fun _ => ?_) (fun h => absurd h (by decide))
          refine v_iconst (pc := 39) C dX6_isSetting_39 ?_
          exact v_iret (pc := 40) C hr (rfl) dX6_isSetting_40 (⟨_, rfl, Or.inr ⟨rfl, by omega⟩, rfl⟩)

set_option maxHeartbeats 4000000 in
set_option maxRecDepth 100000 in
theorem k_X6_isStrong {γ : Gm} (G : Glo γ) {σ : St} {c : Nat} {r : Int → Int} {v p : Int} (hc : sh c = (0, 268) ∧ 268 ≤ 4000) (h0 : 0 ≤ v ∧ v < 10) (hp : -1000 ≤ p ∧ p ≤ 1000) (hs : 0 ≤ r (6 + 7 * v + 1) ∧ r (6 + 7 * v + 1) ≤ 99) (h5 : 0 ≤ r 5 ∧ r 5 ≤ 90) : Ct γ yX6_isStrong cX6_isStrong 3 (some .boolean) 2 [.ref (bs γ + c), .int (iI v), .int (iI p)] (setc σ c r) (pI (fun z σ2 => (z = 1 ∧ (strongR r v p) ∨ z = 0 ∧ ¬ (strongR r v p)) ∧ σ2 = setc σ c r)) := by
  refine Ct.of G (by decide +kernel) (Nat.le_of_ble_eq_true rfl) (fun φ C hr => ?_)
  have C : Cx γ φ RX6 cX6_isStrong 3 2 := C
  refine v_lv [(0, .ref (bs γ + c)), (1, .int (iI v)), (2, .int (iI p))] [0, 1, 2] rfl ?_
  refine v_iload_n (pc := 0) C 2 rfl dX6_isStrong_0 ?_
  refine v_if_le (pc := 1) C 25 (by omega) dX6_isStrong_1 (by decide) (fun h1 => ?_) (fun h1 => ?_)
  · refine v_iconst (pc := 25) C dX6_isStrong_25 ?_
    exact v_iret (pc := 26) C hr (rfl) dX6_isStrong_26 (⟨_, rfl, Or.inr ⟨rfl, by first | (refine ⟨by omega, ?_⟩; rw [← ez11, ← ez16]; omega) | (rintro ⟨a1, a2⟩; first | omega | (rw [← ez11, ← ez16] at a2; omega))⟩, rfl⟩)
  · refine v_bipush (pc := 4) C (by decide +kernel) dX6_isStrong_4 ?_
    refine v_iload_n (pc := 6) C 2 rfl dX6_isStrong_6 ?_
    refine v_imul (pc := 7) C dX6_isStrong_7 ?_
    refine v_aload_n (pc := 8) C 0 rfl dX6_isStrong_8 ?_
    refine v_iload_n (pc := 9) C 1 rfl dX6_isStrong_9 ?_
    refine v_iconst (pc := 10) C dX6_isStrong_10 ?_
    refine v_cs (pc := 11) (as := [.ref (bs γ + c), .int (iI v), .int (iI 1)]) C (cy_X6_of G) (wM_X6_48 G) (k_X6_of G hc (by omega)) dX6_isStrong_11 rfl rfl (by decide) (by decide) (Nat.le_of_ble_eq_true rfl) zc (k_I (fun z11 s11 q11 => ?_))
    obtain ⟨⟨ez11, rz11⟩, rfl⟩ := q11
    refine v_aload_n (pc := 14) C 0 rfl dX6_isStrong_14 ?_
    refine v_iconst (pc := 15) C dX6_isStrong_15 ?_
    refine v_ialdR (pc := 16) C hc (by omega) dX6_isStrong_16 (fun z16 ez16 rz16 => ?_)
    have hm := mulb (x := z11) (y := z16) (A := 99) (B := 90) (by omega) (by omega)
    refine v_imul (pc := 17) C dX6_isStrong_17 ?_
    refine v_icmp_lt (pc := 18) C 25 (by omega) (by omega) dX6_isStrong_18 (by decide) (fun h18 => ?_) (fun h18 => ?_)
    · refine v_iconst (pc := 25) C dX6_isStrong_25 ?_
      exact v_iret (pc := 26) C hr (rfl) dX6_isStrong_26 (⟨_, rfl, Or.inr ⟨rfl, by first | (refine ⟨by omega, ?_⟩; rw [← ez11, ← ez16]; omega) | (rintro ⟨a1, a2⟩; first | omega | (rw [← ez11, ← ez16] at a2; omega))⟩, rfl⟩)
    · refine v_iconst (pc := 21) C dX6_isStrong_21 ?_
      refine v_goto (pc := 22) C 26 dX6_isStrong_22 (by decide) ?_
      exact v_iret (pc := 26) C hr (rfl) dX6_isStrong_26 (⟨_, rfl, Or.inl ⟨rfl, by first | (refine ⟨by omega, ?_⟩; rw [← ez11, ← ez16]; omega) | (rintro ⟨a1, a2⟩; first | omega | (rw [← ez11, ← ez16] at a2; omega))⟩, rfl⟩)

set_option maxHeartbeats 4000000 in
set_option maxRecDepth 100000 in
theorem k_X6_works {γ : Gm} (G : Glo γ) {σ : St} {c : Nat} {r : Int → Int} {v s k : Int} (hc : sh c = (0, 268) ∧ 268 ≤ 4000) (hk : 5 + s = k) (h0 : 0 ≤ v ∧ v < 10) (h1 : 0 ≤ s ∧ s ≤ 1) (hp : 0 ≤ r (6 + 7 * v + k) ∧ r (6 + 7 * v + k) ≤ 99) (hs : 0 ≤ r (6 + 7 * v + 1) ∧ r (6 + 7 * v + 1) ≤ 99) (h5 : 0 ≤ r 5 ∧ r 5 ≤ 90) : Ct γ yX6_works cX6_works 3 (some .boolean) 3 [.ref (bs γ + c), .int (iI v), .int (iI s)] (setc σ c r) (pI (fun z σ2 => (z = 1 ∧ (worksR r v k) ∨ z = 0 ∧ ¬ (worksR r v k)) ∧ σ2 = setc σ c r)) := by
  refine Ct.of G (by decide +kernel) (Nat.le_of_ble_eq_true rfl) (fun φ C hr => ?_)
  have C : Cx γ φ RX6 cX6_works 3 3 := C
  refine v_lv [(0, .ref (bs γ + c)), (1, .int (iI v)), (2, .int (iI s))] [0, 1, 2] rfl ?_
  refine v_aload_n (pc := 0) C 0 rfl dX6_works_0 ?_
  refine v_iload_n (pc := 1) C 1 rfl dX6_works_1 ?_
  refine v_aload_n (pc := 2) C 0 rfl dX6_works_2 ?_
  refine v_iload_n (pc := 3) C 1 rfl dX6_works_3 ?_
  refine v_iconst (pc := 4) C dX6_works_4 ?_
  refine v_iload_n (pc := 5) C 2 rfl dX6_works_5 ?_
  refine v_iadd (pc := 6) C dX6_works_6 ?_
  refine v_ti (x2 := k) (hk) ?_
  refine v_cs (pc := 7) (as := [.ref (bs γ + c), .int (iI v), .int (iI k)]) C (cy_X6_of G) (wM_X6_48 G) (k_X6_of G hc (w := k) (by omega)) dX6_works_7 rfl rfl (by decide) (by decide) (Nat.le_of_ble_eq_true rfl) zc (k_I (fun z7 s7 q7 => ?_))
  obtain ⟨⟨ez7, rz7⟩, rfl⟩ := q7
  refine v_cs (pc := 10) (as := [.ref (bs γ + c), .int (iI v), .int (iI z7)]) C (cy_X6_isStrong G) (wM_X6_58 G) (k_X6_isStrong G hc (by omega) (by omega) (by omega) (by omega)) dX6_works_10 rfl rfl (by decide) (by decide) (Nat.le_of_ble_eq_true rfl) zc (k_I (fun z10 s10 q10 => ?_))
  rcases q10 with ⟨⟨rfl, q10⟩ | ⟨rfl, q10⟩, rfl⟩
  · exact v_iret (pc := 13) C hr (rfl) dX6_works_13 (⟨_, rfl, Or.inl ⟨rfl, by first | (show strongR r v (r (6 + 7 * v + k)); rw [← ez7]; assumption) | (show ¬ strongR r v (r (6 + 7 * v + k)); rw [← ez7]; assumption)⟩, rfl⟩)
  · exact v_iret (pc := 13) C hr (rfl) dX6_works_13 (⟨_, rfl, Or.inr ⟨rfl, by first | (show strongR r v (r (6 + 7 * v + k)); rw [← ez7]; assumption) | (show ¬ strongR r v (r (6 + 7 * v + k)); rw [← ez7]; assumption)⟩, rfl⟩)

set_option maxHeartbeats 4000000 in
set_option maxRecDepth 100000 in
theorem k_X6_comesOut {γ : Gm} (G : Glo γ) {σ : St} {c : Nat} {r : Int → Int} {v : Int} (hc : sh c = (0, 268) ∧ 268 ≤ 4000) (h0 : 0 ≤ v ∧ v < 16) (h1 : 0 ≤ r (76 + 12 * v + 6) ∧ r (76 + 12 * v + 6) ≤ 99) (h2 : 0 ≤ r (76 + 12 * v + 4) ∧ r (76 + 12 * v + 4) ≤ 6) (h3 : 0 ≤ r 4 ∧ r 4 ≤ 9) (h4 : 0 ≤ r (76 + 12 * v + 5) ∧ r (76 + 12 * v + 5) ≤ 30) : Ct γ yX6_comesOut cX6_comesOut 3 (some .int) 2 [.ref (bs γ + c), .int (iI v)] (setc σ c r) (pI (fun z σ2 => (z = outR r v ∧ (0 ≤ z ∧ z ≤ 99)) ∧ σ2 = setc σ c r)) := by
  refine Ct.of G (by decide +kernel) (Nat.le_of_ble_eq_true rfl) (fun φ C hr => ?_)
  have C : Cx γ φ RX6 cX6_comesOut 3 2 := C
  refine v_lv [(0, .ref (bs γ + c)), (1, .int (iI v))] [0, 1] rfl ?_
  refine v_aload_n (pc := 0) C 0 rfl dX6_comesOut_0 ?_
  refine v_iload_n (pc := 1) C 1 rfl dX6_comesOut_1 ?_
  refine v_bipush (pc := 2) C (by decide +kernel) dX6_comesOut_2 ?_
  refine v_cs (pc := 4) (as := [.ref (bs γ + c), .int (iI v), .int (iI 6)]) C (cy_X6_ofDuct G) (wM_X6_62 G) (k_X6_ofDuct G hc (by omega)) dX6_comesOut_4 rfl rfl (by decide) (by decide) (Nat.le_of_ble_eq_true rfl) zc (k_I (fun z4 s4 q4 => ?_))
  obtain ⟨⟨ez4, rz4⟩, rfl⟩ := q4
  refine v_aload_n (pc := 7) C 0 rfl dX6_comesOut_7 ?_
  refine v_iload_n (pc := 8) C 1 rfl dX6_comesOut_8 ?_
  refine v_iconst (pc := 9) C dX6_comesOut_9 ?_
  refine v_cs (pc := 10) (as := [.ref (bs γ + c), .int (iI v), .int (iI 4)]) C (cy_X6_ofDuct G) (wM_X6_62 G) (k_X6_ofDuct G hc (by omega)) dX6_comesOut_10 rfl rfl (by decide) (by decide) (Nat.le_of_ble_eq_true rfl) zc (k_I (fun z10 s10 q10 => ?_))
  obtain ⟨⟨ez10, rz10⟩, rfl⟩ := q10
  refine v_aload_n (pc := 13) C 0 rfl dX6_comesOut_13 ?_
  refine v_iconst (pc := 14) C dX6_comesOut_14 ?_
  refine v_ialdR (pc := 15) C hc (by omega) dX6_comesOut_15 (fun z15 ez15 rz15 => ?_)
  have hm := mulb (x := z10) (y := z15) (A := 6) (B := 9) (by omega) (by omega)
  refine v_imul (pc := 16) C dX6_comesOut_16 ?_
  refine v_isub (pc := 17) C dX6_comesOut_17 ?_
  refine v_aload_n (pc := 18) C 0 rfl dX6_comesOut_18 ?_
  refine v_iload_n (pc := 19) C 1 rfl dX6_comesOut_19 ?_
  refine v_iconst (pc := 20) C dX6_comesOut_20 ?_
  refine v_cs (pc := 21) (as := [.ref (bs γ + c), .int (iI v), .int (iI 5)]) C (cy_X6_ofDuct G) (wM_X6_62 G) (k_X6_ofDuct G hc (by omega)) dX6_comesOut_21 rfl rfl (by decide) (by decide) (Nat.le_of_ble_eq_true rfl) zc (k_I (fun z21 s21 q21 => ?_))
  obtain ⟨⟨ez21, rz21⟩, rfl⟩ := q21
  refine v_isub (pc := 24) C dX6_comesOut_24 ?_
  refine v_nm (fun p ep => ?_)
  refine v_istore_n (pc := 25) C [(2, .int (iI p)), (0, .ref (bs γ + c)), (1, .int (iI v))] dX6_comesOut_25 rfl (by decide) rfl ?_
  refine v_iload_n (pc := 26) C 0 rfl dX6_comesOut_26 ?_
  refine v_if_ge (pc := 27) C 34 (by omega) dX6_comesOut_27 (by decide) (fun h27 => ?_) (fun h27 => ?_)
  · refine v_iload_n (pc := 34) C 0 rfl dX6_comesOut_34 ?_
    exact v_iret (pc := 35) C hr (rfl) dX6_comesOut_35 (⟨_, rfl, ⟨by unfold outR; rw [← ez4, ← ez10, ← ez15, ← ez21, ← ep]; rw [if_neg (by omega)], by omega⟩, rfl⟩)
  · refine v_iconst (pc := 30) C dX6_comesOut_30 ?_
    refine v_goto (pc := 31) C 35 dX6_comesOut_31 (by decide) ?_
    exact v_iret (pc := 35) C hr (rfl) dX6_comesOut_35 (⟨_, rfl, ⟨by unfold outR; rw [← ez4, ← ez10, ← ez15, ← ez21, ← ep]; rw [if_pos (by omega)], by omega⟩, rfl⟩)

set_option maxHeartbeats 4000000 in
set_option maxRecDepth 100000 in
theorem k_X6_layLegs {γ : Gm} (G : Glo γ) {σ : St} {c : Nat} {r : Int → Int} {v g p : Int} (hc : sh c = (0, 268) ∧ 268 ≤ 4000) (h0 : 0 ≤ v ∧ v < 10) (hg : 0 ≤ g ∧ g ≤ 1) (hp : R3 p) : Ct γ yX6_layLegs cX6_layLegs 4 none 1 [.ref (bs γ + c), .int (iI v), .int (iI g), .int (iI p)] (setc σ c r) (pV (fun σ2 => σ2 = setc σ c (layR r v g p))) := by
  refine Ct.of G (by decide +kernel) (Nat.le_of_ble_eq_true rfl) (fun φ C hr => ?_)
  have C : Cx γ φ RX6 cX6_layLegs 4 1 := C
  refine v_lv [(0, .ref (bs γ + c)), (1, .int (iI v)), (2, .int (iI g)), (3, .int (iI p))] [0, 1, 2, 3] rfl ?_
  refine v_aload_n (pc := 0) C 0 rfl dX6_layLegs_0 ?_
  refine v_bipush (pc := 1) C (by decide +kernel) dX6_layLegs_1 ?_
  refine v_bipush (pc := 3) C (by decide +kernel) dX6_layLegs_3 ?_
  refine v_iload_n (pc := 5) C 1 rfl dX6_layLegs_5 ?_
  refine v_imul (pc := 6) C dX6_layLegs_6 ?_
  refine v_iadd (pc := 7) C dX6_layLegs_7 ?_
  refine v_iconst (pc := 8) C dX6_layLegs_8 ?_
  refine v_iadd (pc := 9) C dX6_layLegs_9 ?_
  refine v_iload_n (pc := 10) C 2 rfl dX6_layLegs_10 ?_
  refine v_iadd (pc := 11) C dX6_layLegs_11 ?_
  refine v_iload_n (pc := 12) C 3 rfl dX6_layLegs_12 ?_
  refine v_iastR (pc := 13) C hc (by omega) (by omega) dX6_layLegs_13 ?_
  refine v_aload_n (pc := 14) C 0 rfl dX6_layLegs_14 ?_
  refine v_bipush (pc := 15) C (by decide +kernel) dX6_layLegs_15 ?_
  refine v_bipush (pc := 17) C (by decide +kernel) dX6_layLegs_17 ?_
  refine v_iload_n (pc := 19) C 1 rfl dX6_layLegs_19 ?_
  refine v_imul (pc := 20) C dX6_layLegs_20 ?_
  refine v_iadd (pc := 21) C dX6_layLegs_21 ?_
  refine v_iconst (pc := 22) C dX6_layLegs_22 ?_
  refine v_iadd (pc := 23) C dX6_layLegs_23 ?_
  refine v_iconst (pc := 24) C dX6_layLegs_24 ?_
  refine v_iadd (pc := 25) C dX6_layLegs_25 ?_
  refine v_iload_n (pc := 26) C 2 rfl dX6_layLegs_26 ?_
  refine v_isub (pc := 27) C dX6_layLegs_27 ?_
  refine v_iconst (pc := 28) C dX6_layLegs_28 ?_
  refine v_iastR (pc := 29) C hc (by omega) (by omega) dX6_layLegs_29 ?_
  exact v_vret (pc := 30) C hr dX6_layLegs_30 ⟨rfl, rfl⟩
