set_option maxHeartbeats 4000000 in
set_option maxRecDepth 100000 in
theorem k_X5_isIn {γ : Gm} (G : Glo γ) {σ : St} {v l h : Int} (hv : R3 v) (hl : R3 l) (hh : R3 h) : Ct γ yX5_isIn cX5_isIn 3 (some .boolean) 1 [.int (iI v), .int (iI l), .int (iI h)] σ (pI (fun z σ2 => (z = 1 ∧ (l ≤ v ∧ v ≤ h) ∨ z = 0 ∧ ¬ (l ≤ v ∧ v ≤ h)) ∧ σ2 = σ)) := by
  refine Ct.of G (by decide +kernel) (Nat.le_of_ble_eq_true rfl) (fun φ C hr => ?_)
  have C : Cx γ φ RX5 cX5_isIn 3 1 := C
  refine v_lv [(0, .int (iI v)), (1, .int (iI l)), (2, .int (iI h))] [0, 1, 2] rfl ?_
  refine v_iload_n (pc := 0) C 0 rfl dX5_isIn_0 ?_
  refine v_iload_n (pc := 1) C 1 rfl dX5_isIn_1 ?_
  refine v_icmp_lt (pc := 2) C 14 (by first | omega | assumption) (by first | omega | assumption) dX5_isIn_2 (by decide) (fun h2 => ?_) (fun h2 => ?_)
  · refine v_iconst (pc := 14) C dX5_isIn_14 ?_
    exact v_iret (pc := 15) C hr (rfl) dX5_isIn_15 (⟨_, rfl, Or.inr ⟨rfl, by omega⟩, rfl⟩)
  · refine v_iload_n (pc := 5) C 0 rfl dX5_isIn_5 ?_
    refine v_iload_n (pc := 6) C 2 rfl dX5_isIn_6 ?_
    refine v_icmp_gt (pc := 7) C 14 (by first | omega | assumption) (by first | omega | assumption) dX5_isIn_7 (by decide) (fun h7 => ?_) (fun h7 => ?_)
    · refine v_iconst (pc := 14) C dX5_isIn_14 ?_
      exact v_iret (pc := 15) C hr (rfl) dX5_isIn_15 (⟨_, rfl, Or.inr ⟨rfl, by omega⟩, rfl⟩)
    · refine v_iconst (pc := 10) C dX5_isIn_10 ?_
      refine v_goto (pc := 11) C 15 dX5_isIn_11 (by decide) ?_
      exact v_iret (pc := 15) C hr (rfl) dX5_isIn_15 (⟨_, rfl, Or.inl ⟨rfl, by omega⟩, rfl⟩)

set_option maxHeartbeats 4000000 in
set_option maxRecDepth 100000 in
theorem k_X5_endOf {γ : Gm} (G : Glo γ) {σ : St} {v g : Int}  : Ct γ yX5_endOf cX5_endOf 2 (some .int) 1 [.int (iI v), .int (iI g)] σ (pI (fun z σ2 => z = 2 * v + g ∧ σ2 = σ)) := by
  refine Ct.of G (by decide +kernel) (Nat.le_of_ble_eq_true rfl) (fun φ C hr => ?_)
  have C : Cx γ φ RX5 cX5_endOf 2 1 := C
  refine v_lv [(0, .int (iI v)), (1, .int (iI g))] [0, 1] rfl ?_
  refine v_iconst (pc := 0) C dX5_endOf_0 ?_
  refine v_iload_n (pc := 1) C 0 rfl dX5_endOf_1 ?_
  refine v_imul (pc := 2) C dX5_endOf_2 ?_
  refine v_iload_n (pc := 3) C 1 rfl dX5_endOf_3 ?_
  refine v_iadd (pc := 4) C dX5_endOf_4 ?_
  exact v_iret (pc := 5) C hr (rfl) dX5_endOf_5 (⟨_, rfl, by omega, rfl⟩)

set_option maxHeartbeats 4000000 in
set_option maxRecDepth 100000 in
theorem k_J7_rangeCheck_23922 {γ : Gm} (G : Glo γ) {σ : St} {l f t : Int} (hf : 0 ≤ f ∧ f ≤ t) (ht : t ≤ l) (hl : l ≤ 4000) : Ct γ yJ7_rangeCheck_23922 cJ7_rangeCheck_23922 3 none 1 [.int (iI l), .int (iI f), .int (iI t)] σ (pV (fun σ2 => σ2 = σ)) := by
  refine Ct.of G (by decide +kernel) (Nat.le_of_ble_eq_true rfl) (fun φ C hr => ?_)
  have C : Cx γ φ RJ7 cJ7_rangeCheck_23922 3 1 := C
  refine v_lv [(0, .int (iI l)), (1, .int (iI f)), (2, .int (iI t))] [0, 1, 2] rfl ?_
  refine v_iload_n (pc := 0) C 1 rfl dJ7_rangeCheck_23922_0 ?_
  refine v_iload_n (pc := 1) C 2 rfl dJ7_rangeCheck_23922_1 ?_
  refine v_icmp_le (pc := 2) C 46 (by first | omega | assumption) (by first | omega | assumption) dJ7_rangeCheck_23922_2 (by decide) (fun h2 => ?_) (fun h2 => absurd h2 (by omega))
  refine v_iload_n (pc := 46) C 1 rfl dJ7_rangeCheck_23922_46 ?_
  refine v_if_ge (pc := 47) C 59 (by first | omega | assumption) dJ7_rangeCheck_23922_47 (by decide) (fun h47 => ?_) (fun h47 => absurd h47 (by omega))
  refine v_iload_n (pc := 59) C 2 rfl dJ7_rangeCheck_23922_59 ?_
  refine v_iload_n (pc := 60) C 0 rfl dJ7_rangeCheck_23922_60 ?_
  refine v_icmp_le (pc := 61) C 73 (by first | omega | assumption) (by first | omega | assumption) dJ7_rangeCheck_23922_61 (by decide) (fun h61 => ?_) (fun h61 => absurd h61 (by omega))
  exact v_vret (pc := 73) C hr dJ7_rangeCheck_23922_73 ⟨rfl, rfl⟩

set_option maxHeartbeats 4000000 in
set_option maxRecDepth 100000 in
theorem k_J7_fill_53178 {γ : Gm} (G : Glo γ) {σ : St} {c m : Nat} {r : Int → Int} {x : Int} (hc : sh c = (0, m) ∧ m ≤ 4000) (hx : R3 x) : Ct γ yJ7_fill_53178 cJ7_fill_53178 4 none 1 [.ref (bs γ + c), .int (iI x)] (setc σ c r) (pV (fun σ2 => σ2 = setc σ c (flr r 0 m x))) := by
  refine Ct.of G (by decide +kernel) (Nat.le_of_ble_eq_true rfl) (fun φ C hr => ?_)
  have C : Cx γ φ RJ7 cJ7_fill_53178 4 1 := C
  refine v_lv [(0, .ref (bs γ + c)), (1, .int (iI x))] [0, 1] rfl ?_
  refine v_iconst (pc := 0) C dJ7_fill_53178_0 ?_
  refine v_istore_n (pc := 1) C [(2, .int (iI 0)), (0, .ref (bs γ + c)), (1, .int (iI x))] dJ7_fill_53178_1 rfl (by decide) rfl ?_
  refine v_aload_n (pc := 2) C 1 rfl dJ7_fill_53178_2 ?_
  refine v_alen (pc := 3) C hc.1 dJ7_fill_53178_3 ?_
  refine v_istore_n (pc := 4) C [(3, .int (iI (m : Int))), (2, .int (iI 0)), (0, .ref (bs γ + c)), (1, .int (iI x))] dJ7_fill_53178_4 rfl (by decide) rfl ?_
  have L5 : ∀ (fu : Nat) (i : Nat), (hi : i ≤ m) → m - i < fu → Vw γ φ 4 0 0 (QE γ φ (pV (fun σ2 => σ2 = setc σ c (flr r 0 m x)))) (setc σ c (flr r 0 i x)) 5 [(3, .int (iI (m : Int))), (2, .int (iI (i : Int))), (1, .int (iI x)), (0, .ref (bs γ + c))] [] := by
    intro fu
    induction fu with
    | zero => intro i hi hz; exact absurd hz (Nat.not_lt_zero _)
    | succ fu ih =>
      intro i hi hz
      refine v_iload_n (pc := 5) C 1 rfl dJ7_fill_53178_5 ?_
      refine v_iload_n (pc := 6) C 0 rfl dJ7_fill_53178_6 ?_
      refine v_icmp_ge (pc := 7) C 20 (by first | omega | assumption) (by first | omega | assumption) dJ7_fill_53178_7 (by decide) (fun h7 => ?_) (fun h7 => ?_)
      · exact v_vret (pc := 20) C hr dJ7_fill_53178_20 ⟨rfl, by rw [show i = m by omega]⟩
      · refine v_aload_n (pc := 10) C 3 rfl dJ7_fill_53178_10 ?_
        refine v_iload_n (pc := 11) C 1 rfl dJ7_fill_53178_11 ?_
        refine v_iload_n (pc := 12) C 2 rfl dJ7_fill_53178_12 ?_
        refine v_iastR (pc := 13) C hc (by first | omega | assumption) (by first | omega | assumption) dJ7_fill_53178_13 ?_
        refine v_iinc (pc := 14) C 1 [(2, .int (iI ((i : Int) + 1))), (3, .int (iI (m : Int))), (1, .int (iI x)), (0, .ref (bs γ + c))] dJ7_fill_53178_14 rfl (by decide) rfl ?_
        refine v_goto (pc := 17) C 5 dJ7_fill_53178_17 (by decide) ?_
        have hfl : upr (flr r 0 (i : Int) x) (i : Int) x = flr r 0 ((i + 1 : Nat) : Int) x := by
          funext j; unfold upr flr
          by_cases e1 : j = (i : Int)
          · rw [if_pos e1, if_pos (by omega)]
          · rw [if_neg e1]
            by_cases e2 : 0 ≤ j ∧ j < (i : Int)
            · rw [if_pos e2, if_pos (by omega)]
            · rw [if_neg e2, if_neg (by omega)]
        refine v_st (show _ = setc σ c (flr r 0 ((i + 1 : Nat) : Int) x) from by rw [hfl]) ?_
        exact v_lv _ [1, 0, 2, 3] rfl (ih (i + 1) (by omega) (by omega))
  refine v_st (show _ = setc σ c (flr r 0 ((0 : Nat) : Int) x) from by rw [show flr r 0 ((0 : Nat) : Int) x = r from funext (fun j => if_neg (by omega))]) ?_
  exact v_lv _ [0, 1, 3, 2] rfl (L5 (m + 1) 0 (by omega) (by omega))

set_option maxHeartbeats 4000000 in
set_option maxRecDepth 100000 in
theorem k_J7_fill_fda19 {γ : Gm} (G : Glo γ) {σ : St} {c m : Nat} {r : Int → Int} {f t x : Int} (hc : sh c = (0, m) ∧ m ≤ 4000) (hf : 0 ≤ f ∧ f ≤ t) (ht : t ≤ m) (hx : R3 x) : Ct γ yJ7_fill_fda19 cJ7_fill_fda19 5 none 2 [.ref (bs γ + c), .int (iI f), .int (iI t), .int (iI x)] (setc σ c r) (pV (fun σ2 => σ2 = setc σ c (flr r f t x))) := by
  refine Ct.of G (by decide +kernel) (Nat.le_of_ble_eq_true rfl) (fun φ C hr => ?_)
  have C : Cx γ φ RJ7 cJ7_fill_fda19 5 2 := C
  refine v_lv [(0, .ref (bs γ + c)), (1, .int (iI f)), (2, .int (iI t)), (3, .int (iI x))] [0, 1, 2, 3] rfl ?_
  refine v_aload_n (pc := 0) C 0 rfl dJ7_fill_fda19_0 ?_
  refine v_alen (pc := 1) C hc.1 dJ7_fill_fda19_1 ?_
  refine v_iload_n (pc := 2) C 1 rfl dJ7_fill_fda19_2 ?_
  refine v_iload_n (pc := 3) C 2 rfl dJ7_fill_fda19_3 ?_
  refine v_cs (pc := 4) (as := [.int (iI (m : Int)), .int (iI f), .int (iI t)]) C (cy_J7_rangeCheck_23922 G) (wM_J7_13 G) (k_J7_rangeCheck_23922 G (by omega) (by omega) (by omega)) dJ7_fill_fda19_4 rfl rfl (by decide) (by decide) (Nat.le_of_ble_eq_true rfl) zc (k_V (fun s4 q4 => ?_))
  subst q4
  refine v_iload_n (pc := 7) C 1 rfl dJ7_fill_fda19_7 ?_
  refine v_istore (pc := 8) C [(4, .int (iI f)), (0, .ref (bs γ + c)), (1, .int (iI f)), (2, .int (iI t)), (3, .int (iI x))] dJ7_fill_fda19_8 (by decide) rfl ?_
  have L10 : ∀ (fu : Nat) (i : Nat), (hi : f + i ≤ t) → (t - f).toNat - i < fu → Vw γ φ 5 0 0 (QE γ φ (pV (fun σ2 => σ2 = setc σ c (flr r f t x)))) (setc σ c (flr r f (f + i) x)) 10 [(4, .int (iI (f + (i : Int)))), (3, .int (iI x)), (2, .int (iI t)), (1, .int (iI f)), (0, .ref (bs γ + c))] [] := by
    intro fu
    induction fu with
    | zero => intro i hi hz; exact absurd hz (Nat.not_lt_zero _)
    | succ fu ih =>
      intro i hi hz
      refine v_iload (pc := 10) C 0 rfl dJ7_fill_fda19_10 ?_
      refine v_iload_n (pc := 12) C 2 rfl dJ7_fill_fda19_12 ?_
      refine v_icmp_ge (pc := 13) C 27 (by first | omega | assumption) (by first | omega | assumption) dJ7_fill_fda19_13 (by decide) (fun h13 => ?_) (fun h13 => ?_)
      · exact v_vret (pc := 27) C hr dJ7_fill_fda19_27 ⟨rfl, by rw [show f + (i : Int) = t by omega]⟩
      · refine v_aload_n (pc := 16) C 4 rfl dJ7_fill_fda19_16 ?_
        refine v_iload (pc := 17) C 0 rfl dJ7_fill_fda19_17 ?_
        refine v_iload_n (pc := 19) C 1 rfl dJ7_fill_fda19_19 ?_
        refine v_iastR (pc := 20) C hc (by first | omega | assumption) (by first | omega | assumption) dJ7_fill_fda19_20 ?_
        refine v_iinc (pc := 21) C 0 [(4, .int (iI ((f + (i : Int)) + 1))), (3, .int (iI x)), (2, .int (iI t)), (1, .int (iI f)), (0, .ref (bs γ + c))] dJ7_fill_fda19_21 rfl (by decide) rfl ?_
        refine v_goto (pc := 24) C 10 dJ7_fill_fda19_24 (by decide) ?_
        have hfl : upr (flr r f (f + (i : Int)) x) (f + (i : Int)) x = flr r f (f + ((i + 1 : Nat) : Int)) x := by
          funext j; unfold upr flr
          by_cases e1 : j = f + (i : Int)
          · rw [if_pos e1, if_pos (by omega)]
          · rw [if_neg e1]
            by_cases e2 : f ≤ j ∧ j < f + (i : Int)
            · rw [if_pos e2, if_pos (by omega)]
            · rw [if_neg e2, if_neg (by omega)]
        refine v_st (show _ = setc σ c (flr r f (f + ((i + 1 : Nat) : Int)) x) from by rw [hfl]) ?_
        exact v_lv _ [0, 1, 2, 3, 4] (by rw [show f + ((i + 1 : Nat) : Int) = f + (i : Int) + 1 by omega]; rfl) (ih (i + 1) (by omega) (by omega))
  refine v_st (show _ = setc σ c (flr r f (f + ((0 : Nat) : Int)) x) from by rw [show flr r f (f + ((0 : Nat) : Int)) x = r from funext (fun j => if_neg (by omega))]) ?_
  exact v_lv _ [0, 4, 3, 2, 1] (by rw [show f + ((0 : Nat) : Int) = f by omega]; rfl) (L10 ((t - f).toNat + 1) 0 (by omega) (by omega))

set_option maxHeartbeats 4000000 in
set_option maxRecDepth 100000 in
theorem k_X2_hasValve {γ : Gm} (G : Glo γ) {σ α : St} {n : Nat} {r : Int → Int} {v : Int} (hN : NetB n) (hR : Rep α r) (h : Wf r) (hv : R3 v) : Ct γ yX2_hasValve cX2_hasValve 2 (some .boolean) 1 [.ref (bs γ + n), .int (iI v)] (setN σ n α) (pI (fun z σ2 => (z = 1 ∧ (0 ≤ v ∧ v < r 0) ∨ z = 0 ∧ ¬ (0 ≤ v ∧ v < r 0)) ∧ σ2 = setN σ n α)) := by
  refine Ct.of G (by decide +kernel) (Nat.le_of_ble_eq_true rfl) (fun φ C hr => ?_)
  have C : Cx γ φ RX2 cX2_hasValve 2 1 := C
  have hn0 := h.1
  have hn1 := h.2.1
  have hn4 := h.2.2.1
  have hn5 := h.2.2.2.1
  refine v_lv [(0, .ref (bs γ + n)), (1, .int (iI v))] [0, 1] rfl ?_
  refine v_iload_n (pc := 0) C 1 rfl dX2_hasValve_0 ?_
  refine v_if_lt (pc := 1) C 16 (by first | omega | assumption) dX2_hasValve_1 (by decide) (fun h1 => ?_) (fun h1 => ?_)
  · refine v_iconst (pc := 16) C dX2_hasValve_16 ?_
    exact v_iret (pc := 17) C hr (rfl) dX2_hasValve_17 (⟨_, rfl, Or.inr ⟨rfl, by omega⟩, rfl⟩)
  · refine v_iload_n (pc := 4) C 1 rfl dX2_hasValve_4 ?_
    refine v_aload_n (pc := 5) C 0 rfl dX2_hasValve_5 ?_
    refine v_getiM (pc := 6) C hN 2 (by decide) (wF_X2_55 G) rfl 2 rfl dX2_hasValve_6 (fun z6 ez6 rz6 => ?_)
    rw [hR.nv] at ez6
    refine v_icmp_ge (pc := 9) C 16 (by first | omega | assumption) (by first | omega | assumption) dX2_hasValve_9 (by decide) (fun h9 => ?_) (fun h9 => ?_)
    · refine v_iconst (pc := 16) C dX2_hasValve_16 ?_
      exact v_iret (pc := 17) C hr (rfl) dX2_hasValve_17 (⟨_, rfl, Or.inr ⟨rfl, by omega⟩, rfl⟩)
    · refine v_iconst (pc := 12) C dX2_hasValve_12 ?_
      refine v_goto (pc := 13) C 17 dX2_hasValve_13 (by decide) ?_
      exact v_iret (pc := 17) C hr (rfl) dX2_hasValve_17 (⟨_, rfl, Or.inl ⟨rfl, by omega⟩, rfl⟩)

set_option maxHeartbeats 4000000 in
set_option maxRecDepth 100000 in
theorem k_X2_hasEnd {γ : Gm} (G : Glo γ) {σ α : St} {n : Nat} {r : Int → Int} {v g : Int} (hN : NetB n) (hR : Rep α r) (h : Wf r) (hv : R3 v) (hg : R3 g) : Ct γ yX2_hasEnd cX2_hasEnd 3 (some .boolean) 2 [.ref (bs γ + n), .int (iI v), .int (iI g)] (setN σ n α) (pI (fun z σ2 => (z = 1 ∧ ((0 ≤ v ∧ v < r 0) ∧ (0 ≤ g ∧ g ≤ 1)) ∨ z = 0 ∧ ¬ ((0 ≤ v ∧ v < r 0) ∧ (0 ≤ g ∧ g ≤ 1))) ∧ σ2 = setN σ n α)) := by
  refine Ct.of G (by decide +kernel) (Nat.le_of_ble_eq_true rfl) (fun φ C hr => ?_)
  have C : Cx γ φ RX2 cX2_hasEnd 3 2 := C
  have hn0 := h.1
  have hn1 := h.2.1
  have hn4 := h.2.2.1
  have hn5 := h.2.2.2.1
  refine v_lv [(0, .ref (bs γ + n)), (1, .int (iI v)), (2, .int (iI g))] [0, 1, 2] rfl ?_
  refine v_aload_n (pc := 0) C 0 rfl dX2_hasEnd_0 ?_
  refine v_iload_n (pc := 1) C 1 rfl dX2_hasEnd_1 ?_
  refine v_cv (pc := 2) (as := [.int (iI v)]) C (cy_X2_hasValve G) (wM_X2_67 G) (show sh n = (5, 1) from hN.sh (k := 0) (by decide)) (ci := 1) rfl rfl (k_X2_hasValve G hN hR h (by first | omega | assumption)) dX2_hasEnd_2 rfl rfl (by decide) (by decide) (Nat.le_of_ble_eq_true rfl) zc (k_I (fun z2 s2 q2 => ?_))
  rcases q2 with ⟨⟨rfl, q2⟩ | ⟨rfl, q2⟩, rfl⟩
  · refine v_if_eq (pc := 5) C 21 (by first | omega | assumption) dX2_hasEnd_5 (by decide) (fun h => absurd h (by decide)) (fun _ => ?_)
    refine v_iload_n (pc := 8) C 2 rfl dX2_hasEnd_8 ?_
    refine v_iconst (pc := 9) C dX2_hasEnd_9 ?_
    refine v_iconst (pc := 10) C dX2_hasEnd_10 ?_
    refine v_csN (pc := 11) (as := [.int (iI g), .int (iI 0), .int (iI 1)]) C (cy_X5_isIn G) (wN_X2_71 G) (k_X5_isIn G (by first | omega | assumption) (by first | omega | assumption) (by first | omega | assumption)) dX2_hasEnd_11 rfl rfl (by decide) (by decide) (Nat.le_of_ble_eq_true rfl) zc (k_I (fun z11 s11 q11 => ?_))
    rcases q11 with ⟨⟨rfl, q11⟩ | ⟨rfl, q11⟩, rfl⟩
    · refine v_if_eq (pc := 14) C 21 (by first | omega | assumption) dX2_hasEnd_14 (by decide) (fun h => absurd h (by decide)) (fun _ => ?_)
      refine v_iconst (pc := 17) C dX2_hasEnd_17 ?_
      refine v_goto (pc := 18) C 22 dX2_hasEnd_18 (by decide) ?_
      exact v_iret (pc := 22) C hr (rfl) dX2_hasEnd_22 (⟨_, rfl, Or.inl ⟨rfl, by omega⟩, rfl⟩)
    · refine v_if_eq (pc := 14) C 21 (by first | omega | assumption) dX2_hasEnd_14 (by decide) (fun _ => ?_) (fun h => absurd h (by decide))
      refine v_iconst (pc := 21) C dX2_hasEnd_21 ?_
      exact v_iret (pc := 22) C hr (rfl) dX2_hasEnd_22 (⟨_, rfl, Or.inr ⟨rfl, by omega⟩, rfl⟩)
  · refine v_if_eq (pc := 5) C 21 (by first | omega | assumption) dX2_hasEnd_5 (by decide) (fun _ => ?_) (fun h => absurd h (by decide))
    refine v_iconst (pc := 21) C dX2_hasEnd_21 ?_
    exact v_iret (pc := 22) C hr (rfl) dX2_hasEnd_22 (⟨_, rfl, Or.inr ⟨rfl, by omega⟩, rfl⟩)

set_option maxHeartbeats 4000000 in
set_option maxRecDepth 100000 in
theorem k_X2_hasDuct {γ : Gm} (G : Glo γ) {σ α : St} {n : Nat} {r : Int → Int} {e : Int} (hN : NetB n) (hR : Rep α r) (h : Wf r) (he : R3 e) : Ct γ yX2_hasDuct cX2_hasDuct 2 (some .boolean) 1 [.ref (bs γ + n), .int (iI e)] (setN σ n α) (pI (fun z σ2 => (z = 1 ∧ (0 ≤ e ∧ e < r 1) ∨ z = 0 ∧ ¬ (0 ≤ e ∧ e < r 1)) ∧ σ2 = setN σ n α)) := by
  refine Ct.of G (by decide +kernel) (Nat.le_of_ble_eq_true rfl) (fun φ C hr => ?_)
  have C : Cx γ φ RX2 cX2_hasDuct 2 1 := C
  have hn0 := h.1
  have hn1 := h.2.1
  have hn4 := h.2.2.1
  have hn5 := h.2.2.2.1
  refine v_lv [(0, .ref (bs γ + n)), (1, .int (iI e))] [0, 1] rfl ?_
  refine v_iload_n (pc := 0) C 1 rfl dX2_hasDuct_0 ?_
  refine v_if_lt (pc := 1) C 16 (by first | omega | assumption) dX2_hasDuct_1 (by decide) (fun h1 => ?_) (fun h1 => ?_)
  · refine v_iconst (pc := 16) C dX2_hasDuct_16 ?_
    exact v_iret (pc := 17) C hr (rfl) dX2_hasDuct_17 (⟨_, rfl, Or.inr ⟨rfl, by omega⟩, rfl⟩)
  · refine v_iload_n (pc := 4) C 1 rfl dX2_hasDuct_4 ?_
    refine v_aload_n (pc := 5) C 0 rfl dX2_hasDuct_5 ?_
    refine v_getiM (pc := 6) C hN 3 (by decide) (wF_X2_58 G) rfl 3 rfl dX2_hasDuct_6 (fun z6 ez6 rz6 => ?_)
    rw [hR.nd] at ez6
    refine v_icmp_ge (pc := 9) C 16 (by first | omega | assumption) (by first | omega | assumption) dX2_hasDuct_9 (by decide) (fun h9 => ?_) (fun h9 => ?_)
    · refine v_iconst (pc := 16) C dX2_hasDuct_16 ?_
      exact v_iret (pc := 17) C hr (rfl) dX2_hasDuct_17 (⟨_, rfl, Or.inr ⟨rfl, by omega⟩, rfl⟩)
    · refine v_iconst (pc := 12) C dX2_hasDuct_12 ?_
      refine v_goto (pc := 13) C 17 dX2_hasDuct_13 (by decide) ?_
      exact v_iret (pc := 17) C hr (rfl) dX2_hasDuct_17 (⟨_, rfl, Or.inl ⟨rfl, by omega⟩, rfl⟩)

set_option maxHeartbeats 4000000 in
set_option maxRecDepth 100000 in
theorem k_X2_works {γ : Gm} (G : Glo γ) {σ α : St} {n : Nat} {r : Int → Int} {e v g : Int} (hN : NetB n) (hR : Rep α r) (h : Wf r) (he : e = 2 * v + g) (hv : 0 ≤ v ∧ v < r 0) (hg : 0 ≤ g ∧ g ≤ 1) : Ct γ yX2_works cX2_works 2 (some .boolean) 1 [.ref (bs γ + n), .int (iI e)] (setN σ n α) (pI (fun z σ2 => (z = 1 ∧ (worksR r v (5 + g)) ∨ z = 0 ∧ ¬ (worksR r v (5 + g))) ∧ σ2 = setN σ n α)) := by
  refine Ct.of G (by decide +kernel) (Nat.le_of_ble_eq_true rfl) (fun φ C hr => ?_)
  have C : Cx γ φ RX2 cX2_works 2 1 := C
  have hn0 := h.1
  have hn1 := h.2.1
  have hn4 := h.2.2.1
  have hn5 := h.2.2.2.1
  have hpg := h.pg hv hg
  have hsu := h.su hv
  refine v_lv [(0, .ref (bs γ + n)), (1, .int (iI e))] [0, 1] rfl ?_
  refine v_aload_n (pc := 0) C 0 rfl dX2_works_0 ?_
  refine v_getrN (pc := 1) C hN 9 6 (by decide) (wF_X2_27 G) rfl dX2_works_1 ?_
  refine v_iload_n (pc := 4) C 1 rfl dX2_works_4 ?_
  refine v_ialdN (pc := 5) C hN 6 (by decide) (m := 20) rfl (by first | omega | assumption) dX2_works_5 (fun z5 ez5 rz5 => ?_)
  have wz5 : z5 = r (6 + 7 * v + (5 + g)) := by rw [ez5, he]; exact (hR.2.2.1 v g hv.1 hv.2 hg.1 hg.2).2
  refine v_if_eq (pc := 6) C 40 (by first | omega | assumption) dX2_works_6 (by decide) (fun h6 => ?_) (fun h6 => ?_)
  · refine v_iconst (pc := 40) C dX2_works_40 ?_
    exact v_iret (pc := 41) C hr (rfl) dX2_works_41 (⟨_, rfl, Or.inr ⟨rfl, by first | (refine ⟨by omega, ?_⟩; rw [← wz25, ← wz31, ← wz16]; omega) | (rintro ⟨a1, a2⟩; first | omega | (rw [← wz25, ← wz31, ← wz16] at a2; omega))⟩, rfl⟩)
  · refine v_bipush (pc := 9) C (by decide +kernel) dX2_works_9 ?_
    refine v_aload_n (pc := 11) C 0 rfl dX2_works_11 ?_
    refine v_getrN (pc := 12) C hN 9 6 (by decide) (wF_X2_27 G) rfl dX2_works_12 ?_
    refine v_iload_n (pc := 15) C 1 rfl dX2_works_15 ?_
    refine v_ialdN (pc := 16) C hN 6 (by decide) (m := 20) rfl (by first | omega | assumption) dX2_works_16 (fun z16 ez16 rz16 => ?_)
    have wz16 : z16 = r (6 + 7 * v + (5 + g)) := by rw [ez16, he]; exact (hR.2.2.1 v g hv.1 hv.2 hg.1 hg.2).2
    refine v_imul (pc := 17) C dX2_works_17 ?_
    refine v_aload_n (pc := 18) C 0 rfl dX2_works_18 ?_
    refine v_getrN (pc := 19) C hN 6 3 (by decide) (wF_X2_18 G) rfl dX2_works_19 ?_
    refine v_iload_n (pc := 22) C 1 rfl dX2_works_22 ?_
    refine v_iconst (pc := 23) C dX2_works_23 ?_
    refine v_idiv (pc := 24) C (by first | omega | assumption) (by first | omega | assumption) dX2_works_24 ?_
    refine v_ialdN (pc := 25) C hN 3 (by decide) (m := 10) rfl (by first | omega | assumption) dX2_works_25 (fun z25 ez25 rz25 => ?_)
    have wz25 : z25 = r (6 + 7 * v + 1) := by rw [ez25, show e / 2 = v by omega]; exact (hR.2.1 v hv.1 hv.2).2.1
    refine v_aload_n (pc := 26) C 0 rfl dX2_works_26 ?_
    refine v_getrN (pc := 27) C hN 4 1 (by decide) (wF_X2_9 G) rfl dX2_works_27 ?_
    refine v_iconst (pc := 30) C dX2_works_30 ?_
    refine v_ialdN (pc := 31) C hN 1 (by decide) (m := 2) rfl (by first | omega | assumption) dX2_works_31 (fun z31 ez31 rz31 => ?_)
    have wz31 : z31 = r 5 := ez31.trans hR.ns
    have hm := mulb (x := z25) (y := z31) (A := 99) (B := 90) (by omega) (by omega)
    refine v_imul (pc := 32) C dX2_works_32 ?_
    refine v_icmp_lt (pc := 33) C 40 (by first | omega | assumption) (by first | omega | assumption) dX2_works_33 (by decide) (fun h33 => ?_) (fun h33 => ?_)
    · refine v_iconst (pc := 40) C dX2_works_40 ?_
      exact v_iret (pc := 41) C hr (rfl) dX2_works_41 (⟨_, rfl, Or.inr ⟨rfl, by first | (refine ⟨by omega, ?_⟩; rw [← wz25, ← wz31, ← wz16]; omega) | (rintro ⟨a1, a2⟩; first | omega | (rw [← wz25, ← wz31, ← wz16] at a2; omega))⟩, rfl⟩)
    · refine v_iconst (pc := 36) C dX2_works_36 ?_
      refine v_goto (pc := 37) C 41 dX2_works_37 (by decide) ?_
      exact v_iret (pc := 41) C hr (rfl) dX2_works_41 (⟨_, rfl, Or.inl ⟨rfl, by first | (refine ⟨by omega, ?_⟩; rw [← wz25, ← wz31, ← wz16]; omega) | (rintro ⟨a1, a2⟩; first | omega | (rw [← wz25, ← wz31, ← wz16] at a2; omega))⟩, rfl⟩)

set_option maxHeartbeats 4000000 in
set_option maxRecDepth 100000 in
theorem k_X2_lostIn {γ : Gm} (G : Glo γ) {σ α : St} {n : Nat} {r : Int → Int} {e : Int} (hN : NetB n) (hR : Rep α r) (h : Wf r) (he : 0 ≤ e ∧ e < r 1) : Ct γ yX2_lostIn cX2_lostIn 2 (some .int) 1 [.ref (bs γ + n), .int (iI e)] (setN σ n α) (pI (fun z σ2 => (z = r (76 + 12 * e + 4) * r 4 + r (76 + 12 * e + 5) ∧ 0 ≤ z ∧ z ≤ 84) ∧ σ2 = setN σ n α)) := by
  refine Ct.of G (by decide +kernel) (Nat.le_of_ble_eq_true rfl) (fun φ C hr => ?_)
  have C : Cx γ φ RX2 cX2_lostIn 2 1 := C
  have hn0 := h.1
  have hn1 := h.2.1
  have hn4 := h.2.2.1
  have hn5 := h.2.2.2.1
  obtain ⟨d0, d1, d2, d3, d4, d5, d6⟩ := h.2.2.2.2.2 e he.1 he.2
  obtain ⟨s7, s8, s9, s10⟩ := hR.2.2.2.1 e he.1 he.2
  have hm46 := mulb (x := r (76 + 12 * e + 4)) (y := r 4) (A := 6) (B := 9) (by omega) (by omega)
  refine v_lv [(0, .ref (bs γ + n)), (1, .int (iI e))] [0, 1] rfl ?_
  refine v_aload_n (pc := 0) C 0 rfl dX2_lostIn_0 ?_
  refine v_getrN (pc := 1) C hN 12 9 (by decide) (wF_X2_36 G) rfl dX2_lostIn_1 ?_
  refine v_iload_n (pc := 4) C 1 rfl dX2_lostIn_4 ?_
  refine v_ialdN (pc := 5) C hN 9 (by decide) (m := 16) rfl (by first | omega | assumption) dX2_lostIn_5 (fun z5 ez5 rz5 => ?_)
  have wz5 : z5 = r (76 + 12 * e + 4) := ez5.trans s9
  refine v_aload_n (pc := 6) C 0 rfl dX2_lostIn_6 ?_
  refine v_getrN (pc := 7) C hN 4 1 (by decide) (wF_X2_9 G) rfl dX2_lostIn_7 ?_
  refine v_iconst (pc := 10) C dX2_lostIn_10 ?_
  refine v_ialdN (pc := 11) C hN 1 (by decide) (m := 2) rfl (by first | omega | assumption) dX2_lostIn_11 (fun z11 ez11 rz11 => ?_)
  have wz11 : z11 = r 4 := ez11.trans hR.nl
  refine v_imul (pc := 12) C dX2_lostIn_12 ?_
  refine v_aload_n (pc := 13) C 0 rfl dX2_lostIn_13 ?_
  refine v_getrN (pc := 14) C hN 13 10 (by decide) (wF_X2_39 G) rfl dX2_lostIn_14 ?_
  refine v_iload_n (pc := 17) C 1 rfl dX2_lostIn_17 ?_
  refine v_ialdN (pc := 18) C hN 10 (by decide) (m := 16) rfl (by first | omega | assumption) dX2_lostIn_18 (fun z18 ez18 rz18 => ?_)
  have wz18 : z18 = r (76 + 12 * e + 5) := ez18.trans s10
  refine v_iadd (pc := 19) C dX2_lostIn_19 ?_
  exact v_iret (pc := 20) C hr (rfl) dX2_lostIn_20 (⟨_, rfl, ⟨by rw [wz5, wz11, wz18], by rw [wz5, wz11, wz18]; omega⟩, rfl⟩)

set_option maxHeartbeats 4000000 in
set_option maxRecDepth 100000 in
theorem k_X2_nextOutOf {γ : Gm} (G : Glo γ) {σ α : St} {n : Nat} {r : Int → Int} {e : Int} (hN : NetB n) (hR : Rep α r) (h : Wf r) (he : 0 ≤ e ∧ e < r 1) : Ct γ yX2_nextOutOf cX2_nextOutOf 2 (some .int) 2 [.ref (bs γ + n), .int (iI e)] (setN σ n α) (pI (fun z σ2 => (z = outR r e ∧ 0 ≤ z ∧ z ≤ 99) ∧ σ2 = setN σ n α)) := by
  refine Ct.of G (by decide +kernel) (Nat.le_of_ble_eq_true rfl) (fun φ C hr => ?_)
  have C : Cx γ φ RX2 cX2_nextOutOf 2 2 := C
  have hn0 := h.1
  have hn1 := h.2.1
  have hn4 := h.2.2.1
  have hn5 := h.2.2.2.1
  obtain ⟨d0, d1, d2, d3, d4, d5, d6⟩ := h.2.2.2.2.2 e he.1 he.2
  obtain ⟨s7, s8, s9, s10⟩ := hR.2.2.2.1 e he.1 he.2
  have hm46 := mulb (x := r (76 + 12 * e + 4)) (y := r 4) (A := 6) (B := 9) (by omega) (by omega)
  have ho := outR_r h he.1 he.2
  have d60 := d6 0 (by omega) (by omega)
  rw [show 76 + 12 * e + 6 + 0 = 76 + 12 * e + 6 by omega] at d60
  refine v_lv [(0, .ref (bs γ + n)), (1, .int (iI e))] [0, 1] rfl ?_
  refine v_iconst (pc := 0) C dX2_nextOutOf_0 ?_
  refine v_aload_n (pc := 1) C 0 rfl dX2_nextOutOf_1 ?_
  refine v_getrN (pc := 2) C hN 14 11 (by decide) (wF_X2_42 G) rfl dX2_nextOutOf_2 ?_
  refine v_iload_n (pc := 5) C 1 rfl dX2_nextOutOf_5 ?_
  refine v_bipush (pc := 6) C (by decide +kernel) dX2_nextOutOf_6 ?_
  refine v_imul (pc := 8) C dX2_nextOutOf_8 ?_
  refine v_ialdN (pc := 9) C hN 11 (by decide) (m := 96) rfl (by first | omega | assumption) dX2_nextOutOf_9 (fun z9 ez9 rz9 => ?_)
  have wz9 : z9 = r (76 + 12 * e + 6) := by rw [ez9, show e * 6 = 6 * e + 0 by omega, hR.2.2.2.2 e 0 he.1 he.2 (by omega) (by omega)]; exact congrArg r (by omega)
  refine v_aload_n (pc := 10) C 0 rfl dX2_nextOutOf_10 ?_
  refine v_iload_n (pc := 11) C 1 rfl dX2_nextOutOf_11 ?_
  refine v_cv (pc := 12) (as := [.int (iI e)]) C (cy_X2_lostIn G) (wM_X2_85 G) (show sh n = (5, 1) from hN.sh (k := 0) (by decide)) (ci := 1) rfl rfl (k_X2_lostIn G hN hR h (by omega)) dX2_nextOutOf_12 rfl rfl (by decide) (by decide) (Nat.le_of_ble_eq_true rfl) zc (k_I (fun z12 s12 q12 => ?_))
  obtain ⟨⟨ez12, rz12⟩, rfl⟩ := q12
  refine v_isub (pc := 15) C dX2_nextOutOf_15 ?_
  refine v_max (pc := 16) C (wMax_X2_89 G) (by first | omega | assumption) (by first | omega | assumption) dX2_nextOutOf_16 (Nat.le_of_ble_eq_true rfl) ⟨Nat.zero_le _, Nat.zero_le _⟩ ?_
  exact v_iret (pc := 19) C hr (rfl) dX2_nextOutOf_19 (⟨_, rfl, (by have hE : (if 0 < z9 - z12 then z9 - z12 else 0) = outR r e := (by unfold outR; split <;> split <;> omega); exact ⟨hE, by rw [hE]; exact ho⟩), rfl⟩)

set_option maxHeartbeats 4000000 in
set_option maxRecDepth 100000 in
theorem k_X2_enoughFor {γ : Gm} (G : Glo γ) {σ α : St} {n : Nat} {r : Int → Int} {e : Int} (hN : NetB n) (hR : Rep α r) (h : Wf r) (he : 0 ≤ e ∧ e < r 1) : Ct γ yX2_enoughFor cX2_enoughFor 4 (some .int) 2 [.ref (bs γ + n), .int (iI e)] (setN σ n α) (pI (fun z σ2 => (z = needR r e ∧ -1 ≤ z ∧ z ≤ 99) ∧ σ2 = setN σ n α)) := by
  refine Ct.of G (by decide +kernel) (Nat.le_of_ble_eq_true rfl) (fun φ C hr => ?_)
  have C : Cx γ φ RX2 cX2_enoughFor 4 2 := C
  have hn0 := h.1
  have hn1 := h.2.1
  have hn4 := h.2.2.1
  have hn5 := h.2.2.2.1
  obtain ⟨d0, d1, d2, d3, d4, d5, d6⟩ := h.2.2.2.2.2 e he.1 he.2
  obtain ⟨s7, s8, s9, s10⟩ := hR.2.2.2.1 e he.1 he.2
  have hm46 := mulb (x := r (76 + 12 * e + 4)) (y := r 4) (A := 6) (B := 9) (by omega) (by omega)
  have hsu := h.su d2
  have hb := needR_b h he
  refine v_lv [(0, .ref (bs γ + n)), (1, .int (iI e))] [0, 1] rfl ?_
  refine v_aload_n (pc := 0) C 0 rfl dX2_enoughFor_0 ?_
  refine v_getrN (pc := 1) C hN 6 3 (by decide) (wF_X2_18 G) rfl dX2_enoughFor_1 ?_
  refine v_aload_n (pc := 4) C 0 rfl dX2_enoughFor_4 ?_
  refine v_getrN (pc := 5) C hN 11 8 (by decide) (wF_X2_33 G) rfl dX2_enoughFor_5 ?_
  refine v_iload_n (pc := 8) C 1 rfl dX2_enoughFor_8 ?_
  refine v_ialdN (pc := 9) C hN 8 (by decide) (m := 16) rfl (by first | omega | assumption) dX2_enoughFor_9 (fun z9 ez9 rz9 => ?_)
  have wz9 := ez9.trans s8
  refine v_iconst (pc := 10) C dX2_enoughFor_10 ?_
  refine v_idiv (pc := 11) C (by first | omega | assumption) (by first | omega | assumption) dX2_enoughFor_11 ?_
  refine v_ialdN (pc := 12) C hN 3 (by decide) (m := 10) rfl (by first | omega | assumption) dX2_enoughFor_12 (fun z12 ez12 rz12 => ?_)
  have wz12 : z12 = r (6 + 7 * r (76 + 12 * e + 2) + 1) := by rw [ez12, show z9 / 2 = r (76 + 12 * e + 2) by omega]; exact (hR.2.1 _ d2.1 d2.2).2.1
  refine v_aload_n (pc := 13) C 0 rfl dX2_enoughFor_13 ?_
  refine v_getrN (pc := 14) C hN 4 1 (by decide) (wF_X2_9 G) rfl dX2_enoughFor_14 ?_
  refine v_iconst (pc := 17) C dX2_enoughFor_17 ?_
  refine v_ialdN (pc := 18) C hN 1 (by decide) (m := 2) rfl (by first | omega | assumption) dX2_enoughFor_18 (fun z18 ez18 rz18 => ?_)
  have wz18 : z18 = r 5 := ez18.trans hR.ns
  have hm := mulb (x := z12) (y := z18) (A := 99) (B := 90) (by omega) (by omega)
  refine v_imul (pc := 19) C dX2_enoughFor_19 ?_
  refine v_bipush (pc := 20) C (by decide +kernel) dX2_enoughFor_20 ?_
  refine v_iadd (pc := 22) C dX2_enoughFor_22 ?_
  refine v_bipush (pc := 23) C (by decide +kernel) dX2_enoughFor_23 ?_
  refine v_idiv (pc := 25) C (by first | omega | assumption) (by first | omega | assumption) dX2_enoughFor_25 ?_
  refine v_istore_n (pc := 26) C [(2, .int (iI (((z12 * z18) + 99) / 100))), (0, .ref (bs γ + n)), (1, .int (iI e))] dX2_enoughFor_26 rfl (by decide) rfl ?_
  refine v_iload_n (pc := 27) C 0 rfl dX2_enoughFor_27 ?_
  refine v_aload_n (pc := 28) C 1 rfl dX2_enoughFor_28 ?_
  refine v_iload_n (pc := 29) C 2 rfl dX2_enoughFor_29 ?_
  refine v_cv (pc := 30) (as := [.int (iI e)]) C (cy_X2_lostIn G) (wM_X2_85 G) (show sh n = (5, 1) from hN.sh (k := 0) (by decide)) (ci := 1) rfl rfl (k_X2_lostIn G hN hR h (by omega)) dX2_enoughFor_30 rfl rfl (by decide) (by decide) (Nat.le_of_ble_eq_true rfl) zc (k_I (fun z30 s30 q30 => ?_))
  obtain ⟨⟨ez30, rz30⟩, rfl⟩ := q30
  refine v_iadd (pc := 33) C dX2_enoughFor_33 ?_
  refine v_istore_n (pc := 34) C [(3, .int (iI ((((z12 * z18) + 99) / 100) + z30))), (2, .int (iI (((z12 * z18) + 99) / 100))), (0, .ref (bs γ + n)), (1, .int (iI e))] dX2_enoughFor_34 rfl (by decide) rfl ?_
  refine v_iload_n (pc := 35) C 0 rfl dX2_enoughFor_35 ?_
  refine v_bipush (pc := 36) C (by decide +kernel) dX2_enoughFor_36 ?_
  refine v_icmp_gt (pc := 38) C 45 (by first | omega | assumption) (by first | omega | assumption) dX2_enoughFor_38 (by decide) (fun h38 => ?_) (fun h38 => ?_)
  · refine v_iconst (pc := 45) C dX2_enoughFor_45 ?_
    exact v_iret (pc := 46) C hr (rfl) dX2_enoughFor_46 (⟨_, rfl, (by have hE : -1 = needR r e := (by unfold needR needP; rw [← wz12, ← wz18]; rw [if_neg (by omega)]); exact ⟨hE, by rw [hE]; omega⟩), rfl⟩)
  · refine v_iload_n (pc := 41) C 0 rfl dX2_enoughFor_41 ?_
    refine v_goto (pc := 42) C 46 dX2_enoughFor_42 (by decide) ?_
    exact v_iret (pc := 46) C hr (rfl) dX2_enoughFor_46 (⟨_, rfl, (by have hE : (((z12 * z18) + 99) / 100) + z30 = needR r e := (by unfold needR needP; rw [← wz12, ← wz18]; rw [if_pos (by omega)]; omega); exact ⟨hE, by rw [hE]; omega⟩), rfl⟩)

set_option maxHeartbeats 4000000 in
set_option maxRecDepth 100000 in
theorem k_X2_spareOf {γ : Gm} (G : Glo γ) {σ α : St} {n : Nat} {r : Int → Int} {e : Int} (hN : NetB n) (hR : Rep α r) (h : Wf r) (he : 0 ≤ e ∧ e < r 1) : Ct γ yX2_spareOf cX2_spareOf 3 (some .int) 3 [.ref (bs γ + n), .int (iI e)] (setN σ n α) (pI (fun z σ2 => (z = spareR r e ∧ -1000 ≤ z ∧ z ≤ 1000) ∧ σ2 = setN σ n α)) := by
  refine Ct.of G (by decide +kernel) (Nat.le_of_ble_eq_true rfl) (fun φ C hr => ?_)
  have C : Cx γ φ RX2 cX2_spareOf 3 3 := C
  have hn0 := h.1
  have hn1 := h.2.1
  have hn4 := h.2.2.1
  have hn5 := h.2.2.2.1
  obtain ⟨d0, d1, d2, d3, d4, d5, d6⟩ := h.2.2.2.2.2 e he.1 he.2
  obtain ⟨s7, s8, s9, s10⟩ := hR.2.2.2.1 e he.1 he.2
  have hm46 := mulb (x := r (76 + 12 * e + 4)) (y := r 4) (A := 6) (B := 9) (by omega) (by omega)
  have hlg := h.lg d0 d1
  refine v_lv [(0, .ref (bs γ + n)), (1, .int (iI e))] [0, 1] rfl ?_
  refine v_aload_n (pc := 0) C 0 rfl dX2_spareOf_0 ?_
  refine v_iload_n (pc := 1) C 1 rfl dX2_spareOf_1 ?_
  refine v_cv (pc := 2) (as := [.int (iI e)]) C (cy_X2_enoughFor G) (wM_X2_94 G) (show sh n = (5, 1) from hN.sh (k := 0) (by decide)) (ci := 1) rfl rfl (k_X2_enoughFor G hN hR h (by omega)) dX2_spareOf_2 rfl rfl (by decide) (by decide) (Nat.le_of_ble_eq_true rfl) zc (k_I (fun z2 s2 q2 => ?_))
  obtain ⟨⟨ez2, rz2⟩, rfl⟩ := q2
  refine v_istore_n (pc := 5) C [(2, .int (iI z2)), (0, .ref (bs γ + n)), (1, .int (iI e))] dX2_spareOf_5 rfl (by decide) rfl ?_
  refine v_iload_n (pc := 6) C 0 rfl dX2_spareOf_6 ?_
  refine v_iconst (pc := 7) C dX2_spareOf_7 ?_
  refine v_icmp_ne (pc := 8) C 16 (by first | omega | assumption) (by first | omega | assumption) dX2_spareOf_8 (by decide) (fun h8 => ?_) (fun h8 => ?_)
  · refine v_aload_n (pc := 16) C 1 rfl dX2_spareOf_16 ?_
    refine v_getrN (pc := 17) C hN 8 5 (by decide) (wF_X2_24 G) rfl dX2_spareOf_17 ?_
    refine v_aload_n (pc := 20) C 1 rfl dX2_spareOf_20 ?_
    refine v_getrN (pc := 21) C hN 10 7 (by decide) (wF_X2_30 G) rfl dX2_spareOf_21 ?_
    refine v_iload_n (pc := 24) C 2 rfl dX2_spareOf_24 ?_
    refine v_ialdN (pc := 25) C hN 7 (by decide) (m := 16) rfl (by first | omega | assumption) dX2_spareOf_25 (fun z25 ez25 rz25 => ?_)
    have wz25 := ez25.trans s7
    refine v_ialdN (pc := 26) C hN 5 (by decide) (m := 20) rfl (by first | omega | assumption) dX2_spareOf_26 (fun z26 ez26 rz26 => ?_)
    have wz26 : z26 = hasR r e := by rw [ez26, wz25, (hR.2.2.1 _ _ d0.1 d0.2 d1.1 d1.2).1]; rfl
    have hlg2 : 0 ≤ hasR r e ∧ hasR r e ≤ 99 := hlg
    refine v_iload_n (pc := 27) C 0 rfl dX2_spareOf_27 ?_
    refine v_isub (pc := 28) C dX2_spareOf_28 ?_
    exact v_iret (pc := 29) C hr (rfl) dX2_spareOf_29 (⟨_, rfl, ⟨by unfold spareR; rw [if_neg (by omega), ← wz26, ← ez2], by omega⟩, rfl⟩)
  · refine v_bipush (pc := 11) C (by decide +kernel) dX2_spareOf_11 ?_
    refine v_goto (pc := 13) C 29 dX2_spareOf_13 (by decide) ?_
    exact v_iret (pc := 29) C hr (rfl) dX2_spareOf_29 (⟨_, rfl, ⟨by unfold spareR; rw [if_pos (by omega)], by omega⟩, rfl⟩)

set_option maxHeartbeats 4000000 in
set_option maxRecDepth 100000 in
theorem k_X2_legsUnderPressure {γ : Gm} (G : Glo γ) {σ α : St} {n : Nat} {r : Int → Int} (hN : NetB n) (hR : Rep α r) (h : Wf r)  : Ct γ yX2_legsUnderPressure cX2_legsUnderPressure 3 (some .int) 1 [.ref (bs γ + n)] (setN σ n α) (pI (fun z σ2 => z = livelyR r (r 0).toNat ∧ σ2 = setN σ n α)) := by
  refine Ct.of G (by decide +kernel) (Nat.le_of_ble_eq_true rfl) (fun φ C hr => ?_)
  have C : Cx γ φ RX2 cX2_legsUnderPressure 3 1 := C
  have hn0 := h.1
  have hn1 := h.2.1
  have hn4 := h.2.2.1
  have hn5 := h.2.2.2.1
  refine v_lv [(0, .ref (bs γ + n))] [0] rfl ?_
  refine v_iconst (pc := 0) C dX2_legsUnderPressure_0 ?_
  refine v_istore_n (pc := 1) C [(1, .int (iI 0)), (0, .ref (bs γ + n))] dX2_legsUnderPressure_1 rfl (by decide) rfl ?_
  refine v_iconst (pc := 2) C dX2_legsUnderPressure_2 ?_
  refine v_istore_n (pc := 3) C [(2, .int (iI 0)), (1, .int (iI 0)), (0, .ref (bs γ + n))] dX2_legsUnderPressure_3 rfl (by decide) rfl ?_
  have L4 : ∀ (fu : Nat) (e : Nat), (he : (e : Int) ≤ 2 * r 0) → (2 * r 0).toNat - e < fu → Vw γ φ 3 0 0 (QE γ φ (pI (fun z σ2 => z = livelyR r (r 0).toNat ∧ σ2 = setN σ n α))) (setN σ n α) 4 [(2, .int (iI (e : Int))), (1, .int (iI (livE r e))), (0, .ref (bs γ + n))] [] := by
    intro fu
    induction fu with
    | zero => intro e he hz; exact absurd hz (Nat.not_lt_zero _)
    | succ fu ih =>
      intro e he hz
      have hb := livE_b r e
      refine v_iload_n (pc := 4) C 0 rfl dX2_legsUnderPressure_4 ?_
      refine v_iconst (pc := 5) C dX2_legsUnderPressure_5 ?_
      refine v_aload_n (pc := 6) C 2 rfl dX2_legsUnderPressure_6 ?_
      refine v_getiM (pc := 7) C hN 2 (by decide) (wF_X2_55 G) rfl 2 rfl dX2_legsUnderPressure_7 (fun z7 ez7 rz7 => ?_)
      rw [hR.nv] at ez7
      refine v_imul (pc := 10) C dX2_legsUnderPressure_10 ?_
      refine v_icmp_ge (pc := 11) C 32 (by first | omega | assumption) (by first | omega | assumption) dX2_legsUnderPressure_11 (by decide) (fun h11 => ?_) (fun h11 => ?_)
      · refine v_iload_n (pc := 32) C 1 rfl dX2_legsUnderPressure_32 ?_
        exact v_iret (pc := 33) C hr (rfl) dX2_legsUnderPressure_33 (⟨_, rfl, by rw [← livE_2, show e = 2 * (r 0).toNat by omega], rfl⟩)
      · refine v_aload_n (pc := 14) C 2 rfl dX2_legsUnderPressure_14 ?_
        refine v_getrN (pc := 15) C hN 8 5 (by decide) (wF_X2_24 G) rfl dX2_legsUnderPressure_15 ?_
        refine v_iload_n (pc := 18) C 0 rfl dX2_legsUnderPressure_18 ?_
        refine v_ialdN (pc := 19) C hN 5 (by decide) (m := 20) rfl (by first | omega | assumption) dX2_legsUnderPressure_19 (fun z19 ez19 rz19 => ?_)
        have wz19 := ez19.trans (hR.le (e := (e : Int)) (by omega) (by omega)).1
        refine v_if_le (pc := 20) C 26 (by first | omega | assumption) dX2_legsUnderPressure_20 (by decide) (fun h20 => ?_) (fun h20 => ?_)
        · refine v_iinc (pc := 26) C 0 [(2, .int (iI ((e : Int) + 1))), (1, .int (iI (livE r e))), (0, .ref (bs γ + n))] dX2_legsUnderPressure_26 rfl (by decide) rfl ?_
          refine v_goto (pc := 29) C 4 dX2_legsUnderPressure_29 (by decide) ?_
          exact v_lv _ [0, 1, 2] (by rw [show livE r (e + 1) = livE r e from by rw [livE]; first | rw [if_pos (by omega)] | (rw [if_neg (by omega)]; omega) | rw [← wz20]]; rfl) (ih (e + 1) (by omega) (by omega))
        · refine v_iinc (pc := 23) C 1 [(1, .int (iI ((livE r e) + 1))), (2, .int (iI (e : Int))), (0, .ref (bs γ + n))] dX2_legsUnderPressure_23 rfl (by decide) rfl ?_
          refine v_iinc (pc := 26) C 1 [(2, .int (iI ((e : Int) + 1))), (1, .int (iI ((livE r e) + 1))), (0, .ref (bs γ + n))] dX2_legsUnderPressure_26 rfl (by decide) rfl ?_
          refine v_goto (pc := 29) C 4 dX2_legsUnderPressure_29 (by decide) ?_
          exact v_lv _ [0, 1, 2] (by rw [show livE r (e + 1) = (livE r e) + 1 from by rw [livE]; first | rw [if_pos (by omega)] | (rw [if_neg (by omega)]; omega) | rw [← wz20]]; rfl) (ih (e + 1) (by omega) (by omega))
  exact v_lv _ [0, 1, 2] rfl (L4 ((2 * r 0).toNat + 1) 0 (by omega) (by omega))

set_option maxHeartbeats 4000000 in
set_option maxRecDepth 100000 in
theorem k_X2_pressureOfAllLegs {γ : Gm} (G : Glo γ) {σ α : St} {n : Nat} {r : Int → Int} (hN : NetB n) (hR : Rep α r) (h : Wf r)  : Ct γ yX2_pressureOfAllLegs cX2_pressureOfAllLegs 3 (some .int) 1 [.ref (bs γ + n)] (setN σ n α) (pI (fun z σ2 => z = allPR r (r 0).toNat ∧ σ2 = setN σ n α)) := by
  refine Ct.of G (by decide +kernel) (Nat.le_of_ble_eq_true rfl) (fun φ C hr => ?_)
  have C : Cx γ φ RX2 cX2_pressureOfAllLegs 3 1 := C
  have hn0 := h.1
  have hn1 := h.2.1
  have hn4 := h.2.2.1
  have hn5 := h.2.2.2.1
  refine v_lv [(0, .ref (bs γ + n))] [0] rfl ?_
  refine v_iconst (pc := 0) C dX2_pressureOfAllLegs_0 ?_
  refine v_istore_n (pc := 1) C [(1, .int (iI 0)), (0, .ref (bs γ + n))] dX2_pressureOfAllLegs_1 rfl (by decide) rfl ?_
  refine v_iconst (pc := 2) C dX2_pressureOfAllLegs_2 ?_
  refine v_istore_n (pc := 3) C [(2, .int (iI 0)), (1, .int (iI 0)), (0, .ref (bs γ + n))] dX2_pressureOfAllLegs_3 rfl (by decide) rfl ?_
  have L4 : ∀ (fu : Nat) (e : Nat), (he : (e : Int) ≤ 2 * r 0) → (2 * r 0).toNat - e < fu → Vw γ φ 3 0 0 (QE γ φ (pI (fun z σ2 => z = allPR r (r 0).toNat ∧ σ2 = setN σ n α))) (setN σ n α) 4 [(2, .int (iI (e : Int))), (1, .int (iI (allE r e))), (0, .ref (bs γ + n))] [] := by
    intro fu
    induction fu with
    | zero => intro e he hz; exact absurd hz (Nat.not_lt_zero _)
    | succ fu ih =>
      intro e he hz
      have hb := allE_b h e (by omega)
      refine v_iload_n (pc := 4) C 0 rfl dX2_pressureOfAllLegs_4 ?_
      refine v_iconst (pc := 5) C dX2_pressureOfAllLegs_5 ?_
      refine v_aload_n (pc := 6) C 2 rfl dX2_pressureOfAllLegs_6 ?_
      refine v_getiM (pc := 7) C hN 2 (by decide) (wF_X2_55 G) rfl 2 rfl dX2_pressureOfAllLegs_7 (fun z7 ez7 rz7 => ?_)
      rw [hR.nv] at ez7
      refine v_imul (pc := 10) C dX2_pressureOfAllLegs_10 ?_
      refine v_icmp_ge (pc := 11) C 29 (by first | omega | assumption) (by first | omega | assumption) dX2_pressureOfAllLegs_11 (by decide) (fun h11 => ?_) (fun h11 => ?_)
      · refine v_iload_n (pc := 29) C 1 rfl dX2_pressureOfAllLegs_29 ?_
        exact v_iret (pc := 30) C hr (rfl) dX2_pressureOfAllLegs_30 (⟨_, rfl, by rw [← allE_2, show e = 2 * (r 0).toNat by omega], rfl⟩)
      · refine v_iload_n (pc := 14) C 1 rfl dX2_pressureOfAllLegs_14 ?_
        refine v_aload_n (pc := 15) C 2 rfl dX2_pressureOfAllLegs_15 ?_
        refine v_getrN (pc := 16) C hN 8 5 (by decide) (wF_X2_24 G) rfl dX2_pressureOfAllLegs_16 ?_
        refine v_iload_n (pc := 19) C 0 rfl dX2_pressureOfAllLegs_19 ?_
        refine v_ialdN (pc := 20) C hN 5 (by decide) (m := 20) rfl (by first | omega | assumption) dX2_pressureOfAllLegs_20 (fun z20 ez20 rz20 => ?_)
        have wz20 := ez20.trans (hR.le (e := (e : Int)) (by omega) (by omega)).1
        refine v_iadd (pc := 21) C dX2_pressureOfAllLegs_21 ?_
        refine v_istore_n (pc := 22) C [(1, .int (iI ((allE r e) + z20))), (2, .int (iI (e : Int))), (0, .ref (bs γ + n))] dX2_pressureOfAllLegs_22 rfl (by decide) rfl ?_
        refine v_iinc (pc := 23) C 1 [(2, .int (iI ((e : Int) + 1))), (1, .int (iI ((allE r e) + z20))), (0, .ref (bs γ + n))] dX2_pressureOfAllLegs_23 rfl (by decide) rfl ?_
        refine v_goto (pc := 26) C 4 dX2_pressureOfAllLegs_26 (by decide) ?_
        exact v_lv _ [0, 1, 2] (by rw [show allE r (e + 1) = (allE r e) + z20 from by rw [allE]; first | rw [if_pos (by omega)] | (rw [if_neg (by omega)]; omega) | rw [← wz20]]; rfl) (ih (e + 1) (by omega) (by omega))
  exact v_lv _ [0, 1, 2] rfl (L4 ((2 * r 0).toNat + 1) 0 (by omega) (by omega))

set_option maxHeartbeats 4000000 in
set_option maxRecDepth 100000 in
theorem k_X2_pressedKeys {γ : Gm} (G : Glo γ) {σ α : St} {n : Nat} {r : Int → Int} (hN : NetB n) (hR : Rep α r) (h : Wf r)  : Ct γ yX2_pressedKeys cX2_pressedKeys 3 (some .int) 1 [.ref (bs γ + n)] (setN σ n α) (pI (fun z σ2 => z = keysR r (r 0).toNat ∧ σ2 = setN σ n α)) := by
  refine Ct.of G (by decide +kernel) (Nat.le_of_ble_eq_true rfl) (fun φ C hr => ?_)
  have C : Cx γ φ RX2 cX2_pressedKeys 3 1 := C
  have hn0 := h.1
  have hn1 := h.2.1
  have hn4 := h.2.2.1
  have hn5 := h.2.2.2.1
  refine v_lv [(0, .ref (bs γ + n))] [0] rfl ?_
  refine v_iconst (pc := 0) C dX2_pressedKeys_0 ?_
  refine v_istore_n (pc := 1) C [(1, .int (iI 0)), (0, .ref (bs γ + n))] dX2_pressedKeys_1 rfl (by decide) rfl ?_
  refine v_iconst (pc := 2) C dX2_pressedKeys_2 ?_
  refine v_istore_n (pc := 3) C [(2, .int (iI 0)), (1, .int (iI 0)), (0, .ref (bs γ + n))] dX2_pressedKeys_3 rfl (by decide) rfl ?_
  have L4 : ∀ (fu : Nat) (j : Nat), (hj : (j : Int) ≤ r 0) → (r 0).toNat - j < fu → Vw γ φ 3 0 0 (QE γ φ (pI (fun z σ2 => z = keysR r (r 0).toNat ∧ σ2 = setN σ n α))) (setN σ n α) 4 [(2, .int (iI (j : Int))), (1, .int (iI (keysR r j))), (0, .ref (bs γ + n))] [] := by
    intro fu
    induction fu with
    | zero => intro j hj hz; exact absurd hz (Nat.not_lt_zero _)
    | succ fu ih =>
      intro j hj hz
      refine v_iload_n (pc := 4) C 0 rfl dX2_pressedKeys_4 ?_
      refine v_aload_n (pc := 5) C 2 rfl dX2_pressedKeys_5 ?_
      refine v_getiM (pc := 6) C hN 2 (by decide) (wF_X2_55 G) rfl 2 rfl dX2_pressedKeys_6 (fun z6 ez6 rz6 => ?_)
      rw [hR.nv] at ez6
      refine v_icmp_ge (pc := 9) C 43 (by first | omega | assumption) (by first | omega | assumption) dX2_pressedKeys_9 (by decide) (fun h9 => ?_) (fun h9 => ?_)
      · refine v_iload_n (pc := 43) C 1 rfl dX2_pressedKeys_43 ?_
        exact v_iret (pc := 44) C hr (rfl) dX2_pressedKeys_44 (⟨_, rfl, by rw [show j = (r 0).toNat by omega], rfl⟩)
      · refine v_aload_n (pc := 12) C 2 rfl dX2_pressedKeys_12 ?_
        refine v_getrN (pc := 13) C hN 5 2 (by decide) (wF_X2_15 G) rfl dX2_pressedKeys_13 ?_
        refine v_iload_n (pc := 16) C 0 rfl dX2_pressedKeys_16 ?_
        refine v_ialdN (pc := 17) C hN 2 (by decide) (m := 10) rfl (by first | omega | assumption) dX2_pressedKeys_17 (fun z17 ez17 rz17 => ?_)
        have wz17 := ez17.trans (hR.2.1 (j : Int) (by omega) (by omega)).1
        refine v_if_ne (pc := 18) C 37 (by first | omega | assumption) dX2_pressedKeys_18 (by decide) (fun h18 => ?_) (fun h18 => ?_)
        · refine v_iinc (pc := 37) C 0 [(2, .int (iI ((j : Int) + 1))), (1, .int (iI (keysR r j))), (0, .ref (bs γ + n))] dX2_pressedKeys_37 rfl (by decide) rfl ?_
          refine v_goto (pc := 40) C 4 dX2_pressedKeys_40 (by decide) ?_
          exact v_lv _ [0, 1, 2] (by rw [show keysR r (j + 1) = keysR r j from by rw [keysR]; first | rw [if_pos ⟨by omega, by omega⟩] | rw [if_neg (by omega), keysR_0]]; rfl) (ih (j + 1) (by omega) (by omega))
        · refine v_aload_n (pc := 21) C 2 rfl dX2_pressedKeys_21 ?_
          refine v_getrN (pc := 22) C hN 7 4 (by decide) (wF_X2_21 G) rfl dX2_pressedKeys_22 ?_
          refine v_iload_n (pc := 25) C 0 rfl dX2_pressedKeys_25 ?_
          refine v_ialdN (pc := 26) C hN 4 (by decide) (m := 10) rfl (by first | omega | assumption) dX2_pressedKeys_26 (fun z26 ez26 rz26 => ?_)
          have wz26 := ez26.trans (hR.2.1 (j : Int) (by omega) (by omega)).2.2
          refine v_iconst (pc := 27) C dX2_pressedKeys_27 ?_
          refine v_icmp_ne (pc := 28) C 37 (by first | omega | assumption) (by first | omega | assumption) dX2_pressedKeys_28 (by decide) (fun h28 => ?_) (fun h28 => ?_)
          · refine v_iinc (pc := 37) C 0 [(2, .int (iI ((j : Int) + 1))), (1, .int (iI (keysR r j))), (0, .ref (bs γ + n))] dX2_pressedKeys_37 rfl (by decide) rfl ?_
            refine v_goto (pc := 40) C 4 dX2_pressedKeys_40 (by decide) ?_
            exact v_lv _ [0, 1, 2] (by rw [show keysR r (j + 1) = keysR r j from by rw [keysR]; first | rw [if_pos ⟨by omega, by omega⟩] | rw [if_neg (by omega), keysR_0]]; rfl) (ih (j + 1) (by omega) (by omega))
          · refine v_iload_n (pc := 31) C 1 rfl dX2_pressedKeys_31 ?_
            refine v_iconst (pc := 32) C dX2_pressedKeys_32 ?_
            refine v_iload_n (pc := 33) C 0 rfl dX2_pressedKeys_33 ?_
            refine v_ishl (pc := 34) C dX2_pressedKeys_34 ?_
            refine v_ior (pc := 35) C dX2_pressedKeys_35 ?_
            refine v_istore_n (pc := 36) C [(1, .int (iI (iOr (keysR r j) (iShl 1 (j : Int))))), (2, .int (iI (j : Int))), (0, .ref (bs γ + n))] dX2_pressedKeys_36 rfl (by decide) rfl ?_
            refine v_iinc (pc := 37) C 1 [(2, .int (iI ((j : Int) + 1))), (1, .int (iI (iOr (keysR r j) (iShl 1 (j : Int))))), (0, .ref (bs γ + n))] dX2_pressedKeys_37 rfl (by decide) rfl ?_
            refine v_goto (pc := 40) C 4 dX2_pressedKeys_40 (by decide) ?_
            exact v_lv _ [0, 1, 2] (by rw [show keysR r (j + 1) = iOr (keysR r j) (iShl 1 (j : Int)) from by rw [keysR]; first | rw [if_pos ⟨by omega, by omega⟩] | rw [if_neg (by omega), keysR_0]]; rfl) (ih (j + 1) (by omega) (by omega))
  exact v_lv _ [0, 1, 2] rfl (L4 ((r 0).toNat + 1) 0 (by omega) (by omega))

set_option maxHeartbeats 4000000 in
set_option maxRecDepth 100000 in
theorem k_X2_ductsFrom {γ : Gm} (G : Glo γ) {σ α : St} {n : Nat} {r : Int → Int} {v : Int} (hN : NetB n) (hR : Rep α r) (h : Wf r) (hv : R3 v) : Ct γ yX2_ductsFrom cX2_ductsFrom 4 (some .int) 1 [.ref (bs γ + n), .int (iI v)] (setN σ n α) (pI (fun z σ2 => z = cntR r v 0 (r 1).toNat ∧ σ2 = setN σ n α)) := by
  refine Ct.of G (by decide +kernel) (Nat.le_of_ble_eq_true rfl) (fun φ C hr => ?_)
  have C : Cx γ φ RX2 cX2_ductsFrom 4 1 := C
  have hn0 := h.1
  have hn1 := h.2.1
  have hn4 := h.2.2.1
  have hn5 := h.2.2.2.1
  refine v_lv [(0, .ref (bs γ + n)), (1, .int (iI v))] [0, 1] rfl ?_
  refine v_iconst (pc := 0) C dX2_ductsFrom_0 ?_
  refine v_istore_n (pc := 1) C [(2, .int (iI 0)), (0, .ref (bs γ + n)), (1, .int (iI v))] dX2_ductsFrom_1 rfl (by decide) rfl ?_
  refine v_iconst (pc := 2) C dX2_ductsFrom_2 ?_
  refine v_istore_n (pc := 3) C [(3, .int (iI 0)), (2, .int (iI 0)), (0, .ref (bs γ + n)), (1, .int (iI v))] dX2_ductsFrom_3 rfl (by decide) rfl ?_
  have L4 : ∀ (fu : Nat) (j : Nat), (hj : (j : Int) ≤ r 1) → (r 1).toNat - j < fu → Vw γ φ 4 0 0 (QE γ φ (pI (fun z σ2 => z = cntR r v 0 (r 1).toNat ∧ σ2 = setN σ n α))) (setN σ n α) 4 [(3, .int (iI (j : Int))), (2, .int (iI (cntR r v 0 j))), (1, .int (iI v)), (0, .ref (bs γ + n))] [] := by
    intro fu
    induction fu with
    | zero => intro j hj hz; exact absurd hz (Nat.not_lt_zero _)
    | succ fu ih =>
      intro j hj hz
      have hcb := cntR_b r v 0 j
      refine v_iload_n (pc := 4) C 0 rfl dX2_ductsFrom_4 ?_
      refine v_aload_n (pc := 5) C 3 rfl dX2_ductsFrom_5 ?_
      refine v_getiM (pc := 6) C hN 3 (by decide) (wF_X2_58 G) rfl 3 rfl dX2_ductsFrom_6 (fun z6 ez6 rz6 => ?_)
      rw [hR.nd] at ez6
      refine v_icmp_ge (pc := 9) C 33 (by first | omega | assumption) (by first | omega | assumption) dX2_ductsFrom_9 (by decide) (fun h9 => ?_) (fun h9 => ?_)
      · refine v_iload_n (pc := 33) C 1 rfl dX2_ductsFrom_33 ?_
        exact v_iret (pc := 34) C hr (rfl) dX2_ductsFrom_34 (⟨_, rfl, by rw [show j = (r 1).toNat by omega], rfl⟩)
      · refine v_aload_n (pc := 12) C 3 rfl dX2_ductsFrom_12 ?_
        refine v_getrN (pc := 13) C hN 10 7 (by decide) (wF_X2_30 G) rfl dX2_ductsFrom_13 ?_
        refine v_iload_n (pc := 16) C 0 rfl dX2_ductsFrom_16 ?_
        refine v_ialdN (pc := 17) C hN 7 (by decide) (m := 16) rfl (by first | omega | assumption) dX2_ductsFrom_17 (fun z17 ez17 rz17 => ?_)
        have wz17 := ez17.trans (hR.2.2.2.1 (j : Int) (by omega) (by omega)).1
        obtain ⟨d0, d1, d2, d3, -⟩ := h.2.2.2.2.2 (j : Int) (by omega) (by omega)
        refine v_iconst (pc := 18) C dX2_ductsFrom_18 ?_
        refine v_idiv (pc := 19) C (by first | omega | assumption) (by first | omega | assumption) dX2_ductsFrom_19 ?_
        refine v_iload_n (pc := 20) C 2 rfl dX2_ductsFrom_20 ?_
        refine v_icmp_ne (pc := 21) C 27 (by first | omega | assumption) (by first | omega | assumption) dX2_ductsFrom_21 (by decide) (fun h21 => ?_) (fun h21 => ?_)
        · refine v_iinc (pc := 27) C 0 [(3, .int (iI ((j : Int) + 1))), (2, .int (iI (cntR r v 0 j))), (1, .int (iI v)), (0, .ref (bs γ + n))] dX2_ductsFrom_27 rfl (by decide) rfl ?_
          refine v_goto (pc := 30) C 4 dX2_ductsFrom_30 (by decide) ?_
          exact v_lv _ [0, 1, 2, 3] (by rw [show cntR r v 0 (j + 1) = cntR r v 0 j from by rw [cntR]; first | rw [if_pos (by omega)] | (rw [if_neg (by omega)]; omega)]; rfl) (ih (j + 1) (by omega) (by omega))
        · refine v_iinc (pc := 24) C 1 [(2, .int (iI ((cntR r v 0 j) + 1))), (3, .int (iI (j : Int))), (1, .int (iI v)), (0, .ref (bs γ + n))] dX2_ductsFrom_24 rfl (by decide) rfl ?_
          refine v_iinc (pc := 27) C 1 [(3, .int (iI ((j : Int) + 1))), (2, .int (iI ((cntR r v 0 j) + 1))), (1, .int (iI v)), (0, .ref (bs γ + n))] dX2_ductsFrom_27 rfl (by decide) rfl ?_
          refine v_goto (pc := 30) C 4 dX2_ductsFrom_30 (by decide) ?_
          exact v_lv _ [0, 1, 2, 3] (by rw [show cntR r v 0 (j + 1) = (cntR r v 0 j) + 1 from by rw [cntR]; first | rw [if_pos (by omega)] | (rw [if_neg (by omega)]; omega)]; rfl) (ih (j + 1) (by omega) (by omega))
  exact v_lv _ [0, 1, 3, 2] rfl (L4 ((r 1).toNat + 1) 0 (by omega) (by omega))

set_option maxHeartbeats 4000000 in
set_option maxRecDepth 100000 in
theorem k_X2_ductsTo {γ : Gm} (G : Glo γ) {σ α : St} {n : Nat} {r : Int → Int} {v : Int} (hN : NetB n) (hR : Rep α r) (h : Wf r) (hv : R3 v) : Ct γ yX2_ductsTo cX2_ductsTo 4 (some .int) 1 [.ref (bs γ + n), .int (iI v)] (setN σ n α) (pI (fun z σ2 => z = cntR r v 2 (r 1).toNat ∧ σ2 = setN σ n α)) := by
  refine Ct.of G (by decide +kernel) (Nat.le_of_ble_eq_true rfl) (fun φ C hr => ?_)
  have C : Cx γ φ RX2 cX2_ductsTo 4 1 := C
  have hn0 := h.1
  have hn1 := h.2.1
  have hn4 := h.2.2.1
  have hn5 := h.2.2.2.1
  refine v_lv [(0, .ref (bs γ + n)), (1, .int (iI v))] [0, 1] rfl ?_
  refine v_iconst (pc := 0) C dX2_ductsTo_0 ?_
  refine v_istore_n (pc := 1) C [(2, .int (iI 0)), (0, .ref (bs γ + n)), (1, .int (iI v))] dX2_ductsTo_1 rfl (by decide) rfl ?_
  refine v_iconst (pc := 2) C dX2_ductsTo_2 ?_
  refine v_istore_n (pc := 3) C [(3, .int (iI 0)), (2, .int (iI 0)), (0, .ref (bs γ + n)), (1, .int (iI v))] dX2_ductsTo_3 rfl (by decide) rfl ?_
  have L4 : ∀ (fu : Nat) (j : Nat), (hj : (j : Int) ≤ r 1) → (r 1).toNat - j < fu → Vw γ φ 4 0 0 (QE γ φ (pI (fun z σ2 => z = cntR r v 2 (r 1).toNat ∧ σ2 = setN σ n α))) (setN σ n α) 4 [(3, .int (iI (j : Int))), (2, .int (iI (cntR r v 2 j))), (1, .int (iI v)), (0, .ref (bs γ + n))] [] := by
    intro fu
    induction fu with
    | zero => intro j hj hz; exact absurd hz (Nat.not_lt_zero _)
    | succ fu ih =>
      intro j hj hz
      have hcb := cntR_b r v 2 j
      refine v_iload_n (pc := 4) C 0 rfl dX2_ductsTo_4 ?_
      refine v_aload_n (pc := 5) C 3 rfl dX2_ductsTo_5 ?_
      refine v_getiM (pc := 6) C hN 3 (by decide) (wF_X2_58 G) rfl 3 rfl dX2_ductsTo_6 (fun z6 ez6 rz6 => ?_)
      rw [hR.nd] at ez6
      refine v_icmp_ge (pc := 9) C 33 (by first | omega | assumption) (by first | omega | assumption) dX2_ductsTo_9 (by decide) (fun h9 => ?_) (fun h9 => ?_)
      · refine v_iload_n (pc := 33) C 1 rfl dX2_ductsTo_33 ?_
        exact v_iret (pc := 34) C hr (rfl) dX2_ductsTo_34 (⟨_, rfl, by rw [show j = (r 1).toNat by omega], rfl⟩)
      · refine v_aload_n (pc := 12) C 3 rfl dX2_ductsTo_12 ?_
        refine v_getrN (pc := 13) C hN 11 8 (by decide) (wF_X2_33 G) rfl dX2_ductsTo_13 ?_
        refine v_iload_n (pc := 16) C 0 rfl dX2_ductsTo_16 ?_
        refine v_ialdN (pc := 17) C hN 8 (by decide) (m := 16) rfl (by first | omega | assumption) dX2_ductsTo_17 (fun z17 ez17 rz17 => ?_)
        have wz17 := ez17.trans (hR.2.2.2.1 (j : Int) (by omega) (by omega)).2.1
        obtain ⟨d0, d1, d2, d3, -⟩ := h.2.2.2.2.2 (j : Int) (by omega) (by omega)
        refine v_iconst (pc := 18) C dX2_ductsTo_18 ?_
        refine v_idiv (pc := 19) C (by first | omega | assumption) (by first | omega | assumption) dX2_ductsTo_19 ?_
        refine v_iload_n (pc := 20) C 2 rfl dX2_ductsTo_20 ?_
        refine v_icmp_ne (pc := 21) C 27 (by first | omega | assumption) (by first | omega | assumption) dX2_ductsTo_21 (by decide) (fun h21 => ?_) (fun h21 => ?_)
        · refine v_iinc (pc := 27) C 0 [(3, .int (iI ((j : Int) + 1))), (2, .int (iI (cntR r v 2 j))), (1, .int (iI v)), (0, .ref (bs γ + n))] dX2_ductsTo_27 rfl (by decide) rfl ?_
          refine v_goto (pc := 30) C 4 dX2_ductsTo_30 (by decide) ?_
          exact v_lv _ [0, 1, 2, 3] (by rw [show cntR r v 2 (j + 1) = cntR r v 2 j from by rw [cntR]; first | rw [if_pos (by omega)] | (rw [if_neg (by omega)]; omega)]; rfl) (ih (j + 1) (by omega) (by omega))
        · refine v_iinc (pc := 24) C 1 [(2, .int (iI ((cntR r v 2 j) + 1))), (3, .int (iI (j : Int))), (1, .int (iI v)), (0, .ref (bs γ + n))] dX2_ductsTo_24 rfl (by decide) rfl ?_
          refine v_iinc (pc := 27) C 1 [(3, .int (iI ((j : Int) + 1))), (2, .int (iI ((cntR r v 2 j) + 1))), (1, .int (iI v)), (0, .ref (bs γ + n))] dX2_ductsTo_27 rfl (by decide) rfl ?_
          refine v_goto (pc := 30) C 4 dX2_ductsTo_30 (by decide) ?_
          exact v_lv _ [0, 1, 2, 3] (by rw [show cntR r v 2 (j + 1) = (cntR r v 2 j) + 1 from by rw [cntR]; first | rw [if_pos (by omega)] | (rw [if_neg (by omega)]; omega)]; rfl) (ih (j + 1) (by omega) (by omega))
  exact v_lv _ [0, 1, 3, 2] rfl (L4 ((r 1).toNat + 1) 0 (by omega) (by omega))
