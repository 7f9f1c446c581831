set_option maxHeartbeats 4000000 in
set_option maxRecDepth 100000 in
theorem k_X2_putLegs {γ : Gm} (G : Glo γ) {σ α : St} {n : Nat} {e x y : Int} (hN : NetB n) (he : 0 ≤ e ∧ e + 1 < 20) (hx : R3 x) (hy : R3 y) : Ct γ yX2_putLegs cX2_putLegs 5 (some .boolean) 1 [.ref (bs γ + n), .int (iI e), .int (iI x), .int (iI y)] (setN σ n α) (pI (fun z σ2 => (z = 1 ∧ (¬ (α 5 e = x ∧ α 5 (e + 1) = y)) ∨ z = 0 ∧ ¬ (¬ (α 5 e = x ∧ α 5 (e + 1) = y))) ∧ σ2 = setN σ n (setc α 5 (upr (upr (α 5) e x) (e + 1) y)))) := by
  refine Ct.of G (by decide +kernel) (Nat.le_of_ble_eq_true rfl) (fun φ C hr => ?_)
  have C : Cx γ φ RX2 cX2_putLegs 5 1 := C
  refine v_lv [(0, .ref (bs γ + n)), (1, .int (iI e)), (2, .int (iI x)), (3, .int (iI y))] [0, 1, 2, 3] rfl ?_
  refine v_aload_n (pc := 0) C 0 rfl dX2_putLegs_0 ?_
  refine v_getrN (pc := 1) C hN 8 5 (by decide) (wF_X2_24 G) rfl dX2_putLegs_1 ?_
  refine v_iload_n (pc := 4) C 1 rfl dX2_putLegs_4 ?_
  refine v_ialdN (pc := 5) C hN 5 (by decide) (m := 20) rfl (by first | omega | assumption) dX2_putLegs_5 (fun z5 ez5 rz5 => ?_)
  refine v_iload_n (pc := 6) C 2 rfl dX2_putLegs_6 ?_
  refine v_icmp_ne (pc := 7) C 22 (by first | omega | assumption) (by first | omega | assumption) dX2_putLegs_7 (by decide) (fun h7 => ?_) (fun h7 => ?_)
  · refine v_iconst (pc := 22) C dX2_putLegs_22 ?_
    refine v_goto (pc := 23) C 27 dX2_putLegs_23 (by decide) ?_
    refine v_istore (pc := 27) C [(4, .int (iI 1)), (0, .ref (bs γ + n)), (1, .int (iI e)), (2, .int (iI x)), (3, .int (iI y))] dX2_putLegs_27 (by decide) rfl ?_
    refine v_aload_n (pc := 29) C 1 rfl dX2_putLegs_29 ?_
    refine v_getrN (pc := 30) C hN 8 5 (by decide) (wF_X2_24 G) rfl dX2_putLegs_30 ?_
    refine v_iload_n (pc := 33) C 2 rfl dX2_putLegs_33 ?_
    refine v_iload_n (pc := 34) C 3 rfl dX2_putLegs_34 ?_
    refine v_iastN (pc := 35) C hN 5 (by decide) (m := 20) rfl (by first | omega | assumption) (by first | omega | assumption) dX2_putLegs_35 ?_
    refine v_aload_n (pc := 36) C 1 rfl dX2_putLegs_36 ?_
    refine v_getrN (pc := 37) C hN 8 5 (by decide) (wF_X2_24 G) rfl dX2_putLegs_37 ?_
    refine v_iload_n (pc := 40) C 2 rfl dX2_putLegs_40 ?_
    refine v_iconst (pc := 41) C dX2_putLegs_41 ?_
    refine v_iadd (pc := 42) C dX2_putLegs_42 ?_
    refine v_iload_n (pc := 43) C 4 rfl dX2_putLegs_43 ?_
    refine v_iastN (pc := 44) C hN 5 (by decide) (m := 20) rfl (by first | omega | assumption) (by first | omega | assumption) dX2_putLegs_44 ?_
    refine v_iload (pc := 45) C 0 rfl dX2_putLegs_45 ?_
    exact v_iret (pc := 47) C hr (rfl) dX2_putLegs_47 (⟨_, rfl, Or.inl ⟨rfl, by omega⟩, by rw [setc_at, setc_setc]⟩)
  · refine v_aload_n (pc := 10) C 0 rfl dX2_putLegs_10 ?_
    refine v_getrN (pc := 11) C hN 8 5 (by decide) (wF_X2_24 G) rfl dX2_putLegs_11 ?_
    refine v_iload_n (pc := 14) C 1 rfl dX2_putLegs_14 ?_
    refine v_iconst (pc := 15) C dX2_putLegs_15 ?_
    refine v_iadd (pc := 16) C dX2_putLegs_16 ?_
    refine v_ialdN (pc := 17) C hN 5 (by decide) (m := 20) rfl (by first | omega | assumption) dX2_putLegs_17 (fun z17 ez17 rz17 => ?_)
    refine v_iload_n (pc := 18) C 3 rfl dX2_putLegs_18 ?_
    refine v_icmp_eq (pc := 19) C 26 (by first | omega | assumption) (by first | omega | assumption) dX2_putLegs_19 (by decide) (fun h19 => ?_) (fun h19 => ?_)
    · refine v_iconst (pc := 26) C dX2_putLegs_26 ?_
      refine v_istore (pc := 27) C [(4, .int (iI 0)), (0, .ref (bs γ + n)), (1, .int (iI e)), (2, .int (iI x)), (3, .int (iI y))] dX2_putLegs_27 (by decide) rfl ?_
      refine v_aload_n (pc := 29) C 1 rfl dX2_putLegs_29 ?_
      refine v_getrN (pc := 30) C hN 8 5 (by decide) (wF_X2_24 G) rfl dX2_putLegs_30 ?_
      refine v_iload_n (pc := 33) C 2 rfl dX2_putLegs_33 ?_
      refine v_iload_n (pc := 34) C 3 rfl dX2_putLegs_34 ?_
      refine v_iastN (pc := 35) C hN 5 (by decide) (m := 20) rfl (by first | omega | assumption) (by first | omega | assumption) dX2_putLegs_35 ?_
      refine v_aload_n (pc := 36) C 1 rfl dX2_putLegs_36 ?_
      refine v_getrN (pc := 37) C hN 8 5 (by decide) (wF_X2_24 G) rfl dX2_putLegs_37 ?_
      refine v_iload_n (pc := 40) C 2 rfl dX2_putLegs_40 ?_
      refine v_iconst (pc := 41) C dX2_putLegs_41 ?_
      refine v_iadd (pc := 42) C dX2_putLegs_42 ?_
      refine v_iload_n (pc := 43) C 4 rfl dX2_putLegs_43 ?_
      refine v_iastN (pc := 44) C hN 5 (by decide) (m := 20) rfl (by first | omega | assumption) (by first | omega | assumption) dX2_putLegs_44 ?_
      refine v_iload (pc := 45) C 0 rfl dX2_putLegs_45 ?_
      exact v_iret (pc := 47) C hr (rfl) dX2_putLegs_47 (⟨_, rfl, Or.inr ⟨rfl, by omega⟩, by rw [setc_at, setc_setc]⟩)
    · refine v_iconst (pc := 22) C dX2_putLegs_22 ?_
      refine v_goto (pc := 23) C 27 dX2_putLegs_23 (by decide) ?_
      refine v_istore (pc := 27) C [(4, .int (iI 1)), (0, .ref (bs γ + n)), (1, .int (iI e)), (2, .int (iI x)), (3, .int (iI y))] dX2_putLegs_27 (by decide) rfl ?_
      refine v_aload_n (pc := 29) C 1 rfl dX2_putLegs_29 ?_
      refine v_getrN (pc := 30) C hN 8 5 (by decide) (wF_X2_24 G) rfl dX2_putLegs_30 ?_
      refine v_iload_n (pc := 33) C 2 rfl dX2_putLegs_33 ?_
      refine v_iload_n (pc := 34) C 3 rfl dX2_putLegs_34 ?_
      refine v_iastN (pc := 35) C hN 5 (by decide) (m := 20) rfl (by first | omega | assumption) (by first | omega | assumption) dX2_putLegs_35 ?_
      refine v_aload_n (pc := 36) C 1 rfl dX2_putLegs_36 ?_
      refine v_getrN (pc := 37) C hN 8 5 (by decide) (wF_X2_24 G) rfl dX2_putLegs_37 ?_
      refine v_iload_n (pc := 40) C 2 rfl dX2_putLegs_40 ?_
      refine v_iconst (pc := 41) C dX2_putLegs_41 ?_
      refine v_iadd (pc := 42) C dX2_putLegs_42 ?_
      refine v_iload_n (pc := 43) C 4 rfl dX2_putLegs_43 ?_
      refine v_iastN (pc := 44) C hN 5 (by decide) (m := 20) rfl (by first | omega | assumption) (by first | omega | assumption) dX2_putLegs_44 ?_
      refine v_iload (pc := 45) C 0 rfl dX2_putLegs_45 ?_
      exact v_iret (pc := 47) C hr (rfl) dX2_putLegs_47 (⟨_, rfl, Or.inl ⟨rfl, by omega⟩, by rw [setc_at, setc_setc]⟩)

set_option maxHeartbeats 4000000 in
set_option maxRecDepth 100000 in
theorem k_X2_supplyLeg {γ : Gm} (G : Glo γ) {σ α : St} {n : Nat} {r : Int → Int} {v g : Int} (hN : NetB n) (hR : Rep α r) (hn0 : 0 ≤ r 0 ∧ r 0 ≤ 10) (hv : 0 ≤ v ∧ v < r 0) (hg : g = 0 ∨ g = 1) : Ct γ yX2_supplyLeg cX2_supplyLeg 4 (some .boolean) 2 [.ref (bs γ + n), .int (iI v), .int (iI g)] (setN σ n α) (pI (fun z σ2 => (z = 1 ∧ LDf r (layR r v g (r (6 + 7 * v + 1))) v ∨ z = 0 ∧ ¬ LDf r (layR r v g (r (6 + 7 * v + 1))) v) ∧ ∃ α2, Rep α2 (layR r v g (r (6 + 7 * v + 1))) ∧ σ2 = setN σ n α2)) := by
  refine Ct.of G (by decide +kernel) (Nat.le_of_ble_eq_true rfl) (fun φ C hr => ?_)
  have C : Cx γ φ RX2 cX2_supplyLeg 4 2 := C
  refine v_lv [(0, .ref (bs γ + n)), (1, .int (iI v)), (2, .int (iI g))] [0, 1, 2] rfl ?_
  refine v_iload_n (pc := 0) C 1 rfl dX2_supplyLeg_0 ?_
  refine v_iconst (pc := 1) C dX2_supplyLeg_1 ?_
  refine v_csN (pc := 2) (as := [.int (iI v), .int (iI 0)]) C (cy_X5_endOf G) (wN_X2_75 G) (k_X5_endOf G) dX2_supplyLeg_2 rfl rfl (by decide) (by decide) (Nat.le_of_ble_eq_true rfl) zc (k_I (fun z2 s2 q2 => ?_))
  obtain ⟨ez2, rfl⟩ := q2
  refine v_istore_n (pc := 5) C [(3, .int (iI z2)), (0, .ref (bs γ + n)), (1, .int (iI v)), (2, .int (iI g))] dX2_supplyLeg_5 rfl (by decide) rfl ?_
  refine v_iload_n (pc := 6) C 3 rfl dX2_supplyLeg_6 ?_
  refine v_if_ne (pc := 7) C 25 (by first | omega | assumption) dX2_supplyLeg_7 (by decide) (fun h7 => ?_) (fun h7 => ?_)
  · refine v_aload_n (pc := 25) C 1 rfl dX2_supplyLeg_25 ?_
    refine v_iload_n (pc := 26) C 0 rfl dX2_supplyLeg_26 ?_
    refine v_iconst (pc := 27) C dX2_supplyLeg_27 ?_
    refine v_aload_n (pc := 28) C 1 rfl dX2_supplyLeg_28 ?_
    refine v_getrN (pc := 29) C hN 6 3 (by decide) (wF_X2_18 G) rfl dX2_supplyLeg_29 ?_
    refine v_iload_n (pc := 32) C 2 rfl dX2_supplyLeg_32 ?_
    refine v_ialdN (pc := 33) C hN 3 (by decide) (m := 10) rfl (by first | omega | assumption) dX2_supplyLeg_33 (fun z33 ez33 rz33 => ?_)
    have wz33 : z33 = r (6 + 7 * v + 1) := ez33.trans (hR.2.1 v hv.1 hv.2).2.1
    refine v_cv (pc := 34) (as := [.int (iI z2), .int (iI 0), .int (iI z33)]) C (cy_X2_putLegs G) (wM_X2_126 G) (show sh n = (5, 1) from hN.sh (k := 0) (by decide)) (ci := 1) rfl rfl (k_X2_putLegs G hN (by omega) (by first | omega | assumption) (by first | omega | assumption)) dX2_supplyLeg_34 rfl rfl (by decide) (by decide) (Nat.le_of_ble_eq_true rfl) zc (k_I (fun z34 s34 q34 => ?_))
    rcases q34 with ⟨⟨rfl, q34⟩ | ⟨rfl, q34⟩, rfl⟩
    · exact v_iret (pc := 37) C hr (rfl) dX2_supplyLeg_37 (by subst wz33; subst ez2; exact ⟨_, rfl, Or.inl ⟨rfl, (LDf_rep hR hv (by rw [layR_3 _ _ _ (by omega)]; first | rw [if_pos (by omega)] | rw [if_neg (by omega)]) (by rw [layR_4 _ _ _ (by omega)]; first | rw [if_pos (by omega)] | rw [if_neg (by omega)])).mpr q34⟩, _, hR.lay2 hv hn0.2 (by rw [layR_3 _ _ _ (by omega)]; first | rw [if_pos (by omega)] | rw [if_neg (by omega)]) (by rw [layR_4 _ _ _ (by omega)]; first | rw [if_pos (by omega)] | rw [if_neg (by omega)]) (fun i i1 i2 => layR_out _ (by omega) i1 i2), rfl⟩)
    · exact v_iret (pc := 37) C hr (rfl) dX2_supplyLeg_37 (by subst wz33; subst ez2; exact ⟨_, rfl, Or.inr ⟨rfl, fun hl => q34 ((LDf_rep hR hv (by rw [layR_3 _ _ _ (by omega)]; first | rw [if_pos (by omega)] | rw [if_neg (by omega)]) (by rw [layR_4 _ _ _ (by omega)]; first | rw [if_pos (by omega)] | rw [if_neg (by omega)])).mp hl)⟩, _, hR.lay2 hv hn0.2 (by rw [layR_3 _ _ _ (by omega)]; first | rw [if_pos (by omega)] | rw [if_neg (by omega)]) (by rw [layR_4 _ _ _ (by omega)]; first | rw [if_pos (by omega)] | rw [if_neg (by omega)]) (fun i i1 i2 => layR_out _ (by omega) i1 i2), rfl⟩)
  · refine v_aload_n (pc := 10) C 1 rfl dX2_supplyLeg_10 ?_
    refine v_iload_n (pc := 11) C 0 rfl dX2_supplyLeg_11 ?_
    refine v_aload_n (pc := 12) C 1 rfl dX2_supplyLeg_12 ?_
    refine v_getrN (pc := 13) C hN 6 3 (by decide) (wF_X2_18 G) rfl dX2_supplyLeg_13 ?_
    refine v_iload_n (pc := 16) C 2 rfl dX2_supplyLeg_16 ?_
    refine v_ialdN (pc := 17) C hN 3 (by decide) (m := 10) rfl (by first | omega | assumption) dX2_supplyLeg_17 (fun z17 ez17 rz17 => ?_)
    have wz17 : z17 = r (6 + 7 * v + 1) := ez17.trans (hR.2.1 v hv.1 hv.2).2.1
    refine v_iconst (pc := 18) C dX2_supplyLeg_18 ?_
    refine v_cv (pc := 19) (as := [.int (iI z2), .int (iI z17), .int (iI 0)]) C (cy_X2_putLegs G) (wM_X2_126 G) (show sh n = (5, 1) from hN.sh (k := 0) (by decide)) (ci := 1) rfl rfl (k_X2_putLegs G hN (by omega) (by first | omega | assumption) (by first | omega | assumption)) dX2_supplyLeg_19 rfl rfl (by decide) (by decide) (Nat.le_of_ble_eq_true rfl) zc (k_I (fun z19 s19 q19 => ?_))
    rcases q19 with ⟨⟨rfl, q19⟩ | ⟨rfl, q19⟩, rfl⟩
    · refine v_goto (pc := 22) C 37 dX2_supplyLeg_22 (by decide) ?_
      exact v_iret (pc := 37) C hr (rfl) dX2_supplyLeg_37 (by subst wz17; subst ez2; exact ⟨_, rfl, Or.inl ⟨rfl, (LDf_rep hR hv (by rw [layR_3 _ _ _ (by omega)]; first | rw [if_pos (by omega)] | rw [if_neg (by omega)]) (by rw [layR_4 _ _ _ (by omega)]; first | rw [if_pos (by omega)] | rw [if_neg (by omega)])).mpr q19⟩, _, hR.lay2 hv hn0.2 (by rw [layR_3 _ _ _ (by omega)]; first | rw [if_pos (by omega)] | rw [if_neg (by omega)]) (by rw [layR_4 _ _ _ (by omega)]; first | rw [if_pos (by omega)] | rw [if_neg (by omega)]) (fun i i1 i2 => layR_out _ (by omega) i1 i2), rfl⟩)
    · refine v_goto (pc := 22) C 37 dX2_supplyLeg_22 (by decide) ?_
      exact v_iret (pc := 37) C hr (rfl) dX2_supplyLeg_37 (by subst wz17; subst ez2; exact ⟨_, rfl, Or.inr ⟨rfl, fun hl => q19 ((LDf_rep hR hv (by rw [layR_3 _ _ _ (by omega)]; first | rw [if_pos (by omega)] | rw [if_neg (by omega)]) (by rw [layR_4 _ _ _ (by omega)]; first | rw [if_pos (by omega)] | rw [if_neg (by omega)])).mp hl)⟩, _, hR.lay2 hv hn0.2 (by rw [layR_3 _ _ _ (by omega)]; first | rw [if_pos (by omega)] | rw [if_neg (by omega)]) (by rw [layR_4 _ _ _ (by omega)]; first | rw [if_pos (by omega)] | rw [if_neg (by omega)]) (fun i i1 i2 => layR_out _ (by omega) i1 i2), rfl⟩)

set_option maxHeartbeats 4000000 in
set_option maxRecDepth 100000 in
theorem k_X2_turnWallJet {γ : Gm} (G : Glo γ) {σ α : St} {n : Nat} {r : Int → Int} {v : Int} (hN : NetB n) (hR : Rep α r) (h : Wf r) (hv : 0 ≤ v ∧ v < r 0) : Ct γ yX2_turnWallJet cX2_turnWallJet 4 (some .int) 2 [.ref (bs γ + n), .int (iI v)] (setN σ n α) (pI (fun z σ2 => (z = wallR r v (6 + 7 * v + 2) ∧ 0 ≤ z ∧ z ≤ 1) ∧ ∃ α2, Rep α2 (wallR r v) ∧ σ2 = setN σ n α2)) := by
  refine Ct.of G (by decide +kernel) (Nat.le_of_ble_eq_true rfl) (fun φ C hr => ?_)
  have C : Cx γ φ RX2 cX2_turnWallJet 4 2 := C
  have hn0 := h.1
  have hn1 := h.2.1
  have hn4 := h.2.2.1
  have hn5 := h.2.2.2.1
  have hsi := h.si hv
  refine v_ok (fun hz => ?_)
  have hr3 := hz.1 n 1
  rw [show setN σ n α n = α 0 from setN_at σ n α (k := 0) (by decide), hR.1.2.1] at hr3
  refine v_lv [(0, .ref (bs γ + n)), (1, .int (iI v))] [0, 1] rfl ?_
  refine v_aload_n (pc := 0) C 0 rfl dX2_turnWallJet_0 ?_
  refine v_iload_n (pc := 1) C 1 rfl dX2_turnWallJet_1 ?_
  refine v_iconst (pc := 2) C dX2_turnWallJet_2 ?_
  refine v_csN (pc := 3) (as := [.int (iI v), .int (iI 0)]) C (cy_X5_endOf G) (wN_X2_75 G) (k_X5_endOf G) dX2_turnWallJet_3 rfl rfl (by decide) (by decide) (Nat.le_of_ble_eq_true rfl) zc (k_I (fun z3 s3 q3 => ?_))
  obtain ⟨ez3, rfl⟩ := q3
  refine v_cv (pc := 6) (as := [.int (iI z3)]) C (cy_X2_works G) (wM_X2_120 G) (show sh n = (5, 1) from hN.sh (k := 0) (by decide)) (ci := 1) rfl rfl (k_X2_works G hN hR h (v := v) (g := 0) (by omega) (by omega) (by omega)) dX2_turnWallJet_6 rfl rfl (by decide) (by decide) (Nat.le_of_ble_eq_true rfl) zc (k_I (fun z6 s6 q6 => ?_))
  rcases q6 with ⟨⟨rfl, q6⟩ | ⟨rfl, q6⟩, rfl⟩
  · refine v_istore_n (pc := 9) C [(2, .int (iI 1)), (0, .ref (bs γ + n)), (1, .int (iI v))] dX2_turnWallJet_9 rfl (by decide) rfl ?_
    refine v_aload_n (pc := 10) C 1 rfl dX2_turnWallJet_10 ?_
    refine v_iload_n (pc := 11) C 2 rfl dX2_turnWallJet_11 ?_
    refine v_iconst (pc := 12) C dX2_turnWallJet_12 ?_
    refine v_csN (pc := 13) (as := [.int (iI v), .int (iI 1)]) C (cy_X5_endOf G) (wN_X2_75 G) (k_X5_endOf G) dX2_turnWallJet_13 rfl rfl (by decide) (by decide) (Nat.le_of_ble_eq_true rfl) zc (k_I (fun z13 s13 q13 => ?_))
    obtain ⟨ez13, rfl⟩ := q13
    refine v_cv (pc := 16) (as := [.int (iI z13)]) C (cy_X2_works G) (wM_X2_120 G) (show sh n = (5, 1) from hN.sh (k := 0) (by decide)) (ci := 1) rfl rfl (k_X2_works G hN hR h (v := v) (g := 1) (by omega) (by omega) (by omega)) dX2_turnWallJet_16 rfl rfl (by decide) (by decide) (Nat.le_of_ble_eq_true rfl) zc (k_I (fun z16 s16 q16 => ?_))
    rcases q16 with ⟨⟨rfl, q16⟩ | ⟨rfl, q16⟩, rfl⟩
    · refine v_istore_n (pc := 19) C [(3, .int (iI 1)), (2, .int (iI 1)), (0, .ref (bs γ + n)), (1, .int (iI v))] dX2_turnWallJet_19 rfl (by decide) rfl ?_
      refine v_iload_n (pc := 20) C 1 rfl dX2_turnWallJet_20 ?_
      refine v_iload_n (pc := 21) C 0 rfl dX2_turnWallJet_21 ?_
      refine v_icmp_eq (pc := 22) C 67 (by first | omega | assumption) (by first | omega | assumption) dX2_turnWallJet_22 (by decide) (fun _ => ?_) (fun h => absurd h (by decide))
      have hE : wallR r v = r := by unfold wallR; rw [if_neg (fun hh => hh.2 (show worksR r v 6 from q16)), if_neg (fun hh => hh.1 (show worksR r v 5 from q6))]
      have hR8 : Rep α (wallR r v) := by rw [hE]; exact hR
      obtain ⟨α8, hα8⟩ : ∃ α8, α8 = α := ⟨_, rfl⟩
      rw [← hα8] at hR8 ⊢
      refine v_aload_n (pc := 67) C 2 rfl dX2_turnWallJet_67 ?_
      refine v_getrN (pc := 68) C hN 7 4 (by decide) (wF_X2_21 G) rfl dX2_turnWallJet_68 ?_
      refine v_iload_n (pc := 71) C 3 rfl dX2_turnWallJet_71 ?_
      refine v_ialdN (pc := 72) C hN 4 (by decide) (m := 10) rfl (by first | omega | assumption) dX2_turnWallJet_72 (fun z72 ez72 rz72 => ?_)
      have wz72 : z72 = wallR r v (6 + 7 * v + 2) := ez72.trans (hR8.2.1 v hv.1 (by rw [wallR_out r (by omega) (by omega)]; exact hv.2)).2.2
      exact v_iret (pc := 73) C hr (rfl) dX2_turnWallJet_73 (⟨_, rfl, ⟨wz72, by rw [wz72]; exact wallR_si (h.si hv)⟩, α8, hR8, rfl⟩)
    · refine v_istore_n (pc := 19) C [(3, .int (iI 0)), (2, .int (iI 1)), (0, .ref (bs γ + n)), (1, .int (iI v))] dX2_turnWallJet_19 rfl (by decide) rfl ?_
      refine v_iload_n (pc := 20) C 1 rfl dX2_turnWallJet_20 ?_
      refine v_iload_n (pc := 21) C 0 rfl dX2_turnWallJet_21 ?_
      refine v_icmp_eq (pc := 22) C 67 (by first | omega | assumption) (by first | omega | assumption) dX2_turnWallJet_22 (by decide) (fun h => absurd h (by decide)) (fun _ => ?_)
      refine v_aload_n (pc := 25) C 2 rfl dX2_turnWallJet_25 ?_
      refine v_getrN (pc := 26) C hN 7 4 (by decide) (wF_X2_21 G) rfl dX2_turnWallJet_26 ?_
      refine v_iload_n (pc := 29) C 3 rfl dX2_turnWallJet_29 ?_
      refine v_ialdN (pc := 30) C hN 4 (by decide) (m := 10) rfl (by first | omega | assumption) dX2_turnWallJet_30 (fun z30 ez30 rz30 => ?_)
      have wz30 : z30 = r (6 + 7 * v + 2) := ez30.trans (hR.2.1 v hv.1 hv.2).2.2
      refine v_iload_n (pc := 31) C 1 rfl dX2_turnWallJet_31 ?_
      refine v_if_eq (pc := 32) C 39 (by first | omega | assumption) dX2_turnWallJet_32 (by decide) (fun h => absurd h (by decide)) (fun _ => ?_)
      refine v_iconst (pc := 35) C dX2_turnWallJet_35 ?_
      refine v_goto (pc := 36) C 40 dX2_turnWallJet_36 (by decide) ?_
      refine v_icmp_eq (pc := 40) C 67 (by first | omega | assumption) (by first | omega | assumption) dX2_turnWallJet_40 (by decide) (fun h40 => ?_) (fun h40 => ?_)
      · have hE : wallR r v = goesR r v 1 := by unfold wallR; rw [if_pos ⟨(show worksR r v 5 from q6), (show ¬ worksR r v 6 from q16)⟩]
        have hR8 : Rep α (wallR r v) := by rw [hE, goesR_same (by omega) hr3]; exact hR
        obtain ⟨α8, hα8⟩ : ∃ α8, α8 = α := ⟨_, rfl⟩
        rw [← hα8] at hR8 ⊢
        refine v_aload_n (pc := 67) C 2 rfl dX2_turnWallJet_67 ?_
        refine v_getrN (pc := 68) C hN 7 4 (by decide) (wF_X2_21 G) rfl dX2_turnWallJet_68 ?_
        refine v_iload_n (pc := 71) C 3 rfl dX2_turnWallJet_71 ?_
        refine v_ialdN (pc := 72) C hN 4 (by decide) (m := 10) rfl (by first | omega | assumption) dX2_turnWallJet_72 (fun z72_1 ez72_1 rz72_1 => ?_)
        have wz72_1 : z72_1 = wallR r v (6 + 7 * v + 2) := ez72_1.trans (hR8.2.1 v hv.1 (by rw [wallR_out r (by omega) (by omega)]; exact hv.2)).2.2
        exact v_iret (pc := 73) C hr (rfl) dX2_turnWallJet_73 (⟨_, rfl, ⟨wz72_1, by rw [wz72_1]; exact wallR_si (h.si hv)⟩, α8, hR8, rfl⟩)
      · refine v_aload_n (pc := 43) C 2 rfl dX2_turnWallJet_43 ?_
        refine v_getrN (pc := 44) C hN 7 4 (by decide) (wF_X2_21 G) rfl dX2_turnWallJet_44 ?_
        refine v_iload_n (pc := 47) C 3 rfl dX2_turnWallJet_47 ?_
        refine v_iconst (pc := 48) C dX2_turnWallJet_48 ?_
        refine v_aload_n (pc := 49) C 2 rfl dX2_turnWallJet_49 ?_
        refine v_getrN (pc := 50) C hN 7 4 (by decide) (wF_X2_21 G) rfl dX2_turnWallJet_50 ?_
        refine v_iload_n (pc := 53) C 3 rfl dX2_turnWallJet_53 ?_
        refine v_ialdN (pc := 54) C hN 4 (by decide) (m := 10) rfl (by first | omega | assumption) dX2_turnWallJet_54 (fun z54 ez54 rz54 => ?_)
        have wz54 : z54 = r (6 + 7 * v + 2) := ez54.trans (hR.2.1 v hv.1 hv.2).2.2
        refine v_isub (pc := 55) C dX2_turnWallJet_55 ?_
        refine v_iastN (pc := 56) C hN 4 (by decide) (m := 10) rfl (by first | omega | assumption) (by first | omega | assumption) dX2_turnWallJet_56 ?_
        refine v_aload_n (pc := 57) C 2 rfl dX2_turnWallJet_57 ?_
        refine v_dup (pc := 58) C rfl dX2_turnWallJet_58 ?_
        refine v_getiM (pc := 59) C hN 1 (by decide) (wF_X2_52 G) rfl 1 rfl dX2_turnWallJet_59 (fun z59 ez59 rz59 => ?_)
        refine v_iconst (pc := 62) C dX2_turnWallJet_62 ?_
        refine v_iadd (pc := 63) C dX2_turnWallJet_63 ?_
        refine v_bm ?_
        refine v_putiM (pc := 64) C hN 1 (by decide) (wF_X2_52 G) rfl rfl 1 rfl (bmz_r _) dX2_turnWallJet_64 ?_
        have hE : wallR r v = goesR r v 1 := by unfold wallR; rw [if_pos ⟨(show worksR r v 5 from q6), (show ¬ worksR r v 6 from q16)⟩]
        have hR8 := hR.goes (g := 1) hv hn0.2 (by omega)
        rw [← hE] at hR8
        rw [show 1 - z54 = 1 by omega, show z59 = α 0 1 from ez59]
        obtain ⟨α8, hα8⟩ : ∃ α8, α8 = setc (setc α 4 (upr (α 4) v 1)) 0 (upr (α 0) 1 (bmz (α 0 1 + 1))) := ⟨_, rfl⟩
        refine v_st (show _ = setN σ n α8 from by rw [hα8]; rfl) ?_
        rw [← hα8] at hR8
        refine v_aload_n (pc := 67) C 2 rfl dX2_turnWallJet_67 ?_
        refine v_getrN (pc := 68) C hN 7 4 (by decide) (wF_X2_21 G) rfl dX2_turnWallJet_68 ?_
        refine v_iload_n (pc := 71) C 3 rfl dX2_turnWallJet_71 ?_
        refine v_ialdN (pc := 72) C hN 4 (by decide) (m := 10) rfl (by first | omega | assumption) dX2_turnWallJet_72 (fun z72_2 ez72_2 rz72_2 => ?_)
        have wz72_2 : z72_2 = wallR r v (6 + 7 * v + 2) := ez72_2.trans (hR8.2.1 v hv.1 (by rw [wallR_out r (by omega) (by omega)]; exact hv.2)).2.2
        exact v_iret (pc := 73) C hr (rfl) dX2_turnWallJet_73 (⟨_, rfl, ⟨wz72_2, by rw [wz72_2]; exact wallR_si (h.si hv)⟩, α8, hR8, rfl⟩)
  · refine v_istore_n (pc := 9) C [(2, .int (iI 0)), (0, .ref (bs γ + n)), (1, .int (iI v))] dX2_turnWallJet_9 rfl (by decide) rfl ?_
    refine v_aload_n (pc := 10) C 1 rfl dX2_turnWallJet_10 ?_
    refine v_iload_n (pc := 11) C 2 rfl dX2_turnWallJet_11 ?_
    refine v_iconst (pc := 12) C dX2_turnWallJet_12 ?_
    refine v_csN (pc := 13) (as := [.int (iI v), .int (iI 1)]) C (cy_X5_endOf G) (wN_X2_75 G) (k_X5_endOf G) dX2_turnWallJet_13 rfl rfl (by decide) (by decide) (Nat.le_of_ble_eq_true rfl) zc (k_I (fun z13_1 s13_1 q13_1 => ?_))
    obtain ⟨ez13_1, rfl⟩ := q13_1
    refine v_cv (pc := 16) (as := [.int (iI z13_1)]) C (cy_X2_works G) (wM_X2_120 G) (show sh n = (5, 1) from hN.sh (k := 0) (by decide)) (ci := 1) rfl rfl (k_X2_works G hN hR h (v := v) (g := 1) (by omega) (by omega) (by omega)) dX2_turnWallJet_16 rfl rfl (by decide) (by decide) (Nat.le_of_ble_eq_true rfl) zc (k_I (fun z16_1 s16_1 q16_1 => ?_))
    rcases q16_1 with ⟨⟨rfl, q16_1⟩ | ⟨rfl, q16_1⟩, rfl⟩
    · refine v_istore_n (pc := 19) C [(3, .int (iI 1)), (2, .int (iI 0)), (0, .ref (bs γ + n)), (1, .int (iI v))] dX2_turnWallJet_19 rfl (by decide) rfl ?_
      refine v_iload_n (pc := 20) C 1 rfl dX2_turnWallJet_20 ?_
      refine v_iload_n (pc := 21) C 0 rfl dX2_turnWallJet_21 ?_
      refine v_icmp_eq (pc := 22) C 67 (by first | omega | assumption) (by first | omega | assumption) dX2_turnWallJet_22 (by decide) (fun h => absurd h (by decide)) (fun _ => ?_)
      refine v_aload_n (pc := 25) C 2 rfl dX2_turnWallJet_25 ?_
      refine v_getrN (pc := 26) C hN 7 4 (by decide) (wF_X2_21 G) rfl dX2_turnWallJet_26 ?_
      refine v_iload_n (pc := 29) C 3 rfl dX2_turnWallJet_29 ?_
      refine v_ialdN (pc := 30) C hN 4 (by decide) (m := 10) rfl (by first | omega | assumption) dX2_turnWallJet_30 (fun z30_1 ez30_1 rz30_1 => ?_)
      have wz30_1 : z30_1 = r (6 + 7 * v + 2) := ez30_1.trans (hR.2.1 v hv.1 hv.2).2.2
      refine v_iload_n (pc := 31) C 1 rfl dX2_turnWallJet_31 ?_
      refine v_if_eq (pc := 32) C 39 (by first | omega | assumption) dX2_turnWallJet_32 (by decide) (fun _ => ?_) (fun h => absurd h (by decide))
      refine v_iconst (pc := 39) C dX2_turnWallJet_39 ?_
      refine v_icmp_eq (pc := 40) C 67 (by first | omega | assumption) (by first | omega | assumption) dX2_turnWallJet_40 (by decide) (fun h40_1 => ?_) (fun h40_1 => ?_)
      · have hE : wallR r v = goesR r v 0 := by unfold wallR; rw [if_neg (fun hh => (show ¬ worksR r v 5 from q6) hh.1), if_pos ⟨(show ¬ worksR r v 5 from q6), (show worksR r v 6 from q16_1)⟩]
        have hR8 : Rep α (wallR r v) := by rw [hE, goesR_same (by omega) hr3]; exact hR
        obtain ⟨α8, hα8⟩ : ∃ α8, α8 = α := ⟨_, rfl⟩
        rw [← hα8] at hR8 ⊢
        refine v_aload_n (pc := 67) C 2 rfl dX2_turnWallJet_67 ?_
        refine v_getrN (pc := 68) C hN 7 4 (by decide) (wF_X2_21 G) rfl dX2_turnWallJet_68 ?_
        refine v_iload_n (pc := 71) C 3 rfl dX2_turnWallJet_71 ?_
        refine v_ialdN (pc := 72) C hN 4 (by decide) (m := 10) rfl (by first | omega | assumption) dX2_turnWallJet_72 (fun z72_3 ez72_3 rz72_3 => ?_)
        have wz72_3 : z72_3 = wallR r v (6 + 7 * v + 2) := ez72_3.trans (hR8.2.1 v hv.1 (by rw [wallR_out r (by omega) (by omega)]; exact hv.2)).2.2
        exact v_iret (pc := 73) C hr (rfl) dX2_turnWallJet_73 (⟨_, rfl, ⟨wz72_3, by rw [wz72_3]; exact wallR_si (h.si hv)⟩, α8, hR8, rfl⟩)
      · refine v_aload_n (pc := 43) C 2 rfl dX2_turnWallJet_43 ?_
        refine v_getrN (pc := 44) C hN 7 4 (by decide) (wF_X2_21 G) rfl dX2_turnWallJet_44 ?_
        refine v_iload_n (pc := 47) C 3 rfl dX2_turnWallJet_47 ?_
        refine v_iconst (pc := 48) C dX2_turnWallJet_48 ?_
        refine v_aload_n (pc := 49) C 2 rfl dX2_turnWallJet_49 ?_
        refine v_getrN (pc := 50) C hN 7 4 (by decide) (wF_X2_21 G) rfl dX2_turnWallJet_50 ?_
        refine v_iload_n (pc := 53) C 3 rfl dX2_turnWallJet_53 ?_
        refine v_ialdN (pc := 54) C hN 4 (by decide) (m := 10) rfl (by first | omega | assumption) dX2_turnWallJet_54 (fun z54_1 ez54_1 rz54_1 => ?_)
        have wz54_1 : z54_1 = r (6 + 7 * v + 2) := ez54_1.trans (hR.2.1 v hv.1 hv.2).2.2
        refine v_isub (pc := 55) C dX2_turnWallJet_55 ?_
        refine v_iastN (pc := 56) C hN 4 (by decide) (m := 10) rfl (by first | omega | assumption) (by first | omega | assumption) dX2_turnWallJet_56 ?_
        refine v_aload_n (pc := 57) C 2 rfl dX2_turnWallJet_57 ?_
        refine v_dup (pc := 58) C rfl dX2_turnWallJet_58 ?_
        refine v_getiM (pc := 59) C hN 1 (by decide) (wF_X2_52 G) rfl 1 rfl dX2_turnWallJet_59 (fun z59_1 ez59_1 rz59_1 => ?_)
        refine v_iconst (pc := 62) C dX2_turnWallJet_62 ?_
        refine v_iadd (pc := 63) C dX2_turnWallJet_63 ?_
        refine v_bm ?_
        refine v_putiM (pc := 64) C hN 1 (by decide) (wF_X2_52 G) rfl rfl 1 rfl (bmz_r _) dX2_turnWallJet_64 ?_
        have hE : wallR r v = goesR r v 0 := by unfold wallR; rw [if_neg (fun hh => (show ¬ worksR r v 5 from q6) hh.1), if_pos ⟨(show ¬ worksR r v 5 from q6), (show worksR r v 6 from q16_1)⟩]
        have hR8 := hR.goes (g := 0) hv hn0.2 (by omega)
        rw [← hE] at hR8
        rw [show 1 - z54_1 = 0 by omega, show z59_1 = α 0 1 from ez59_1]
        obtain ⟨α8, hα8⟩ : ∃ α8, α8 = setc (setc α 4 (upr (α 4) v 0)) 0 (upr (α 0) 1 (bmz (α 0 1 + 1))) := ⟨_, rfl⟩
        refine v_st (show _ = setN σ n α8 from by rw [hα8]; rfl) ?_
        rw [← hα8] at hR8
        refine v_aload_n (pc := 67) C 2 rfl dX2_turnWallJet_67 ?_
        refine v_getrN (pc := 68) C hN 7 4 (by decide) (wF_X2_21 G) rfl dX2_turnWallJet_68 ?_
        refine v_iload_n (pc := 71) C 3 rfl dX2_turnWallJet_71 ?_
        refine v_ialdN (pc := 72) C hN 4 (by decide) (m := 10) rfl (by first | omega | assumption) dX2_turnWallJet_72 (fun z72_4 ez72_4 rz72_4 => ?_)
        have wz72_4 : z72_4 = wallR r v (6 + 7 * v + 2) := ez72_4.trans (hR8.2.1 v hv.1 (by rw [wallR_out r (by omega) (by omega)]; exact hv.2)).2.2
        exact v_iret (pc := 73) C hr (rfl) dX2_turnWallJet_73 (⟨_, rfl, ⟨wz72_4, by rw [wz72_4]; exact wallR_si (h.si hv)⟩, α8, hR8, rfl⟩)
    · refine v_istore_n (pc := 19) C [(3, .int (iI 0)), (2, .int (iI 0)), (0, .ref (bs γ + n)), (1, .int (iI v))] dX2_turnWallJet_19 rfl (by decide) rfl ?_
      refine v_iload_n (pc := 20) C 1 rfl dX2_turnWallJet_20 ?_
      refine v_iload_n (pc := 21) C 0 rfl dX2_turnWallJet_21 ?_
      refine v_icmp_eq (pc := 22) C 67 (by first | omega | assumption) (by first | omega | assumption) dX2_turnWallJet_22 (by decide) (fun _ => ?_) (fun h => absurd h (by decide))
      have hE : wallR r v = r := by unfold wallR; rw [if_neg (fun hh => (show ¬ worksR r v 5 from q6) hh.1), if_neg (fun hh => (show ¬ worksR r v 6 from q16_1) hh.2)]
      have hR8 : Rep α (wallR r v) := by rw [hE]; exact hR
      obtain ⟨α8, hα8⟩ : ∃ α8, α8 = α := ⟨_, rfl⟩
      rw [← hα8] at hR8 ⊢
      refine v_aload_n (pc := 67) C 2 rfl dX2_turnWallJet_67 ?_
      refine v_getrN (pc := 68) C hN 7 4 (by decide) (wF_X2_21 G) rfl dX2_turnWallJet_68 ?_
      refine v_iload_n (pc := 71) C 3 rfl dX2_turnWallJet_71 ?_
      refine v_ialdN (pc := 72) C hN 4 (by decide) (m := 10) rfl (by first | omega | assumption) dX2_turnWallJet_72 (fun z72_5 ez72_5 rz72_5 => ?_)
      have wz72_5 : z72_5 = wallR r v (6 + 7 * v + 2) := ez72_5.trans (hR8.2.1 v hv.1 (by rw [wallR_out r (by omega) (by omega)]; exact hv.2)).2.2
      exact v_iret (pc := 73) C hr (rfl) dX2_turnWallJet_73 (⟨_, rfl, ⟨wz72_5, by rw [wz72_5]; exact wallR_si (h.si hv)⟩, α8, hR8, rfl⟩)

set_option maxHeartbeats 4000000 in
set_option maxRecDepth 100000 in
theorem k_X2_turnValve {γ : Gm} (G : Glo γ) {σ α : St} {n : Nat} {r : Int → Int} {v : Int} (hN : NetB n) (hR : Rep α r) (h : Wf r) (hv : 0 ≤ v ∧ v < r 0) : Ct γ yX2_turnValve cX2_turnValve 6 (some .boolean) 3 [.ref (bs γ + n), .int (iI v)] (setN σ n α) (pI (fun z σ2 => (z = 1 ∧ LDf r (reckonR r v) v ∨ z = 0 ∧ ¬ LDf r (reckonR r v) v) ∧ ∃ α2, Rep α2 (reckonR r v) ∧ σ2 = setN σ n α2)) := by
  refine Ct.of G (by decide +kernel) (Nat.le_of_ble_eq_true rfl) (fun φ C hr => ?_)
  have C : Cx γ φ RX2 cX2_turnValve 6 3 := C
  have hn0 := h.1
  have hn1 := h.2.1
  have hn4 := h.2.2.1
  have hn5 := h.2.2.2.1
  have hsi := h.si hv
  have hpg0 := h.pg hv (g := 0) (by decide)
  have hpg1 := h.pg hv (g := 1) (by decide)
  have hpp0 : 0 ≤ r (6 + 7 * v + 5) ∧ r (6 + 7 * v + 5) ≤ 99 := hpg0
  have hpp1 : 0 ≤ r (6 + 7 * v + 6) ∧ r (6 + 7 * v + 6) ≤ 99 := hpg1
  refine v_lv [(0, .ref (bs γ + n)), (1, .int (iI v))] [0, 1] rfl ?_
  refine v_aload_n (pc := 0) C 0 rfl dX2_turnValve_0 ?_
  refine v_getrN (pc := 1) C hN 9 6 (by decide) (wF_X2_27 G) rfl dX2_turnValve_1 ?_
  refine v_iload_n (pc := 4) C 1 rfl dX2_turnValve_4 ?_
  refine v_iconst (pc := 5) C dX2_turnValve_5 ?_
  refine v_csN (pc := 6) (as := [.int (iI v), .int (iI 0)]) C (cy_X5_endOf G) (wN_X2_75 G) (k_X5_endOf G) dX2_turnValve_6 rfl rfl (by decide) (by decide) (Nat.le_of_ble_eq_true rfl) zc (k_I (fun z6 s6 q6 => ?_))
  obtain ⟨ez6, rfl⟩ := q6
  refine v_ialdN (pc := 9) C hN 6 (by decide) (m := 20) rfl (by first | omega | assumption) dX2_turnValve_9 (fun z9 ez9 rz9 => ?_)
  have wz9 : z9 = r (6 + 7 * v + 5) := by rw [ez9, ez6]; exact hR.p0 hv
  refine v_istore_n (pc := 10) C [(2, .int (iI z9)), (0, .ref (bs γ + n)), (1, .int (iI v))] dX2_turnValve_10 rfl (by decide) rfl ?_
  refine v_aload_n (pc := 11) C 1 rfl dX2_turnValve_11 ?_
  refine v_getrN (pc := 12) C hN 9 6 (by decide) (wF_X2_27 G) rfl dX2_turnValve_12 ?_
  refine v_iload_n (pc := 15) C 2 rfl dX2_turnValve_15 ?_
  refine v_iconst (pc := 16) C dX2_turnValve_16 ?_
  refine v_csN (pc := 17) (as := [.int (iI v), .int (iI 1)]) C (cy_X5_endOf G) (wN_X2_75 G) (k_X5_endOf G) dX2_turnValve_17 rfl rfl (by decide) (by decide) (Nat.le_of_ble_eq_true rfl) zc (k_I (fun z17 s17 q17 => ?_))
  obtain ⟨ez17, rfl⟩ := q17
  refine v_ialdN (pc := 20) C hN 6 (by decide) (m := 20) rfl (by first | omega | assumption) dX2_turnValve_20 (fun z20 ez20 rz20 => ?_)
  have wz20 : z20 = r (6 + 7 * v + 6) := by rw [ez20, ez17]; exact hR.p1 hv
  refine v_istore_n (pc := 21) C [(3, .int (iI z20)), (2, .int (iI z9)), (0, .ref (bs γ + n)), (1, .int (iI v))] dX2_turnValve_21 rfl (by decide) rfl ?_
  refine v_iload_n (pc := 22) C 1 rfl dX2_turnValve_22 ?_
  refine v_iload_n (pc := 23) C 0 rfl dX2_turnValve_23 ?_
  refine v_min (pc := 24) C (wMin_X2_113 G) (by first | omega | assumption) (by first | omega | assumption) dX2_turnValve_24 (Nat.le_of_ble_eq_true rfl) ⟨Nat.zero_le _, Nat.zero_le _⟩ ?_
  refine v_nm (fun lo elo => ?_)
  refine v_istore (pc := 27) C [(4, .int (iI lo)), (3, .int (iI z20)), (2, .int (iI z9)), (0, .ref (bs γ + n)), (1, .int (iI v))] dX2_turnValve_27 (by decide) rfl ?_
  refine v_iload_n (pc := 29) C 2 rfl dX2_turnValve_29 ?_
  refine v_iload_n (pc := 30) C 1 rfl dX2_turnValve_30 ?_
  refine v_max (pc := 31) C (wMax_X2_89 G) (by first | omega | assumption) (by first | omega | assumption) dX2_turnValve_31 (Nat.le_of_ble_eq_true rfl) ⟨Nat.zero_le _, Nat.zero_le _⟩ ?_
  refine v_nm (fun hi ehi => ?_)
  refine v_istore (pc := 34) C [(5, .int (iI hi)), (4, .int (iI lo)), (3, .int (iI z20)), (2, .int (iI z9)), (0, .ref (bs γ + n)), (1, .int (iI v))] dX2_turnValve_34 (by decide) rfl ?_
  refine v_aload_n (pc := 36) C 4 rfl dX2_turnValve_36 ?_
  refine v_getrN (pc := 37) C hN 5 2 (by decide) (wF_X2_15 G) rfl dX2_turnValve_37 ?_
  refine v_iload_n (pc := 40) C 5 rfl dX2_turnValve_40 ?_
  refine v_ialdN (pc := 41) C hN 2 (by decide) (m := 10) rfl (by first | omega | assumption) dX2_turnValve_41 (fun z41 ez41 rz41 => ?_)
  have wz41 : z41 = r (6 + 7 * v + 0) := ez41.trans (hR.2.1 v hv.1 hv.2).1
  by_cases hs42 : 0 ≤ z41 ∧ z41 ≤ 3
  · have hs42 : z41 = 0 ∨ z41 = 1 ∨ z41 = 2 ∨ z41 = 3 := by omega
    rcases hs42 with hs42 | hs42 | hs42 | hs42
    · refine v_tabIn (pc := 42) C 72 (by first | omega | assumption) dX2_turnValve_42 (by omega) (by rw [hs42]; rfl) (by decide) ?_
      refine v_aload_n (pc := 72) C 4 rfl dX2_turnValve_72 ?_
      refine v_iload_n (pc := 73) C 5 rfl dX2_turnValve_73 ?_
      refine v_iconst (pc := 74) C dX2_turnValve_74 ?_
      refine v_aload_n (pc := 75) C 4 rfl dX2_turnValve_75 ?_
      refine v_getrN (pc := 76) C hN 7 4 (by decide) (wF_X2_21 G) rfl dX2_turnValve_76 ?_
      refine v_iload_n (pc := 79) C 5 rfl dX2_turnValve_79 ?_
      refine v_ialdN (pc := 80) C hN 4 (by decide) (m := 10) rfl (by first | omega | assumption) dX2_turnValve_80 (fun z80 ez80 rz80 => ?_)
      have wz80 : z80 = r (6 + 7 * v + 2) := ez80.trans (hR.2.1 v hv.1 hv.2).2.2
      refine v_isub (pc := 81) C dX2_turnValve_81 ?_
      refine v_cv (pc := 82) (as := [.int (iI v), .int (iI (1 - z80))]) C (cy_X2_supplyLeg G) (wM_X2_116 G) (show sh n = (5, 1) from hN.sh (k := 0) (by decide)) (ci := 1) rfl rfl (k_X2_supplyLeg G hN hR (by omega) (by omega) (by omega)) dX2_turnValve_82 rfl rfl (by decide) (by decide) (Nat.le_of_ble_eq_true rfl) zc (k_I (fun z82 s82 q82 => ?_))
      rcases q82 with ⟨⟨rfl, hq9⟩ | ⟨rfl, hq9⟩, α9, hR9, rfl⟩
      · have hrk : reckonR r v = layR r v (1 - z80) (r (6 + 7 * v + 1)) := by unfold reckonR; rw [if_pos (by omega), ← wz80]
        rw [← hrk] at hq9 hR9
        exact v_iret (pc := 85) C hr (rfl) dX2_turnValve_85 (⟨_, rfl, Or.inl ⟨rfl, hq9⟩, α9, hR9, rfl⟩)
      · have hrk : reckonR r v = layR r v (1 - z80) (r (6 + 7 * v + 1)) := by unfold reckonR; rw [if_pos (by omega), ← wz80]
        rw [← hrk] at hq9 hR9
        exact v_iret (pc := 85) C hr (rfl) dX2_turnValve_85 (⟨_, rfl, Or.inr ⟨rfl, hq9⟩, α9, hR9, rfl⟩)
    · refine v_tabIn (pc := 42) C 86 (by first | omega | assumption) dX2_turnValve_42 (by omega) (by rw [hs42]; rfl) (by decide) ?_
      refine v_aload_n (pc := 86) C 4 rfl dX2_turnValve_86 ?_
      refine v_iload_n (pc := 87) C 5 rfl dX2_turnValve_87 ?_
      refine v_aload_n (pc := 88) C 4 rfl dX2_turnValve_88 ?_
      refine v_iload_n (pc := 89) C 5 rfl dX2_turnValve_89 ?_
      refine v_iconst (pc := 90) C dX2_turnValve_90 ?_
      refine v_csN (pc := 91) (as := [.int (iI v), .int (iI 0)]) C (cy_X5_endOf G) (wN_X2_75 G) (k_X5_endOf G) dX2_turnValve_91 rfl rfl (by decide) (by decide) (Nat.le_of_ble_eq_true rfl) zc (k_I (fun z91 s91 q91 => ?_))
      obtain ⟨ez91, rfl⟩ := q91
      refine v_cv (pc := 94) (as := [.int (iI z91)]) C (cy_X2_works G) (wM_X2_120 G) (show sh n = (5, 1) from hN.sh (k := 0) (by decide)) (ci := 1) rfl rfl (k_X2_works G hN hR h (v := v) (g := 0) (by omega) (by omega) (by omega)) dX2_turnValve_94 rfl rfl (by decide) (by decide) (Nat.le_of_ble_eq_true rfl) zc (k_I (fun z94 s94 q94 => ?_))
      rcases q94 with ⟨⟨rfl, q94⟩ | ⟨rfl, q94⟩, rfl⟩
      · refine v_if_ne (pc := 97) C 112 (by first | omega | assumption) dX2_turnValve_97 (by decide) (fun _ => ?_) (fun h => absurd h (by decide))
        refine v_iconst (pc := 112) C dX2_turnValve_112 ?_
        refine v_goto (pc := 113) C 117 dX2_turnValve_113 (by decide) ?_
        refine v_cv (pc := 117) (as := [.int (iI v), .int (iI 1)]) C (cy_X2_supplyLeg G) (wM_X2_116 G) (show sh n = (5, 1) from hN.sh (k := 0) (by decide)) (ci := 1) rfl rfl (k_X2_supplyLeg G hN hR (by omega) (by omega) (by omega)) dX2_turnValve_117 rfl rfl (by decide) (by decide) (Nat.le_of_ble_eq_true rfl) zc (k_I (fun z117 s117 q117 => ?_))
        rcases q117 with ⟨⟨rfl, hq9⟩ | ⟨rfl, hq9⟩, α9, hR9, rfl⟩
        · have hrk : reckonR r v = layR r v 1 (r (6 + 7 * v + 1)) := by unfold reckonR; rw [if_neg (by omega), if_pos (by omega)]; first | rw [if_pos (Or.inl (show worksR r v 5 from q94))]
          rw [← hrk] at hq9 hR9
          exact v_iret (pc := 120) C hr (rfl) dX2_turnValve_120 (⟨_, rfl, Or.inl ⟨rfl, hq9⟩, α9, hR9, rfl⟩)
        · have hrk : reckonR r v = layR r v 1 (r (6 + 7 * v + 1)) := by unfold reckonR; rw [if_neg (by omega), if_pos (by omega)]; first | rw [if_pos (Or.inl (show worksR r v 5 from q94))]
          rw [← hrk] at hq9 hR9
          exact v_iret (pc := 120) C hr (rfl) dX2_turnValve_120 (⟨_, rfl, Or.inr ⟨rfl, hq9⟩, α9, hR9, rfl⟩)
      · refine v_if_ne (pc := 97) C 112 (by first | omega | assumption) dX2_turnValve_97 (by decide) (fun h => absurd h (by decide)) (fun _ => ?_)
        refine v_aload_n (pc := 100) C 4 rfl dX2_turnValve_100 ?_
        refine v_iload_n (pc := 101) C 5 rfl dX2_turnValve_101 ?_
        refine v_iconst (pc := 102) C dX2_turnValve_102 ?_
        refine v_csN (pc := 103) (as := [.int (iI v), .int (iI 1)]) C (cy_X5_endOf G) (wN_X2_75 G) (k_X5_endOf G) dX2_turnValve_103 rfl rfl (by decide) (by decide) (Nat.le_of_ble_eq_true rfl) zc (k_I (fun z103 s103 q103 => ?_))
        obtain ⟨ez103, rfl⟩ := q103
        refine v_cv (pc := 106) (as := [.int (iI z103)]) C (cy_X2_works G) (wM_X2_120 G) (show sh n = (5, 1) from hN.sh (k := 0) (by decide)) (ci := 1) rfl rfl (k_X2_works G hN hR h (v := v) (g := 1) (by omega) (by omega) (by omega)) dX2_turnValve_106 rfl rfl (by decide) (by decide) (Nat.le_of_ble_eq_true rfl) zc (k_I (fun z106 s106 q106 => ?_))
        rcases q106 with ⟨⟨rfl, q106⟩ | ⟨rfl, q106⟩, rfl⟩
        · refine v_if_eq (pc := 109) C 116 (by first | omega | assumption) dX2_turnValve_109 (by decide) (fun h => absurd h (by decide)) (fun _ => ?_)
          refine v_iconst (pc := 112) C dX2_turnValve_112 ?_
          refine v_goto (pc := 113) C 117 dX2_turnValve_113 (by decide) ?_
          refine v_cv (pc := 117) (as := [.int (iI v), .int (iI 1)]) C (cy_X2_supplyLeg G) (wM_X2_116 G) (show sh n = (5, 1) from hN.sh (k := 0) (by decide)) (ci := 1) rfl rfl (k_X2_supplyLeg G hN hR (by omega) (by omega) (by omega)) dX2_turnValve_117 rfl rfl (by decide) (by decide) (Nat.le_of_ble_eq_true rfl) zc (k_I (fun z117_1 s117_1 q117_1 => ?_))
          rcases q117_1 with ⟨⟨rfl, hq9⟩ | ⟨rfl, hq9⟩, α9, hR9, rfl⟩
          · have hrk : reckonR r v = layR r v 1 (r (6 + 7 * v + 1)) := by unfold reckonR; rw [if_neg (by omega), if_pos (by omega)]; first | rw [if_pos (Or.inl (show worksR r v 5 from q94))] | rw [if_pos (Or.inr (show worksR r v 6 from q106))]
            rw [← hrk] at hq9 hR9
            exact v_iret (pc := 120) C hr (rfl) dX2_turnValve_120 (⟨_, rfl, Or.inl ⟨rfl, hq9⟩, α9, hR9, rfl⟩)
          · have hrk : reckonR r v = layR r v 1 (r (6 + 7 * v + 1)) := by unfold reckonR; rw [if_neg (by omega), if_pos (by omega)]; first | rw [if_pos (Or.inl (show worksR r v 5 from q94))] | rw [if_pos (Or.inr (show worksR r v 6 from q106))]
            rw [← hrk] at hq9 hR9
            exact v_iret (pc := 120) C hr (rfl) dX2_turnValve_120 (⟨_, rfl, Or.inr ⟨rfl, hq9⟩, α9, hR9, rfl⟩)
        · refine v_if_eq (pc := 109) C 116 (by first | omega | assumption) dX2_turnValve_109 (by decide) (fun _ => ?_) (fun h => absurd h (by decide))
          refine v_iconst (pc := 116) C dX2_turnValve_116 ?_
          refine v_cv (pc := 117) (as := [.int (iI v), .int (iI 0)]) C (cy_X2_supplyLeg G) (wM_X2_116 G) (show sh n = (5, 1) from hN.sh (k := 0) (by decide)) (ci := 1) rfl rfl (k_X2_supplyLeg G hN hR (by omega) (by omega) (by omega)) dX2_turnValve_117 rfl rfl (by decide) (by decide) (Nat.le_of_ble_eq_true rfl) zc (k_I (fun z117_2 s117_2 q117_2 => ?_))
          rcases q117_2 with ⟨⟨rfl, hq9⟩ | ⟨rfl, hq9⟩, α9, hR9, rfl⟩
          · have hrk : reckonR r v = layR r v 0 (r (6 + 7 * v + 1)) := by unfold reckonR; rw [if_neg (by omega), if_pos (by omega)]; rw [if_neg (by rintro (a | a); exact (show ¬ worksR r v 5 from q94) a; exact (show ¬ worksR r v 6 from q106) a)]
            rw [← hrk] at hq9 hR9
            exact v_iret (pc := 120) C hr (rfl) dX2_turnValve_120 (⟨_, rfl, Or.inl ⟨rfl, hq9⟩, α9, hR9, rfl⟩)
          · have hrk : reckonR r v = layR r v 0 (r (6 + 7 * v + 1)) := by unfold reckonR; rw [if_neg (by omega), if_pos (by omega)]; rw [if_neg (by rintro (a | a); exact (show ¬ worksR r v 5 from q94) a; exact (show ¬ worksR r v 6 from q106) a)]
            rw [← hrk] at hq9 hR9
            exact v_iret (pc := 120) C hr (rfl) dX2_turnValve_120 (⟨_, rfl, Or.inr ⟨rfl, hq9⟩, α9, hR9, rfl⟩)
    · refine v_tabIn (pc := 42) C 121 (by first | omega | assumption) dX2_turnValve_42 (by omega) (by rw [hs42]; rfl) (by decide) ?_
      refine v_aload_n (pc := 121) C 4 rfl dX2_turnValve_121 ?_
      refine v_iload_n (pc := 122) C 5 rfl dX2_turnValve_122 ?_
      refine v_aload_n (pc := 123) C 4 rfl dX2_turnValve_123 ?_
      refine v_iload_n (pc := 124) C 5 rfl dX2_turnValve_124 ?_
      refine v_cv (pc := 125) (as := [.int (iI v)]) C (cy_X2_turnWallJet G) (wM_X2_123 G) (show sh n = (5, 1) from hN.sh (k := 0) (by decide)) (ci := 1) rfl rfl (k_X2_turnWallJet G hN hR h (by omega)) dX2_turnValve_125 rfl rfl (by decide) (by decide) (Nat.le_of_ble_eq_true rfl) zc (k_I (fun z125 s125 q125 => ?_))
      obtain ⟨⟨ez125, rz125⟩, α7, hR7, rfl⟩ := q125
      refine v_cv (pc := 128) (as := [.int (iI v), .int (iI z125)]) C (cy_X2_supplyLeg G) (wM_X2_116 G) (show sh n = (5, 1) from hN.sh (k := 0) (by decide)) (ci := 1) rfl rfl (k_X2_supplyLeg G hN hR7 (by rw [wallR_out r (by omega) (by omega)]; exact hn0) (by rw [wallR_out r (by omega) (by omega)]; exact hv) (by omega)) dX2_turnValve_128 rfl rfl (by decide) (by decide) (Nat.le_of_ble_eq_true rfl) zc (k_I (fun z128 s128 q128 => ?_))
      rcases q128 with ⟨⟨rfl, hq9⟩ | ⟨rfl, hq9⟩, α9, hR9, rfl⟩
      · have hrk : reckonR r v = layR (wallR r v) v z125 (wallR r v (6 + 7 * v + 1)) := by rw [reckon_wall (by omega), ← ez125]
        rw [← hrk] at hq9 hR9
        rw [LDf_wall hv.1] at hq9
        exact v_iret (pc := 131) C hr (rfl) dX2_turnValve_131 (⟨_, rfl, Or.inl ⟨rfl, hq9⟩, α9, hR9, rfl⟩)
      · have hrk : reckonR r v = layR (wallR r v) v z125 (wallR r v (6 + 7 * v + 1)) := by rw [reckon_wall (by omega), ← ez125]
        rw [← hrk] at hq9 hR9
        rw [LDf_wall hv.1] at hq9
        exact v_iret (pc := 131) C hr (rfl) dX2_turnValve_131 (⟨_, rfl, Or.inr ⟨rfl, hq9⟩, α9, hR9, rfl⟩)
    · refine v_tabIn (pc := 42) C 132 (by first | omega | assumption) dX2_turnValve_42 (by omega) (by rw [hs42]; rfl) (by decide) ?_
      refine v_aload_n (pc := 132) C 4 rfl dX2_turnValve_132 ?_
      refine v_iload_n (pc := 133) C 5 rfl dX2_turnValve_133 ?_
      refine v_iconst (pc := 134) C dX2_turnValve_134 ?_
      refine v_csN (pc := 135) (as := [.int (iI v), .int (iI 0)]) C (cy_X5_endOf G) (wN_X2_75 G) (k_X5_endOf G) dX2_turnValve_135 rfl rfl (by decide) (by decide) (Nat.le_of_ble_eq_true rfl) zc (k_I (fun z135 s135 q135 => ?_))
      obtain ⟨ez135, rfl⟩ := q135
      refine v_iload (pc := 138) C 1 rfl dX2_turnValve_138 ?_
      refine v_iload (pc := 140) C 1 rfl dX2_turnValve_140 ?_
      refine v_if_ne (pc := 142) C 150 (by first | omega | assumption) dX2_turnValve_142 (by decide) (fun h142 => ?_) (fun h142 => ?_)
      · refine v_iconst (pc := 150) C dX2_turnValve_150 ?_
        refine v_cv (pc := 151) (as := [.int (iI z135), .int (iI lo), .int (iI 0)]) C (cy_X2_putLegs G) (wM_X2_126 G) (show sh n = (5, 1) from hN.sh (k := 0) (by decide)) (ci := 1) rfl rfl (k_X2_putLegs G hN (by omega) (by first | omega | assumption) (by first | omega | assumption)) dX2_turnValve_151 rfl rfl (by decide) (by decide) (Nat.le_of_ble_eq_true rfl) zc (k_I (fun z151 s151 q151 => ?_))
        rcases q151 with ⟨⟨rfl, q151⟩ | ⟨rfl, q151⟩, rfl⟩
        · have hrk : reckonR r v = upr (layR r v 0 lo) (6 + 7 * v + 3 + 1) 0 := by
            have e1 : lo = if r (6 + 7 * v + 5) < r (6 + 7 * v + 6) then r (6 + 7 * v + 5) else r (6 + 7 * v + 6) := by rw [elo]; split <;> split <;> omega
            have e2 : 0 = if r (6 + 7 * v + 5) = 0 ∨ r (6 + 7 * v + 6) = 0 then r (6 + 7 * v + 5) + r (6 + 7 * v + 6) else 0 := by split at elo <;> split at ehi <;> split <;> omega
            unfold reckonR; rw [if_neg (by omega), if_neg (by omega), if_neg (by omega), if_pos (by omega), ← e1, ← e2]
          exact v_iret (pc := 154) C hr (rfl) dX2_turnValve_154 (by subst ez135; exact ⟨_, rfl, Or.inl ⟨rfl, (LDf_rep hR hv (by rw [hrk, upr_ne _ _ (by omega), layR_3 _ _ _ (by decide)]; rfl) (by rw [hrk, show 6 + 7 * v + 4 = 6 + 7 * v + 3 + 1 by omega, upr_at])).mpr q151⟩, _, hR.lay2 hv hn0.2 (by rw [hrk, upr_ne _ _ (by omega), layR_3 _ _ _ (by decide)]; rfl) (by rw [hrk, show 6 + 7 * v + 4 = 6 + 7 * v + 3 + 1 by omega, upr_at]) (fun i i1 i2 => by rw [hrk, upr_ne _ _ (by omega)]; exact layR_out _ (by decide) i1 i2), rfl⟩)
        · have hrk : reckonR r v = upr (layR r v 0 lo) (6 + 7 * v + 3 + 1) 0 := by
            have e1 : lo = if r (6 + 7 * v + 5) < r (6 + 7 * v + 6) then r (6 + 7 * v + 5) else r (6 + 7 * v + 6) := by rw [elo]; split <;> split <;> omega
            have e2 : 0 = if r (6 + 7 * v + 5) = 0 ∨ r (6 + 7 * v + 6) = 0 then r (6 + 7 * v + 5) + r (6 + 7 * v + 6) else 0 := by split at elo <;> split at ehi <;> split <;> omega
            unfold reckonR; rw [if_neg (by omega), if_neg (by omega), if_neg (by omega), if_pos (by omega), ← e1, ← e2]
          exact v_iret (pc := 154) C hr (rfl) dX2_turnValve_154 (by subst ez135; exact ⟨_, rfl, Or.inr ⟨rfl, fun hl => q151 ((LDf_rep hR hv (by rw [hrk, upr_ne _ _ (by omega), layR_3 _ _ _ (by decide)]; rfl) (by rw [hrk, show 6 + 7 * v + 4 = 6 + 7 * v + 3 + 1 by omega, upr_at])).mp hl)⟩, _, hR.lay2 hv hn0.2 (by rw [hrk, upr_ne _ _ (by omega), layR_3 _ _ _ (by decide)]; rfl) (by rw [hrk, show 6 + 7 * v + 4 = 6 + 7 * v + 3 + 1 by omega, upr_at]) (fun i i1 i2 => by rw [hrk, upr_ne _ _ (by omega)]; exact layR_out _ (by decide) i1 i2), rfl⟩)
      · refine v_iload (pc := 145) C 0 rfl dX2_turnValve_145 ?_
        refine v_goto (pc := 147) C 151 dX2_turnValve_147 (by decide) ?_
        refine v_cv (pc := 151) (as := [.int (iI z135), .int (iI lo), .int (iI hi)]) C (cy_X2_putLegs G) (wM_X2_126 G) (show sh n = (5, 1) from hN.sh (k := 0) (by decide)) (ci := 1) rfl rfl (k_X2_putLegs G hN (by omega) (by first | omega | assumption) (by first | omega | assumption)) dX2_turnValve_151 rfl rfl (by decide) (by decide) (Nat.le_of_ble_eq_true rfl) zc (k_I (fun z151_1 s151_1 q151_1 => ?_))
        rcases q151_1 with ⟨⟨rfl, q151_1⟩ | ⟨rfl, q151_1⟩, rfl⟩
        · have hrk : reckonR r v = upr (layR r v 0 lo) (6 + 7 * v + 3 + 1) hi := by
            have e1 : lo = if r (6 + 7 * v + 5) < r (6 + 7 * v + 6) then r (6 + 7 * v + 5) else r (6 + 7 * v + 6) := by rw [elo]; split <;> split <;> omega
            have e2 : hi = if r (6 + 7 * v + 5) = 0 ∨ r (6 + 7 * v + 6) = 0 then r (6 + 7 * v + 5) + r (6 + 7 * v + 6) else 0 := by split at elo <;> split at ehi <;> split <;> omega
            unfold reckonR; rw [if_neg (by omega), if_neg (by omega), if_neg (by omega), if_pos (by omega), ← e1, ← e2]
          exact v_iret (pc := 154) C hr (rfl) dX2_turnValve_154 (by subst ez135; exact ⟨_, rfl, Or.inl ⟨rfl, (LDf_rep hR hv (by rw [hrk, upr_ne _ _ (by omega), layR_3 _ _ _ (by decide)]; rfl) (by rw [hrk, show 6 + 7 * v + 4 = 6 + 7 * v + 3 + 1 by omega, upr_at])).mpr q151_1⟩, _, hR.lay2 hv hn0.2 (by rw [hrk, upr_ne _ _ (by omega), layR_3 _ _ _ (by decide)]; rfl) (by rw [hrk, show 6 + 7 * v + 4 = 6 + 7 * v + 3 + 1 by omega, upr_at]) (fun i i1 i2 => by rw [hrk, upr_ne _ _ (by omega)]; exact layR_out _ (by decide) i1 i2), rfl⟩)
        · have hrk : reckonR r v = upr (layR r v 0 lo) (6 + 7 * v + 3 + 1) hi := by
            have e1 : lo = if r (6 + 7 * v + 5) < r (6 + 7 * v + 6) then r (6 + 7 * v + 5) else r (6 + 7 * v + 6) := by rw [elo]; split <;> split <;> omega
            have e2 : hi = if r (6 + 7 * v + 5) = 0 ∨ r (6 + 7 * v + 6) = 0 then r (6 + 7 * v + 5) + r (6 + 7 * v + 6) else 0 := by split at elo <;> split at ehi <;> split <;> omega
            unfold reckonR; rw [if_neg (by omega), if_neg (by omega), if_neg (by omega), if_pos (by omega), ← e1, ← e2]
          exact v_iret (pc := 154) C hr (rfl) dX2_turnValve_154 (by subst ez135; exact ⟨_, rfl, Or.inr ⟨rfl, fun hl => q151_1 ((LDf_rep hR hv (by rw [hrk, upr_ne _ _ (by omega), layR_3 _ _ _ (by decide)]; rfl) (by rw [hrk, show 6 + 7 * v + 4 = 6 + 7 * v + 3 + 1 by omega, upr_at])).mp hl)⟩, _, hR.lay2 hv hn0.2 (by rw [hrk, upr_ne _ _ (by omega), layR_3 _ _ _ (by decide)]; rfl) (by rw [hrk, show 6 + 7 * v + 4 = 6 + 7 * v + 3 + 1 by omega, upr_at]) (fun i i1 i2 => by rw [hrk, upr_ne _ _ (by omega)]; exact layR_out _ (by decide) i1 i2), rfl⟩)
  · refine v_tabOut (pc := 42) C 155 (by first | omega | assumption) dX2_turnValve_42 (by omega) (by decide) ?_
    refine v_aload_n (pc := 155) C 4 rfl dX2_turnValve_155 ?_
    refine v_iload_n (pc := 156) C 5 rfl dX2_turnValve_156 ?_
    refine v_iload (pc := 157) C 0 rfl dX2_turnValve_157 ?_
    refine v_iconst (pc := 159) C dX2_turnValve_159 ?_
    refine v_icmp_lt (pc := 160) C 167 (by first | omega | assumption) (by first | omega | assumption) dX2_turnValve_160 (by decide) (fun h160 => ?_) (fun h160 => ?_)
    · refine v_iconst (pc := 167) C dX2_turnValve_167 ?_
      refine v_cv (pc := 168) (as := [.int (iI v), .int (iI 1)]) C (cy_X2_supplyLeg G) (wM_X2_116 G) (show sh n = (5, 1) from hN.sh (k := 0) (by decide)) (ci := 1) rfl rfl (k_X2_supplyLeg G hN hR (by omega) (by omega) (by omega)) dX2_turnValve_168 rfl rfl (by decide) (by decide) (Nat.le_of_ble_eq_true rfl) zc (k_I (fun z168 s168 q168 => ?_))
      rcases q168 with ⟨⟨rfl, hq9⟩ | ⟨rfl, hq9⟩, α9, hR9, rfl⟩
      · have hrk : reckonR r v = layR r v 1 (r (6 + 7 * v + 1)) := by unfold reckonR; rw [if_neg (by omega), if_neg (by omega), if_neg (by omega), if_neg (by omega)]; rw [if_neg (by split at ehi <;> omega)]
        rw [← hrk] at hq9 hR9
        exact v_iret (pc := 171) C hr (rfl) dX2_turnValve_171 (⟨_, rfl, Or.inl ⟨rfl, hq9⟩, α9, hR9, rfl⟩)
      · have hrk : reckonR r v = layR r v 1 (r (6 + 7 * v + 1)) := by unfold reckonR; rw [if_neg (by omega), if_neg (by omega), if_neg (by omega), if_neg (by omega)]; rw [if_neg (by split at ehi <;> omega)]
        rw [← hrk] at hq9 hR9
        exact v_iret (pc := 171) C hr (rfl) dX2_turnValve_171 (⟨_, rfl, Or.inr ⟨rfl, hq9⟩, α9, hR9, rfl⟩)
    · refine v_iconst (pc := 163) C dX2_turnValve_163 ?_
      refine v_goto (pc := 164) C 168 dX2_turnValve_164 (by decide) ?_
      refine v_cv (pc := 168) (as := [.int (iI v), .int (iI 0)]) C (cy_X2_supplyLeg G) (wM_X2_116 G) (show sh n = (5, 1) from hN.sh (k := 0) (by decide)) (ci := 1) rfl rfl (k_X2_supplyLeg G hN hR (by omega) (by omega) (by omega)) dX2_turnValve_168 rfl rfl (by decide) (by decide) (Nat.le_of_ble_eq_true rfl) zc (k_I (fun z168_1 s168_1 q168_1 => ?_))
      rcases q168_1 with ⟨⟨rfl, hq9⟩ | ⟨rfl, hq9⟩, α9, hR9, rfl⟩
      · have hrk : reckonR r v = layR r v 0 (r (6 + 7 * v + 1)) := by unfold reckonR; rw [if_neg (by omega), if_neg (by omega), if_neg (by omega), if_neg (by omega)]; rw [if_pos (by split at ehi <;> omega)]
        rw [← hrk] at hq9 hR9
        exact v_iret (pc := 171) C hr (rfl) dX2_turnValve_171 (⟨_, rfl, Or.inl ⟨rfl, hq9⟩, α9, hR9, rfl⟩)
      · have hrk : reckonR r v = layR r v 0 (r (6 + 7 * v + 1)) := by unfold reckonR; rw [if_neg (by omega), if_neg (by omega), if_neg (by omega), if_neg (by omega)]; rw [if_pos (by split at ehi <;> omega)]
        rw [← hrk] at hq9 hR9
        exact v_iret (pc := 171) C hr (rfl) dX2_turnValve_171 (⟨_, rfl, Or.inr ⟨rfl, hq9⟩, α9, hR9, rfl⟩)
