set_option maxHeartbeats 4000000 in
set_option maxRecDepth 100000 in
theorem k_X2_startAnew {γ : Gm} (G : Glo γ) {σ α : St} {n : Nat} {r : Int → Int} (hN : NetB n) (hR : Rep α r) (h : Wf r)  : Ct γ yX2_startAnew cX2_startAnew 1 none 1 [.ref (bs γ + n)] (setN σ n α) (pV (fun σ2 => ∃ α2, Rep α2 (newR) ∧ σ2 = setN σ n α2)) := by
  refine Ct.of G (by decide +kernel) (Nat.le_of_ble_eq_true rfl) (fun φ C hr => ?_)
  have C : Cx γ φ RX2 cX2_startAnew 1 1 := C
  refine v_lv [(0, .ref (bs γ + n))] [0] rfl ?_
  refine v_aload_n (pc := 0) C 0 rfl dX2_startAnew_0 ?_
  refine v_iconst (pc := 1) C dX2_startAnew_1 ?_
  refine v_putiM (pc := 2) C hN 0 (by decide) (wF_X2_48 G) rfl rfl 0 rfl (by first | omega | assumption) dX2_startAnew_2 ?_
  refine v_aload_n (pc := 5) C 0 rfl dX2_startAnew_5 ?_
  refine v_iconst (pc := 6) C dX2_startAnew_6 ?_
  refine v_putiM (pc := 7) C hN 1 (by decide) (wF_X2_52 G) rfl rfl 1 rfl (by first | omega | assumption) dX2_startAnew_7 ?_
  refine v_aload_n (pc := 10) C 0 rfl dX2_startAnew_10 ?_
  refine v_iconst (pc := 11) C dX2_startAnew_11 ?_
  refine v_putiM (pc := 12) C hN 2 (by decide) (wF_X2_55 G) rfl rfl 2 rfl (by first | omega | assumption) dX2_startAnew_12 ?_
  refine v_aload_n (pc := 15) C 0 rfl dX2_startAnew_15 ?_
  refine v_iconst (pc := 16) C dX2_startAnew_16 ?_
  refine v_putiM (pc := 17) C hN 3 (by decide) (wF_X2_58 G) rfl rfl 3 rfl (by first | omega | assumption) dX2_startAnew_17 ?_
  refine v_aload_n (pc := 20) C 0 rfl dX2_startAnew_20 ?_
  refine v_getrN (pc := 21) C hN 4 1 (by decide) (wF_X2_9 G) rfl dX2_startAnew_21 ?_
  refine v_iconst (pc := 24) C dX2_startAnew_24 ?_
  refine v_iconst (pc := 25) C dX2_startAnew_25 ?_
  refine v_iastN (pc := 26) C hN 1 (by decide) (m := 2) rfl (by first | omega | assumption) (by first | omega | assumption) dX2_startAnew_26 ?_
  refine v_aload_n (pc := 27) C 0 rfl dX2_startAnew_27 ?_
  refine v_getrN (pc := 28) C hN 4 1 (by decide) (wF_X2_9 G) rfl dX2_startAnew_28 ?_
  refine v_iconst (pc := 31) C dX2_startAnew_31 ?_
  refine v_bipush (pc := 32) C (by decide +kernel) dX2_startAnew_32 ?_
  refine v_iastN (pc := 34) C hN 1 (by decide) (m := 2) rfl (by first | omega | assumption) (by first | omega | assumption) dX2_startAnew_34 ?_
  exact v_vret (pc := 35) C hr dX2_startAnew_35 ⟨rfl, _, Rep_new ⟨rfl, rfl, rfl, rfl, rfl, rfl⟩, rfl⟩

set_option maxHeartbeats 4000000 in
set_option maxRecDepth 100000 in
theorem k_X2_addValve {γ : Gm} (G : Glo γ) {σ α : St} {n : Nat} {r : Int → Int} {k s : Int} (hN : NetB n) (hR : Rep α r) (h : Wf r) (hn : r 0 < 10) (hk : R3 k) (hs : R3 s) : Ct γ yX2_addValve cX2_addValve 3 none 3 [.ref (bs γ + n), .int (iI k), .int (iI s)] (setN σ n α) (pV (fun σ2 => ∃ α2, Rep α2 (valveR r k s) ∧ σ2 = setN σ n α2)) := by
  refine Ct.of G (by decide +kernel) (Nat.le_of_ble_eq_true rfl) (fun φ C hr => ?_)
  have C : Cx γ φ RX2 cX2_addValve 3 3 := C
  have hn0 := h.1
  have hn1 := h.2.1
  have hn4 := h.2.2.1
  have hn5 := h.2.2.2.1
  refine v_lv [(0, .ref (bs γ + n)), (1, .int (iI k)), (2, .int (iI s))] [0, 1, 2] rfl ?_
  refine v_aload_n (pc := 0) C 0 rfl dX2_addValve_0 ?_
  refine v_getrN (pc := 1) C hN 5 2 (by decide) (wF_X2_15 G) rfl dX2_addValve_1 ?_
  refine v_aload_n (pc := 4) C 0 rfl dX2_addValve_4 ?_
  refine v_getiM (pc := 5) C hN 2 (by decide) (wF_X2_55 G) rfl 2 rfl dX2_addValve_5 (fun z5 ez5 rz5 => ?_)
  have wz5 : z5 = r 0 := ez5.trans hR.nv
  refine v_iload_n (pc := 8) C 1 rfl dX2_addValve_8 ?_
  refine v_iastN (pc := 9) C hN 2 (by decide) (m := 10) rfl (by first | omega | assumption) (by first | omega | assumption) dX2_addValve_9 ?_
  refine v_aload_n (pc := 10) C 0 rfl dX2_addValve_10 ?_
  refine v_getrN (pc := 11) C hN 6 3 (by decide) (wF_X2_18 G) rfl dX2_addValve_11 ?_
  refine v_aload_n (pc := 14) C 0 rfl dX2_addValve_14 ?_
  refine v_getiM (pc := 15) C hN 2 (by decide) (wF_X2_55 G) rfl 2 rfl dX2_addValve_15 (fun z15 ez15 rz15 => ?_)
  have wz15 : z15 = r 0 := ez15.trans hR.nv
  refine v_iload_n (pc := 18) C 2 rfl dX2_addValve_18 ?_
  refine v_iastN (pc := 19) C hN 3 (by decide) (m := 10) rfl (by first | omega | assumption) (by first | omega | assumption) dX2_addValve_19 ?_
  refine v_aload_n (pc := 20) C 0 rfl dX2_addValve_20 ?_
  refine v_getrN (pc := 21) C hN 7 4 (by decide) (wF_X2_21 G) rfl dX2_addValve_21 ?_
  refine v_aload_n (pc := 24) C 0 rfl dX2_addValve_24 ?_
  refine v_getiM (pc := 25) C hN 2 (by decide) (wF_X2_55 G) rfl 2 rfl dX2_addValve_25 (fun z25 ez25 rz25 => ?_)
  have wz25 : z25 = r 0 := ez25.trans hR.nv
  refine v_iconst (pc := 28) C dX2_addValve_28 ?_
  refine v_iastN (pc := 29) C hN 4 (by decide) (m := 10) rfl (by first | omega | assumption) (by first | omega | assumption) dX2_addValve_29 ?_
  refine v_aload_n (pc := 30) C 0 rfl dX2_addValve_30 ?_
  refine v_getrN (pc := 31) C hN 8 5 (by decide) (wF_X2_24 G) rfl dX2_addValve_31 ?_
  refine v_aload_n (pc := 34) C 0 rfl dX2_addValve_34 ?_
  refine v_getiM (pc := 35) C hN 2 (by decide) (wF_X2_55 G) rfl 2 rfl dX2_addValve_35 (fun z35 ez35 rz35 => ?_)
  have wz35 : z35 = r 0 := ez35.trans hR.nv
  refine v_iconst (pc := 38) C dX2_addValve_38 ?_
  refine v_csN (pc := 39) (as := [.int (iI z35), .int (iI 0)]) C (cy_X5_endOf G) (wN_X2_75 G) (k_X5_endOf G) dX2_addValve_39 rfl rfl (by decide) (by decide) (Nat.le_of_ble_eq_true rfl) zc (k_I (fun z39 s39 q39 => ?_))
  obtain ⟨ez39, rfl⟩ := q39
  refine v_aload_n (pc := 42) C 0 rfl dX2_addValve_42 ?_
  refine v_getiM (pc := 43) C hN 2 (by decide) (wF_X2_55 G) rfl 2 rfl dX2_addValve_43 (fun z43 ez43 rz43 => ?_)
  have wz43 : z43 = r 0 := ez43.trans hR.nv
  refine v_iconst (pc := 46) C dX2_addValve_46 ?_
  refine v_csN (pc := 47) (as := [.int (iI z43), .int (iI 2)]) C (cy_X5_endOf G) (wN_X2_75 G) (k_X5_endOf G) dX2_addValve_47 rfl rfl (by decide) (by decide) (Nat.le_of_ble_eq_true rfl) zc (k_I (fun z47 s47 q47 => ?_))
  obtain ⟨ez47, rfl⟩ := q47
  refine v_iconst (pc := 50) C dX2_addValve_50 ?_
  refine v_st (setc_eta (setN σ n _) (n + 5)).symm ?_
  refine v_cs (pc := 51) (as := [.ref (bs γ + (n + 5)), .int (iI z39), .int (iI z47), .int (iI 0)]) C (cy_J7_fill_fda19 G) (wM_X2_79 G) (k_J7_fill_fda19 G (m := 20) ⟨((hN.sh (k := 5) (by decide)).trans (rfl : shN.getD 5 (9, 0) = (0, 20))), by decide⟩ (by omega) (by omega) (by omega)) dX2_addValve_51 rfl rfl (by decide) (by decide) (Nat.le_of_ble_eq_true rfl) zc (k_V (fun s51 q51 => ?_))
  subst q51
  rw [setN_at σ n _ (k := 5) (by decide), setc_setN σ n _ (k := 5) (by decide)]
  refine v_aload_n (pc := 54) C 0 rfl dX2_addValve_54 ?_
  refine v_getrN (pc := 55) C hN 9 6 (by decide) (wF_X2_27 G) rfl dX2_addValve_55 ?_
  refine v_aload_n (pc := 58) C 0 rfl dX2_addValve_58 ?_
  refine v_getiM (pc := 59) C hN 2 (by decide) (wF_X2_55 G) rfl 2 rfl dX2_addValve_59 (fun z59 ez59 rz59 => ?_)
  have wz59 : z59 = r 0 := ez59.trans hR.nv
  refine v_iconst (pc := 62) C dX2_addValve_62 ?_
  refine v_csN (pc := 63) (as := [.int (iI z59), .int (iI 0)]) C (cy_X5_endOf G) (wN_X2_75 G) (k_X5_endOf G) dX2_addValve_63 rfl rfl (by decide) (by decide) (Nat.le_of_ble_eq_true rfl) zc (k_I (fun z63 s63 q63 => ?_))
  obtain ⟨ez63, rfl⟩ := q63
  refine v_aload_n (pc := 66) C 0 rfl dX2_addValve_66 ?_
  refine v_getiM (pc := 67) C hN 2 (by decide) (wF_X2_55 G) rfl 2 rfl dX2_addValve_67 (fun z67 ez67 rz67 => ?_)
  have wz67 : z67 = r 0 := ez67.trans hR.nv
  refine v_iconst (pc := 70) C dX2_addValve_70 ?_
  refine v_csN (pc := 71) (as := [.int (iI z67), .int (iI 2)]) C (cy_X5_endOf G) (wN_X2_75 G) (k_X5_endOf G) dX2_addValve_71 rfl rfl (by decide) (by decide) (Nat.le_of_ble_eq_true rfl) zc (k_I (fun z71 s71 q71 => ?_))
  obtain ⟨ez71, rfl⟩ := q71
  refine v_iconst (pc := 74) C dX2_addValve_74 ?_
  refine v_st (setc_eta (setN σ n _) (n + 6)).symm ?_
  refine v_cs (pc := 75) (as := [.ref (bs γ + (n + 6)), .int (iI z63), .int (iI z71), .int (iI 0)]) C (cy_J7_fill_fda19 G) (wM_X2_79 G) (k_J7_fill_fda19 G (m := 20) ⟨((hN.sh (k := 6) (by decide)).trans (rfl : shN.getD 6 (9, 0) = (0, 20))), by decide⟩ (by omega) (by omega) (by omega)) dX2_addValve_75 rfl rfl (by decide) (by decide) (Nat.le_of_ble_eq_true rfl) zc (k_V (fun s75 q75 => ?_))
  subst q75
  rw [setN_at σ n _ (k := 6) (by decide), setc_setN σ n _ (k := 6) (by decide)]
  refine v_aload_n (pc := 78) C 0 rfl dX2_addValve_78 ?_
  refine v_dup (pc := 79) C rfl dX2_addValve_79 ?_
  refine v_getiM (pc := 80) C hN 2 (by decide) (wF_X2_55 G) rfl 2 rfl dX2_addValve_80 (fun z80 ez80 rz80 => ?_)
  have wz80 : z80 = r 0 := ez80.trans hR.nv
  refine v_iconst (pc := 83) C dX2_addValve_83 ?_
  refine v_iadd (pc := 84) C dX2_addValve_84 ?_
  refine v_putiM (pc := 85) C hN 2 (by decide) (wF_X2_55 G) rfl rfl 2 rfl (by first | omega | assumption) dX2_addValve_85 ?_
  exact v_vret (pc := 88) C hr dX2_addValve_88 ⟨rfl, _, by subst ez39 ez47 ez63 ez71; rw [wz5, wz15, wz25, wz35, wz43, wz59, wz67, wz80]; exact hR.addV ⟨hn0.1, hn⟩ rfl rfl rfl rfl rfl rfl rfl rfl rfl rfl rfl rfl, rfl⟩

set_option maxHeartbeats 4000000 in
set_option maxRecDepth 100000 in
theorem k_X2_addDuct {γ : Gm} (G : Glo γ) {σ α : St} {n : Nat} {r : Int → Int} {x y m f l t p : Int} (hN : NetB n) (hR : Rep α r) (h : Wf r) (hn : r 1 < 16) (hx : x = 2 * f + l) (hy : y = 2 * t + p) (hf : 0 ≤ f ∧ f < r 0) (hl : 0 ≤ l ∧ l ≤ 1) (ht : 0 ≤ t ∧ t < r 0) (hp : 0 ≤ p ∧ p ≤ 1) (hm : R3 m) : Ct γ yX2_addDuct cX2_addDuct 4 none 3 [.ref (bs γ + n), .int (iI x), .int (iI y), .int (iI m)] (setN σ n α) (pV (fun σ2 => ∃ α2, Rep α2 (ductR r f l t p m) ∧ σ2 = setN σ n α2)) := by
  refine Ct.of G (by decide +kernel) (Nat.le_of_ble_eq_true rfl) (fun φ C hr => ?_)
  have C : Cx γ φ RX2 cX2_addDuct 4 3 := C
  have hn0 := h.1
  have hn1 := h.2.1
  have hn4 := h.2.2.1
  have hn5 := h.2.2.2.1
  refine v_lv [(0, .ref (bs γ + n)), (1, .int (iI x)), (2, .int (iI y)), (3, .int (iI m))] [0, 1, 2, 3] rfl ?_
  refine v_aload_n (pc := 0) C 0 rfl dX2_addDuct_0 ?_
  refine v_getrN (pc := 1) C hN 10 7 (by decide) (wF_X2_30 G) rfl dX2_addDuct_1 ?_
  refine v_aload_n (pc := 4) C 0 rfl dX2_addDuct_4 ?_
  refine v_getiM (pc := 5) C hN 3 (by decide) (wF_X2_58 G) rfl 3 rfl dX2_addDuct_5 (fun z5 ez5 rz5 => ?_)
  have wz5 : z5 = r 1 := ez5.trans hR.nd
  refine v_iload_n (pc := 8) C 1 rfl dX2_addDuct_8 ?_
  refine v_iastN (pc := 9) C hN 7 (by decide) (m := 16) rfl (by first | omega | assumption) (by first | omega | assumption) dX2_addDuct_9 ?_
  refine v_aload_n (pc := 10) C 0 rfl dX2_addDuct_10 ?_
  refine v_getrN (pc := 11) C hN 11 8 (by decide) (wF_X2_33 G) rfl dX2_addDuct_11 ?_
  refine v_aload_n (pc := 14) C 0 rfl dX2_addDuct_14 ?_
  refine v_getiM (pc := 15) C hN 3 (by decide) (wF_X2_58 G) rfl 3 rfl dX2_addDuct_15 (fun z15 ez15 rz15 => ?_)
  have wz15 : z15 = r 1 := ez15.trans hR.nd
  refine v_iload_n (pc := 18) C 2 rfl dX2_addDuct_18 ?_
  refine v_iastN (pc := 19) C hN 8 (by decide) (m := 16) rfl (by first | omega | assumption) (by first | omega | assumption) dX2_addDuct_19 ?_
  refine v_aload_n (pc := 20) C 0 rfl dX2_addDuct_20 ?_
  refine v_getrN (pc := 21) C hN 12 9 (by decide) (wF_X2_36 G) rfl dX2_addDuct_21 ?_
  refine v_aload_n (pc := 24) C 0 rfl dX2_addDuct_24 ?_
  refine v_getiM (pc := 25) C hN 3 (by decide) (wF_X2_58 G) rfl 3 rfl dX2_addDuct_25 (fun z25 ez25 rz25 => ?_)
  have wz25 : z25 = r 1 := ez25.trans hR.nd
  refine v_iload_n (pc := 28) C 3 rfl dX2_addDuct_28 ?_
  refine v_iastN (pc := 29) C hN 9 (by decide) (m := 16) rfl (by first | omega | assumption) (by first | omega | assumption) dX2_addDuct_29 ?_
  refine v_aload_n (pc := 30) C 0 rfl dX2_addDuct_30 ?_
  refine v_getrN (pc := 31) C hN 13 10 (by decide) (wF_X2_39 G) rfl dX2_addDuct_31 ?_
  refine v_aload_n (pc := 34) C 0 rfl dX2_addDuct_34 ?_
  refine v_getiM (pc := 35) C hN 3 (by decide) (wF_X2_58 G) rfl 3 rfl dX2_addDuct_35 (fun z35 ez35 rz35 => ?_)
  have wz35 : z35 = r 1 := ez35.trans hR.nd
  refine v_iconst (pc := 38) C dX2_addDuct_38 ?_
  refine v_iastN (pc := 39) C hN 10 (by decide) (m := 16) rfl (by first | omega | assumption) (by first | omega | assumption) dX2_addDuct_39 ?_
  refine v_aload_n (pc := 40) C 0 rfl dX2_addDuct_40 ?_
  refine v_getrN (pc := 41) C hN 14 11 (by decide) (wF_X2_42 G) rfl dX2_addDuct_41 ?_
  refine v_aload_n (pc := 44) C 0 rfl dX2_addDuct_44 ?_
  refine v_getiM (pc := 45) C hN 3 (by decide) (wF_X2_58 G) rfl 3 rfl dX2_addDuct_45 (fun z45 ez45 rz45 => ?_)
  have wz45 : z45 = r 1 := ez45.trans hR.nd
  refine v_bipush (pc := 48) C (by decide +kernel) dX2_addDuct_48 ?_
  refine v_imul (pc := 50) C dX2_addDuct_50 ?_
  refine v_aload_n (pc := 51) C 0 rfl dX2_addDuct_51 ?_
  refine v_getiM (pc := 52) C hN 3 (by decide) (wF_X2_58 G) rfl 3 rfl dX2_addDuct_52 (fun z52 ez52 rz52 => ?_)
  have wz52 : z52 = r 1 := ez52.trans hR.nd
  refine v_iconst (pc := 55) C dX2_addDuct_55 ?_
  refine v_iadd (pc := 56) C dX2_addDuct_56 ?_
  refine v_bipush (pc := 57) C (by decide +kernel) dX2_addDuct_57 ?_
  refine v_imul (pc := 59) C dX2_addDuct_59 ?_
  refine v_iconst (pc := 60) C dX2_addDuct_60 ?_
  refine v_st (setc_eta (setN σ n _) (n + 11)).symm ?_
  refine v_cs (pc := 61) (as := [.ref (bs γ + (n + 11)), .int (iI (z45 * 6)), .int (iI ((z52 + 1) * 6)), .int (iI 0)]) C (cy_J7_fill_fda19 G) (wM_X2_79 G) (k_J7_fill_fda19 G (m := 96) ⟨((hN.sh (k := 11) (by decide)).trans (rfl : shN.getD 11 (9, 0) = (0, 96))), by decide⟩ (by omega) (by omega) (by omega)) dX2_addDuct_61 rfl rfl (by decide) (by decide) (Nat.le_of_ble_eq_true rfl) zc (k_V (fun s61 q61 => ?_))
  subst q61
  rw [setN_at σ n _ (k := 11) (by decide), setc_setN σ n _ (k := 11) (by decide)]
  refine v_aload_n (pc := 64) C 0 rfl dX2_addDuct_64 ?_
  refine v_dup (pc := 65) C rfl dX2_addDuct_65 ?_
  refine v_getiM (pc := 66) C hN 3 (by decide) (wF_X2_58 G) rfl 3 rfl dX2_addDuct_66 (fun z66 ez66 rz66 => ?_)
  have wz66 : z66 = r 1 := ez66.trans hR.nd
  refine v_iconst (pc := 69) C dX2_addDuct_69 ?_
  refine v_iadd (pc := 70) C dX2_addDuct_70 ?_
  refine v_putiM (pc := 71) C hN 3 (by decide) (wF_X2_58 G) rfl rfl 3 rfl (by first | omega | assumption) dX2_addDuct_71 ?_
  exact v_vret (pc := 74) C hr dX2_addDuct_74 ⟨rfl, _, by rw [wz5, wz15, wz25, wz35, wz45, wz52, wz66]; exact hR.addD hn0.2 ⟨hn1.1, hn⟩ hx hy rfl rfl rfl rfl rfl rfl rfl rfl rfl rfl rfl rfl, rfl⟩

set_option maxHeartbeats 4000000 in
set_option maxRecDepth 100000 in
theorem k_X2_removeDuct {γ : Gm} (G : Glo γ) {σ α : St} {n : Nat} {r : Int → Int} {e : Int} (hN : NetB n) (hR : Rep α r) (h : Wf r) (he : 0 ≤ e ∧ e < r 1) : Ct γ yX2_removeDuct cX2_removeDuct 3 none 1 [.ref (bs γ + n), .int (iI e)] (setN σ n α) (pV (fun σ2 => ∃ α2, Rep α2 (removeR r e) ∧ σ2 = setN σ n α2)) := by
  refine Ct.of G (by decide +kernel) (Nat.le_of_ble_eq_true rfl) (fun φ C hr => ?_)
  have C : Cx γ φ RX2 cX2_removeDuct 3 1 := C
  have hn0 := h.1
  have hn1 := h.2.1
  have hn4 := h.2.2.1
  have hn5 := h.2.2.2.1
  refine v_lv [(0, .ref (bs γ + n)), (1, .int (iI e))] [0, 1] rfl ?_
  refine v_aload_n (pc := 0) C 0 rfl dX2_removeDuct_0 ?_
  refine v_getiM (pc := 1) C hN 3 (by decide) (wF_X2_58 G) rfl 3 rfl dX2_removeDuct_1 (fun z1 ez1 rz1 => ?_)
  have wz1 : z1 = r 1 := ez1.trans hR.nd
  refine v_iconst (pc := 4) C dX2_removeDuct_4 ?_
  refine v_isub (pc := 5) C dX2_removeDuct_5 ?_
  refine v_iload_n (pc := 6) C 1 rfl dX2_removeDuct_6 ?_
  refine v_isub (pc := 7) C dX2_removeDuct_7 ?_
  refine v_istore_n (pc := 8) C [(2, .int (iI ((z1 - 1) - e))), (0, .ref (bs γ + n)), (1, .int (iI e))] dX2_removeDuct_8 rfl (by decide) rfl ?_
  refine v_aload_n (pc := 9) C 1 rfl dX2_removeDuct_9 ?_
  refine v_getrN (pc := 10) C hN 10 7 (by decide) (wF_X2_30 G) rfl dX2_removeDuct_10 ?_
  refine v_iload_n (pc := 13) C 2 rfl dX2_removeDuct_13 ?_
  refine v_iconst (pc := 14) C dX2_removeDuct_14 ?_
  refine v_iadd (pc := 15) C dX2_removeDuct_15 ?_
  refine v_aload_n (pc := 16) C 1 rfl dX2_removeDuct_16 ?_
  refine v_getrN (pc := 17) C hN 10 7 (by decide) (wF_X2_30 G) rfl dX2_removeDuct_17 ?_
  refine v_iload_n (pc := 20) C 2 rfl dX2_removeDuct_20 ?_
  refine v_iload_n (pc := 21) C 0 rfl dX2_removeDuct_21 ?_
  refine v_copy (pc := 22) C (wCpy_X2_61 G) ((hN.sh (k := 7) (by decide)).trans (rfl : shN.getD 7 (9, 0) = (0, 16))) ((hN.sh (k := 7) (by decide)).trans (rfl : shN.getD 7 (9, 0) = (0, 16))) (by decide) (by first | omega | assumption) (by first | omega | assumption) dX2_removeDuct_22 (Nat.le_of_ble_eq_true rfl) ?_
  rw [setN_at σ n _ (k := 7) (by decide), setc_setN σ n _ (k := 7) (by decide)]
  refine v_aload_n (pc := 25) C 1 rfl dX2_removeDuct_25 ?_
  refine v_getrN (pc := 26) C hN 11 8 (by decide) (wF_X2_33 G) rfl dX2_removeDuct_26 ?_
  refine v_iload_n (pc := 29) C 2 rfl dX2_removeDuct_29 ?_
  refine v_iconst (pc := 30) C dX2_removeDuct_30 ?_
  refine v_iadd (pc := 31) C dX2_removeDuct_31 ?_
  refine v_aload_n (pc := 32) C 1 rfl dX2_removeDuct_32 ?_
  refine v_getrN (pc := 33) C hN 11 8 (by decide) (wF_X2_33 G) rfl dX2_removeDuct_33 ?_
  refine v_iload_n (pc := 36) C 2 rfl dX2_removeDuct_36 ?_
  refine v_iload_n (pc := 37) C 0 rfl dX2_removeDuct_37 ?_
  refine v_copy (pc := 38) C (wCpy_X2_61 G) ((hN.sh (k := 8) (by decide)).trans (rfl : shN.getD 8 (9, 0) = (0, 16))) ((hN.sh (k := 8) (by decide)).trans (rfl : shN.getD 8 (9, 0) = (0, 16))) (by decide) (by first | omega | assumption) (by first | omega | assumption) dX2_removeDuct_38 (Nat.le_of_ble_eq_true rfl) ?_
  rw [setN_at σ n _ (k := 8) (by decide), setc_setN σ n _ (k := 8) (by decide)]
  refine v_aload_n (pc := 41) C 1 rfl dX2_removeDuct_41 ?_
  refine v_getrN (pc := 42) C hN 12 9 (by decide) (wF_X2_36 G) rfl dX2_removeDuct_42 ?_
  refine v_iload_n (pc := 45) C 2 rfl dX2_removeDuct_45 ?_
  refine v_iconst (pc := 46) C dX2_removeDuct_46 ?_
  refine v_iadd (pc := 47) C dX2_removeDuct_47 ?_
  refine v_aload_n (pc := 48) C 1 rfl dX2_removeDuct_48 ?_
  refine v_getrN (pc := 49) C hN 12 9 (by decide) (wF_X2_36 G) rfl dX2_removeDuct_49 ?_
  refine v_iload_n (pc := 52) C 2 rfl dX2_removeDuct_52 ?_
  refine v_iload_n (pc := 53) C 0 rfl dX2_removeDuct_53 ?_
  refine v_copy (pc := 54) C (wCpy_X2_61 G) ((hN.sh (k := 9) (by decide)).trans (rfl : shN.getD 9 (9, 0) = (0, 16))) ((hN.sh (k := 9) (by decide)).trans (rfl : shN.getD 9 (9, 0) = (0, 16))) (by decide) (by first | omega | assumption) (by first | omega | assumption) dX2_removeDuct_54 (Nat.le_of_ble_eq_true rfl) ?_
  rw [setN_at σ n _ (k := 9) (by decide), setc_setN σ n _ (k := 9) (by decide)]
  refine v_aload_n (pc := 57) C 1 rfl dX2_removeDuct_57 ?_
  refine v_getrN (pc := 58) C hN 13 10 (by decide) (wF_X2_39 G) rfl dX2_removeDuct_58 ?_
  refine v_iload_n (pc := 61) C 2 rfl dX2_removeDuct_61 ?_
  refine v_iconst (pc := 62) C dX2_removeDuct_62 ?_
  refine v_iadd (pc := 63) C dX2_removeDuct_63 ?_
  refine v_aload_n (pc := 64) C 1 rfl dX2_removeDuct_64 ?_
  refine v_getrN (pc := 65) C hN 13 10 (by decide) (wF_X2_39 G) rfl dX2_removeDuct_65 ?_
  refine v_iload_n (pc := 68) C 2 rfl dX2_removeDuct_68 ?_
  refine v_iload_n (pc := 69) C 0 rfl dX2_removeDuct_69 ?_
  refine v_copy (pc := 70) C (wCpy_X2_61 G) ((hN.sh (k := 10) (by decide)).trans (rfl : shN.getD 10 (9, 0) = (0, 16))) ((hN.sh (k := 10) (by decide)).trans (rfl : shN.getD 10 (9, 0) = (0, 16))) (by decide) (by first | omega | assumption) (by first | omega | assumption) dX2_removeDuct_70 (Nat.le_of_ble_eq_true rfl) ?_
  rw [setN_at σ n _ (k := 10) (by decide), setc_setN σ n _ (k := 10) (by decide)]
  refine v_aload_n (pc := 73) C 1 rfl dX2_removeDuct_73 ?_
  refine v_getrN (pc := 74) C hN 14 11 (by decide) (wF_X2_42 G) rfl dX2_removeDuct_74 ?_
  refine v_iload_n (pc := 77) C 2 rfl dX2_removeDuct_77 ?_
  refine v_iconst (pc := 78) C dX2_removeDuct_78 ?_
  refine v_iadd (pc := 79) C dX2_removeDuct_79 ?_
  refine v_bipush (pc := 80) C (by decide +kernel) dX2_removeDuct_80 ?_
  refine v_imul (pc := 82) C dX2_removeDuct_82 ?_
  refine v_aload_n (pc := 83) C 1 rfl dX2_removeDuct_83 ?_
  refine v_getrN (pc := 84) C hN 14 11 (by decide) (wF_X2_42 G) rfl dX2_removeDuct_84 ?_
  refine v_iload_n (pc := 87) C 2 rfl dX2_removeDuct_87 ?_
  refine v_bipush (pc := 88) C (by decide +kernel) dX2_removeDuct_88 ?_
  refine v_imul (pc := 90) C dX2_removeDuct_90 ?_
  refine v_iload_n (pc := 91) C 0 rfl dX2_removeDuct_91 ?_
  refine v_bipush (pc := 92) C (by decide +kernel) dX2_removeDuct_92 ?_
  refine v_imul (pc := 94) C dX2_removeDuct_94 ?_
  refine v_copy (pc := 95) C (wCpy_X2_61 G) ((hN.sh (k := 11) (by decide)).trans (rfl : shN.getD 11 (9, 0) = (0, 96))) ((hN.sh (k := 11) (by decide)).trans (rfl : shN.getD 11 (9, 0) = (0, 96))) (by decide) (by first | omega | assumption) (by first | omega | assumption) dX2_removeDuct_95 (Nat.le_of_ble_eq_true rfl) ?_
  rw [setN_at σ n _ (k := 11) (by decide), setc_setN σ n _ (k := 11) (by decide)]
  refine v_aload_n (pc := 98) C 1 rfl dX2_removeDuct_98 ?_
  refine v_dup (pc := 99) C rfl dX2_removeDuct_99 ?_
  refine v_getiM (pc := 100) C hN 3 (by decide) (wF_X2_58 G) rfl 3 rfl dX2_removeDuct_100 (fun z100 ez100 rz100 => ?_)
  have wz100 : z100 = r 1 := ez100.trans hR.nd
  refine v_iconst (pc := 103) C dX2_removeDuct_103 ?_
  refine v_isub (pc := 104) C dX2_removeDuct_104 ?_
  refine v_putiM (pc := 105) C hN 3 (by decide) (wF_X2_58 G) rfl rfl 3 rfl (by first | omega | assumption) dX2_removeDuct_105 ?_
  exact v_vret (pc := 108) C hr dX2_removeDuct_108 ⟨rfl, _, by rw [wz1, wz100]; exact hR.remD hn0.2 he rfl rfl rfl rfl rfl rfl rfl rfl rfl rfl rfl rfl, rfl⟩

set_option maxHeartbeats 4000000 in
set_option maxRecDepth 100000 in
theorem k_X2_copyFrom {γ : Gm} (G : Glo γ) {σ : St} {n m : Nat} (hN : NetB n) (hM : NetB m) (hd : m + 13 ≤ n ∨ n + 13 ≤ m) : Ct γ yX2_copyFrom cX2_copyFrom 2 none 1 [.ref (bs γ + n), .ref (bs γ + m)] σ (pV (fun σ2 => ∃ α2, (α2 0 0 = σ m 0 ∧ α2 0 1 = σ m 1 ∧ α2 0 2 = σ m 2 ∧ α2 0 3 = σ m 3) ∧ (∀ k, 1 ≤ k → k < 12 → ∀ j, 0 ≤ j → j < ((shN.getD k (9, 0)).2 : Int) → α2 k j = σ (m + k) j) ∧ σ2 = setN σ n α2)) := by
  refine Ct.of G (by decide +kernel) (Nat.le_of_ble_eq_true rfl) (fun φ C hr => ?_)
  have C : Cx γ φ RX2 cX2_copyFrom 2 1 := C
  refine v_st (setN_eta σ n).symm ?_
  refine v_lv [(0, .ref (bs γ + n)), (1, .ref (bs γ + m))] [0, 1] rfl ?_
  refine v_aload_n (pc := 0) C 0 rfl dX2_copyFrom_0 ?_
  refine v_aload_n (pc := 1) C 1 rfl dX2_copyFrom_1 ?_
  refine v_geti (pc := 2) C inX2 goX2 (ci := 1) rfl 0 (by decide) (wF_X2_48 G) rfl (show sh m = (5, 1) from hM.sh (k := 0) (by decide)) 0 rfl dX2_copyFrom_2 (fun z2 ez2 rz2 => ?_)
  rw [setN_out σ n _ (c := m) (by omega)] at ez2
  refine v_putiM (pc := 5) C hN 0 (by decide) (wF_X2_48 G) rfl rfl 0 rfl (by first | omega | assumption) dX2_copyFrom_5 ?_
  refine v_aload_n (pc := 8) C 0 rfl dX2_copyFrom_8 ?_
  refine v_aload_n (pc := 9) C 1 rfl dX2_copyFrom_9 ?_
  refine v_geti (pc := 10) C inX2 goX2 (ci := 1) rfl 1 (by decide) (wF_X2_52 G) rfl (show sh m = (5, 1) from hM.sh (k := 0) (by decide)) 1 rfl dX2_copyFrom_10 (fun z10 ez10 rz10 => ?_)
  rw [setN_out σ n _ (c := m) (by omega)] at ez10
  refine v_putiM (pc := 13) C hN 1 (by decide) (wF_X2_52 G) rfl rfl 1 rfl (by first | omega | assumption) dX2_copyFrom_13 ?_
  refine v_aload_n (pc := 16) C 0 rfl dX2_copyFrom_16 ?_
  refine v_aload_n (pc := 17) C 1 rfl dX2_copyFrom_17 ?_
  refine v_geti (pc := 18) C inX2 goX2 (ci := 1) rfl 2 (by decide) (wF_X2_55 G) rfl (show sh m = (5, 1) from hM.sh (k := 0) (by decide)) 2 rfl dX2_copyFrom_18 (fun z18 ez18 rz18 => ?_)
  rw [setN_out σ n _ (c := m) (by omega)] at ez18
  refine v_putiM (pc := 21) C hN 2 (by decide) (wF_X2_55 G) rfl rfl 2 rfl (by first | omega | assumption) dX2_copyFrom_21 ?_
  refine v_aload_n (pc := 24) C 0 rfl dX2_copyFrom_24 ?_
  refine v_aload_n (pc := 25) C 1 rfl dX2_copyFrom_25 ?_
  refine v_geti (pc := 26) C inX2 goX2 (ci := 1) rfl 3 (by decide) (wF_X2_58 G) rfl (show sh m = (5, 1) from hM.sh (k := 0) (by decide)) 3 rfl dX2_copyFrom_26 (fun z26 ez26 rz26 => ?_)
  rw [setN_out σ n _ (c := m) (by omega)] at ez26
  refine v_putiM (pc := 29) C hN 3 (by decide) (wF_X2_58 G) rfl rfl 3 rfl (by first | omega | assumption) dX2_copyFrom_29 ?_
  refine v_aload_n (pc := 32) C 1 rfl dX2_copyFrom_32 ?_
  refine v_getr (pc := 33) C inX2 goX2 (ci := 1) rfl 4 (by decide) (wF_X2_9 G) rfl (show sh m = (5, 1) from hM.sh (k := 0) (by decide)) (m + 1) rfl dX2_copyFrom_33 ?_
  refine v_iconst (pc := 36) C dX2_copyFrom_36 ?_
  refine v_aload_n (pc := 37) C 0 rfl dX2_copyFrom_37 ?_
  refine v_getrN (pc := 38) C hN 4 1 (by decide) (wF_X2_9 G) rfl dX2_copyFrom_38 ?_
  refine v_iconst (pc := 41) C dX2_copyFrom_41 ?_
  refine v_aload_n (pc := 42) C 0 rfl dX2_copyFrom_42 ?_
  refine v_getrN (pc := 43) C hN 4 1 (by decide) (wF_X2_9 G) rfl dX2_copyFrom_43 ?_
  refine v_alen (pc := 46) C ((hN.sh (k := 1) (by decide)).trans (rfl : shN.getD 1 (9, 0) = (0, 2))) dX2_copyFrom_46 ?_
  refine v_copy (pc := 47) C (wCpy_X2_61 G) ((hM.sh (k := 1) (by decide)).trans (rfl : shN.getD 1 (9, 0) = (0, 2))) ((hN.sh (k := 1) (by decide)).trans (rfl : shN.getD 1 (9, 0) = (0, 2))) (by decide) (by first | omega | assumption) (by first | omega | assumption) dX2_copyFrom_47 (Nat.le_of_ble_eq_true rfl) ?_
  rw [setN_out σ n _ (c := m + 1) (by omega)]
  rw [setN_at σ n _ (k := 1) (by decide), setc_setN σ n _ (k := 1) (by decide)]
  refine v_aload_n (pc := 50) C 1 rfl dX2_copyFrom_50 ?_
  refine v_getr (pc := 51) C inX2 goX2 (ci := 1) rfl 5 (by decide) (wF_X2_15 G) rfl (show sh m = (5, 1) from hM.sh (k := 0) (by decide)) (m + 2) rfl dX2_copyFrom_51 ?_
  refine v_iconst (pc := 54) C dX2_copyFrom_54 ?_
  refine v_aload_n (pc := 55) C 0 rfl dX2_copyFrom_55 ?_
  refine v_getrN (pc := 56) C hN 5 2 (by decide) (wF_X2_15 G) rfl dX2_copyFrom_56 ?_
  refine v_iconst (pc := 59) C dX2_copyFrom_59 ?_
  refine v_bipush (pc := 60) C (by decide +kernel) dX2_copyFrom_60 ?_
  refine v_copy (pc := 62) C (wCpy_X2_61 G) ((hM.sh (k := 2) (by decide)).trans (rfl : shN.getD 2 (9, 0) = (0, 10))) ((hN.sh (k := 2) (by decide)).trans (rfl : shN.getD 2 (9, 0) = (0, 10))) (by decide) (by first | omega | assumption) (by first | omega | assumption) dX2_copyFrom_62 (Nat.le_of_ble_eq_true rfl) ?_
  rw [setN_out σ n _ (c := m + 2) (by omega)]
  rw [setN_at σ n _ (k := 2) (by decide), setc_setN σ n _ (k := 2) (by decide)]
  refine v_aload_n (pc := 65) C 1 rfl dX2_copyFrom_65 ?_
  refine v_getr (pc := 66) C inX2 goX2 (ci := 1) rfl 6 (by decide) (wF_X2_18 G) rfl (show sh m = (5, 1) from hM.sh (k := 0) (by decide)) (m + 3) rfl dX2_copyFrom_66 ?_
  refine v_iconst (pc := 69) C dX2_copyFrom_69 ?_
  refine v_aload_n (pc := 70) C 0 rfl dX2_copyFrom_70 ?_
  refine v_getrN (pc := 71) C hN 6 3 (by decide) (wF_X2_18 G) rfl dX2_copyFrom_71 ?_
  refine v_iconst (pc := 74) C dX2_copyFrom_74 ?_
  refine v_bipush (pc := 75) C (by decide +kernel) dX2_copyFrom_75 ?_
  refine v_copy (pc := 77) C (wCpy_X2_61 G) ((hM.sh (k := 3) (by decide)).trans (rfl : shN.getD 3 (9, 0) = (0, 10))) ((hN.sh (k := 3) (by decide)).trans (rfl : shN.getD 3 (9, 0) = (0, 10))) (by decide) (by first | omega | assumption) (by first | omega | assumption) dX2_copyFrom_77 (Nat.le_of_ble_eq_true rfl) ?_
  rw [setN_out σ n _ (c := m + 3) (by omega)]
  rw [setN_at σ n _ (k := 3) (by decide), setc_setN σ n _ (k := 3) (by decide)]
  refine v_aload_n (pc := 80) C 1 rfl dX2_copyFrom_80 ?_
  refine v_getr (pc := 81) C inX2 goX2 (ci := 1) rfl 7 (by decide) (wF_X2_21 G) rfl (show sh m = (5, 1) from hM.sh (k := 0) (by decide)) (m + 4) rfl dX2_copyFrom_81 ?_
  refine v_iconst (pc := 84) C dX2_copyFrom_84 ?_
  refine v_aload_n (pc := 85) C 0 rfl dX2_copyFrom_85 ?_
  refine v_getrN (pc := 86) C hN 7 4 (by decide) (wF_X2_21 G) rfl dX2_copyFrom_86 ?_
  refine v_iconst (pc := 89) C dX2_copyFrom_89 ?_
  refine v_bipush (pc := 90) C (by decide +kernel) dX2_copyFrom_90 ?_
  refine v_copy (pc := 92) C (wCpy_X2_61 G) ((hM.sh (k := 4) (by decide)).trans (rfl : shN.getD 4 (9, 0) = (0, 10))) ((hN.sh (k := 4) (by decide)).trans (rfl : shN.getD 4 (9, 0) = (0, 10))) (by decide) (by first | omega | assumption) (by first | omega | assumption) dX2_copyFrom_92 (Nat.le_of_ble_eq_true rfl) ?_
  rw [setN_out σ n _ (c := m + 4) (by omega)]
  rw [setN_at σ n _ (k := 4) (by decide), setc_setN σ n _ (k := 4) (by decide)]
  refine v_aload_n (pc := 95) C 1 rfl dX2_copyFrom_95 ?_
  refine v_getr (pc := 96) C inX2 goX2 (ci := 1) rfl 8 (by decide) (wF_X2_24 G) rfl (show sh m = (5, 1) from hM.sh (k := 0) (by decide)) (m + 5) rfl dX2_copyFrom_96 ?_
  refine v_iconst (pc := 99) C dX2_copyFrom_99 ?_
  refine v_aload_n (pc := 100) C 0 rfl dX2_copyFrom_100 ?_
  refine v_getrN (pc := 101) C hN 8 5 (by decide) (wF_X2_24 G) rfl dX2_copyFrom_101 ?_
  refine v_iconst (pc := 104) C dX2_copyFrom_104 ?_
  refine v_bipush (pc := 105) C (by decide +kernel) dX2_copyFrom_105 ?_
  refine v_copy (pc := 107) C (wCpy_X2_61 G) ((hM.sh (k := 5) (by decide)).trans (rfl : shN.getD 5 (9, 0) = (0, 20))) ((hN.sh (k := 5) (by decide)).trans (rfl : shN.getD 5 (9, 0) = (0, 20))) (by decide) (by first | omega | assumption) (by first | omega | assumption) dX2_copyFrom_107 (Nat.le_of_ble_eq_true rfl) ?_
  rw [setN_out σ n _ (c := m + 5) (by omega)]
  rw [setN_at σ n _ (k := 5) (by decide), setc_setN σ n _ (k := 5) (by decide)]
  refine v_aload_n (pc := 110) C 1 rfl dX2_copyFrom_110 ?_
  refine v_getr (pc := 111) C inX2 goX2 (ci := 1) rfl 9 (by decide) (wF_X2_27 G) rfl (show sh m = (5, 1) from hM.sh (k := 0) (by decide)) (m + 6) rfl dX2_copyFrom_111 ?_
  refine v_iconst (pc := 114) C dX2_copyFrom_114 ?_
  refine v_aload_n (pc := 115) C 0 rfl dX2_copyFrom_115 ?_
  refine v_getrN (pc := 116) C hN 9 6 (by decide) (wF_X2_27 G) rfl dX2_copyFrom_116 ?_
  refine v_iconst (pc := 119) C dX2_copyFrom_119 ?_
  refine v_bipush (pc := 120) C (by decide +kernel) dX2_copyFrom_120 ?_
  refine v_copy (pc := 122) C (wCpy_X2_61 G) ((hM.sh (k := 6) (by decide)).trans (rfl : shN.getD 6 (9, 0) = (0, 20))) ((hN.sh (k := 6) (by decide)).trans (rfl : shN.getD 6 (9, 0) = (0, 20))) (by decide) (by first | omega | assumption) (by first | omega | assumption) dX2_copyFrom_122 (Nat.le_of_ble_eq_true rfl) ?_
  rw [setN_out σ n _ (c := m + 6) (by omega)]
  rw [setN_at σ n _ (k := 6) (by decide), setc_setN σ n _ (k := 6) (by decide)]
  refine v_aload_n (pc := 125) C 1 rfl dX2_copyFrom_125 ?_
  refine v_getr (pc := 126) C inX2 goX2 (ci := 1) rfl 10 (by decide) (wF_X2_30 G) rfl (show sh m = (5, 1) from hM.sh (k := 0) (by decide)) (m + 7) rfl dX2_copyFrom_126 ?_
  refine v_iconst (pc := 129) C dX2_copyFrom_129 ?_
  refine v_aload_n (pc := 130) C 0 rfl dX2_copyFrom_130 ?_
  refine v_getrN (pc := 131) C hN 10 7 (by decide) (wF_X2_30 G) rfl dX2_copyFrom_131 ?_
  refine v_iconst (pc := 134) C dX2_copyFrom_134 ?_
  refine v_bipush (pc := 135) C (by decide +kernel) dX2_copyFrom_135 ?_
  refine v_copy (pc := 137) C (wCpy_X2_61 G) ((hM.sh (k := 7) (by decide)).trans (rfl : shN.getD 7 (9, 0) = (0, 16))) ((hN.sh (k := 7) (by decide)).trans (rfl : shN.getD 7 (9, 0) = (0, 16))) (by decide) (by first | omega | assumption) (by first | omega | assumption) dX2_copyFrom_137 (Nat.le_of_ble_eq_true rfl) ?_
  rw [setN_out σ n _ (c := m + 7) (by omega)]
  rw [setN_at σ n _ (k := 7) (by decide), setc_setN σ n _ (k := 7) (by decide)]
  refine v_aload_n (pc := 140) C 1 rfl dX2_copyFrom_140 ?_
  refine v_getr (pc := 141) C inX2 goX2 (ci := 1) rfl 11 (by decide) (wF_X2_33 G) rfl (show sh m = (5, 1) from hM.sh (k := 0) (by decide)) (m + 8) rfl dX2_copyFrom_141 ?_
  refine v_iconst (pc := 144) C dX2_copyFrom_144 ?_
  refine v_aload_n (pc := 145) C 0 rfl dX2_copyFrom_145 ?_
  refine v_getrN (pc := 146) C hN 11 8 (by decide) (wF_X2_33 G) rfl dX2_copyFrom_146 ?_
  refine v_iconst (pc := 149) C dX2_copyFrom_149 ?_
  refine v_bipush (pc := 150) C (by decide +kernel) dX2_copyFrom_150 ?_
  refine v_copy (pc := 152) C (wCpy_X2_61 G) ((hM.sh (k := 8) (by decide)).trans (rfl : shN.getD 8 (9, 0) = (0, 16))) ((hN.sh (k := 8) (by decide)).trans (rfl : shN.getD 8 (9, 0) = (0, 16))) (by decide) (by first | omega | assumption) (by first | omega | assumption) dX2_copyFrom_152 (Nat.le_of_ble_eq_true rfl) ?_
  rw [setN_out σ n _ (c := m + 8) (by omega)]
  rw [setN_at σ n _ (k := 8) (by decide), setc_setN σ n _ (k := 8) (by decide)]
  refine v_aload_n (pc := 155) C 1 rfl dX2_copyFrom_155 ?_
  refine v_getr (pc := 156) C inX2 goX2 (ci := 1) rfl 12 (by decide) (wF_X2_36 G) rfl (show sh m = (5, 1) from hM.sh (k := 0) (by decide)) (m + 9) rfl dX2_copyFrom_156 ?_
  refine v_iconst (pc := 159) C dX2_copyFrom_159 ?_
  refine v_aload_n (pc := 160) C 0 rfl dX2_copyFrom_160 ?_
  refine v_getrN (pc := 161) C hN 12 9 (by decide) (wF_X2_36 G) rfl dX2_copyFrom_161 ?_
  refine v_iconst (pc := 164) C dX2_copyFrom_164 ?_
  refine v_bipush (pc := 165) C (by decide +kernel) dX2_copyFrom_165 ?_
  refine v_copy (pc := 167) C (wCpy_X2_61 G) ((hM.sh (k := 9) (by decide)).trans (rfl : shN.getD 9 (9, 0) = (0, 16))) ((hN.sh (k := 9) (by decide)).trans (rfl : shN.getD 9 (9, 0) = (0, 16))) (by decide) (by first | omega | assumption) (by first | omega | assumption) dX2_copyFrom_167 (Nat.le_of_ble_eq_true rfl) ?_
  rw [setN_out σ n _ (c := m + 9) (by omega)]
  rw [setN_at σ n _ (k := 9) (by decide), setc_setN σ n _ (k := 9) (by decide)]
  refine v_aload_n (pc := 170) C 1 rfl dX2_copyFrom_170 ?_
  refine v_getr (pc := 171) C inX2 goX2 (ci := 1) rfl 13 (by decide) (wF_X2_39 G) rfl (show sh m = (5, 1) from hM.sh (k := 0) (by decide)) (m + 10) rfl dX2_copyFrom_171 ?_
  refine v_iconst (pc := 174) C dX2_copyFrom_174 ?_
  refine v_aload_n (pc := 175) C 0 rfl dX2_copyFrom_175 ?_
  refine v_getrN (pc := 176) C hN 13 10 (by decide) (wF_X2_39 G) rfl dX2_copyFrom_176 ?_
  refine v_iconst (pc := 179) C dX2_copyFrom_179 ?_
  refine v_bipush (pc := 180) C (by decide +kernel) dX2_copyFrom_180 ?_
  refine v_copy (pc := 182) C (wCpy_X2_61 G) ((hM.sh (k := 10) (by decide)).trans (rfl : shN.getD 10 (9, 0) = (0, 16))) ((hN.sh (k := 10) (by decide)).trans (rfl : shN.getD 10 (9, 0) = (0, 16))) (by decide) (by first | omega | assumption) (by first | omega | assumption) dX2_copyFrom_182 (Nat.le_of_ble_eq_true rfl) ?_
  rw [setN_out σ n _ (c := m + 10) (by omega)]
  rw [setN_at σ n _ (k := 10) (by decide), setc_setN σ n _ (k := 10) (by decide)]
  refine v_aload_n (pc := 185) C 1 rfl dX2_copyFrom_185 ?_
  refine v_getr (pc := 186) C inX2 goX2 (ci := 1) rfl 14 (by decide) (wF_X2_42 G) rfl (show sh m = (5, 1) from hM.sh (k := 0) (by decide)) (m + 11) rfl dX2_copyFrom_186 ?_
  refine v_iconst (pc := 189) C dX2_copyFrom_189 ?_
  refine v_aload_n (pc := 190) C 0 rfl dX2_copyFrom_190 ?_
  refine v_getrN (pc := 191) C hN 14 11 (by decide) (wF_X2_42 G) rfl dX2_copyFrom_191 ?_
  refine v_iconst (pc := 194) C dX2_copyFrom_194 ?_
  refine v_bipush (pc := 195) C (by decide +kernel) dX2_copyFrom_195 ?_
  refine v_copy (pc := 197) C (wCpy_X2_61 G) ((hM.sh (k := 11) (by decide)).trans (rfl : shN.getD 11 (9, 0) = (0, 96))) ((hN.sh (k := 11) (by decide)).trans (rfl : shN.getD 11 (9, 0) = (0, 96))) (by decide) (by first | omega | assumption) (by first | omega | assumption) dX2_copyFrom_197 (Nat.le_of_ble_eq_true rfl) ?_
  rw [setN_out σ n _ (c := m + 11) (by omega)]
  rw [setN_at σ n _ (k := 11) (by decide), setc_setN σ n _ (k := 11) (by decide)]
  exact v_vret (pc := 200) C hr dX2_copyFrom_200 ⟨rfl, _, by rw [ez2, ez10, ez18, ez26]; exact ⟨rfl, rfl, rfl, rfl⟩, by
      intro k k1 k2 j j1 j2
      rcases (show k = 1 ∨ k = 2 ∨ k = 3 ∨ k = 4 ∨ k = 5 ∨ k = 6 ∨ k = 7 ∨ k = 8 ∨ k = 9 ∨ k = 10 ∨ k = 11 by omega) with rfl | rfl | rfl | rfl | rfl | rfl | rfl | rfl | rfl | rfl | rfl
      · exact (by show cpyr (σ (m + 1)) _ 0 0 2 j = _; unfold cpyr; rw [if_pos ⟨by omega, by have j2 : j < 2 := j2; omega⟩]; congr 1; omega)
      · exact (by show cpyr (σ (m + 2)) _ 0 0 10 j = _; unfold cpyr; rw [if_pos ⟨by omega, by have j2 : j < 10 := j2; omega⟩]; congr 1; omega)
      · exact (by show cpyr (σ (m + 3)) _ 0 0 10 j = _; unfold cpyr; rw [if_pos ⟨by omega, by have j2 : j < 10 := j2; omega⟩]; congr 1; omega)
      · exact (by show cpyr (σ (m + 4)) _ 0 0 10 j = _; unfold cpyr; rw [if_pos ⟨by omega, by have j2 : j < 10 := j2; omega⟩]; congr 1; omega)
      · exact (by show cpyr (σ (m + 5)) _ 0 0 20 j = _; unfold cpyr; rw [if_pos ⟨by omega, by have j2 : j < 20 := j2; omega⟩]; congr 1; omega)
      · exact (by show cpyr (σ (m + 6)) _ 0 0 20 j = _; unfold cpyr; rw [if_pos ⟨by omega, by have j2 : j < 20 := j2; omega⟩]; congr 1; omega)
      · exact (by show cpyr (σ (m + 7)) _ 0 0 16 j = _; unfold cpyr; rw [if_pos ⟨by omega, by have j2 : j < 16 := j2; omega⟩]; congr 1; omega)
      · exact (by show cpyr (σ (m + 8)) _ 0 0 16 j = _; unfold cpyr; rw [if_pos ⟨by omega, by have j2 : j < 16 := j2; omega⟩]; congr 1; omega)
      · exact (by show cpyr (σ (m + 9)) _ 0 0 16 j = _; unfold cpyr; rw [if_pos ⟨by omega, by have j2 : j < 16 := j2; omega⟩]; congr 1; omega)
      · exact (by show cpyr (σ (m + 10)) _ 0 0 16 j = _; unfold cpyr; rw [if_pos ⟨by omega, by have j2 : j < 16 := j2; omega⟩]; congr 1; omega)
      · exact (by show cpyr (σ (m + 11)) _ 0 0 96 j = _; unfold cpyr; rw [if_pos ⟨by omega, by have j2 : j < 96 := j2; omega⟩]; congr 1; omega), rfl⟩
