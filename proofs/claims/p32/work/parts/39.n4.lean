set_option maxHeartbeats 4000000 in
set_option maxRecDepth 100000 in
theorem k_X2_moveAir {γ : Gm} (G : Glo γ) {σ α : St} {n : Nat} {r : Int → Int} {e : Int} (hN : NetB n) (hR : Rep α r) (h : Wf r) (he : 0 ≤ e ∧ e < r 1) : Ct γ yX2_moveAir cX2_moveAir 7 (some .boolean) 1 [.ref (bs γ + n), .int (iI e)] (setN σ n α) (pI (fun z σ2 => (z = 1 ∧ ADf r (enterR r e) e ∨ z = 0 ∧ ¬ ADf r (enterR r e) e) ∧ ∃ α2, Rep α2 (enterR r e) ∧ σ2 = setN σ n α2)) := by
  refine Ct.of G (by decide +kernel) (Nat.le_of_ble_eq_true rfl) (fun φ C hr => ?_)
  have C : Cx γ φ RX2 cX2_moveAir 7 1 := C
  have hn0 := h.1
  have hn1 := h.2.1
  have hn4 := h.2.2.1
  have hn5 := h.2.2.2.1
  obtain ⟨d0, d1, d2, d3, d4, d5, d6⟩ := h.2.2.2.2.2 e he.1 he.2
  obtain ⟨s7, s8, s9, s10⟩ := hR.2.2.2.1 e he.1 he.2
  have hm46 := mulb (x := r (76 + 12 * e + 4)) (y := r 4) (A := 6) (B := 9) (by omega) (by omega)
  refine v_lv [(0, .ref (bs γ + n)), (1, .int (iI e))] [0, 1] rfl ?_
  refine v_iload_n (pc := 0) C 1 rfl dX2_moveAir_0 ?_
  refine v_bipush (pc := 1) C (by decide +kernel) dX2_moveAir_1 ?_
  refine v_imul (pc := 3) C dX2_moveAir_3 ?_
  refine v_nm (fun nx enx => ?_)
  refine v_istore_n (pc := 4) C [(2, .int (iI nx)), (0, .ref (bs γ + n)), (1, .int (iI e))] dX2_moveAir_4 rfl (by decide) rfl ?_
  refine v_iload_n (pc := 5) C 0 rfl dX2_moveAir_5 ?_
  refine v_aload_n (pc := 6) C 1 rfl dX2_moveAir_6 ?_
  refine v_getrN (pc := 7) C hN 12 9 (by decide) (wF_X2_36 G) rfl dX2_moveAir_7 ?_
  refine v_iload_n (pc := 10) C 2 rfl dX2_moveAir_10 ?_
  refine v_ialdN (pc := 11) C hN 9 (by decide) (m := 16) rfl (by first | omega | assumption) dX2_moveAir_11 (fun z11 ez11 rz11 => ?_)
  have wz11 : z11 = r (76 + 12 * e + 4) := ez11.trans s9
  refine v_iadd (pc := 12) C dX2_moveAir_12 ?_
  refine v_iconst (pc := 13) C dX2_moveAir_13 ?_
  refine v_isub (pc := 14) C dX2_moveAir_14 ?_
  refine v_nm (fun la ela => ?_)
  refine v_istore_n (pc := 15) C [(3, .int (iI la)), (2, .int (iI nx)), (0, .ref (bs γ + n)), (1, .int (iI e))] dX2_moveAir_15 rfl (by decide) rfl ?_
  refine v_iconst (pc := 16) C dX2_moveAir_16 ?_
  refine v_istore (pc := 17) C [(4, .int (iI 0)), (3, .int (iI la)), (2, .int (iI nx)), (0, .ref (bs γ + n)), (1, .int (iI e))] dX2_moveAir_17 (by decide) rfl ?_
  refine v_iload_n (pc := 19) C 2 rfl dX2_moveAir_19 ?_
  refine v_istore (pc := 20) C [(5, .int (iI nx)), (4, .int (iI 0)), (3, .int (iI la)), (2, .int (iI nx)), (0, .ref (bs γ + n)), (1, .int (iI e))] dX2_moveAir_20 (by decide) rfl ?_
  have L22 : ∀ (fu : Nat) (i : Nat) (ch : Int) (f : Int → Int), (hi : (i : Int) ≤ z11) → (hI : airI α r e f i ch) → z11.toNat - i < fu → Vw γ φ 7 0 0 (QE γ φ (pI (fun z σ2 => (z = 1 ∧ ADf r (enterR r e) e ∨ z = 0 ∧ ¬ ADf r (enterR r e) e) ∧ ∃ α2, Rep α2 (enterR r e) ∧ σ2 = setN σ n α2))) (setN σ n (setc α 11 f)) 22 [(5, .int (iI (nx + (i : Int)))), (4, .int (iI ch)), (3, .int (iI la)), (2, .int (iI nx)), (1, .int (iI e)), (0, .ref (bs γ + n))] [] := by
    intro fu
    induction fu with
    | zero => intro i ch f hi hI hz; exact absurd hz (Nat.not_lt_zero _)
    | succ fu ih =>
      intro i ch f hi hI hz
      refine v_iload (pc := 22) C 0 rfl dX2_moveAir_22 ?_
      refine v_iload_n (pc := 24) C 2 rfl dX2_moveAir_24 ?_
      refine v_icmp_gt (pc := 25) C 89 (by first | omega | assumption) (by first | omega | assumption) dX2_moveAir_25 (by decide) (fun h25 => ?_) (fun h25 => ?_)
      · refine v_iload (pc := 89) C 1 rfl dX2_moveAir_89 ?_
        exact v_iret (pc := 91) C hr (hI.2.2.elim (fun q => by rw [q.1]; rfl) (fun q => by rw [q.1]; rfl)) dX2_moveAir_91 (by obtain ⟨hR9, hb9⟩ := airI_end hR he hn0.2 d4.1 d4.2 (by omega) hI; exact ⟨_, rfl, hb9, _, hR9, rfl⟩)
      · refine v_iload (pc := 28) C 0 rfl dX2_moveAir_28 ?_
        refine v_iload_n (pc := 30) C 2 rfl dX2_moveAir_30 ?_
        refine v_icmp_ge (pc := 31) C 46 (by first | omega | assumption) (by first | omega | assumption) dX2_moveAir_31 (by decide) (fun h31 => ?_) (fun h31 => ?_)
        · refine v_aload_n (pc := 46) C 5 rfl dX2_moveAir_46 ?_
          refine v_getrN (pc := 47) C hN 8 5 (by decide) (wF_X2_24 G) rfl dX2_moveAir_47 ?_
          refine v_aload_n (pc := 50) C 5 rfl dX2_moveAir_50 ?_
          refine v_getrN (pc := 51) C hN 10 7 (by decide) (wF_X2_30 G) rfl dX2_moveAir_51 ?_
          refine v_iload_n (pc := 54) C 4 rfl dX2_moveAir_54 ?_
          refine v_ialdN (pc := 55) C hN 7 (by decide) (m := 16) rfl (by first | omega | assumption) dX2_moveAir_55 (fun z55 ez55 rz55 => ?_)
          have wz55 := ez55.trans s7
          refine v_ialdN (pc := 56) C hN 5 (by decide) (m := 20) rfl (by first | omega | assumption) dX2_moveAir_56 (fun z56 ez56 rz56 => ?_)
          have wz56 : z56 = enterR r e (76 + 12 * e + (6 + (i : Int))) := by
            rw [show 76 + 12 * e + (6 + (i : Int)) = 76 + 12 * e + 6 + (r (76 + 12 * e + 4) - 1) by omega, enterR_last, ez56]
            show α 5 _ = _
            rw [wz55]
            exact (hR.2.2.1 _ _ d0.1 d0.2 d1.1 d1.2).1
          refine v_istore (pc := 57) C [(6, .int (iI z56)), (5, .int (iI (nx + (i : Int)))), (4, .int (iI ch)), (3, .int (iI la)), (2, .int (iI nx)), (1, .int (iI e)), (0, .ref (bs γ + n))] dX2_moveAir_57 (by decide) rfl ?_
          refine v_aload_n (pc := 59) C 6 rfl dX2_moveAir_59 ?_
          refine v_getrN (pc := 60) C hN 14 11 (by decide) (wF_X2_42 G) rfl dX2_moveAir_60 ?_
          refine v_iload (pc := 63) C 1 rfl dX2_moveAir_63 ?_
          refine v_ialdN (pc := 65) C hN 11 (by decide) (m := 96) rfl (by first | omega | assumption) dX2_moveAir_65 (fun z65 ez65 rz65 => ?_)
          have wz65 : z65 = r (76 + 12 * e + (6 + (i : Int))) := by
            rw [ez65]
            show f _ = _
            rw [show nx + (i : Int) = 6 * e + (i : Int) by omega, hI.1 _ (by omega) (by omega), if_neg (by omega)]
          refine v_iload (pc := 66) C 0 rfl dX2_moveAir_66 ?_
          refine v_icmp_eq (pc := 68) C 83 (by first | omega | assumption) (by first | omega | assumption) dX2_moveAir_68 (by decide) (fun h68 => ?_) (fun h68 => ?_)
          · have hI2 := airI_eq hI (by omega)
            refine v_iinc (pc := 83) C 1 [(5, .int (iI ((nx + (i : Int)) + 1))), (6, .int (iI z56)), (4, .int (iI ch)), (3, .int (iI la)), (2, .int (iI nx)), (1, .int (iI e)), (0, .ref (bs γ + n))] dX2_moveAir_83 rfl (by decide) rfl ?_
            refine v_goto (pc := 86) C 22 dX2_moveAir_86 (by decide) ?_
            exact v_lv _ [0, 2, 3, 4, 5, 6] (by rw [show nx + ((i + 1 : Nat) : Int) = nx + (i : Int) + 1 by omega]; rfl) (ih (i + 1) _ _ (by omega) hI2 (by omega))
          · have hI2 := airI_ne hI (by omega) (by omega)
            refine v_aload_n (pc := 71) C 6 rfl dX2_moveAir_71 ?_
            refine v_getrN (pc := 72) C hN 14 11 (by decide) (wF_X2_42 G) rfl dX2_moveAir_72 ?_
            refine v_iload (pc := 75) C 1 rfl dX2_moveAir_75 ?_
            refine v_iload (pc := 77) C 0 rfl dX2_moveAir_77 ?_
            refine v_iastN (pc := 79) C hN 11 (by decide) (m := 96) rfl (by first | omega | assumption) (by first | omega | assumption) dX2_moveAir_79 ?_
            refine v_st (show _ = setN σ n (setc α 11 (upr f (6 * e + (i : Int)) (enterR r e (76 + 12 * e + (6 + (i : Int)))))) from by rw [setc_at, setc_setc, show nx + (i : Int) = 6 * e + (i : Int) by omega, wz56]) ?_
            refine v_iconst (pc := 80) C dX2_moveAir_80 ?_
            refine v_istore (pc := 81) C [(4, .int (iI 1)), (6, .int (iI z56)), (5, .int (iI (nx + (i : Int)))), (3, .int (iI la)), (2, .int (iI nx)), (1, .int (iI e)), (0, .ref (bs γ + n))] dX2_moveAir_81 (by decide) rfl ?_
            refine v_iinc (pc := 83) C 2 [(5, .int (iI ((nx + (i : Int)) + 1))), (4, .int (iI 1)), (6, .int (iI z56)), (3, .int (iI la)), (2, .int (iI nx)), (1, .int (iI e)), (0, .ref (bs γ + n))] dX2_moveAir_83 rfl (by decide) rfl ?_
            refine v_goto (pc := 86) C 22 dX2_moveAir_86 (by decide) ?_
            exact v_lv _ [0, 1, 3, 4, 5, 6] (by rw [show nx + ((i + 1 : Nat) : Int) = nx + (i : Int) + 1 by omega]; rfl) (ih (i + 1) _ _ (by omega) hI2 (by omega))
        · refine v_aload_n (pc := 34) C 5 rfl dX2_moveAir_34 ?_
          refine v_getrN (pc := 35) C hN 14 11 (by decide) (wF_X2_42 G) rfl dX2_moveAir_35 ?_
          refine v_iload (pc := 38) C 0 rfl dX2_moveAir_38 ?_
          refine v_iconst (pc := 40) C dX2_moveAir_40 ?_
          refine v_iadd (pc := 41) C dX2_moveAir_41 ?_
          refine v_ialdN (pc := 42) C hN 11 (by decide) (m := 96) rfl (by first | omega | assumption) dX2_moveAir_42 (fun z42 ez42 rz42 => ?_)
          have wz42 : z42 = enterR r e (76 + 12 * e + (6 + (i : Int))) := by
            rw [enterR_mid d4.1 (by omega) (by omega), ez42]
            show f _ = _
            rw [show nx + (i : Int) + 1 = 6 * e + ((i : Int) + 1) by omega, hI.1 _ (by omega) (by omega), if_neg (by omega)]
            exact congrArg r (by omega)
          refine v_goto (pc := 43) C 57 dX2_moveAir_43 (by decide) ?_
          refine v_istore (pc := 57) C [(6, .int (iI z42)), (5, .int (iI (nx + (i : Int)))), (4, .int (iI ch)), (3, .int (iI la)), (2, .int (iI nx)), (1, .int (iI e)), (0, .ref (bs γ + n))] dX2_moveAir_57 (by decide) rfl ?_
          refine v_aload_n (pc := 59) C 6 rfl dX2_moveAir_59 ?_
          refine v_getrN (pc := 60) C hN 14 11 (by decide) (wF_X2_42 G) rfl dX2_moveAir_60 ?_
          refine v_iload (pc := 63) C 1 rfl dX2_moveAir_63 ?_
          refine v_ialdN (pc := 65) C hN 11 (by decide) (m := 96) rfl (by first | omega | assumption) dX2_moveAir_65 (fun z65_1 ez65_1 rz65_1 => ?_)
          have wz65_1 : z65_1 = r (76 + 12 * e + (6 + (i : Int))) := by
            rw [ez65_1]
            show f _ = _
            rw [show nx + (i : Int) = 6 * e + (i : Int) by omega, hI.1 _ (by omega) (by omega), if_neg (by omega)]
          refine v_iload (pc := 66) C 0 rfl dX2_moveAir_66 ?_
          refine v_icmp_eq (pc := 68) C 83 (by first | omega | assumption) (by first | omega | assumption) dX2_moveAir_68 (by decide) (fun h68_1 => ?_) (fun h68_1 => ?_)
          · have hI2 := airI_eq hI (by omega)
            refine v_iinc (pc := 83) C 1 [(5, .int (iI ((nx + (i : Int)) + 1))), (6, .int (iI z42)), (4, .int (iI ch)), (3, .int (iI la)), (2, .int (iI nx)), (1, .int (iI e)), (0, .ref (bs γ + n))] dX2_moveAir_83 rfl (by decide) rfl ?_
            refine v_goto (pc := 86) C 22 dX2_moveAir_86 (by decide) ?_
            exact v_lv _ [0, 2, 3, 4, 5, 6] (by rw [show nx + ((i + 1 : Nat) : Int) = nx + (i : Int) + 1 by omega]; rfl) (ih (i + 1) _ _ (by omega) hI2 (by omega))
          · have hI2 := airI_ne hI (by omega) (by omega)
            refine v_aload_n (pc := 71) C 6 rfl dX2_moveAir_71 ?_
            refine v_getrN (pc := 72) C hN 14 11 (by decide) (wF_X2_42 G) rfl dX2_moveAir_72 ?_
            refine v_iload (pc := 75) C 1 rfl dX2_moveAir_75 ?_
            refine v_iload (pc := 77) C 0 rfl dX2_moveAir_77 ?_
            refine v_iastN (pc := 79) C hN 11 (by decide) (m := 96) rfl (by first | omega | assumption) (by first | omega | assumption) dX2_moveAir_79 ?_
            refine v_st (show _ = setN σ n (setc α 11 (upr f (6 * e + (i : Int)) (enterR r e (76 + 12 * e + (6 + (i : Int)))))) from by rw [setc_at, setc_setc, show nx + (i : Int) = 6 * e + (i : Int) by omega, wz42]) ?_
            refine v_iconst (pc := 80) C dX2_moveAir_80 ?_
            refine v_istore (pc := 81) C [(4, .int (iI 1)), (6, .int (iI z42)), (5, .int (iI (nx + (i : Int)))), (3, .int (iI la)), (2, .int (iI nx)), (1, .int (iI e)), (0, .ref (bs γ + n))] dX2_moveAir_81 (by decide) rfl ?_
            refine v_iinc (pc := 83) C 2 [(5, .int (iI ((nx + (i : Int)) + 1))), (4, .int (iI 1)), (6, .int (iI z42)), (3, .int (iI la)), (2, .int (iI nx)), (1, .int (iI e)), (0, .ref (bs γ + n))] dX2_moveAir_83 rfl (by decide) rfl ?_
            refine v_goto (pc := 86) C 22 dX2_moveAir_86 (by decide) ?_
            exact v_lv _ [0, 1, 3, 4, 5, 6] (by rw [show nx + ((i + 1 : Nat) : Int) = nx + (i : Int) + 1 by omega]; rfl) (ih (i + 1) _ _ (by omega) hI2 (by omega))
  refine v_st (show _ = setN σ n (setc α 11 (α 11)) from by rw [setc_eta]) ?_
  exact v_lv _ [0, 1, 2, 3, 5, 4] (by rw [show nx + ((0 : Nat) : Int) = nx by omega]; rfl) (L22 (z11.toNat + 1) 0 0 (α 11) (by omega) (airI_0 hR he) (by omega))

set_option maxHeartbeats 4000000 in
set_option maxRecDepth 100000 in
theorem k_X2_fillPushes {γ : Gm} (G : Glo γ) {σ α : St} {n : Nat} {r : Int → Int} (hN : NetB n) (hR : Rep α r) (h : Wf r)  : Ct γ yX2_fillPushes cX2_fillPushes 3 (some .boolean) 3 [.ref (bs γ + n)] (setN σ n α) (pI (fun z σ2 => (z = 1 ∧ PDf r (pushAllR r) ∨ z = 0 ∧ ¬ PDf r (pushAllR r)) ∧ ∃ α2, Rep α2 (pushAllR r) ∧ σ2 = setN σ n α2)) := by
  refine Ct.of G (by decide +kernel) (Nat.le_of_ble_eq_true rfl) (fun φ C hr => ?_)
  have C : Cx γ φ RX2 cX2_fillPushes 3 3 := C
  have hn0 := h.1
  have hn1 := h.2.1
  have hn4 := h.2.2.1
  have hn5 := h.2.2.2.1
  have hz0 := Wf_zeroP h (n := (r 0).toNat) (by omega)
  have ez0 : ∀ i, ¬ isP i → zeroP r (r 0).toNat i = r i := fun i hi => zeroP_out r hi _ (by omega)
  have ez1 : zeroP r (r 0).toNat 1 = r 1 := ez0 1 (by unfold isP; omega)
  obtain ⟨w0, hw0⟩ : ∃ w, w = zeroP r (r 0).toNat := ⟨_, rfl⟩
  have hres : pushAllR r = pushD w0 (r 1).toNat := by rw [hw0]; rfl
  rw [← hw0] at hz0 ez0 ez1
  refine v_lv [(0, .ref (bs γ + n))] [0] rfl ?_
  refine v_aload_n (pc := 0) C 0 rfl dX2_fillPushes_0 ?_
  refine v_getrN (pc := 1) C hN 15 12 (by decide) (wF_X2_45 G) rfl dX2_fillPushes_1 ?_
  refine v_iconst (pc := 4) C dX2_fillPushes_4 ?_
  refine v_st (setc_eta (setN σ n _) (n + 12)).symm ?_
  refine v_cs (pc := 5) (as := [.ref (bs γ + (n + 12)), .int (iI 0)]) C (cy_J7_fill_53178 G) (wM_X2_107 G) (k_J7_fill_53178 G (m := 20) ⟨((hN.sh (k := 12) (by decide)).trans (rfl : shN.getD 12 (9, 0) = (0, 20))), by decide⟩ (by omega)) dX2_fillPushes_5 rfl rfl (by decide) (by decide) (Nat.le_of_ble_eq_true rfl) zc (k_V (fun s5 q5 => ?_))
  subst q5
  rw [setN_at σ n _ (k := 12) (by decide), setc_setN σ n _ (k := 12) (by decide)]
  refine v_iconst (pc := 8) C dX2_fillPushes_8 ?_
  refine v_istore_n (pc := 9) C [(1, .int (iI 0)), (0, .ref (bs γ + n))] dX2_fillPushes_9 rfl (by decide) rfl ?_
  have L10 : ∀ (fu : Nat) (d : Nat) (f : Int → Int), (hd : (d : Int) ≤ r 1) → (hf : ∀ v g, 0 ≤ v → v < r 0 → 0 ≤ g → g ≤ 1 → f (2 * v + g) = pushD w0 d (6 + 7 * v + (5 + g))) → (r 1).toNat - d < fu → Vw γ φ 3 0 0 (QE γ φ (pI (fun z σ2 => (z = 1 ∧ PDf r (pushAllR r) ∨ z = 0 ∧ ¬ PDf r (pushAllR r)) ∧ ∃ α2, Rep α2 (pushAllR r) ∧ σ2 = setN σ n α2))) (setN σ n (setc α 12 f)) 10 [(1, .int (iI (d : Int))), (0, .ref (bs γ + n))] [] := by
    intro fu
    induction fu with
    | zero => intro d f hd hf hz; exact absurd hz (Nat.not_lt_zero _)
    | succ fu ih =>
      intro d f hd hf hz
      obtain ⟨hwd, hod⟩ := pushD_Wf hz0 d (by omega)
      refine v_iload_n (pc := 10) C 0 rfl dX2_fillPushes_10 ?_
      refine v_aload_n (pc := 11) C 1 rfl dX2_fillPushes_11 ?_
      refine v_getiM (pc := 12) C hN 3 (by decide) (wF_X2_58 G) rfl 3 rfl dX2_fillPushes_12 (fun z12 ez12 rz12 => ?_)
      rw [(hR.arr f).nd] at ez12
      refine v_icmp_ge (pc := 15) C 51 (by first | omega | assumption) (by first | omega | assumption) dX2_fillPushes_15 (by decide) (fun h15 => ?_) (fun h15 => ?_)
      · have hfe : ∀ v g, 0 ≤ v → v < r 0 → 0 ≤ g → g ≤ 1 → f (2 * v + g) = pushAllR r (6 + 7 * v + (5 + g)) := by rw [hres, show (r 1).toNat = d by omega]; exact hf
        refine v_iconst (pc := 51) C dX2_fillPushes_51 ?_
        refine v_istore_n (pc := 52) C [(1, .int (iI 0)), (0, .ref (bs γ + n))] dX2_fillPushes_52 rfl (by decide) rfl ?_
        refine v_iconst (pc := 53) C dX2_fillPushes_53 ?_
        refine v_istore_n (pc := 54) C [(2, .int (iI 0)), (1, .int (iI 0)), (0, .ref (bs γ + n))] dX2_fillPushes_54 rfl (by decide) rfl ?_
        have L55 : ∀ (fu : Nat) (e : Nat) (ch : Int) (q : Int → Int), (he : (e : Int) ≤ 2 * r 0) → (hI : pshI α f q e ch) → (2 * r 0).toNat - e < fu → Vw γ φ 3 0 0 (QE γ φ (pI (fun z σ2 => (z = 1 ∧ PDf r (pushAllR r) ∨ z = 0 ∧ ¬ PDf r (pushAllR r)) ∧ ∃ α2, Rep α2 (pushAllR r) ∧ σ2 = setN σ n α2))) (setN σ n (setc (setc α 12 f) 6 q)) 55 [(2, .int (iI (e : Int))), (1, .int (iI ch)), (0, .ref (bs γ + n))] [] := by
          intro fu2
          induction fu2 with
          | zero => intro e ch q he hI hz; exact absurd hz (Nat.not_lt_zero _)
          | succ fu2 ih2 =>
            intro e ch q he hI hz
            refine v_iload_n (pc := 55) C 0 rfl dX2_fillPushes_55 ?_
            refine v_iconst (pc := 56) C dX2_fillPushes_56 ?_
            refine v_aload_n (pc := 57) C 2 rfl dX2_fillPushes_57 ?_
            refine v_getiM (pc := 58) C hN 2 (by decide) (wF_X2_55 G) rfl 2 rfl dX2_fillPushes_58 (fun z58 ez58 rz58 => ?_)
            have wz58 : z58 = r 0 := ez58.trans hR.nv
            refine v_imul (pc := 61) C dX2_fillPushes_61 ?_
            refine v_icmp_ge (pc := 62) C 100 (by first | omega | assumption) (by first | omega | assumption) dX2_fillPushes_62 (by decide) (fun h62 => ?_) (fun h62 => ?_)
            · refine v_iload_n (pc := 100) C 1 rfl dX2_fillPushes_100 ?_
              exact v_iret (pc := 101) C hr (hI.2.elim (fun q => by rw [q.1]; rfl) (fun q => by rw [q.1]; rfl)) dX2_fillPushes_101 (by obtain ⟨hR9, hb9⟩ := pshI_end hR h (by omega) hfe hI; exact ⟨_, rfl, hb9, _, hR9, rfl⟩)
            · refine v_aload_n (pc := 65) C 2 rfl dX2_fillPushes_65 ?_
              refine v_getrN (pc := 66) C hN 9 6 (by decide) (wF_X2_27 G) rfl dX2_fillPushes_66 ?_
              refine v_iload_n (pc := 69) C 0 rfl dX2_fillPushes_69 ?_
              refine v_ialdN (pc := 70) C hN 6 (by decide) (m := 20) rfl (by first | omega | assumption) dX2_fillPushes_70 (fun z70 ez70 rz70 => ?_)
              have wz70 : z70 = α 6 (e : Int) := by
                rw [ez70]
                show q _ = _
                rw [hI.1 _ (by omega), if_neg (by omega)]
              refine v_aload_n (pc := 71) C 2 rfl dX2_fillPushes_71 ?_
              refine v_getrN (pc := 72) C hN 15 12 (by decide) (wF_X2_45 G) rfl dX2_fillPushes_72 ?_
              refine v_iload_n (pc := 75) C 0 rfl dX2_fillPushes_75 ?_
              refine v_ialdN (pc := 76) C hN 12 (by decide) (m := 20) rfl (by first | omega | assumption) dX2_fillPushes_76 (fun z76 ez76 rz76 => ?_)
              have wz76 : z76 = f (e : Int) := ez76
              refine v_icmp_eq (pc := 77) C 94 (by first | omega | assumption) (by first | omega | assumption) dX2_fillPushes_77 (by decide) (fun h77 => ?_) (fun h77 => ?_)
              · have hI2 := pshI_eq hI (by omega)
                refine v_iinc (pc := 94) C 0 [(2, .int (iI ((e : Int) + 1))), (1, .int (iI ch)), (0, .ref (bs γ + n))] dX2_fillPushes_94 rfl (by decide) rfl ?_
                refine v_goto (pc := 97) C 55 dX2_fillPushes_97 (by decide) ?_
                exact v_lv _ [0, 1, 2] rfl (ih2 (e + 1) _ _ (by omega) hI2 (by omega))
              · have hI2 := pshI_ne hI (by omega)
                refine v_aload_n (pc := 80) C 2 rfl dX2_fillPushes_80 ?_
                refine v_getrN (pc := 81) C hN 9 6 (by decide) (wF_X2_27 G) rfl dX2_fillPushes_81 ?_
                refine v_iload_n (pc := 84) C 0 rfl dX2_fillPushes_84 ?_
                refine v_aload_n (pc := 85) C 2 rfl dX2_fillPushes_85 ?_
                refine v_getrN (pc := 86) C hN 15 12 (by decide) (wF_X2_45 G) rfl dX2_fillPushes_86 ?_
                refine v_iload_n (pc := 89) C 0 rfl dX2_fillPushes_89 ?_
                refine v_ialdN (pc := 90) C hN 12 (by decide) (m := 20) rfl (by first | omega | assumption) dX2_fillPushes_90 (fun z90 ez90 rz90 => ?_)
                have wz90 : z90 = f (e : Int) := ez90
                refine v_iastN (pc := 91) C hN 6 (by decide) (m := 20) rfl (by first | omega | assumption) (by first | omega | assumption) dX2_fillPushes_91 ?_
                rw [setc_at, setc_setc, wz90]
                refine v_iconst (pc := 92) C dX2_fillPushes_92 ?_
                refine v_istore_n (pc := 93) C [(1, .int (iI 1)), (2, .int (iI (e : Int))), (0, .ref (bs γ + n))] dX2_fillPushes_93 rfl (by decide) rfl ?_
                refine v_iinc (pc := 94) C 1 [(2, .int (iI ((e : Int) + 1))), (1, .int (iI 1)), (0, .ref (bs γ + n))] dX2_fillPushes_94 rfl (by decide) rfl ?_
                refine v_goto (pc := 97) C 55 dX2_fillPushes_97 (by decide) ?_
                exact v_lv _ [0, 1, 2] rfl (ih2 (e + 1) _ _ (by omega) hI2 (by omega))
        refine v_st (show _ = setN σ n (setc (setc α 12 f) 6 (α 6)) from by rw [show setc (setc α 12 f) 6 (α 6) = setc α 12 f from setc_eta (setc α 12 f) 6]) ?_
        exact v_lv _ [0, 1, 2] rfl (L55 ((2 * r 0).toNat + 1) 0 0 (α 6) (by omega) (pshI_0 α f) (by omega))
      · refine v_aload_n (pc := 18) C 1 rfl dX2_fillPushes_18 ?_
        refine v_getrN (pc := 19) C hN 11 8 (by decide) (wF_X2_33 G) rfl dX2_fillPushes_19 ?_
        refine v_iload_n (pc := 22) C 0 rfl dX2_fillPushes_22 ?_
        refine v_ialdN (pc := 23) C hN 8 (by decide) (m := 16) rfl (by first | omega | assumption) dX2_fillPushes_23 (fun z23 ez23 rz23 => ?_)
        have wz23 := ez23.trans (hR.2.2.2.1 (d : Int) (by omega) (by omega)).2.1
        obtain ⟨-, -, d2, d3, -⟩ := h.2.2.2.2.2 (d : Int) (by omega) (by omega)
        refine v_istore_n (pc := 24) C [(2, .int (iI z23)), (1, .int (iI (d : Int))), (0, .ref (bs γ + n))] dX2_fillPushes_24 rfl (by decide) rfl ?_
        refine v_aload_n (pc := 25) C 2 rfl dX2_fillPushes_25 ?_
        refine v_getrN (pc := 26) C hN 15 12 (by decide) (wF_X2_45 G) rfl dX2_fillPushes_26 ?_
        refine v_iload_n (pc := 29) C 0 rfl dX2_fillPushes_29 ?_
        refine v_aload_n (pc := 30) C 2 rfl dX2_fillPushes_30 ?_
        refine v_getrN (pc := 31) C hN 15 12 (by decide) (wF_X2_45 G) rfl dX2_fillPushes_31 ?_
        refine v_iload_n (pc := 34) C 0 rfl dX2_fillPushes_34 ?_
        refine v_ialdN (pc := 35) C hN 12 (by decide) (m := 20) rfl (by first | omega | assumption) dX2_fillPushes_35 (fun z35 ez35 rz35 => ?_)
        have wz35 : z35 = f z23 := ez35
        refine v_aload_n (pc := 36) C 2 rfl dX2_fillPushes_36 ?_
        refine v_iload_n (pc := 37) C 1 rfl dX2_fillPushes_37 ?_
        refine v_cv (pc := 38) (as := [.int (iI (d : Int))]) C (cy_X2_nextOutOf G) (wM_X2_110 G) (show sh n = (5, 1) from hN.sh (k := 0) (by decide)) (ci := 1) rfl rfl (k_X2_nextOutOf G hN (hR.arr f) h (by omega)) dX2_fillPushes_38 rfl rfl (by decide) (by decide) (Nat.le_of_ble_eq_true rfl) zc (k_I (fun z38 s38 q38 => ?_))
        obtain ⟨⟨ez38, rz38⟩, rfl⟩ := q38
        have wz38 := ez38
        refine v_max (pc := 41) C (wMax_X2_89 G) (by first | omega | assumption) (by first | omega | assumption) dX2_fillPushes_41 (Nat.le_of_ble_eq_true rfl) ⟨Nat.zero_le _, Nat.zero_le _⟩ ?_
        refine v_iastN (pc := 44) C hN 12 (by decide) (m := 20) rfl (by first | omega | assumption) (by first | omega | assumption) dX2_fillPushes_44 ?_
        refine v_iinc (pc := 45) C 1 [(1, .int (iI ((d : Int) + 1))), (2, .int (iI z23)), (0, .ref (bs γ + n))] dX2_fillPushes_45 rfl (by decide) rfl ?_
        refine v_goto (pc := 48) C 10 dX2_fillPushes_48 (by decide) ?_
        have hf2 := push_step h (by omega) (fun i hi => (hod i hi).trans (ez0 i hi)) hf wz23
        rw [← wz35, ← wz38] at hf2
        refine v_st (show _ = setN σ n (setc α 12 (upr f z23 (if z35 < z38 then z38 else z35))) from by rw [setc_at, setc_setc]) ?_
        exact v_lv _ [0, 2] rfl (ih (d + 1) _ (by omega) hf2 (by omega))
  have hf0 : ∀ v g, 0 ≤ v → v < r 0 → 0 ≤ g → g ≤ 1 → flr (α 12) 0 20 0 (2 * v + g) = pushD w0 0 (6 + 7 * v + (5 + g)) := by
    intro v g a b c e
    show _ = w0 _
    rw [hw0, zeroP_in r a (by omega) _ (by omega)]
    exact if_pos (by omega)
  exact v_lv _ [0, 1] rfl (L10 ((r 1).toNat + 1) 0 _ (by omega) hf0 (by omega))
