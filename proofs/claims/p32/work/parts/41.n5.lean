set_option maxHeartbeats 4000000 in
set_option maxRecDepth 100000 in
theorem k_X2_passTick {γ : Gm} (G : Glo γ) {σ α : St} {n : Nat} {r : Int → Int} (hN : NetB n) (hR : Rep α r) (h : Wf r)  : Ct γ yX2_passTick cX2_passTick 3 (some .boolean) 4 [.ref (bs γ + n)] (setN σ n α) (pI (fun z σ2 => (z = 1 ∧ ¬ restsR r ∨ z = 0 ∧ restsR r) ∧ ∃ α2, Rep α2 (tickR r) ∧ σ2 = setN σ n α2)) := by
  refine Ct.of G (by decide +kernel) (Nat.le_of_ble_eq_true rfl) (fun φ C hr => ?_)
  have C : Cx γ φ RX2 cX2_passTick 3 4 := C
  have hn0 := h.1
  have hn1 := h.2.1
  have hn4 := h.2.2.1
  have hn5 := h.2.2.2.1
  have hw2 := Wf_scal h (i := 2) (bmz (r 2 + 1)) (Or.inl rfl)
  obtain ⟨hwp, hep⟩ := pushAllR_Wf hw2
  have hfar := fun i (hi : 6 + 7 * r 0 ≤ i) => pushAllR_far hw2 (i := i) (by rw [upr_ne _ _ (by omega)]; exact hi)
  have ep0 := hep 0 (by unfold isP; omega)
  rw [upr_ne _ _ (by omega)] at ep0
  have hdp := Dfr_push h (bmz (r 2 + 1))
  have hres : tickR r = enterAll (tick2R r) (r 1).toNat := rfl
  have hres2 : tick2R r = reckAll (pushAllR (upr r 2 (bmz (r 2 + 1)))) (r 0).toNat := rfl
  obtain ⟨hwt, het⟩ := tick2R_Wf h
  have et1 := het 1 (by omega)
  have hR2 := hR.tim (bmz (r 2 + 1))
  have hew : ∀ i, ¬ isP i → i ≠ 2 → pushAllR (upr r 2 (bmz (r 2 + 1))) i = r i := fun i hi h2 => (hep i hi).trans (upr_ne _ _ h2)
  obtain ⟨w, hw⟩ : ∃ w, w = pushAllR (upr r 2 (bmz (r 2 + 1))) := ⟨_, rfl⟩
  rw [← hw] at hwp ep0 hres2 hdp hew
  refine v_lv [(0, .ref (bs γ + n))] [0] rfl ?_
  refine v_aload_n (pc := 0) C 0 rfl dX2_passTick_0 ?_
  refine v_dup (pc := 1) C rfl dX2_passTick_1 ?_
  refine v_getiM (pc := 2) C hN 0 (by decide) (wF_X2_48 G) rfl 0 rfl dX2_passTick_2 (fun z2 ez2 rz2 => ?_)
  have wz2 : z2 = r 2 := ez2.trans hR.1.1
  refine v_iconst (pc := 5) C dX2_passTick_5 ?_
  refine v_iadd (pc := 6) C dX2_passTick_6 ?_
  refine v_bm ?_
  refine v_putiM (pc := 7) C hN 0 (by decide) (wF_X2_48 G) rfl rfl 0 rfl (bmz_r _) dX2_passTick_7 ?_
  rw [wz2]
  refine v_aload_n (pc := 10) C 0 rfl dX2_passTick_10 ?_
  refine v_cv (pc := 11) (as := []) C (cy_X2_fillPushes G) (wM_X2_97 G) (show sh n = (5, 1) from hN.sh (k := 0) (by decide)) (ci := 1) rfl rfl (k_X2_fillPushes G hN hR2 hw2) dX2_passTick_11 rfl rfl (by decide) (by decide) (Nat.le_of_ble_eq_true rfl) zc (k_I (fun z11 s11 q11 => ?_))
  obtain ⟨ez11, α9, hR9, rfl⟩ := q11
  rw [← hw] at ez11 hR9
  rw [← hdp] at ez11
  refine v_istore_n (pc := 14) C [(1, .int (iI z11)), (0, .ref (bs γ + n))] dX2_passTick_14 rfl (by decide) rfl ?_
  refine v_iconst (pc := 15) C dX2_passTick_15 ?_
  refine v_istore_n (pc := 16) C [(2, .int (iI 0)), (1, .int (iI z11)), (0, .ref (bs γ + n))] dX2_passTick_16 rfl (by decide) rfl ?_
  have L17 : ∀ (fu : Nat) (i : Nat) (ch : Int) (α1 : St), (hi : (i : Int) ≤ r 0) → (hR1 : Rep α1 (reckAll w i)) → (hch : ch = 1 ∧ Dfr r (reckAll w i) ∨ ch = 0 ∧ ¬ Dfr r (reckAll w i)) → (r 0).toNat - i < fu → Vw γ φ 3 0 0 (QE γ φ (pI (fun z σ2 => (z = 1 ∧ ¬ restsR r ∨ z = 0 ∧ restsR r) ∧ ∃ α2, Rep α2 (tickR r) ∧ σ2 = setN σ n α2))) (setN σ n α1) 17 [(2, .int (iI (i : Int))), (1, .int (iI ch)), (0, .ref (bs γ + n))] [] := by
    intro fu
    induction fu with
    | zero => intro i ch α1 hi hR1 hch hz; exact absurd hz (Nat.not_lt_zero _)
    | succ fu ih =>
      intro i ch α1 hi hR1 hch hz
      obtain ⟨hwi, hei⟩ := reckAll_Wf hwp i (by omega)
      have e0i := hei 0 (by omega)
      refine v_iload_n (pc := 17) C 0 rfl dX2_passTick_17 ?_
      refine v_aload_n (pc := 18) C 2 rfl dX2_passTick_18 ?_
      refine v_getiM (pc := 19) C hN 2 (by decide) (wF_X2_55 G) rfl 2 rfl dX2_passTick_19 (fun z19 ez19 rz19 => ?_)
      rw [hR1.nv] at ez19
      refine v_icmp_ge (pc := 22) C 41 (by first | omega | assumption) (by first | omega | assumption) dX2_passTick_22 (by decide) (fun h22 => ?_) (fun h22 => ?_)
      · obtain rfl : i = (r 0).toNat := by omega
        rw [← hres2] at hR1 hch
        refine v_iconst (pc := 41) C dX2_passTick_41 ?_
        refine v_istore_n (pc := 42) C [(2, .int (iI 0)), (1, .int (iI ch)), (0, .ref (bs γ + n))] dX2_passTick_42 rfl (by decide) rfl ?_
        have L43 : ∀ (fu : Nat) (d : Nat) (ch : Int) (α1 : St), (hd : (d : Int) ≤ r 1) → (hR3 : Rep α1 (enterAll (tick2R r) d)) → (hch : ch = 1 ∧ Dfr r (enterAll (tick2R r) d) ∨ ch = 0 ∧ ¬ Dfr r (enterAll (tick2R r) d)) → (r 1).toNat - d < fu → Vw γ φ 3 0 0 (QE γ φ (pI (fun z σ2 => (z = 1 ∧ ¬ restsR r ∨ z = 0 ∧ restsR r) ∧ ∃ α2, Rep α2 (tickR r) ∧ σ2 = setN σ n α2))) (setN σ n α1) 43 [(2, .int (iI (d : Int))), (1, .int (iI ch)), (0, .ref (bs γ + n))] [] := by
          intro fu2
          induction fu2 with
          | zero => intro d ch α1 hd hR3 hch hz; exact absurd hz (Nat.not_lt_zero _)
          | succ fu2 ih2 =>
            intro d ch α1 hd hR3 hch hz
            obtain ⟨hwd, hed⟩ := enterAll_Wf hwt d (by omega)
            have e1d := hed 1 (by omega)
            refine v_iload_n (pc := 43) C 0 rfl dX2_passTick_43 ?_
            refine v_aload_n (pc := 44) C 2 rfl dX2_passTick_44 ?_
            refine v_getiM (pc := 45) C hN 3 (by decide) (wF_X2_58 G) rfl 3 rfl dX2_passTick_45 (fun z45 ez45 rz45 => ?_)
            rw [hR3.nd] at ez45
            refine v_icmp_ge (pc := 48) C 67 (by first | omega | assumption) (by first | omega | assumption) dX2_passTick_48 (by decide) (fun h48 => ?_) (fun h48 => ?_)
            · obtain rfl : d = (r 1).toNat := by omega
              rw [← hres] at hR3 hch
              refine v_iload_n (pc := 67) C 1 rfl dX2_passTick_67 ?_
              exact v_iret (pc := 68) C hr (hch.elim (fun q => by rw [q.1]; rfl) (fun q => by rw [q.1]; rfl)) dX2_passTick_68 (⟨_, rfl, by rw [rests_iff]; exact hch.elim (fun q => Or.inl ⟨q.1, fun z => z q.2⟩) (fun q => Or.inr ⟨q.1, q.2⟩), α1, hR3, rfl⟩)
            · refine v_aload_n (pc := 51) C 2 rfl dX2_passTick_51 ?_
              refine v_iload_n (pc := 52) C 0 rfl dX2_passTick_52 ?_
              have hdv := Dfr_duct (r := r) hwd (d := (d : Int)) (by omega) (fun i i1 i2 => (hed i (by omega)).trans (het i (by omega)))
              refine v_cv (pc := 53) (as := [.int (iI (d : Int))]) C (cy_X2_moveAir G) (wM_X2_104 G) (show sh n = (5, 1) from hN.sh (k := 0) (by decide)) (ci := 1) rfl rfl (k_X2_moveAir G hN hR3 hwd (by omega)) dX2_passTick_53 rfl rfl (by decide) (by decide) (Nat.le_of_ble_eq_true rfl) zc (k_I (fun z53 s53 q53 => ?_))
              rcases q53 with ⟨⟨rfl, hq9⟩ | ⟨rfl, hq9⟩, α9, hR9, rfl⟩
              · have hc2 : (1 : Int) = 1 ∧ Dfr r (enterAll (tick2R r) (d + 1)) ∨ (1 : Int) = 0 ∧ ¬ Dfr r (enterAll (tick2R r) (d + 1)) := Or.inl ⟨rfl, hdv.mpr (Or.inr hq9)⟩
                refine v_if_eq (pc := 56) C 61 (by first | omega | assumption) dX2_passTick_56 (by decide) (fun h => absurd h (by decide)) (fun _ => ?_)
                refine v_iconst (pc := 59) C dX2_passTick_59 ?_
                refine v_istore_n (pc := 60) C [(1, .int (iI 1)), (2, .int (iI (d : Int))), (0, .ref (bs γ + n))] dX2_passTick_60 rfl (by decide) rfl ?_
                refine v_iinc (pc := 61) C 1 [(2, .int (iI ((d : Int) + 1))), (1, .int (iI 1)), (0, .ref (bs γ + n))] dX2_passTick_61 rfl (by decide) rfl ?_
                refine v_goto (pc := 64) C 43 dX2_passTick_64 (by decide) ?_
                exact v_lv _ [0, 1, 2] rfl (ih2 (d + 1) _ _ (by omega) hR9 hc2 (by omega))
              · have hc2 : ch = 1 ∧ Dfr r (enterAll (tick2R r) (d + 1)) ∨ ch = 0 ∧ ¬ Dfr r (enterAll (tick2R r) (d + 1)) := hch.elim (fun q => Or.inl ⟨q.1, hdv.mpr (Or.inl q.2)⟩) (fun q => Or.inr ⟨q.1, fun z => (hdv.mp z).elim q.2 hq9⟩)
                refine v_if_eq (pc := 56) C 61 (by first | omega | assumption) dX2_passTick_56 (by decide) (fun _ => ?_) (fun h => absurd h (by decide))
                refine v_iinc (pc := 61) C 0 [(2, .int (iI ((d : Int) + 1))), (1, .int (iI ch)), (0, .ref (bs γ + n))] dX2_passTick_61 rfl (by decide) rfl ?_
                refine v_goto (pc := 64) C 43 dX2_passTick_64 (by decide) ?_
                exact v_lv _ [0, 1, 2] rfl (ih2 (d + 1) _ _ (by omega) hR9 hc2 (by omega))
        exact v_lv _ [0, 1, 2] rfl (L43 ((r 1).toNat + 1) 0 ch α1 (by omega) hR1 hch (by omega))
      · refine v_aload_n (pc := 25) C 2 rfl dX2_passTick_25 ?_
        refine v_iload_n (pc := 26) C 0 rfl dX2_passTick_26 ?_
        have hv2 := hei (6 + 7 * (i : Int) + 2) (by omega)
        have hv3 := hei (6 + 7 * (i : Int) + 3) (by omega)
        have hv4 := hei (6 + 7 * (i : Int) + 4) (by omega)
        rw [hew _ (by unfold isP; omega) (by omega)] at hv2 hv3 hv4
        have hdv := Dfr_valve (r := r) hwi (v := (i : Int)) (by omega) hv2 hv3 hv4
        refine v_cv (pc := 27) (as := [.int (iI (i : Int))]) C (cy_X2_turnValve G) (wM_X2_101 G) (show sh n = (5, 1) from hN.sh (k := 0) (by decide)) (ci := 1) rfl rfl (k_X2_turnValve G hN hR1 hwi (by omega)) dX2_passTick_27 rfl rfl (by decide) (by decide) (Nat.le_of_ble_eq_true rfl) zc (k_I (fun z27 s27 q27 => ?_))
        rcases q27 with ⟨⟨rfl, hq9⟩ | ⟨rfl, hq9⟩, α9, hR9, rfl⟩
        · have hc2 : (1 : Int) = 1 ∧ Dfr r (reckAll w (i + 1)) ∨ (1 : Int) = 0 ∧ ¬ Dfr r (reckAll w (i + 1)) := Or.inl ⟨rfl, hdv.mpr (Or.inr hq9)⟩
          refine v_if_eq (pc := 30) C 35 (by first | omega | assumption) dX2_passTick_30 (by decide) (fun h => absurd h (by decide)) (fun _ => ?_)
          refine v_iconst (pc := 33) C dX2_passTick_33 ?_
          refine v_istore_n (pc := 34) C [(1, .int (iI 1)), (2, .int (iI (i : Int))), (0, .ref (bs γ + n))] dX2_passTick_34 rfl (by decide) rfl ?_
          refine v_iinc (pc := 35) C 1 [(2, .int (iI ((i : Int) + 1))), (1, .int (iI 1)), (0, .ref (bs γ + n))] dX2_passTick_35 rfl (by decide) rfl ?_
          refine v_goto (pc := 38) C 17 dX2_passTick_38 (by decide) ?_
          exact v_lv _ [0, 1, 2] rfl (ih (i + 1) _ _ (by omega) hR9 hc2 (by omega))
        · have hc2 : ch = 1 ∧ Dfr r (reckAll w (i + 1)) ∨ ch = 0 ∧ ¬ Dfr r (reckAll w (i + 1)) := hch.elim (fun q => Or.inl ⟨q.1, hdv.mpr (Or.inl q.2)⟩) (fun q => Or.inr ⟨q.1, fun z => (hdv.mp z).elim q.2 hq9⟩)
          refine v_if_eq (pc := 30) C 35 (by first | omega | assumption) dX2_passTick_30 (by decide) (fun _ => ?_) (fun h => absurd h (by decide))
          refine v_iinc (pc := 35) C 0 [(2, .int (iI ((i : Int) + 1))), (1, .int (iI ch)), (0, .ref (bs γ + n))] dX2_passTick_35 rfl (by decide) rfl ?_
          refine v_goto (pc := 38) C 17 dX2_passTick_38 (by decide) ?_
          exact v_lv _ [0, 1, 2] rfl (ih (i + 1) _ _ (by omega) hR9 hc2 (by omega))
  exact v_lv _ [0, 1, 2] rfl (L17 ((r 0).toNat + 1) 0 z11 α9 (by omega) hR9 ez11 (by omega))

set_option maxHeartbeats 4000000 in
set_option maxRecDepth 100000 in
theorem k_X2_findBeat {γ : Gm} (G : Glo γ) {σ α : St} {n : Nat} {r : Int → Int} {v : Int} (hN : NetB n) (hR : Rep α r) (h : Wf r) (hv : 0 ≤ v ∧ v < r 0) : Ct γ yX2_findBeat cX2_findBeat 6 (some .int) 5 [.ref (bs γ + n), .int (iI v)] (setN σ n α) (pI (fun z σ2 => (z = beatR r v ∧ R3 z) ∧ ∃ α2, σ2 = setN σ n α2)) := by
  refine Ct.of G (by decide +kernel) (Nat.le_of_ble_eq_true rfl) (fun φ C hr => ?_)
  have C : Cx γ φ RX2 cX2_findBeat 6 5 := C
  obtain ⟨V, hV⟩ : ∃ V, V = beatR r v := ⟨_, rfl⟩
  have hn0 := h.1
  have hn1 := h.2.1
  have hn4 := h.2.2.1
  have hn5 := h.2.2.2.1
  refine v_lv [(0, .ref (bs γ + n)), (1, .int (iI v))] [0, 1] rfl ?_
  refine v_iconst (pc := 0) C dX2_findBeat_0 ?_
  refine v_istore_n (pc := 1) C [(2, .int (iI 0)), (0, .ref (bs γ + n)), (1, .int (iI v))] dX2_findBeat_1 rfl (by decide) rfl ?_
  have L2 : ∀ (fu : Nat) (i : Nat) (α1 : St), (hi : i ≤ 100) → (hR1 : Rep α1 (runR r i)) → 100 - i < fu → Vw γ φ 6 0 0 (QE γ φ (pI (fun z σ2 => (z = beatR r v ∧ R3 z) ∧ ∃ α2, σ2 = setN σ n α2))) (setN σ n α1) 2 [(2, .int (iI (i : Int))), (1, .int (iI v)), (0, .ref (bs γ + n))] [] := by
    intro fu
    induction fu with
    | zero => intro i α1 hi hR1 hz; exact absurd hz (Nat.not_lt_zero _)
    | succ fu ih =>
      intro i α1 hi hR1 hz
      obtain ⟨hw1, hw2, hw3⟩ := runR_Wf h i
      refine v_iload_n (pc := 2) C 0 rfl dX2_findBeat_2 ?_
      refine v_bipush (pc := 3) C (by decide +kernel) dX2_findBeat_3 ?_
      refine v_icmp_ge (pc := 5) C 23 (by first | omega | assumption) (by first | omega | assumption) dX2_findBeat_5 (by decide) (fun h5 => ?_) (fun h5 => ?_)
      · obtain rfl : i = 100 := by omega
        refine v_iload_n (pc := 23) C 1 rfl dX2_findBeat_23 ?_
        refine v_iconst (pc := 24) C dX2_findBeat_24 ?_
        refine v_csN (pc := 25) (as := [.int (iI v), .int (iI 0)]) C (cy_X5_endOf G) (wN_X2_75 G) (k_X5_endOf G) dX2_findBeat_25 rfl rfl (by decide) (by decide) (Nat.le_of_ble_eq_true rfl) zc (k_I (fun z25 s25 q25 => ?_))
        obtain ⟨ez25, rfl⟩ := q25
        refine v_istore_n (pc := 28) C [(2, .int (iI z25)), (1, .int (iI v)), (0, .ref (bs γ + n))] dX2_findBeat_28 rfl (by decide) rfl ?_
        refine v_iconst (pc := 29) C dX2_findBeat_29 ?_
        refine v_istore_n (pc := 30) C [(3, .int (iI (-1))), (2, .int (iI z25)), (1, .int (iI v)), (0, .ref (bs γ + n))] dX2_findBeat_30 rfl (by decide) rfl ?_
        refine v_iconst (pc := 31) C dX2_findBeat_31 ?_
        refine v_istore (pc := 32) C [(4, .int (iI 0)), (3, .int (iI (-1))), (2, .int (iI z25)), (1, .int (iI v)), (0, .ref (bs γ + n))] dX2_findBeat_32 (by decide) rfl ?_
        have L34 : ∀ (fu : Nat) (fl : Nat) (q b fb : Int) (w : Int → Int) (α1 : St), (hrr : V = beatL v fl w (q + 1) fb) → (hq : 0 ≤ q ∧ q + fl = 200) → (hb : b = -1 ∧ fb = -1 ∨ 0 ≤ b ∧ b < q ∧ fb = b + 1) → (hR3 : Rep α1 w) → (hW3 : Wf w) → (hw0 : w 0 = r 0) → fl < fu → Vw γ φ 6 0 0 (QE γ φ (pI (fun z σ2 => (z = beatR r v ∧ R3 z) ∧ ∃ α2, σ2 = setN σ n α2))) (setN σ n α1) 34 [(4, .int (iI q)), (3, .int (iI b)), (2, .int (iI z25)), (1, .int (iI v)), (0, .ref (bs γ + n))] [] := by
          intro fu2
          induction fu2 with
          | zero => intro fl q b fb w α1 hrr hq hb hR3 hW3 hw0 hz; exact absurd hz (Nat.not_lt_zero _)
          | succ fu2 ih2 =>
            intro fl q b fb w α1 hrr hq hb hR3 hW3 hw0 hz
            refine v_iload (pc := 34) C 0 rfl dX2_findBeat_34 ?_
            refine v_sipush (pc := 36) C (by decide +kernel) dX2_findBeat_36 ?_
            refine v_icmp_ge (pc := 39) C 88 (by first | omega | assumption) (by first | omega | assumption) dX2_findBeat_39 (by decide) (fun h39 => ?_) (fun h39 => ?_)
            · obtain rfl : fl = 0 := by omega
              refine v_iconst (pc := 88) C dX2_findBeat_88 ?_
              exact v_iret (pc := 89) C hr (rfl) dX2_findBeat_89 (⟨_, rfl, ⟨by rw [← hV, hrr]; rfl, by decide⟩, _, rfl⟩)
            · obtain ⟨fl2, rfl⟩ : ∃ g, fl = g + 1 := ⟨fl - 1, by omega⟩
              unfold beatL at hrr
              have hlg := hW3.lg (v := v) (g := 0) (by omega) (by decide)
              have hlg3 : 0 ≤ w (6 + 7 * v + 3) ∧ w (6 + 7 * v + 3) ≤ 99 := hlg
              refine v_aload_n (pc := 42) C 4 rfl dX2_findBeat_42 ?_
              refine v_getrN (pc := 43) C hN 8 5 (by decide) (wF_X2_24 G) rfl dX2_findBeat_43 ?_
              refine v_iload_n (pc := 46) C 2 rfl dX2_findBeat_46 ?_
              refine v_ialdN (pc := 47) C hN 5 (by decide) (m := 20) rfl (by first | omega | assumption) dX2_findBeat_47 (fun z47 ez47 rz47 => ?_)
              have wz47 : z47 = w (6 + 7 * v + 3) := by rw [ez47, ez25]; exact hR3.l0 (by omega)
              refine v_istore (pc := 48) C [(5, .int (iI z47)), (4, .int (iI q)), (3, .int (iI b)), (2, .int (iI z25)), (1, .int (iI v)), (0, .ref (bs γ + n))] dX2_findBeat_48 (by decide) rfl ?_
              refine v_aload_n (pc := 50) C 5 rfl dX2_findBeat_50 ?_
              refine v_cv (pc := 51) (as := []) C (cy_X2_passTick G) (wM_X2_129 G) (show sh n = (5, 1) from hN.sh (k := 0) (by decide)) (ci := 1) rfl rfl (k_X2_passTick G hN hR3 hW3) dX2_findBeat_51 rfl rfl (by decide) (by decide) (Nat.le_of_ble_eq_true rfl) zc (k_I (fun z51 s51 q51 => ?_))
              rcases q51 with ⟨⟨rfl, hq9⟩ | ⟨rfl, hq9⟩, α9, hR9, rfl⟩
              · refine v_pop (pc := 54) C rfl dX2_findBeat_54 ?_
                refine v_iload (pc := 55) C 0 rfl dX2_findBeat_55 ?_
                refine v_if_ne (pc := 57) C 82 (by first | omega | assumption) dX2_findBeat_57 (by decide) (fun h57 => ?_) (fun h57 => ?_)
                · refine v_iinc (pc := 82) C 1 [(4, .int (iI (q + 1))), (5, .int (iI z47)), (3, .int (iI b)), (2, .int (iI z25)), (1, .int (iI v)), (0, .ref (bs γ + n))] dX2_findBeat_82 rfl (by decide) rfl ?_
                  refine v_goto (pc := 85) C 34 dX2_findBeat_85 (by decide) ?_
                  have htw := tickR_Wf hW3
                  have ht0 := htw.2 0 (by omega)
                  rw [if_neg (by intro h; have h1 := h.1; have h2 := h.2; omega)] at hrr
                  exact v_lv _ [0, 2, 3, 4, 5] rfl (ih2 fl2 _ _ _ _ _ hrr (by omega) (by omega) hR9 htw.1 (by omega) (by omega))
                · refine v_aload_n (pc := 60) C 5 rfl dX2_findBeat_60 ?_
                  refine v_getrN (pc := 61) C hN 8 5 (by decide) (wF_X2_24 G) rfl dX2_findBeat_61 ?_
                  refine v_iload_n (pc := 64) C 3 rfl dX2_findBeat_64 ?_
                  refine v_ialdN (pc := 65) C hN 5 (by decide) (m := 20) rfl (by first | omega | assumption) dX2_findBeat_65 (fun z65 ez65 rz65 => ?_)
                  have wz65 : z65 = tickR w (6 + 7 * v + 3) := by rw [ez65, ez25]; exact hR9.l0 (by rw [(tickR_Wf hW3).2 0 (by omega)]; omega)
                  refine v_if_le (pc := 66) C 82 (by first | omega | assumption) dX2_findBeat_66 (by decide) (fun h66 => ?_) (fun h66 => ?_)
                  · refine v_iinc (pc := 82) C 1 [(4, .int (iI (q + 1))), (5, .int (iI z47)), (3, .int (iI b)), (2, .int (iI z25)), (1, .int (iI v)), (0, .ref (bs γ + n))] dX2_findBeat_82 rfl (by decide) rfl ?_
                    refine v_goto (pc := 85) C 34 dX2_findBeat_85 (by decide) ?_
                    have htw := tickR_Wf hW3
                    have ht0 := htw.2 0 (by omega)
                    rw [if_neg (by intro h; have h1 := h.1; have h2 := h.2; omega)] at hrr
                    exact v_lv _ [0, 2, 3, 4, 5] rfl (ih2 fl2 _ _ _ _ _ hrr (by omega) (by omega) hR9 htw.1 (by omega) (by omega))
                  · refine v_iload_n (pc := 69) C 2 rfl dX2_findBeat_69 ?_
                    refine v_iconst (pc := 70) C dX2_findBeat_70 ?_
                    refine v_icmp_eq (pc := 71) C 79 (by first | omega | assumption) (by first | omega | assumption) dX2_findBeat_71 (by decide) (fun h71 => ?_) (fun h71 => ?_)
                    · refine v_iload (pc := 79) C 1 rfl dX2_findBeat_79 ?_
                      refine v_istore_n (pc := 81) C [(3, .int (iI q)), (5, .int (iI z47)), (4, .int (iI q)), (2, .int (iI z25)), (1, .int (iI v)), (0, .ref (bs γ + n))] dX2_findBeat_81 rfl (by decide) rfl ?_
                      refine v_iinc (pc := 82) C 2 [(4, .int (iI (q + 1))), (3, .int (iI q)), (5, .int (iI z47)), (2, .int (iI z25)), (1, .int (iI v)), (0, .ref (bs γ + n))] dX2_findBeat_82 rfl (by decide) rfl ?_
                      refine v_goto (pc := 85) C 34 dX2_findBeat_85 (by decide) ?_
                      have htw := tickR_Wf hW3
                      have ht0 := htw.2 0 (by omega)
                      rw [if_pos ⟨by omega, by omega⟩, if_pos (by omega)] at hrr
                      exact v_lv _ [0, 1, 3, 4, 5] rfl (ih2 fl2 _ _ _ _ _ hrr (by omega) (by omega) hR9 htw.1 (by omega) (by omega))
                    · refine v_iload (pc := 74) C 1 rfl dX2_findBeat_74 ?_
                      refine v_iload_n (pc := 76) C 2 rfl dX2_findBeat_76 ?_
                      refine v_isub (pc := 77) C dX2_findBeat_77 ?_
                      exact v_iret (pc := 78) C hr (rfl) dX2_findBeat_78 (⟨_, rfl, ⟨by rw [← hV, hrr, if_pos ⟨by omega, by omega⟩, if_neg (by omega)]; omega, by omega⟩, _, rfl⟩)
              · refine v_pop (pc := 54) C rfl dX2_findBeat_54 ?_
                refine v_iload (pc := 55) C 0 rfl dX2_findBeat_55 ?_
                refine v_if_ne (pc := 57) C 82 (by first | omega | assumption) dX2_findBeat_57 (by decide) (fun h57_1 => ?_) (fun h57_1 => ?_)
                · refine v_iinc (pc := 82) C 1 [(4, .int (iI (q + 1))), (5, .int (iI z47)), (3, .int (iI b)), (2, .int (iI z25)), (1, .int (iI v)), (0, .ref (bs γ + n))] dX2_findBeat_82 rfl (by decide) rfl ?_
                  refine v_goto (pc := 85) C 34 dX2_findBeat_85 (by decide) ?_
                  have htw := tickR_Wf hW3
                  have ht0 := htw.2 0 (by omega)
                  rw [if_neg (by intro h; have h1 := h.1; have h2 := h.2; omega)] at hrr
                  exact v_lv _ [0, 2, 3, 4, 5] rfl (ih2 fl2 _ _ _ _ _ hrr (by omega) (by omega) hR9 htw.1 (by omega) (by omega))
                · refine v_aload_n (pc := 60) C 5 rfl dX2_findBeat_60 ?_
                  refine v_getrN (pc := 61) C hN 8 5 (by decide) (wF_X2_24 G) rfl dX2_findBeat_61 ?_
                  refine v_iload_n (pc := 64) C 3 rfl dX2_findBeat_64 ?_
                  refine v_ialdN (pc := 65) C hN 5 (by decide) (m := 20) rfl (by first | omega | assumption) dX2_findBeat_65 (fun z65_1 ez65_1 rz65_1 => ?_)
                  have wz65_1 : z65_1 = tickR w (6 + 7 * v + 3) := by rw [ez65_1, ez25]; exact hR9.l0 (by rw [(tickR_Wf hW3).2 0 (by omega)]; omega)
                  refine v_if_le (pc := 66) C 82 (by first | omega | assumption) dX2_findBeat_66 (by decide) (fun h66_1 => ?_) (fun h66_1 => ?_)
                  · refine v_iinc (pc := 82) C 1 [(4, .int (iI (q + 1))), (5, .int (iI z47)), (3, .int (iI b)), (2, .int (iI z25)), (1, .int (iI v)), (0, .ref (bs γ + n))] dX2_findBeat_82 rfl (by decide) rfl ?_
                    refine v_goto (pc := 85) C 34 dX2_findBeat_85 (by decide) ?_
                    have htw := tickR_Wf hW3
                    have ht0 := htw.2 0 (by omega)
                    rw [if_neg (by intro h; have h1 := h.1; have h2 := h.2; omega)] at hrr
                    exact v_lv _ [0, 2, 3, 4, 5] rfl (ih2 fl2 _ _ _ _ _ hrr (by omega) (by omega) hR9 htw.1 (by omega) (by omega))
                  · refine v_iload_n (pc := 69) C 2 rfl dX2_findBeat_69 ?_
                    refine v_iconst (pc := 70) C dX2_findBeat_70 ?_
                    refine v_icmp_eq (pc := 71) C 79 (by first | omega | assumption) (by first | omega | assumption) dX2_findBeat_71 (by decide) (fun h71_1 => ?_) (fun h71_1 => ?_)
                    · refine v_iload (pc := 79) C 1 rfl dX2_findBeat_79 ?_
                      refine v_istore_n (pc := 81) C [(3, .int (iI q)), (5, .int (iI z47)), (4, .int (iI q)), (2, .int (iI z25)), (1, .int (iI v)), (0, .ref (bs γ + n))] dX2_findBeat_81 rfl (by decide) rfl ?_
                      refine v_iinc (pc := 82) C 2 [(4, .int (iI (q + 1))), (3, .int (iI q)), (5, .int (iI z47)), (2, .int (iI z25)), (1, .int (iI v)), (0, .ref (bs γ + n))] dX2_findBeat_82 rfl (by decide) rfl ?_
                      refine v_goto (pc := 85) C 34 dX2_findBeat_85 (by decide) ?_
                      have htw := tickR_Wf hW3
                      have ht0 := htw.2 0 (by omega)
                      rw [if_pos ⟨by omega, by omega⟩, if_pos (by omega)] at hrr
                      exact v_lv _ [0, 1, 3, 4, 5] rfl (ih2 fl2 _ _ _ _ _ hrr (by omega) (by omega) hR9 htw.1 (by omega) (by omega))
                    · refine v_iload (pc := 74) C 1 rfl dX2_findBeat_74 ?_
                      refine v_iload_n (pc := 76) C 2 rfl dX2_findBeat_76 ?_
                      refine v_isub (pc := 77) C dX2_findBeat_77 ?_
                      exact v_iret (pc := 78) C hr (rfl) dX2_findBeat_78 (⟨_, rfl, ⟨by rw [← hV, hrr, if_pos ⟨by omega, by omega⟩, if_neg (by omega)]; omega, by omega⟩, _, rfl⟩)
        exact v_lv _ [0, 1, 2, 3, 4] rfl (L34 201 200 0 (-1) (-1) _ α1 hV (by omega) (by omega) hR1 hw1 hw2 (by omega))
      · refine v_aload_n (pc := 8) C 2 rfl dX2_findBeat_8 ?_
        refine v_cv (pc := 9) (as := []) C (cy_X2_passTick G) (wM_X2_129 G) (show sh n = (5, 1) from hN.sh (k := 0) (by decide)) (ci := 1) rfl rfl (k_X2_passTick G hN hR1 hw1) dX2_findBeat_9 rfl rfl (by decide) (by decide) (Nat.le_of_ble_eq_true rfl) zc (k_I (fun z9 s9 q9 => ?_))
        rcases q9 with ⟨⟨rfl, hq9⟩ | ⟨rfl, hq9⟩, α9, hR9, rfl⟩
        · refine v_if_ne (pc := 12) C 17 (by first | omega | assumption) dX2_findBeat_12 (by decide) (fun _ => ?_) (fun h => absurd h (by decide))
          refine v_iinc (pc := 17) C 0 [(2, .int (iI ((i : Int) + 1))), (1, .int (iI v)), (0, .ref (bs γ + n))] dX2_findBeat_17 rfl (by decide) rfl ?_
          refine v_goto (pc := 20) C 2 dX2_findBeat_20 (by decide) ?_
          exact v_lv _ [0, 1, 2] rfl (ih (i + 1) _ (by omega) hR9 (by omega))
        · refine v_if_ne (pc := 12) C 17 (by first | omega | assumption) dX2_findBeat_12 (by decide) (fun h => absurd h (by decide)) (fun _ => ?_)
          refine v_iconst (pc := 15) C dX2_findBeat_15 ?_
          exact v_iret (pc := 16) C hr (rfl) dX2_findBeat_16 (⟨_, rfl, ⟨(rest_beat h hv.1 (by omega) hq9).symm, by decide⟩, _, rfl⟩)
  exact v_lv _ [0, 2, 1] rfl (L2 101 0 α (by omega) hR (by omega))
