set_option maxHeartbeats 4000000 in
set_option maxRecDepth 100000 in
theorem k_X6_goesOver {γ : Gm} (G : Glo γ) {σ : St} {c : Nat} {r : Int → Int} {v g : Int} (hc : sh c = (0, 268) ∧ 268 ≤ 4000) (h0 : 0 ≤ v ∧ v < 10) (hg : 0 ≤ g ∧ g ≤ 1) : Ct γ yX6_goesOver cX6_goesOver 4 none 1 [.ref (bs γ + c), .int (iI v), .int (iI g)] (setc σ c r) (pV (fun σ2 => σ2 = setc σ c (goesR r v g))) := by
  refine Ct.of G (by decide +kernel) (Nat.le_of_ble_eq_true rfl) (fun φ C hr => ?_)
  have C : Cx γ φ RX6 cX6_goesOver 4 1 := C
  refine v_lv [(0, .ref (bs γ + c)), (1, .int (iI v)), (2, .int (iI g))] [0, 1, 2] rfl ?_
  refine v_bipush (pc := 0) C (by decide +kernel) dX6_goesOver_0 ?_
  refine v_bipush (pc := 2) C (by decide +kernel) dX6_goesOver_2 ?_
  refine v_iload_n (pc := 4) C 1 rfl dX6_goesOver_4 ?_
  refine v_imul (pc := 5) C dX6_goesOver_5 ?_
  refine v_iadd (pc := 6) C dX6_goesOver_6 ?_
  refine v_iconst (pc := 7) C dX6_goesOver_7 ?_
  refine v_iadd (pc := 8) C dX6_goesOver_8 ?_
  refine v_istore_n (pc := 9) C [(3, .int (iI ((6 + (7 * v)) + 2))), (0, .ref (bs γ + c)), (1, .int (iI v)), (2, .int (iI g))] dX6_goesOver_9 rfl (by decide) rfl ?_
  refine v_aload_n (pc := 10) C 1 rfl dX6_goesOver_10 ?_
  refine v_iconst (pc := 11) C dX6_goesOver_11 ?_
  refine v_dup2 (pc := 12) C rfl rfl dX6_goesOver_12 ?_
  refine v_ialdR (pc := 13) C hc (by first | omega | assumption) dX6_goesOver_13 (fun z13 ez13 rz13 => ?_)
  refine v_aload_n (pc := 14) C 1 rfl dX6_goesOver_14 ?_
  refine v_iload_n (pc := 15) C 0 rfl dX6_goesOver_15 ?_
  refine v_ialdR (pc := 16) C hc (by first | omega | assumption) dX6_goesOver_16 (fun z16 ez16 rz16 => ?_)
  refine v_iload_n (pc := 17) C 3 rfl dX6_goesOver_17 ?_
  refine v_icmp_ne (pc := 18) C 25 (by first | omega | assumption) (by first | omega | assumption) dX6_goesOver_18 (by decide) (fun h18 => ?_) (fun h18 => ?_)
  · refine v_iconst (pc := 25) C dX6_goesOver_25 ?_
    refine v_iadd (pc := 26) C dX6_goesOver_26 ?_
    refine v_bm ?_
    refine v_iastR (pc := 27) C hc (by first | omega | assumption) (bmz_r _) dX6_goesOver_27 ?_
    refine v_aload_n (pc := 28) C 1 rfl dX6_goesOver_28 ?_
    refine v_iload_n (pc := 29) C 0 rfl dX6_goesOver_29 ?_
    refine v_iload_n (pc := 30) C 3 rfl dX6_goesOver_30 ?_
    refine v_iastR (pc := 31) C hc (by first | omega | assumption) (by first | omega | assumption) dX6_goesOver_31 ?_
    exact v_vret (pc := 32) C hr dX6_goesOver_32 ⟨rfl, by show _ = setc σ c (goesR r v g); unfold goesR; first | rw [← ez16, if_neg (by assumption), ← ez13] | rw [← ez16, if_pos (by assumption), ← ez13]⟩
  · refine v_iconst (pc := 21) C dX6_goesOver_21 ?_
    refine v_goto (pc := 22) C 26 dX6_goesOver_22 (by decide) ?_
    refine v_iadd (pc := 26) C dX6_goesOver_26 ?_
    refine v_bm ?_
    refine v_iastR (pc := 27) C hc (by first | omega | assumption) (bmz_r _) dX6_goesOver_27 ?_
    refine v_aload_n (pc := 28) C 1 rfl dX6_goesOver_28 ?_
    refine v_iload_n (pc := 29) C 0 rfl dX6_goesOver_29 ?_
    refine v_iload_n (pc := 30) C 3 rfl dX6_goesOver_30 ?_
    refine v_iastR (pc := 31) C hc (by first | omega | assumption) (by first | omega | assumption) dX6_goesOver_31 ?_
    exact v_vret (pc := 32) C hr dX6_goesOver_32 ⟨rfl, by show _ = setc σ c (goesR r v g); unfold goesR; first | rw [← ez16, if_neg (by assumption), ← ez13] | rw [← ez16, if_pos (by assumption), ← ez13]⟩

set_option maxHeartbeats 4000000 in
set_option maxRecDepth 100000 in
theorem k_X6_pushAll {γ : Gm} (G : Glo γ) {σ : St} {c : Nat} {r : Int → Int} (hc : sh c = (0, 268) ∧ 268 ≤ 4000) (h : Wf r) : Ct γ yX6_pushAll cX6_pushAll 4 none 3 [.ref (bs γ + c)] (setc σ c r) (pV (fun σ2 => σ2 = setc σ c (pushAllR r))) := by
  refine Ct.of G (by decide +kernel) (Nat.le_of_ble_eq_true rfl) (fun φ C hr => ?_)
  have C : Cx γ φ RX6 cX6_pushAll 4 3 := C
  have hn0 := h.1
  have hn1 := h.2.1
  refine v_lv [(0, .ref (bs γ + c))] [0] rfl ?_
  refine v_iconst (pc := 0) C dX6_pushAll_0 ?_
  refine v_istore_n (pc := 1) C [(1, .int (iI 0)), (0, .ref (bs γ + c))] dX6_pushAll_1 rfl (by decide) rfl ?_
  have L2 : ∀ (fu : Nat) (i : Nat), (hi : (i : Int) ≤ r 0) → (r 0).toNat - i < fu → Vw γ φ 4 0 0 (QE γ φ (pV (fun σ2 => σ2 = setc σ c (pushAllR r)))) (setc σ c (zeroP r i)) 2 [(1, .int (iI (i : Int))), (0, .ref (bs γ + c))] [] := by
    intro fu
    induction fu with
    | zero => intro i hi hz; exact absurd hz (Nat.not_lt_zero _)
    | succ fu ih =>
      intro i hi hz
      have e0 : zeroP r i 0 = r 0 := zeroP_out r (by unfold isP; omega) i (by omega)
      refine v_iload_n (pc := 2) C 0 rfl dX6_pushAll_2 ?_
      refine v_aload_n (pc := 3) C 1 rfl dX6_pushAll_3 ?_
      refine v_iconst (pc := 4) C dX6_pushAll_4 ?_
      refine v_ialdR (pc := 5) C hc (by omega) dX6_pushAll_5 (fun z5 ez5 rz5 => ?_)
      refine v_icmp_ge (pc := 6) C 41 (by omega) (by omega) dX6_pushAll_6 (by decide) (fun h6 => ?_) (fun h6 => ?_)
      · obtain rfl : i = (r 0).toNat := by omega
        have hww := Wf_zeroP h (n := (r 0).toNat) (by omega)
        have e1 : zeroP r (r 0).toNat 1 = r 1 := zeroP_out r (by unfold isP; omega) _ (by omega)
        have e00 : zeroP r (r 0).toNat 0 = r 0 := zeroP_out r (by unfold isP; omega) _ (by omega)
        have hres : pushAllR r = pushD (zeroP r (r 0).toNat) (r 1).toNat := rfl
        obtain ⟨w, hw⟩ : ∃ w, w = zeroP r (r 0).toNat := ⟨_, rfl⟩
        rw [← hw] at hww e1 e00 hres ⊢
        refine v_iconst (pc := 41) C dX6_pushAll_41 ?_
        refine v_istore_n (pc := 42) C [(1, .int (iI 0)), (0, .ref (bs γ + c))] dX6_pushAll_42 rfl (by decide) rfl ?_
        have L43 : ∀ (fu : Nat) (d : Nat), (hd : (d : Int) ≤ r 1) → (r 1).toNat - d < fu → Vw γ φ 4 0 0 (QE γ φ (pV (fun σ2 => σ2 = setc σ c (pushAllR r)))) (setc σ c (pushD w d)) 43 [(1, .int (iI (d : Int))), (0, .ref (bs γ + c))] [] := by
          intro fu
          induction fu with
          | zero => intro d hd hz; exact absurd hz (Nat.not_lt_zero _)
          | succ fu ih =>
            intro d hd hz
            obtain ⟨hWd, hOd⟩ := pushD_Wf hww d (by omega)
            have e1d : pushD w d 1 = r 1 := (hOd 1 (by unfold isP; omega)).trans e1
            have e0d : pushD w d 0 = r 0 := (hOd 0 (by unfold isP; omega)).trans e00
            refine v_iload_n (pc := 43) C 0 rfl dX6_pushAll_43 ?_
            refine v_aload_n (pc := 44) C 1 rfl dX6_pushAll_44 ?_
            refine v_iconst (pc := 45) C dX6_pushAll_45 ?_
            refine v_ialdR (pc := 46) C hc (by omega) dX6_pushAll_46 (fun z46 ez46 rz46 => ?_)
            refine v_icmp_ge (pc := 47) C 101 (by omega) (by omega) dX6_pushAll_47 (by decide) (fun h47 => ?_) (fun h47 => ?_)
            · exact v_vret (pc := 101) C hr dX6_pushAll_101 ⟨rfl, by rw [hres, show d = (r 1).toNat by omega]⟩
            · obtain ⟨q0, q1, q2, q3, q4, q5, q6⟩ := hWd.2.2.2.2.2 d (by omega) (by omega)
              have q60 := q6 0 (by omega) (by omega)
              rw [show 76 + 12 * (d : Int) + 6 + 0 = 76 + 12 * (d : Int) + 6 by omega] at q60
              have q44 := hWd.2.2.1
              refine v_bipush (pc := 50) C (by decide +kernel) dX6_pushAll_50 ?_
              refine v_bipush (pc := 52) C (by decide +kernel) dX6_pushAll_52 ?_
              refine v_aload_n (pc := 54) C 1 rfl dX6_pushAll_54 ?_
              refine v_iload_n (pc := 55) C 0 rfl dX6_pushAll_55 ?_
              refine v_iconst (pc := 56) C dX6_pushAll_56 ?_
              refine v_cs (pc := 57) (as := [.ref (bs γ + c), .int (iI (d : Int)), .int (iI 2)]) C (cy_X6_ofDuct G) (wM_X6_62 G) (k_X6_ofDuct G hc (by omega)) dX6_pushAll_57 rfl rfl (by decide) (by decide) (Nat.le_of_ble_eq_true rfl) zc (k_I (fun z57 s57 q57 => ?_))
              obtain ⟨⟨ez57, rz57⟩, rfl⟩ := q57
              refine v_imul (pc := 60) C dX6_pushAll_60 ?_
              refine v_iadd (pc := 61) C dX6_pushAll_61 ?_
              refine v_iconst (pc := 62) C dX6_pushAll_62 ?_
              refine v_iadd (pc := 63) C dX6_pushAll_63 ?_
              refine v_aload_n (pc := 64) C 1 rfl dX6_pushAll_64 ?_
              refine v_iload_n (pc := 65) C 0 rfl dX6_pushAll_65 ?_
              refine v_iconst (pc := 66) C dX6_pushAll_66 ?_
              refine v_cs (pc := 67) (as := [.ref (bs γ + c), .int (iI (d : Int)), .int (iI 3)]) C (cy_X6_ofDuct G) (wM_X6_62 G) (k_X6_ofDuct G hc (by omega)) dX6_pushAll_67 rfl rfl (by decide) (by decide) (Nat.le_of_ble_eq_true rfl) zc (k_I (fun z67 s67 q67 => ?_))
              obtain ⟨⟨ez67, rz67⟩, rfl⟩ := q67
              refine v_iadd (pc := 70) C dX6_pushAll_70 ?_
              refine v_nm (fun at0 eat0 => ?_)
              refine v_istore_n (pc := 71) C [(2, .int (iI at0)), (1, .int (iI (d : Int))), (0, .ref (bs γ + c))] dX6_pushAll_71 rfl (by decide) rfl ?_
              refine v_aload_n (pc := 72) C 2 rfl dX6_pushAll_72 ?_
              refine v_iload_n (pc := 73) C 1 rfl dX6_pushAll_73 ?_
              refine v_cs (pc := 74) (as := [.ref (bs γ + c), .int (iI (d : Int))]) C (cy_X6_comesOut G) (wM_X6_65 G) (k_X6_comesOut G hc (by omega) (by omega) (by omega) (by omega) (by omega)) dX6_pushAll_74 rfl rfl (by decide) (by decide) (Nat.le_of_ble_eq_true rfl) zc (k_I (fun z74 s74 q74 => ?_))
              obtain ⟨⟨ez74, rz74⟩, rfl⟩ := q74
              refine v_istore_n (pc := 77) C [(3, .int (iI z74)), (2, .int (iI at0)), (1, .int (iI (d : Int))), (0, .ref (bs γ + c))] dX6_pushAll_77 rfl (by decide) rfl ?_
              refine v_aload_n (pc := 78) C 3 rfl dX6_pushAll_78 ?_
              refine v_iload_n (pc := 79) C 1 rfl dX6_pushAll_79 ?_
              refine v_iload_n (pc := 80) C 0 rfl dX6_pushAll_80 ?_
              refine v_aload_n (pc := 81) C 3 rfl dX6_pushAll_81 ?_
              refine v_iload_n (pc := 82) C 1 rfl dX6_pushAll_82 ?_
              refine v_ialdR (pc := 83) C hc (by omega) dX6_pushAll_83 (fun z83 ez83 rz83 => ?_)
              refine v_icmp_le (pc := 84) C 91 (by omega) (by omega) dX6_pushAll_84 (by decide) (fun h84 => ?_) (fun h84 => ?_)
              · refine v_aload_n (pc := 91) C 3 rfl dX6_pushAll_91 ?_
                refine v_iload_n (pc := 92) C 1 rfl dX6_pushAll_92 ?_
                refine v_ialdR (pc := 93) C hc (by omega) dX6_pushAll_93 (fun z93 ez93 rz93 => ?_)
                refine v_iastR (pc := 94) C hc (by omega) (by omega) dX6_pushAll_94 ?_
                refine v_iinc (pc := 95) C 2 [(1, .int (iI ((d : Int) + 1))), (3, .int (iI z74)), (2, .int (iI at0)), (0, .ref (bs γ + c))] dX6_pushAll_95 rfl (by decide) rfl ?_
                refine v_goto (pc := 98) C 43 dX6_pushAll_98 (by decide) ?_
                refine v_st (show _ = setc σ c (pushD w (d + 1)) from by rw [show pushD w (d + 1) = pushR (pushD w d) d from rfl]; unfold pushR; rw [← ez57, ← ez67, ← eat0, ← ez74, ← ez83]; first | rw [if_pos (by omega)] | (rw [if_neg (by omega), show z93 = z83 by omega])) ?_
                exact v_lv _ [0, 3] rfl (ih (d + 1) (by omega) (by omega))
              · refine v_iload_n (pc := 87) C 0 rfl dX6_pushAll_87 ?_
                refine v_goto (pc := 88) C 94 dX6_pushAll_88 (by decide) ?_
                refine v_iastR (pc := 94) C hc (by omega) (by omega) dX6_pushAll_94 ?_
                refine v_iinc (pc := 95) C 2 [(1, .int (iI ((d : Int) + 1))), (3, .int (iI z74)), (2, .int (iI at0)), (0, .ref (bs γ + c))] dX6_pushAll_95 rfl (by decide) rfl ?_
                refine v_goto (pc := 98) C 43 dX6_pushAll_98 (by decide) ?_
                refine v_st (show _ = setc σ c (pushD w (d + 1)) from by rw [show pushD w (d + 1) = pushR (pushD w d) d from rfl]; unfold pushR; rw [← ez57, ← ez67, ← eat0, ← ez74, ← ez83]; first | rw [if_pos (by omega)] | (rw [if_neg (by omega), show z93 = z83 by omega])) ?_
                exact v_lv _ [0, 3] rfl (ih (d + 1) (by omega) (by omega))
        exact v_lv _ [0, 1] rfl (L43 ((r 1).toNat + 1) 0 (by omega) (by omega))
      · refine v_aload_n (pc := 9) C 1 rfl dX6_pushAll_9 ?_
        refine v_bipush (pc := 10) C (by decide +kernel) dX6_pushAll_10 ?_
        refine v_bipush (pc := 12) C (by decide +kernel) dX6_pushAll_12 ?_
        refine v_iload_n (pc := 14) C 0 rfl dX6_pushAll_14 ?_
        refine v_imul (pc := 15) C dX6_pushAll_15 ?_
        refine v_iadd (pc := 16) C dX6_pushAll_16 ?_
        refine v_iconst (pc := 17) C dX6_pushAll_17 ?_
        refine v_iadd (pc := 18) C dX6_pushAll_18 ?_
        refine v_iconst (pc := 19) C dX6_pushAll_19 ?_
        refine v_iastR (pc := 20) C hc (by omega) (by omega) dX6_pushAll_20 ?_
        refine v_aload_n (pc := 21) C 1 rfl dX6_pushAll_21 ?_
        refine v_bipush (pc := 22) C (by decide +kernel) dX6_pushAll_22 ?_
        refine v_bipush (pc := 24) C (by decide +kernel) dX6_pushAll_24 ?_
        refine v_iload_n (pc := 26) C 0 rfl dX6_pushAll_26 ?_
        refine v_imul (pc := 27) C dX6_pushAll_27 ?_
        refine v_iadd (pc := 28) C dX6_pushAll_28 ?_
        refine v_iconst (pc := 29) C dX6_pushAll_29 ?_
        refine v_iadd (pc := 30) C dX6_pushAll_30 ?_
        refine v_iconst (pc := 31) C dX6_pushAll_31 ?_
        refine v_iadd (pc := 32) C dX6_pushAll_32 ?_
        refine v_iconst (pc := 33) C dX6_pushAll_33 ?_
        refine v_iastR (pc := 34) C hc (by omega) (by omega) dX6_pushAll_34 ?_
        refine v_iinc (pc := 35) C 0 [(1, .int (iI ((i : Int) + 1))), (0, .ref (bs γ + c))] dX6_pushAll_35 rfl (by decide) rfl ?_
        refine v_goto (pc := 38) C 2 dX6_pushAll_38 (by decide) ?_
        exact v_lv _ [0, 1] rfl (ih (i + 1) (by omega) (by omega))
  exact v_lv _ [0, 1] rfl (L2 ((r 0).toNat + 1) 0 (by omega) (by omega))

set_option maxHeartbeats 4000000 in
set_option maxRecDepth 100000 in
theorem k_X6_reckon {γ : Gm} (G : Glo γ) {σ : St} {c : Nat} {r : Int → Int} {v : Int} (hc : sh c = (0, 268) ∧ 268 ≤ 4000) (h : Wf r) (h0 : 0 ≤ v ∧ v < r 0) : Ct γ yX6_reckon cX6_reckon 7 none 4 [.ref (bs γ + c), .int (iI v)] (setc σ c r) (pV (fun σ2 => σ2 = setc σ c (reckonR r v))) := by
  refine Ct.of G (by decide +kernel) (Nat.le_of_ble_eq_true rfl) (fun φ C hr => ?_)
  have C : Cx γ φ RX6 cX6_reckon 7 4 := C
  obtain ⟨q0, q1, q2, q3, q4, q5, q6, q7, q8, q9⟩ := h.2.2.2.2.1 v h0.1 h0.2
  have q50 := h.2.2.2.1
  have hn := h.1
  refine v_lv [(0, .ref (bs γ + c)), (1, .int (iI v))] [0, 1] rfl ?_
  refine v_aload_n (pc := 0) C 0 rfl dX6_reckon_0 ?_
  refine v_iload_n (pc := 1) C 1 rfl dX6_reckon_1 ?_
  refine v_iconst (pc := 2) C dX6_reckon_2 ?_
  refine v_cs (pc := 3) (as := [.ref (bs γ + c), .int (iI v), .int (iI 1)]) C (cy_X6_of G) (wM_X6_48 G) (k_X6_of G hc (by omega)) dX6_reckon_3 rfl rfl (by decide) (by decide) (Nat.le_of_ble_eq_true rfl) zc (k_I (fun z3 s3 q3 => ?_))
  obtain ⟨⟨ez3, rz3⟩, rfl⟩ := q3
  refine v_istore_n (pc := 6) C [(2, .int (iI z3)), (0, .ref (bs γ + c)), (1, .int (iI v))] dX6_reckon_6 rfl (by decide) rfl ?_
  refine v_aload_n (pc := 7) C 1 rfl dX6_reckon_7 ?_
  refine v_iload_n (pc := 8) C 2 rfl dX6_reckon_8 ?_
  refine v_iconst (pc := 9) C dX6_reckon_9 ?_
  refine v_cs (pc := 10) (as := [.ref (bs γ + c), .int (iI v), .int (iI 5)]) C (cy_X6_of G) (wM_X6_48 G) (k_X6_of G hc (by omega)) dX6_reckon_10 rfl rfl (by decide) (by decide) (Nat.le_of_ble_eq_true rfl) zc (k_I (fun z10 s10 q10 => ?_))
  obtain ⟨⟨ez10, rz10⟩, rfl⟩ := q10
  refine v_istore_n (pc := 13) C [(3, .int (iI z10)), (2, .int (iI z3)), (0, .ref (bs γ + c)), (1, .int (iI v))] dX6_reckon_13 rfl (by decide) rfl ?_
  refine v_aload_n (pc := 14) C 2 rfl dX6_reckon_14 ?_
  refine v_iload_n (pc := 15) C 3 rfl dX6_reckon_15 ?_
  refine v_bipush (pc := 16) C (by decide +kernel) dX6_reckon_16 ?_
  refine v_cs (pc := 18) (as := [.ref (bs γ + c), .int (iI v), .int (iI 6)]) C (cy_X6_of G) (wM_X6_48 G) (k_X6_of G hc (by omega)) dX6_reckon_18 rfl rfl (by decide) (by decide) (Nat.le_of_ble_eq_true rfl) zc (k_I (fun z18 s18 q18 => ?_))
  obtain ⟨⟨ez18, rz18⟩, rfl⟩ := q18
  refine v_istore (pc := 21) C [(4, .int (iI z18)), (3, .int (iI z10)), (2, .int (iI z3)), (0, .ref (bs γ + c)), (1, .int (iI v))] dX6_reckon_21 (by decide) rfl ?_
  refine v_aload_n (pc := 23) C 3 rfl dX6_reckon_23 ?_
  refine v_iload_n (pc := 24) C 4 rfl dX6_reckon_24 ?_
  refine v_iconst (pc := 25) C dX6_reckon_25 ?_
  refine v_cs (pc := 26) (as := [.ref (bs γ + c), .int (iI v), .int (iI 0)]) C (cy_X6_works G) (wM_X6_69 G) (k_X6_works G hc (k := 5) (by decide) (by omega) (by decide) (by omega) (by omega) (by omega)) dX6_reckon_26 rfl rfl (by decide) (by decide) (Nat.le_of_ble_eq_true rfl) zc (k_I (fun z26 s26 q26 => ?_))
  rcases q26 with ⟨⟨rfl, q26⟩ | ⟨rfl, q26⟩, rfl⟩
  · refine v_istore (pc := 29) C [(5, .int (iI 1)), (4, .int (iI z18)), (3, .int (iI z10)), (2, .int (iI z3)), (0, .ref (bs γ + c)), (1, .int (iI v))] dX6_reckon_29 (by decide) rfl ?_
    refine v_aload_n (pc := 31) C 4 rfl dX6_reckon_31 ?_
    refine v_iload_n (pc := 32) C 5 rfl dX6_reckon_32 ?_
    refine v_iconst (pc := 33) C dX6_reckon_33 ?_
    refine v_cs (pc := 34) (as := [.ref (bs γ + c), .int (iI v), .int (iI 1)]) C (cy_X6_works G) (wM_X6_69 G) (k_X6_works G hc (k := 6) (by decide) (by omega) (by decide) (by omega) (by omega) (by omega)) dX6_reckon_34 rfl rfl (by decide) (by decide) (Nat.le_of_ble_eq_true rfl) zc (k_I (fun z34 s34 q34 => ?_))
    rcases q34 with ⟨⟨rfl, q34⟩ | ⟨rfl, q34⟩, rfl⟩
    · refine v_istore (pc := 37) C [(6, .int (iI 1)), (5, .int (iI 1)), (4, .int (iI z18)), (3, .int (iI z10)), (2, .int (iI z3)), (0, .ref (bs γ + c)), (1, .int (iI v))] dX6_reckon_37 (by decide) rfl ?_
      refine v_aload_n (pc := 39) C 5 rfl dX6_reckon_39 ?_
      refine v_iload_n (pc := 40) C 6 rfl dX6_reckon_40 ?_
      refine v_iconst (pc := 41) C dX6_reckon_41 ?_
      refine v_cs (pc := 42) (as := [.ref (bs γ + c), .int (iI v), .int (iI 0)]) C (cy_X6_of G) (wM_X6_48 G) (k_X6_of G hc (by omega)) dX6_reckon_42 rfl rfl (by decide) (by decide) (Nat.le_of_ble_eq_true rfl) zc (k_I (fun z42 s42 q42 => ?_))
      obtain ⟨⟨ez42, rz42⟩, rfl⟩ := q42
      by_cases hs45 : 0 ≤ z42 ∧ z42 ≤ 3
      · have hs45 : z42 = 0 ∨ z42 = 1 ∨ z42 = 2 ∨ z42 = 3 := by omega
        rcases hs45 with hs45 | hs45 | hs45 | hs45
        · refine v_tabIn (pc := 45) C 76 (by first | omega | assumption) dX6_reckon_45 (by omega) (by rw [hs45]; rfl) (by decide) ?_
          refine v_aload_n (pc := 76) C 5 rfl dX6_reckon_76 ?_
          refine v_iload_n (pc := 77) C 6 rfl dX6_reckon_77 ?_
          refine v_iconst (pc := 78) C dX6_reckon_78 ?_
          refine v_aload_n (pc := 79) C 5 rfl dX6_reckon_79 ?_
          refine v_iload_n (pc := 80) C 6 rfl dX6_reckon_80 ?_
          refine v_iconst (pc := 81) C dX6_reckon_81 ?_
          refine v_cs (pc := 82) (as := [.ref (bs γ + c), .int (iI v), .int (iI 2)]) C (cy_X6_of G) (wM_X6_48 G) (k_X6_of G hc (by omega)) dX6_reckon_82 rfl rfl (by decide) (by decide) (Nat.le_of_ble_eq_true rfl) zc (k_I (fun z82 s82 q82 => ?_))
          obtain ⟨⟨ez82, rz82⟩, rfl⟩ := q82
          refine v_isub (pc := 85) C dX6_reckon_85 ?_
          refine v_iload_n (pc := 86) C 4 rfl dX6_reckon_86 ?_
          refine v_cs (pc := 87) (as := [.ref (bs γ + c), .int (iI v), .int (iI (1 - z82)), .int (iI z3)]) C (cy_X6_layLegs G) (wM_X6_72 G) (k_X6_layLegs G hc (by omega) (by omega) (by first | omega | assumption)) dX6_reckon_87 rfl rfl (by decide) (by decide) (Nat.le_of_ble_eq_true rfl) zc (k_V (fun s87 q87 => ?_))
          subst q87
          refine v_goto (pc := 90) C 227 dX6_reckon_90 (by decide) ?_
          exact v_vret (pc := 227) C hr dX6_reckon_227 ⟨rfl, by subst ez42; subst ez82; subst ez3; show _ = setc σ c (reckonR r v); unfold reckonR; rw [if_pos hs45]⟩
        · refine v_tabIn (pc := 45) C 93 (by first | omega | assumption) dX6_reckon_45 (by omega) (by rw [hs45]; rfl) (by decide) ?_
          refine v_aload_n (pc := 93) C 5 rfl dX6_reckon_93 ?_
          refine v_iload_n (pc := 94) C 6 rfl dX6_reckon_94 ?_
          refine v_iload (pc := 95) C 1 rfl dX6_reckon_95 ?_
          refine v_if_ne (pc := 97) C 105 (by first | omega | assumption) dX6_reckon_97 (by decide) (fun _ => ?_) (fun h => absurd h (by decide))
          refine v_iconst (pc := 105) C dX6_reckon_105 ?_
          refine v_goto (pc := 106) C 110 dX6_reckon_106 (by decide) ?_
          refine v_iload_n (pc := 110) C 4 rfl dX6_reckon_110 ?_
          refine v_cs (pc := 111) (as := [.ref (bs γ + c), .int (iI v), .int (iI 1), .int (iI z3)]) C (cy_X6_layLegs G) (wM_X6_72 G) (k_X6_layLegs G hc (by omega) (by omega) (by first | omega | assumption)) dX6_reckon_111 rfl rfl (by decide) (by decide) (Nat.le_of_ble_eq_true rfl) zc (k_V (fun s111 q111 => ?_))
          subst q111
          refine v_goto (pc := 114) C 227 dX6_reckon_114 (by decide) ?_
          exact v_vret (pc := 227) C hr dX6_reckon_227 ⟨rfl, by subst ez42; subst ez3; show _ = setc σ c (reckonR r v); unfold reckonR; rw [if_neg (by omega), if_pos hs45]; (first | rw [if_pos (Or.inl (by assumption))] | rw [if_pos (Or.inr (by assumption))] | rw [if_neg (by rintro (a | a) <;> contradiction)])⟩
        · refine v_tabIn (pc := 45) C 117 (by first | omega | assumption) dX6_reckon_45 (by omega) (by rw [hs45]; rfl) (by decide) ?_
          refine v_iload (pc := 117) C 1 rfl dX6_reckon_117 ?_
          refine v_iload (pc := 119) C 0 rfl dX6_reckon_119 ?_
          refine v_icmp_eq (pc := 121) C 139 (by first | omega | assumption) (by first | omega | assumption) dX6_reckon_121 (by decide) (fun _ => ?_) (fun h => absurd h (by decide))
          refine v_aload_n (pc := 139) C 5 rfl dX6_reckon_139 ?_
          refine v_iload_n (pc := 140) C 6 rfl dX6_reckon_140 ?_
          refine v_aload_n (pc := 141) C 5 rfl dX6_reckon_141 ?_
          refine v_iload_n (pc := 142) C 6 rfl dX6_reckon_142 ?_
          refine v_iconst (pc := 143) C dX6_reckon_143 ?_
          refine v_cs (pc := 144) (as := [.ref (bs γ + c), .int (iI v), .int (iI 2)]) C (cy_X6_of G) (wM_X6_48 G) (k_X6_of G hc (by omega)) dX6_reckon_144 rfl rfl (by decide) (by decide) (Nat.le_of_ble_eq_true rfl) zc (k_I (fun z144 s144 q144 => ?_))
          obtain ⟨⟨ez144, rz144⟩, rfl⟩ := q144
          try rw [goesR_2] at ez144
          refine v_iload_n (pc := 147) C 4 rfl dX6_reckon_147 ?_
          refine v_cs (pc := 148) (as := [.ref (bs γ + c), .int (iI v), .int (iI z144), .int (iI z3)]) C (cy_X6_layLegs G) (wM_X6_72 G) (k_X6_layLegs G hc (by omega) (by omega) (by first | omega | assumption)) dX6_reckon_148 rfl rfl (by decide) (by decide) (Nat.le_of_ble_eq_true rfl) zc (k_V (fun s148 q148 => ?_))
          subst q148
          refine v_goto (pc := 151) C 227 dX6_reckon_151 (by decide) ?_
          exact v_vret (pc := 227) C hr dX6_reckon_227 ⟨rfl, by subst ez42; subst ez144; subst ez3; show _ = setc σ c (reckonR r v); unfold reckonR; rw [if_neg (by omega), if_neg (by omega), if_pos hs45]; (first | rw [if_pos ⟨by assumption, by assumption⟩] | rw [if_neg (by rintro ⟨a, b⟩; contradiction), if_pos ⟨by assumption, by assumption⟩] | rw [if_neg (by rintro ⟨a, b⟩; contradiction), if_neg (by rintro ⟨a, b⟩; contradiction)])⟩
        · refine v_tabIn (pc := 45) C 154 (by first | omega | assumption) dX6_reckon_45 (by omega) (by rw [hs45]; rfl) (by decide) ?_
          refine v_aload_n (pc := 154) C 5 rfl dX6_reckon_154 ?_
          refine v_iload_n (pc := 155) C 6 rfl dX6_reckon_155 ?_
          refine v_iconst (pc := 156) C dX6_reckon_156 ?_
          refine v_iload_n (pc := 157) C 3 rfl dX6_reckon_157 ?_
          refine v_iload (pc := 158) C 2 rfl dX6_reckon_158 ?_
          refine v_icmp_ge (pc := 160) C 167 (by first | omega | assumption) (by first | omega | assumption) dX6_reckon_160 (by decide) (fun h160 => ?_) (fun h160 => ?_)
          · refine v_iload (pc := 167) C 2 rfl dX6_reckon_167 ?_
            refine v_cs (pc := 169) (as := [.ref (bs γ + c), .int (iI v), .int (iI 0), .int (iI z18)]) C (cy_X6_layLegs G) (wM_X6_72 G) (k_X6_layLegs G hc (by omega) (by omega) (by first | omega | assumption)) dX6_reckon_169 rfl rfl (by decide) (by decide) (Nat.le_of_ble_eq_true rfl) zc (k_V (fun s169 q169 => ?_))
            subst q169
            refine v_aload_n (pc := 172) C 5 rfl dX6_reckon_172 ?_
            refine v_bipush (pc := 173) C (by decide +kernel) dX6_reckon_173 ?_
            refine v_bipush (pc := 175) C (by decide +kernel) dX6_reckon_175 ?_
            refine v_iload_n (pc := 177) C 6 rfl dX6_reckon_177 ?_
            refine v_imul (pc := 178) C dX6_reckon_178 ?_
            refine v_iadd (pc := 179) C dX6_reckon_179 ?_
            refine v_iconst (pc := 180) C dX6_reckon_180 ?_
            refine v_iadd (pc := 181) C dX6_reckon_181 ?_
            refine v_iconst (pc := 182) C dX6_reckon_182 ?_
            refine v_iadd (pc := 183) C dX6_reckon_183 ?_
            refine v_iload_n (pc := 184) C 3 rfl dX6_reckon_184 ?_
            refine v_if_eq (pc := 185) C 193 (by first | omega | assumption) dX6_reckon_185 (by decide) (fun h185 => ?_) (fun h185 => ?_)
            · refine v_iload_n (pc := 193) C 3 rfl dX6_reckon_193 ?_
              refine v_iload (pc := 194) C 2 rfl dX6_reckon_194 ?_
              refine v_iadd (pc := 196) C dX6_reckon_196 ?_
              refine v_goto (pc := 197) C 201 dX6_reckon_197 (by decide) ?_
              refine v_iastR (pc := 201) C hc (by first | omega | assumption) (by first | omega | assumption) dX6_reckon_201 ?_
              refine v_goto (pc := 202) C 227 dX6_reckon_202 (by decide) ?_
              exact v_vret (pc := 227) C hr dX6_reckon_227 ⟨rfl, by subst ez42; subst ez10; subst ez18; show _ = setc σ c (reckonR r v); unfold reckonR; rw [if_neg (by omega), if_neg (by omega), if_neg (by omega), if_pos hs45]; split <;> split <;> first | rfl | (exfalso; omega)⟩
            · refine v_iload (pc := 188) C 2 rfl dX6_reckon_188 ?_
              refine v_if_ne (pc := 190) C 200 (by first | omega | assumption) dX6_reckon_190 (by decide) (fun h190 => ?_) (fun h190 => ?_)
              · refine v_iconst (pc := 200) C dX6_reckon_200 ?_
                refine v_iastR (pc := 201) C hc (by first | omega | assumption) (by first | omega | assumption) dX6_reckon_201 ?_
                refine v_goto (pc := 202) C 227 dX6_reckon_202 (by decide) ?_
                exact v_vret (pc := 227) C hr dX6_reckon_227 ⟨rfl, by subst ez42; subst ez10; subst ez18; show _ = setc σ c (reckonR r v); unfold reckonR; rw [if_neg (by omega), if_neg (by omega), if_neg (by omega), if_pos hs45]; split <;> split <;> first | rfl | (exfalso; omega)⟩
              · refine v_iload_n (pc := 193) C 3 rfl dX6_reckon_193 ?_
                refine v_iload (pc := 194) C 2 rfl dX6_reckon_194 ?_
                refine v_iadd (pc := 196) C dX6_reckon_196 ?_
                refine v_goto (pc := 197) C 201 dX6_reckon_197 (by decide) ?_
                refine v_iastR (pc := 201) C hc (by first | omega | assumption) (by first | omega | assumption) dX6_reckon_201 ?_
                refine v_goto (pc := 202) C 227 dX6_reckon_202 (by decide) ?_
                exact v_vret (pc := 227) C hr dX6_reckon_227 ⟨rfl, by subst ez42; subst ez10; subst ez18; show _ = setc σ c (reckonR r v); unfold reckonR; rw [if_neg (by omega), if_neg (by omega), if_neg (by omega), if_pos hs45]; split <;> split <;> first | rfl | (exfalso; omega)⟩
          · refine v_iload_n (pc := 163) C 3 rfl dX6_reckon_163 ?_
            refine v_goto (pc := 164) C 169 dX6_reckon_164 (by decide) ?_
            refine v_cs (pc := 169) (as := [.ref (bs γ + c), .int (iI v), .int (iI 0), .int (iI z10)]) C (cy_X6_layLegs G) (wM_X6_72 G) (k_X6_layLegs G hc (by omega) (by omega) (by first | omega | assumption)) dX6_reckon_169 rfl rfl (by decide) (by decide) (Nat.le_of_ble_eq_true rfl) zc (k_V (fun s169_1 q169_1 => ?_))
            subst q169_1
            refine v_aload_n (pc := 172) C 5 rfl dX6_reckon_172 ?_
            refine v_bipush (pc := 173) C (by decide +kernel) dX6_reckon_173 ?_
            refine v_bipush (pc := 175) C (by decide +kernel) dX6_reckon_175 ?_
            refine v_iload_n (pc := 177) C 6 rfl dX6_reckon_177 ?_
            refine v_imul (pc := 178) C dX6_reckon_178 ?_
            refine v_iadd (pc := 179) C dX6_reckon_179 ?_
            refine v_iconst (pc := 180) C dX6_reckon_180 ?_
            refine v_iadd (pc := 181) C dX6_reckon_181 ?_
            refine v_iconst (pc := 182) C dX6_reckon_182 ?_
            refine v_iadd (pc := 183) C dX6_reckon_183 ?_
            refine v_iload_n (pc := 184) C 3 rfl dX6_reckon_184 ?_
            refine v_if_eq (pc := 185) C 193 (by first | omega | assumption) dX6_reckon_185 (by decide) (fun h185_1 => ?_) (fun h185_1 => ?_)
            · refine v_iload_n (pc := 193) C 3 rfl dX6_reckon_193 ?_
              refine v_iload (pc := 194) C 2 rfl dX6_reckon_194 ?_
              refine v_iadd (pc := 196) C dX6_reckon_196 ?_
              refine v_goto (pc := 197) C 201 dX6_reckon_197 (by decide) ?_
              refine v_iastR (pc := 201) C hc (by first | omega | assumption) (by first | omega | assumption) dX6_reckon_201 ?_
              refine v_goto (pc := 202) C 227 dX6_reckon_202 (by decide) ?_
              exact v_vret (pc := 227) C hr dX6_reckon_227 ⟨rfl, by subst ez42; subst ez10; subst ez18; show _ = setc σ c (reckonR r v); unfold reckonR; rw [if_neg (by omega), if_neg (by omega), if_neg (by omega), if_pos hs45]; split <;> split <;> first | rfl | (exfalso; omega)⟩
            · refine v_iload (pc := 188) C 2 rfl dX6_reckon_188 ?_
              refine v_if_ne (pc := 190) C 200 (by first | omega | assumption) dX6_reckon_190 (by decide) (fun h190_1 => ?_) (fun h190_1 => ?_)
              · refine v_iconst (pc := 200) C dX6_reckon_200 ?_
                refine v_iastR (pc := 201) C hc (by first | omega | assumption) (by first | omega | assumption) dX6_reckon_201 ?_
                refine v_goto (pc := 202) C 227 dX6_reckon_202 (by decide) ?_
                exact v_vret (pc := 227) C hr dX6_reckon_227 ⟨rfl, by subst ez42; subst ez10; subst ez18; show _ = setc σ c (reckonR r v); unfold reckonR; rw [if_neg (by omega), if_neg (by omega), if_neg (by omega), if_pos hs45]; split <;> split <;> first | rfl | (exfalso; omega)⟩
              · refine v_iload_n (pc := 193) C 3 rfl dX6_reckon_193 ?_
                refine v_iload (pc := 194) C 2 rfl dX6_reckon_194 ?_
                refine v_iadd (pc := 196) C dX6_reckon_196 ?_
                refine v_goto (pc := 197) C 201 dX6_reckon_197 (by decide) ?_
                refine v_iastR (pc := 201) C hc (by first | omega | assumption) (by first | omega | assumption) dX6_reckon_201 ?_
                refine v_goto (pc := 202) C 227 dX6_reckon_202 (by decide) ?_
                exact v_vret (pc := 227) C hr dX6_reckon_227 ⟨rfl, by subst ez42; subst ez10; subst ez18; show _ = setc σ c (reckonR r v); unfold reckonR; rw [if_neg (by omega), if_neg (by omega), if_neg (by omega), if_pos hs45]; split <;> split <;> first | rfl | (exfalso; omega)⟩
      · refine v_tabOut (pc := 45) C 205 (by first | omega | assumption) dX6_reckon_45 (by omega) (by decide) ?_
        refine v_aload_n (pc := 205) C 5 rfl dX6_reckon_205 ?_
        refine v_iload_n (pc := 206) C 6 rfl dX6_reckon_206 ?_
        refine v_iload_n (pc := 207) C 3 rfl dX6_reckon_207 ?_
        refine v_iconst (pc := 208) C dX6_reckon_208 ?_
        refine v_icmp_ge (pc := 209) C 218 (by first | omega | assumption) (by first | omega | assumption) dX6_reckon_209 (by decide) (fun h209 => ?_) (fun h209 => ?_)
        · refine v_iconst (pc := 218) C dX6_reckon_218 ?_
          refine v_goto (pc := 219) C 223 dX6_reckon_219 (by decide) ?_
          refine v_iload_n (pc := 223) C 4 rfl dX6_reckon_223 ?_
          refine v_cs (pc := 224) (as := [.ref (bs γ + c), .int (iI v), .int (iI 0), .int (iI z3)]) C (cy_X6_layLegs G) (wM_X6_72 G) (k_X6_layLegs G hc (by omega) (by omega) (by first | omega | assumption)) dX6_reckon_224 rfl rfl (by decide) (by decide) (Nat.le_of_ble_eq_true rfl) zc (k_V (fun s224 q224 => ?_))
          subst q224
          exact v_vret (pc := 227) C hr dX6_reckon_227 ⟨rfl, by subst ez42; subst ez10; subst ez18; subst ez3; show _ = setc σ c (reckonR r v); unfold reckonR; rw [if_neg (by omega), if_neg (by omega), if_neg (by omega), if_neg (by omega)]; split <;> first | rfl | (exfalso; omega)⟩
        · refine v_iload (pc := 212) C 2 rfl dX6_reckon_212 ?_
          refine v_iconst (pc := 214) C dX6_reckon_214 ?_
          refine v_icmp_lt (pc := 215) C 222 (by first | omega | assumption) (by first | omega | assumption) dX6_reckon_215 (by decide) (fun h215 => ?_) (fun h215 => ?_)
          · refine v_iconst (pc := 222) C dX6_reckon_222 ?_
            refine v_iload_n (pc := 223) C 4 rfl dX6_reckon_223 ?_
            refine v_cs (pc := 224) (as := [.ref (bs γ + c), .int (iI v), .int (iI 1), .int (iI z3)]) C (cy_X6_layLegs G) (wM_X6_72 G) (k_X6_layLegs G hc (by omega) (by omega) (by first | omega | assumption)) dX6_reckon_224 rfl rfl (by decide) (by decide) (Nat.le_of_ble_eq_true rfl) zc (k_V (fun s224_1 q224_1 => ?_))
            subst q224_1
            exact v_vret (pc := 227) C hr dX6_reckon_227 ⟨rfl, by subst ez42; subst ez10; subst ez18; subst ez3; show _ = setc σ c (reckonR r v); unfold reckonR; rw [if_neg (by omega), if_neg (by omega), if_neg (by omega), if_neg (by omega)]; split <;> first | rfl | (exfalso; omega)⟩
          · refine v_iconst (pc := 218) C dX6_reckon_218 ?_
            refine v_goto (pc := 219) C 223 dX6_reckon_219 (by decide) ?_
            refine v_iload_n (pc := 223) C 4 rfl dX6_reckon_223 ?_
            refine v_cs (pc := 224) (as := [.ref (bs γ + c), .int (iI v), .int (iI 0), .int (iI z3)]) C (cy_X6_layLegs G) (wM_X6_72 G) (k_X6_layLegs G hc (by omega) (by omega) (by first | omega | assumption)) dX6_reckon_224 rfl rfl (by decide) (by decide) (Nat.le_of_ble_eq_true rfl) zc (k_V (fun s224_2 q224_2 => ?_))
            subst q224_2
            exact v_vret (pc := 227) C hr dX6_reckon_227 ⟨rfl, by subst ez42; subst ez10; subst ez18; subst ez3; show _ = setc σ c (reckonR r v); unfold reckonR; rw [if_neg (by omega), if_neg (by omega), if_neg (by omega), if_neg (by omega)]; split <;> first | rfl | (exfalso; omega)⟩
    · refine v_istore (pc := 37) C [(6, .int (iI 0)), (5, .int (iI 1)), (4, .int (iI z18)), (3, .int (iI z10)), (2, .int (iI z3)), (0, .ref (bs γ + c)), (1, .int (iI v))] dX6_reckon_37 (by decide) rfl ?_
      refine v_aload_n (pc := 39) C 5 rfl dX6_reckon_39 ?_
      refine v_iload_n (pc := 40) C 6 rfl dX6_reckon_40 ?_
      refine v_iconst (pc := 41) C dX6_reckon_41 ?_
      refine v_cs (pc := 42) (as := [.ref (bs γ + c), .int (iI v), .int (iI 0)]) C (cy_X6_of G) (wM_X6_48 G) (k_X6_of G hc (by omega)) dX6_reckon_42 rfl rfl (by decide) (by decide) (Nat.le_of_ble_eq_true rfl) zc (k_I (fun z42_1 s42_1 q42_1 => ?_))
      obtain ⟨⟨ez42_1, rz42_1⟩, rfl⟩ := q42_1
      by_cases hs45_1 : 0 ≤ z42_1 ∧ z42_1 ≤ 3
      · have hs45_1 : z42_1 = 0 ∨ z42_1 = 1 ∨ z42_1 = 2 ∨ z42_1 = 3 := by omega
        rcases hs45_1 with hs45_1 | hs45_1 | hs45_1 | hs45_1
        · refine v_tabIn (pc := 45) C 76 (by first | omega | assumption) dX6_reckon_45 (by omega) (by rw [hs45_1]; rfl) (by decide) ?_
          refine v_aload_n (pc := 76) C 5 rfl dX6_reckon_76 ?_
          refine v_iload_n (pc := 77) C 6 rfl dX6_reckon_77 ?_
          refine v_iconst (pc := 78) C dX6_reckon_78 ?_
          refine v_aload_n (pc := 79) C 5 rfl dX6_reckon_79 ?_
          refine v_iload_n (pc := 80) C 6 rfl dX6_reckon_80 ?_
          refine v_iconst (pc := 81) C dX6_reckon_81 ?_
          refine v_cs (pc := 82) (as := [.ref (bs γ + c), .int (iI v), .int (iI 2)]) C (cy_X6_of G) (wM_X6_48 G) (k_X6_of G hc (by omega)) dX6_reckon_82 rfl rfl (by decide) (by decide) (Nat.le_of_ble_eq_true rfl) zc (k_I (fun z82_1 s82_1 q82_1 => ?_))
          obtain ⟨⟨ez82_1, rz82_1⟩, rfl⟩ := q82_1
          refine v_isub (pc := 85) C dX6_reckon_85 ?_
          refine v_iload_n (pc := 86) C 4 rfl dX6_reckon_86 ?_
          refine v_cs (pc := 87) (as := [.ref (bs γ + c), .int (iI v), .int (iI (1 - z82_1)), .int (iI z3)]) C (cy_X6_layLegs G) (wM_X6_72 G) (k_X6_layLegs G hc (by omega) (by omega) (by first | omega | assumption)) dX6_reckon_87 rfl rfl (by decide) (by decide) (Nat.le_of_ble_eq_true rfl) zc (k_V (fun s87_1 q87_1 => ?_))
          subst q87_1
          refine v_goto (pc := 90) C 227 dX6_reckon_90 (by decide) ?_
          exact v_vret (pc := 227) C hr dX6_reckon_227 ⟨rfl, by subst ez42_1; subst ez82_1; subst ez3; show _ = setc σ c (reckonR r v); unfold reckonR; rw [if_pos hs45_1]⟩
        · refine v_tabIn (pc := 45) C 93 (by first | omega | assumption) dX6_reckon_45 (by omega) (by rw [hs45_1]; rfl) (by decide) ?_
          refine v_aload_n (pc := 93) C 5 rfl dX6_reckon_93 ?_
          refine v_iload_n (pc := 94) C 6 rfl dX6_reckon_94 ?_
          refine v_iload (pc := 95) C 1 rfl dX6_reckon_95 ?_
          refine v_if_ne (pc := 97) C 105 (by first | omega | assumption) dX6_reckon_97 (by decide) (fun _ => ?_) (fun h => absurd h (by decide))
          refine v_iconst (pc := 105) C dX6_reckon_105 ?_
          refine v_goto (pc := 106) C 110 dX6_reckon_106 (by decide) ?_
          refine v_iload_n (pc := 110) C 4 rfl dX6_reckon_110 ?_
          refine v_cs (pc := 111) (as := [.ref (bs γ + c), .int (iI v), .int (iI 1), .int (iI z3)]) C (cy_X6_layLegs G) (wM_X6_72 G) (k_X6_layLegs G hc (by omega) (by omega) (by first | omega | assumption)) dX6_reckon_111 rfl rfl (by decide) (by decide) (Nat.le_of_ble_eq_true rfl) zc (k_V (fun s111_1 q111_1 => ?_))
          subst q111_1
          refine v_goto (pc := 114) C 227 dX6_reckon_114 (by decide) ?_
          exact v_vret (pc := 227) C hr dX6_reckon_227 ⟨rfl, by subst ez42_1; subst ez3; show _ = setc σ c (reckonR r v); unfold reckonR; rw [if_neg (by omega), if_pos hs45_1]; (first | rw [if_pos (Or.inl (by assumption))] | rw [if_pos (Or.inr (by assumption))] | rw [if_neg (by rintro (a | a) <;> contradiction)])⟩
        · refine v_tabIn (pc := 45) C 117 (by first | omega | assumption) dX6_reckon_45 (by omega) (by rw [hs45_1]; rfl) (by decide) ?_
          refine v_iload (pc := 117) C 1 rfl dX6_reckon_117 ?_
          refine v_iload (pc := 119) C 0 rfl dX6_reckon_119 ?_
          refine v_icmp_eq (pc := 121) C 139 (by first | omega | assumption) (by first | omega | assumption) dX6_reckon_121 (by decide) (fun h => absurd h (by decide)) (fun _ => ?_)
          refine v_aload_n (pc := 124) C 5 rfl dX6_reckon_124 ?_
          refine v_iload_n (pc := 125) C 6 rfl dX6_reckon_125 ?_
          refine v_iload (pc := 126) C 1 rfl dX6_reckon_126 ?_
          refine v_if_eq (pc := 128) C 135 (by first | omega | assumption) dX6_reckon_128 (by decide) (fun h => absurd h (by decide)) (fun _ => ?_)
          refine v_iconst (pc := 131) C dX6_reckon_131 ?_
          refine v_goto (pc := 132) C 136 dX6_reckon_132 (by decide) ?_
          refine v_cs (pc := 136) (as := [.ref (bs γ + c), .int (iI v), .int (iI 1)]) C (cy_X6_goesOver G) (wM_X6_76 G) (k_X6_goesOver G hc (by omega) (by omega)) dX6_reckon_136 rfl rfl (by decide) (by decide) (Nat.le_of_ble_eq_true rfl) zc (k_V (fun s136 q136 => ?_))
          subst q136
          refine v_aload_n (pc := 139) C 5 rfl dX6_reckon_139 ?_
          refine v_iload_n (pc := 140) C 6 rfl dX6_reckon_140 ?_
          refine v_aload_n (pc := 141) C 5 rfl dX6_reckon_141 ?_
          refine v_iload_n (pc := 142) C 6 rfl dX6_reckon_142 ?_
          refine v_iconst (pc := 143) C dX6_reckon_143 ?_
          refine v_cs (pc := 144) (as := [.ref (bs γ + c), .int (iI v), .int (iI 2)]) C (cy_X6_of G) (wM_X6_48 G) (k_X6_of G hc (by omega)) dX6_reckon_144 rfl rfl (by decide) (by decide) (Nat.le_of_ble_eq_true rfl) zc (k_I (fun z144_1 s144_1 q144_1 => ?_))
          obtain ⟨⟨ez144_1, rz144_1⟩, rfl⟩ := q144_1
          try rw [goesR_2] at ez144_1
          refine v_iload_n (pc := 147) C 4 rfl dX6_reckon_147 ?_
          refine v_cs (pc := 148) (as := [.ref (bs γ + c), .int (iI v), .int (iI z144_1), .int (iI z3)]) C (cy_X6_layLegs G) (wM_X6_72 G) (k_X6_layLegs G hc (by omega) (by omega) (by first | omega | assumption)) dX6_reckon_148 rfl rfl (by decide) (by decide) (Nat.le_of_ble_eq_true rfl) zc (k_V (fun s148_1 q148_1 => ?_))
          subst q148_1
          refine v_goto (pc := 151) C 227 dX6_reckon_151 (by decide) ?_
          exact v_vret (pc := 227) C hr dX6_reckon_227 ⟨rfl, by subst ez42_1; subst ez144_1; subst ez3; show _ = setc σ c (reckonR r v); unfold reckonR; rw [if_neg (by omega), if_neg (by omega), if_pos hs45_1]; (first | rw [if_pos ⟨by assumption, by assumption⟩] | rw [if_neg (by rintro ⟨a, b⟩; contradiction), if_pos ⟨by assumption, by assumption⟩] | rw [if_neg (by rintro ⟨a, b⟩; contradiction), if_neg (by rintro ⟨a, b⟩; contradiction)])⟩
        · refine v_tabIn (pc := 45) C 154 (by first | omega | assumption) dX6_reckon_45 (by omega) (by rw [hs45_1]; rfl) (by decide) ?_
          refine v_aload_n (pc := 154) C 5 rfl dX6_reckon_154 ?_
          refine v_iload_n (pc := 155) C 6 rfl dX6_reckon_155 ?_
          refine v_iconst (pc := 156) C dX6_reckon_156 ?_
          refine v_iload_n (pc := 157) C 3 rfl dX6_reckon_157 ?_
          refine v_iload (pc := 158) C 2 rfl dX6_reckon_158 ?_
          refine v_icmp_ge (pc := 160) C 167 (by first | omega | assumption) (by first | omega | assumption) dX6_reckon_160 (by decide) (fun h160_1 => ?_) (fun h160_1 => ?_)
          · refine v_iload (pc := 167) C 2 rfl dX6_reckon_167 ?_
            refine v_cs (pc := 169) (as := [.ref (bs γ + c), .int (iI v), .int (iI 0), .int (iI z18)]) C (cy_X6_layLegs G) (wM_X6_72 G) (k_X6_layLegs G hc (by omega) (by omega) (by first | omega | assumption)) dX6_reckon_169 rfl rfl (by decide) (by decide) (Nat.le_of_ble_eq_true rfl) zc (k_V (fun s169_2 q169_2 => ?_))
            subst q169_2
            refine v_aload_n (pc := 172) C 5 rfl dX6_reckon_172 ?_
            refine v_bipush (pc := 173) C (by decide +kernel) dX6_reckon_173 ?_
            refine v_bipush (pc := 175) C (by decide +kernel) dX6_reckon_175 ?_
            refine v_iload_n (pc := 177) C 6 rfl dX6_reckon_177 ?_
            refine v_imul (pc := 178) C dX6_reckon_178 ?_
            refine v_iadd (pc := 179) C dX6_reckon_179 ?_
            refine v_iconst (pc := 180) C dX6_reckon_180 ?_
            refine v_iadd (pc := 181) C dX6_reckon_181 ?_
            refine v_iconst (pc := 182) C dX6_reckon_182 ?_
            refine v_iadd (pc := 183) C dX6_reckon_183 ?_
            refine v_iload_n (pc := 184) C 3 rfl dX6_reckon_184 ?_
            refine v_if_eq (pc := 185) C 193 (by first | omega | assumption) dX6_reckon_185 (by decide) (fun h185_2 => ?_) (fun h185_2 => ?_)
            · refine v_iload_n (pc := 193) C 3 rfl dX6_reckon_193 ?_
              refine v_iload (pc := 194) C 2 rfl dX6_reckon_194 ?_
              refine v_iadd (pc := 196) C dX6_reckon_196 ?_
              refine v_goto (pc := 197) C 201 dX6_reckon_197 (by decide) ?_
              refine v_iastR (pc := 201) C hc (by first | omega | assumption) (by first | omega | assumption) dX6_reckon_201 ?_
              refine v_goto (pc := 202) C 227 dX6_reckon_202 (by decide) ?_
              exact v_vret (pc := 227) C hr dX6_reckon_227 ⟨rfl, by subst ez42_1; subst ez10; subst ez18; show _ = setc σ c (reckonR r v); unfold reckonR; rw [if_neg (by omega), if_neg (by omega), if_neg (by omega), if_pos hs45_1]; split <;> split <;> first | rfl | (exfalso; omega)⟩
            · refine v_iload (pc := 188) C 2 rfl dX6_reckon_188 ?_
              refine v_if_ne (pc := 190) C 200 (by first | omega | assumption) dX6_reckon_190 (by decide) (fun h190_2 => ?_) (fun h190_2 => ?_)
              · refine v_iconst (pc := 200) C dX6_reckon_200 ?_
                refine v_iastR (pc := 201) C hc (by first | omega | assumption) (by first | omega | assumption) dX6_reckon_201 ?_
                refine v_goto (pc := 202) C 227 dX6_reckon_202 (by decide) ?_
                exact v_vret (pc := 227) C hr dX6_reckon_227 ⟨rfl, by subst ez42_1; subst ez10; subst ez18; show _ = setc σ c (reckonR r v); unfold reckonR; rw [if_neg (by omega), if_neg (by omega), if_neg (by omega), if_pos hs45_1]; split <;> split <;> first | rfl | (exfalso; omega)⟩
              · refine v_iload_n (pc := 193) C 3 rfl dX6_reckon_193 ?_
                refine v_iload (pc := 194) C 2 rfl dX6_reckon_194 ?_
                refine v_iadd (pc := 196) C dX6_reckon_196 ?_
                refine v_goto (pc := 197) C 201 dX6_reckon_197 (by decide) ?_
                refine v_iastR (pc := 201) C hc (by first | omega | assumption) (by first | omega | assumption) dX6_reckon_201 ?_
                refine v_goto (pc := 202) C 227 dX6_reckon_202 (by decide) ?_
                exact v_vret (pc := 227) C hr dX6_reckon_227 ⟨rfl, by subst ez42_1; subst ez10; subst ez18; show _ = setc σ c (reckonR r v); unfold reckonR; rw [if_neg (by omega), if_neg (by omega), if_neg (by omega), if_pos hs45_1]; split <;> split <;> first | rfl | (exfalso; omega)⟩
          · refine v_iload_n (pc := 163) C 3 rfl dX6_reckon_163 ?_
            refine v_goto (pc := 164) C 169 dX6_reckon_164 (by decide) ?_
            refine v_cs (pc := 169) (as := [.ref (bs γ + c), .int (iI v), .int (iI 0), .int (iI z10)]) C (cy_X6_layLegs G) (wM_X6_72 G) (k_X6_layLegs G hc (by omega) (by omega) (by first | omega | assumption)) dX6_reckon_169 rfl rfl (by decide) (by decide) (Nat.le_of_ble_eq_true rfl) zc (k_V (fun s169_3 q169_3 => ?_))
            subst q169_3
            refine v_aload_n (pc := 172) C 5 rfl dX6_reckon_172 ?_
            refine v_bipush (pc := 173) C (by decide +kernel) dX6_reckon_173 ?_
            refine v_bipush (pc := 175) C (by decide +kernel) dX6_reckon_175 ?_
            refine v_iload_n (pc := 177) C 6 rfl dX6_reckon_177 ?_
            refine v_imul (pc := 178) C dX6_reckon_178 ?_
            refine v_iadd (pc := 179) C dX6_reckon_179 ?_
            refine v_iconst (pc := 180) C dX6_reckon_180 ?_
            refine v_iadd (pc := 181) C dX6_reckon_181 ?_
            refine v_iconst (pc := 182) C dX6_reckon_182 ?_
            refine v_iadd (pc := 183) C dX6_reckon_183 ?_
            refine v_iload_n (pc := 184) C 3 rfl dX6_reckon_184 ?_
            refine v_if_eq (pc := 185) C 193 (by first | omega | assumption) dX6_reckon_185 (by decide) (fun h185_3 => ?_) (fun h185_3 => ?_)
            · refine v_iload_n (pc := 193) C 3 rfl dX6_reckon_193 ?_
              refine v_iload (pc := 194) C 2 rfl dX6_reckon_194 ?_
              refine v_iadd (pc := 196) C dX6_reckon_196 ?_
              refine v_goto (pc := 197) C 201 dX6_reckon_197 (by decide) ?_
              refine v_iastR (pc := 201) C hc (by first | omega | assumption) (by first | omega | assumption) dX6_reckon_201 ?_
              refine v_goto (pc := 202) C 227 dX6_reckon_202 (by decide) ?_
              exact v_vret (pc := 227) C hr dX6_reckon_227 ⟨rfl, by subst ez42_1; subst ez10; subst ez18; show _ = setc σ c (reckonR r v); unfold reckonR; rw [if_neg (by omega), if_neg (by omega), if_neg (by omega), if_pos hs45_1]; split <;> split <;> first | rfl | (exfalso; omega)⟩
            · refine v_iload (pc := 188) C 2 rfl dX6_reckon_188 ?_
              refine v_if_ne (pc := 190) C 200 (by first | omega | assumption) dX6_reckon_190 (by decide) (fun h190_3 => ?_) (fun h190_3 => ?_)
              · refine v_iconst (pc := 200) C dX6_reckon_200 ?_
                refine v_iastR (pc := 201) C hc (by first | omega | assumption) (by first | omega | assumption) dX6_reckon_201 ?_
                refine v_goto (pc := 202) C 227 dX6_reckon_202 (by decide) ?_
                exact v_vret (pc := 227) C hr dX6_reckon_227 ⟨rfl, by subst ez42_1; subst ez10; subst ez18; show _ = setc σ c (reckonR r v); unfold reckonR; rw [if_neg (by omega), if_neg (by omega), if_neg (by omega), if_pos hs45_1]; split <;> split <;> first | rfl | (exfalso; omega)⟩
              · refine v_iload_n (pc := 193) C 3 rfl dX6_reckon_193 ?_
                refine v_iload (pc := 194) C 2 rfl dX6_reckon_194 ?_
                refine v_iadd (pc := 196) C dX6_reckon_196 ?_
                refine v_goto (pc := 197) C 201 dX6_reckon_197 (by decide) ?_
                refine v_iastR (pc := 201) C hc (by first | omega | assumption) (by first | omega | assumption) dX6_reckon_201 ?_
                refine v_goto (pc := 202) C 227 dX6_reckon_202 (by decide) ?_
                exact v_vret (pc := 227) C hr dX6_reckon_227 ⟨rfl, by subst ez42_1; subst ez10; subst ez18; show _ = setc σ c (reckonR r v); unfold reckonR; rw [if_neg (by omega), if_neg (by omega), if_neg (by omega), if_pos hs45_1]; split <;> split <;> first | rfl | (exfalso; omega)⟩
      · refine v_tabOut (pc := 45) C 205 (by first | omega | assumption) dX6_reckon_45 (by omega) (by decide) ?_
        refine v_aload_n (pc := 205) C 5 rfl dX6_reckon_205 ?_
        refine v_iload_n (pc := 206) C 6 rfl dX6_reckon_206 ?_
        refine v_iload_n (pc := 207) C 3 rfl dX6_reckon_207 ?_
        refine v_iconst (pc := 208) C dX6_reckon_208 ?_
        refine v_icmp_ge (pc := 209) C 218 (by first | omega | assumption) (by first | omega | assumption) dX6_reckon_209 (by decide) (fun h209_1 => ?_) (fun h209_1 => ?_)
        · refine v_iconst (pc := 218) C dX6_reckon_218 ?_
          refine v_goto (pc := 219) C 223 dX6_reckon_219 (by decide) ?_
          refine v_iload_n (pc := 223) C 4 rfl dX6_reckon_223 ?_
          refine v_cs (pc := 224) (as := [.ref (bs γ + c), .int (iI v), .int (iI 0), .int (iI z3)]) C (cy_X6_layLegs G) (wM_X6_72 G) (k_X6_layLegs G hc (by omega) (by omega) (by first | omega | assumption)) dX6_reckon_224 rfl rfl (by decide) (by decide) (Nat.le_of_ble_eq_true rfl) zc (k_V (fun s224_3 q224_3 => ?_))
          subst q224_3
          exact v_vret (pc := 227) C hr dX6_reckon_227 ⟨rfl, by subst ez42_1; subst ez10; subst ez18; subst ez3; show _ = setc σ c (reckonR r v); unfold reckonR; rw [if_neg (by omega), if_neg (by omega), if_neg (by omega), if_neg (by omega)]; split <;> first | rfl | (exfalso; omega)⟩
        · refine v_iload (pc := 212) C 2 rfl dX6_reckon_212 ?_
          refine v_iconst (pc := 214) C dX6_reckon_214 ?_
          refine v_icmp_lt (pc := 215) C 222 (by first | omega | assumption) (by first | omega | assumption) dX6_reckon_215 (by decide) (fun h215_1 => ?_) (fun h215_1 => ?_)
          · refine v_iconst (pc := 222) C dX6_reckon_222 ?_
            refine v_iload_n (pc := 223) C 4 rfl dX6_reckon_223 ?_
            refine v_cs (pc := 224) (as := [.ref (bs γ + c), .int (iI v), .int (iI 1), .int (iI z3)]) C (cy_X6_layLegs G) (wM_X6_72 G) (k_X6_layLegs G hc (by omega) (by omega) (by first | omega | assumption)) dX6_reckon_224 rfl rfl (by decide) (by decide) (Nat.le_of_ble_eq_true rfl) zc (k_V (fun s224_4 q224_4 => ?_))
            subst q224_4
            exact v_vret (pc := 227) C hr dX6_reckon_227 ⟨rfl, by subst ez42_1; subst ez10; subst ez18; subst ez3; show _ = setc σ c (reckonR r v); unfold reckonR; rw [if_neg (by omega), if_neg (by omega), if_neg (by omega), if_neg (by omega)]; split <;> first | rfl | (exfalso; omega)⟩
          · refine v_iconst (pc := 218) C dX6_reckon_218 ?_
            refine v_goto (pc := 219) C 223 dX6_reckon_219 (by decide) ?_
            refine v_iload_n (pc := 223) C 4 rfl dX6_reckon_223 ?_
            refine v_cs (pc := 224) (as := [.ref (bs γ + c), .int (iI v), .int (iI 0), .int (iI z3)]) C (cy_X6_layLegs G) (wM_X6_72 G) (k_X6_layLegs G hc (by omega) (by omega) (by first | omega | assumption)) dX6_reckon_224 rfl rfl (by decide) (by decide) (Nat.le_of_ble_eq_true rfl) zc (k_V (fun s224_5 q224_5 => ?_))
            subst q224_5
            exact v_vret (pc := 227) C hr dX6_reckon_227 ⟨rfl, by subst ez42_1; subst ez10; subst ez18; subst ez3; show _ = setc σ c (reckonR r v); unfold reckonR; rw [if_neg (by omega), if_neg (by omega), if_neg (by omega), if_neg (by omega)]; split <;> first | rfl | (exfalso; omega)⟩
  · refine v_istore (pc := 29) C [(5, .int (iI 0)), (4, .int (iI z18)), (3, .int (iI z10)), (2, .int (iI z3)), (0, .ref (bs γ + c)), (1, .int (iI v))] dX6_reckon_29 (by decide) rfl ?_
    refine v_aload_n (pc := 31) C 4 rfl dX6_reckon_31 ?_
    refine v_iload_n (pc := 32) C 5 rfl dX6_reckon_32 ?_
    refine v_iconst (pc := 33) C dX6_reckon_33 ?_
    refine v_cs (pc := 34) (as := [.ref (bs γ + c), .int (iI v), .int (iI 1)]) C (cy_X6_works G) (wM_X6_69 G) (k_X6_works G hc (k := 6) (by decide) (by omega) (by decide) (by omega) (by omega) (by omega)) dX6_reckon_34 rfl rfl (by decide) (by decide) (Nat.le_of_ble_eq_true rfl) zc (k_I (fun z34_1 s34_1 q34_1 => ?_))
    rcases q34_1 with ⟨⟨rfl, q34_1⟩ | ⟨rfl, q34_1⟩, rfl⟩
    · refine v_istore (pc := 37) C [(6, .int (iI 1)), (5, .int (iI 0)), (4, .int (iI z18)), (3, .int (iI z10)), (2, .int (iI z3)), (0, .ref (bs γ + c)), (1, .int (iI v))] dX6_reckon_37 (by decide) rfl ?_
      refine v_aload_n (pc := 39) C 5 rfl dX6_reckon_39 ?_
      refine v_iload_n (pc := 40) C 6 rfl dX6_reckon_40 ?_
      refine v_iconst (pc := 41) C dX6_reckon_41 ?_
      refine v_cs (pc := 42) (as := [.ref (bs γ + c), .int (iI v), .int (iI 0)]) C (cy_X6_of G) (wM_X6_48 G) (k_X6_of G hc (by omega)) dX6_reckon_42 rfl rfl (by decide) (by decide) (Nat.le_of_ble_eq_true rfl) zc (k_I (fun z42_2 s42_2 q42_2 => ?_))
      obtain ⟨⟨ez42_2, rz42_2⟩, rfl⟩ := q42_2
      by_cases hs45_2 : 0 ≤ z42_2 ∧ z42_2 ≤ 3
      · have hs45_2 : z42_2 = 0 ∨ z42_2 = 1 ∨ z42_2 = 2 ∨ z42_2 = 3 := by omega
        rcases hs45_2 with hs45_2 | hs45_2 | hs45_2 | hs45_2
        · refine v_tabIn (pc := 45) C 76 (by first | omega | assumption) dX6_reckon_45 (by omega) (by rw [hs45_2]; rfl) (by decide) ?_
          refine v_aload_n (pc := 76) C 5 rfl dX6_reckon_76 ?_
          refine v_iload_n (pc := 77) C 6 rfl dX6_reckon_77 ?_
          refine v_iconst (pc := 78) C dX6_reckon_78 ?_
          refine v_aload_n (pc := 79) C 5 rfl dX6_reckon_79 ?_
          refine v_iload_n (pc := 80) C 6 rfl dX6_reckon_80 ?_
          refine v_iconst (pc := 81) C dX6_reckon_81 ?_
          refine v_cs (pc := 82) (as := [.ref (bs γ + c), .int (iI v), .int (iI 2)]) C (cy_X6_of G) (wM_X6_48 G) (k_X6_of G hc (by omega)) dX6_reckon_82 rfl rfl (by decide) (by decide) (Nat.le_of_ble_eq_true rfl) zc (k_I (fun z82_2 s82_2 q82_2 => ?_))
          obtain ⟨⟨ez82_2, rz82_2⟩, rfl⟩ := q82_2
          refine v_isub (pc := 85) C dX6_reckon_85 ?_
          refine v_iload_n (pc := 86) C 4 rfl dX6_reckon_86 ?_
          refine v_cs (pc := 87) (as := [.ref (bs γ + c), .int (iI v), .int (iI (1 - z82_2)), .int (iI z3)]) C (cy_X6_layLegs G) (wM_X6_72 G) (k_X6_layLegs G hc (by omega) (by omega) (by first | omega | assumption)) dX6_reckon_87 rfl rfl (by decide) (by decide) (Nat.le_of_ble_eq_true rfl) zc (k_V (fun s87_2 q87_2 => ?_))
          subst q87_2
          refine v_goto (pc := 90) C 227 dX6_reckon_90 (by decide) ?_
          exact v_vret (pc := 227) C hr dX6_reckon_227 ⟨rfl, by subst ez42_2; subst ez82_2; subst ez3; show _ = setc σ c (reckonR r v); unfold reckonR; rw [if_pos hs45_2]⟩
        · refine v_tabIn (pc := 45) C 93 (by first | omega | assumption) dX6_reckon_45 (by omega) (by rw [hs45_2]; rfl) (by decide) ?_
          refine v_aload_n (pc := 93) C 5 rfl dX6_reckon_93 ?_
          refine v_iload_n (pc := 94) C 6 rfl dX6_reckon_94 ?_
          refine v_iload (pc := 95) C 1 rfl dX6_reckon_95 ?_
          refine v_if_ne (pc := 97) C 105 (by first | omega | assumption) dX6_reckon_97 (by decide) (fun h => absurd h (by decide)) (fun _ => ?_)
          refine v_iload (pc := 100) C 0 rfl dX6_reckon_100 ?_
          refine v_if_eq (pc := 102) C 109 (by first | omega | assumption) dX6_reckon_102 (by decide) (fun h => absurd h (by decide)) (fun _ => ?_)
          refine v_iconst (pc := 105) C dX6_reckon_105 ?_
          refine v_goto (pc := 106) C 110 dX6_reckon_106 (by decide) ?_
          refine v_iload_n (pc := 110) C 4 rfl dX6_reckon_110 ?_
          refine v_cs (pc := 111) (as := [.ref (bs γ + c), .int (iI v), .int (iI 1), .int (iI z3)]) C (cy_X6_layLegs G) (wM_X6_72 G) (k_X6_layLegs G hc (by omega) (by omega) (by first | omega | assumption)) dX6_reckon_111 rfl rfl (by decide) (by decide) (Nat.le_of_ble_eq_true rfl) zc (k_V (fun s111_2 q111_2 => ?_))
          subst q111_2
          refine v_goto (pc := 114) C 227 dX6_reckon_114 (by decide) ?_
          exact v_vret (pc := 227) C hr dX6_reckon_227 ⟨rfl, by subst ez42_2; subst ez3; show _ = setc σ c (reckonR r v); unfold reckonR; rw [if_neg (by omega), if_pos hs45_2]; (first | rw [if_pos (Or.inl (by assumption))] | rw [if_pos (Or.inr (by assumption))] | rw [if_neg (by rintro (a | a) <;> contradiction)])⟩
        · refine v_tabIn (pc := 45) C 117 (by first | omega | assumption) dX6_reckon_45 (by omega) (by rw [hs45_2]; rfl) (by decide) ?_
          refine v_iload (pc := 117) C 1 rfl dX6_reckon_117 ?_
          refine v_iload (pc := 119) C 0 rfl dX6_reckon_119 ?_
          refine v_icmp_eq (pc := 121) C 139 (by first | omega | assumption) (by first | omega | assumption) dX6_reckon_121 (by decide) (fun h => absurd h (by decide)) (fun _ => ?_)
          refine v_aload_n (pc := 124) C 5 rfl dX6_reckon_124 ?_
          refine v_iload_n (pc := 125) C 6 rfl dX6_reckon_125 ?_
          refine v_iload (pc := 126) C 1 rfl dX6_reckon_126 ?_
          refine v_if_eq (pc := 128) C 135 (by first | omega | assumption) dX6_reckon_128 (by decide) (fun _ => ?_) (fun h => absurd h (by decide))
          refine v_iconst (pc := 135) C dX6_reckon_135 ?_
          refine v_cs (pc := 136) (as := [.ref (bs γ + c), .int (iI v), .int (iI 0)]) C (cy_X6_goesOver G) (wM_X6_76 G) (k_X6_goesOver G hc (by omega) (by omega)) dX6_reckon_136 rfl rfl (by decide) (by decide) (Nat.le_of_ble_eq_true rfl) zc (k_V (fun s136_1 q136_1 => ?_))
          subst q136_1
          refine v_aload_n (pc := 139) C 5 rfl dX6_reckon_139 ?_
          refine v_iload_n (pc := 140) C 6 rfl dX6_reckon_140 ?_
          refine v_aload_n (pc := 141) C 5 rfl dX6_reckon_141 ?_
          refine v_iload_n (pc := 142) C 6 rfl dX6_reckon_142 ?_
          refine v_iconst (pc := 143) C dX6_reckon_143 ?_
          refine v_cs (pc := 144) (as := [.ref (bs γ + c), .int (iI v), .int (iI 2)]) C (cy_X6_of G) (wM_X6_48 G) (k_X6_of G hc (by omega)) dX6_reckon_144 rfl rfl (by decide) (by decide) (Nat.le_of_ble_eq_true rfl) zc (k_I (fun z144_2 s144_2 q144_2 => ?_))
          obtain ⟨⟨ez144_2, rz144_2⟩, rfl⟩ := q144_2
          try rw [goesR_2] at ez144_2
          refine v_iload_n (pc := 147) C 4 rfl dX6_reckon_147 ?_
          refine v_cs (pc := 148) (as := [.ref (bs γ + c), .int (iI v), .int (iI z144_2), .int (iI z3)]) C (cy_X6_layLegs G) (wM_X6_72 G) (k_X6_layLegs G hc (by omega) (by omega) (by first | omega | assumption)) dX6_reckon_148 rfl rfl (by decide) (by decide) (Nat.le_of_ble_eq_true rfl) zc (k_V (fun s148_2 q148_2 => ?_))
          subst q148_2
          refine v_goto (pc := 151) C 227 dX6_reckon_151 (by decide) ?_
          exact v_vret (pc := 227) C hr dX6_reckon_227 ⟨rfl, by subst ez42_2; subst ez144_2; subst ez3; show _ = setc σ c (reckonR r v); unfold reckonR; rw [if_neg (by omega), if_neg (by omega), if_pos hs45_2]; (first | rw [if_pos ⟨by assumption, by assumption⟩] | rw [if_neg (by rintro ⟨a, b⟩; contradiction), if_pos ⟨by assumption, by assumption⟩] | rw [if_neg (by rintro ⟨a, b⟩; contradiction), if_neg (by rintro ⟨a, b⟩; contradiction)])⟩
        · refine v_tabIn (pc := 45) C 154 (by first | omega | assumption) dX6_reckon_45 (by omega) (by rw [hs45_2]; rfl) (by decide) ?_
          refine v_aload_n (pc := 154) C 5 rfl dX6_reckon_154 ?_
          refine v_iload_n (pc := 155) C 6 rfl dX6_reckon_155 ?_
          refine v_iconst (pc := 156) C dX6_reckon_156 ?_
          refine v_iload_n (pc := 157) C 3 rfl dX6_reckon_157 ?_
          refine v_iload (pc := 158) C 2 rfl dX6_reckon_158 ?_
          refine v_icmp_ge (pc := 160) C 167 (by first | omega | assumption) (by first | omega | assumption) dX6_reckon_160 (by decide) (fun h160_2 => ?_) (fun h160_2 => ?_)
          · refine v_iload (pc := 167) C 2 rfl dX6_reckon_167 ?_
            refine v_cs (pc := 169) (as := [.ref (bs γ + c), .int (iI v), .int (iI 0), .int (iI z18)]) C (cy_X6_layLegs G) (wM_X6_72 G) (k_X6_layLegs G hc (by omega) (by omega) (by first | omega | assumption)) dX6_reckon_169 rfl rfl (by decide) (by decide) (Nat.le_of_ble_eq_true rfl) zc (k_V (fun s169_4 q169_4 => ?_))
            subst q169_4
            refine v_aload_n (pc := 172) C 5 rfl dX6_reckon_172 ?_
            refine v_bipush (pc := 173) C (by decide +kernel) dX6_reckon_173 ?_
            refine v_bipush (pc := 175) C (by decide +kernel) dX6_reckon_175 ?_
            refine v_iload_n (pc := 177) C 6 rfl dX6_reckon_177 ?_
            refine v_imul (pc := 178) C dX6_reckon_178 ?_
            refine v_iadd (pc := 179) C dX6_reckon_179 ?_
            refine v_iconst (pc := 180) C dX6_reckon_180 ?_
            refine v_iadd (pc := 181) C dX6_reckon_181 ?_
            refine v_iconst (pc := 182) C dX6_reckon_182 ?_
            refine v_iadd (pc := 183) C dX6_reckon_183 ?_
            refine v_iload_n (pc := 184) C 3 rfl dX6_reckon_184 ?_
            refine v_if_eq (pc := 185) C 193 (by first | omega | assumption) dX6_reckon_185 (by decide) (fun h185_4 => ?_) (fun h185_4 => ?_)
            · refine v_iload_n (pc := 193) C 3 rfl dX6_reckon_193 ?_
              refine v_iload (pc := 194) C 2 rfl dX6_reckon_194 ?_
              refine v_iadd (pc := 196) C dX6_reckon_196 ?_
              refine v_goto (pc := 197) C 201 dX6_reckon_197 (by decide) ?_
              refine v_iastR (pc := 201) C hc (by first | omega | assumption) (by first | omega | assumption) dX6_reckon_201 ?_
              refine v_goto (pc := 202) C 227 dX6_reckon_202 (by decide) ?_
              exact v_vret (pc := 227) C hr dX6_reckon_227 ⟨rfl, by subst ez42_2; subst ez10; subst ez18; show _ = setc σ c (reckonR r v); unfold reckonR; rw [if_neg (by omega), if_neg (by omega), if_neg (by omega), if_pos hs45_2]; split <;> split <;> first | rfl | (exfalso; omega)⟩
            · refine v_iload (pc := 188) C 2 rfl dX6_reckon_188 ?_
              refine v_if_ne (pc := 190) C 200 (by first | omega | assumption) dX6_reckon_190 (by decide) (fun h190_4 => ?_) (fun h190_4 => ?_)
              · refine v_iconst (pc := 200) C dX6_reckon_200 ?_
                refine v_iastR (pc := 201) C hc (by first | omega | assumption) (by first | omega | assumption) dX6_reckon_201 ?_
                refine v_goto (pc := 202) C 227 dX6_reckon_202 (by decide) ?_
                exact v_vret (pc := 227) C hr dX6_reckon_227 ⟨rfl, by subst ez42_2; subst ez10; subst ez18; show _ = setc σ c (reckonR r v); unfold reckonR; rw [if_neg (by omega), if_neg (by omega), if_neg (by omega), if_pos hs45_2]; split <;> split <;> first | rfl | (exfalso; omega)⟩
              · refine v_iload_n (pc := 193) C 3 rfl dX6_reckon_193 ?_
                refine v_iload (pc := 194) C 2 rfl dX6_reckon_194 ?_
                refine v_iadd (pc := 196) C dX6_reckon_196 ?_
                refine v_goto (pc := 197) C 201 dX6_reckon_197 (by decide) ?_
                refine v_iastR (pc := 201) C hc (by first | omega | assumption) (by first | omega | assumption) dX6_reckon_201 ?_
                refine v_goto (pc := 202) C 227 dX6_reckon_202 (by decide) ?_
                exact v_vret (pc := 227) C hr dX6_reckon_227 ⟨rfl, by subst ez42_2; subst ez10; subst ez18; show _ = setc σ c (reckonR r v); unfold reckonR; rw [if_neg (by omega), if_neg (by omega), if_neg (by omega), if_pos hs45_2]; split <;> split <;> first | rfl | (exfalso; omega)⟩
          · refine v_iload_n (pc := 163) C 3 rfl dX6_reckon_163 ?_
            refine v_goto (pc := 164) C 169 dX6_reckon_164 (by decide) ?_
            refine v_cs (pc := 169) (as := [.ref (bs γ + c), .int (iI v), .int (iI 0), .int (iI z10)]) C (cy_X6_layLegs G) (wM_X6_72 G) (k_X6_layLegs G hc (by omega) (by omega) (by first | omega | assumption)) dX6_reckon_169 rfl rfl (by decide) (by decide) (Nat.le_of_ble_eq_true rfl) zc (k_V (fun s169_5 q169_5 => ?_))
            subst q169_5
            refine v_aload_n (pc := 172) C 5 rfl dX6_reckon_172 ?_
            refine v_bipush (pc := 173) C (by decide +kernel) dX6_reckon_173 ?_
            refine v_bipush (pc := 175) C (by decide +kernel) dX6_reckon_175 ?_
            refine v_iload_n (pc := 177) C 6 rfl dX6_reckon_177 ?_
            refine v_imul (pc := 178) C dX6_reckon_178 ?_
            refine v_iadd (pc := 179) C dX6_reckon_179 ?_
            refine v_iconst (pc := 180) C dX6_reckon_180 ?_
            refine v_iadd (pc := 181) C dX6_reckon_181 ?_
            refine v_iconst (pc := 182) C dX6_reckon_182 ?_
            refine v_iadd (pc := 183) C dX6_reckon_183 ?_
            refine v_iload_n (pc := 184) C 3 rfl dX6_reckon_184 ?_
            refine v_if_eq (pc := 185) C 193 (by first | omega | assumption) dX6_reckon_185 (by decide) (fun h185_5 => ?_) (fun h185_5 => ?_)
            · refine v_iload_n (pc := 193) C 3 rfl dX6_reckon_193 ?_
              refine v_iload (pc := 194) C 2 rfl dX6_reckon_194 ?_
              refine v_iadd (pc := 196) C dX6_reckon_196 ?_
              refine v_goto (pc := 197) C 201 dX6_reckon_197 (by decide) ?_
              refine v_iastR (pc := 201) C hc (by first | omega | assumption) (by first | omega | assumption) dX6_reckon_201 ?_
              refine v_goto (pc := 202) C 227 dX6_reckon_202 (by decide) ?_
              exact v_vret (pc := 227) C hr dX6_reckon_227 ⟨rfl, by subst ez42_2; subst ez10; subst ez18; show _ = setc σ c (reckonR r v); unfold reckonR; rw [if_neg (by omega), if_neg (by omega), if_neg (by omega), if_pos hs45_2]; split <;> split <;> first | rfl | (exfalso; omega)⟩
            · refine v_iload (pc := 188) C 2 rfl dX6_reckon_188 ?_
              refine v_if_ne (pc := 190) C 200 (by first | omega | assumption) dX6_reckon_190 (by decide) (fun h190_5 => ?_) (fun h190_5 => ?_)
              · refine v_iconst (pc := 200) C dX6_reckon_200 ?_
                refine v_iastR (pc := 201) C hc (by first | omega | assumption) (by first | omega | assumption) dX6_reckon_201 ?_
                refine v_goto (pc := 202) C 227 dX6_reckon_202 (by decide) ?_
                exact v_vret (pc := 227) C hr dX6_reckon_227 ⟨rfl, by subst ez42_2; subst ez10; subst ez18; show _ = setc σ c (reckonR r v); unfold reckonR; rw [if_neg (by omega), if_neg (by omega), if_neg (by omega), if_pos hs45_2]; split <;> split <;> first | rfl | (exfalso; omega)⟩
              · refine v_iload_n (pc := 193) C 3 rfl dX6_reckon_193 ?_
                refine v_iload (pc := 194) C 2 rfl dX6_reckon_194 ?_
                refine v_iadd (pc := 196) C dX6_reckon_196 ?_
                refine v_goto (pc := 197) C 201 dX6_reckon_197 (by decide) ?_
                refine v_iastR (pc := 201) C hc (by first | omega | assumption) (by first | omega | assumption) dX6_reckon_201 ?_
                refine v_goto (pc := 202) C 227 dX6_reckon_202 (by decide) ?_
                exact v_vret (pc := 227) C hr dX6_reckon_227 ⟨rfl, by subst ez42_2; subst ez10; subst ez18; show _ = setc σ c (reckonR r v); unfold reckonR; rw [if_neg (by omega), if_neg (by omega), if_neg (by omega), if_pos hs45_2]; split <;> split <;> first | rfl | (exfalso; omega)⟩
      · refine v_tabOut (pc := 45) C 205 (by first | omega | assumption) dX6_reckon_45 (by omega) (by decide) ?_
        refine v_aload_n (pc := 205) C 5 rfl dX6_reckon_205 ?_
        refine v_iload_n (pc := 206) C 6 rfl dX6_reckon_206 ?_
        refine v_iload_n (pc := 207) C 3 rfl dX6_reckon_207 ?_
        refine v_iconst (pc := 208) C dX6_reckon_208 ?_
        refine v_icmp_ge (pc := 209) C 218 (by first | omega | assumption) (by first | omega | assumption) dX6_reckon_209 (by decide) (fun h209_2 => ?_) (fun h209_2 => ?_)
        · refine v_iconst (pc := 218) C dX6_reckon_218 ?_
          refine v_goto (pc := 219) C 223 dX6_reckon_219 (by decide) ?_
          refine v_iload_n (pc := 223) C 4 rfl dX6_reckon_223 ?_
          refine v_cs (pc := 224) (as := [.ref (bs γ + c), .int (iI v), .int (iI 0), .int (iI z3)]) C (cy_X6_layLegs G) (wM_X6_72 G) (k_X6_layLegs G hc (by omega) (by omega) (by first | omega | assumption)) dX6_reckon_224 rfl rfl (by decide) (by decide) (Nat.le_of_ble_eq_true rfl) zc (k_V (fun s224_6 q224_6 => ?_))
          subst q224_6
          exact v_vret (pc := 227) C hr dX6_reckon_227 ⟨rfl, by subst ez42_2; subst ez10; subst ez18; subst ez3; show _ = setc σ c (reckonR r v); unfold reckonR; rw [if_neg (by omega), if_neg (by omega), if_neg (by omega), if_neg (by omega)]; split <;> first | rfl | (exfalso; omega)⟩
        · refine v_iload (pc := 212) C 2 rfl dX6_reckon_212 ?_
          refine v_iconst (pc := 214) C dX6_reckon_214 ?_
          refine v_icmp_lt (pc := 215) C 222 (by first | omega | assumption) (by first | omega | assumption) dX6_reckon_215 (by decide) (fun h215_2 => ?_) (fun h215_2 => ?_)
          · refine v_iconst (pc := 222) C dX6_reckon_222 ?_
            refine v_iload_n (pc := 223) C 4 rfl dX6_reckon_223 ?_
            refine v_cs (pc := 224) (as := [.ref (bs γ + c), .int (iI v), .int (iI 1), .int (iI z3)]) C (cy_X6_layLegs G) (wM_X6_72 G) (k_X6_layLegs G hc (by omega) (by omega) (by first | omega | assumption)) dX6_reckon_224 rfl rfl (by decide) (by decide) (Nat.le_of_ble_eq_true rfl) zc (k_V (fun s224_7 q224_7 => ?_))
            subst q224_7
            exact v_vret (pc := 227) C hr dX6_reckon_227 ⟨rfl, by subst ez42_2; subst ez10; subst ez18; subst ez3; show _ = setc σ c (reckonR r v); unfold reckonR; rw [if_neg (by omega), if_neg (by omega), if_neg (by omega), if_neg (by omega)]; split <;> first | rfl | (exfalso; omega)⟩
          · refine v_iconst (pc := 218) C dX6_reckon_218 ?_
            refine v_goto (pc := 219) C 223 dX6_reckon_219 (by decide) ?_
            refine v_iload_n (pc := 223) C 4 rfl dX6_reckon_223 ?_
            refine v_cs (pc := 224) (as := [.ref (bs γ + c), .int (iI v), .int (iI 0), .int (iI z3)]) C (cy_X6_layLegs G) (wM_X6_72 G) (k_X6_layLegs G hc (by omega) (by omega) (by first | omega | assumption)) dX6_reckon_224 rfl rfl (by decide) (by decide) (Nat.le_of_ble_eq_true rfl) zc (k_V (fun s224_8 q224_8 => ?_))
            subst q224_8
            exact v_vret (pc := 227) C hr dX6_reckon_227 ⟨rfl, by subst ez42_2; subst ez10; subst ez18; subst ez3; show _ = setc σ c (reckonR r v); unfold reckonR; rw [if_neg (by omega), if_neg (by omega), if_neg (by omega), if_neg (by omega)]; split <;> first | rfl | (exfalso; omega)⟩
    · refine v_istore (pc := 37) C [(6, .int (iI 0)), (5, .int (iI 0)), (4, .int (iI z18)), (3, .int (iI z10)), (2, .int (iI z3)), (0, .ref (bs γ + c)), (1, .int (iI v))] dX6_reckon_37 (by decide) rfl ?_
      refine v_aload_n (pc := 39) C 5 rfl dX6_reckon_39 ?_
      refine v_iload_n (pc := 40) C 6 rfl dX6_reckon_40 ?_
      refine v_iconst (pc := 41) C dX6_reckon_41 ?_
      refine v_cs (pc := 42) (as := [.ref (bs γ + c), .int (iI v), .int (iI 0)]) C (cy_X6_of G) (wM_X6_48 G) (k_X6_of G hc (by omega)) dX6_reckon_42 rfl rfl (by decide) (by decide) (Nat.le_of_ble_eq_true rfl) zc (k_I (fun z42_3 s42_3 q42_3 => ?_))
      obtain ⟨⟨ez42_3, rz42_3⟩, rfl⟩ := q42_3
      by_cases hs45_3 : 0 ≤ z42_3 ∧ z42_3 ≤ 3
      · have hs45_3 : z42_3 = 0 ∨ z42_3 = 1 ∨ z42_3 = 2 ∨ z42_3 = 3 := by omega
        rcases hs45_3 with hs45_3 | hs45_3 | hs45_3 | hs45_3
        · refine v_tabIn (pc := 45) C 76 (by first | omega | assumption) dX6_reckon_45 (by omega) (by rw [hs45_3]; rfl) (by decide) ?_
          refine v_aload_n (pc := 76) C 5 rfl dX6_reckon_76 ?_
          refine v_iload_n (pc := 77) C 6 rfl dX6_reckon_77 ?_
          refine v_iconst (pc := 78) C dX6_reckon_78 ?_
          refine v_aload_n (pc := 79) C 5 rfl dX6_reckon_79 ?_
          refine v_iload_n (pc := 80) C 6 rfl dX6_reckon_80 ?_
          refine v_iconst (pc := 81) C dX6_reckon_81 ?_
          refine v_cs (pc := 82) (as := [.ref (bs γ + c), .int (iI v), .int (iI 2)]) C (cy_X6_of G) (wM_X6_48 G) (k_X6_of G hc (by omega)) dX6_reckon_82 rfl rfl (by decide) (by decide) (Nat.le_of_ble_eq_true rfl) zc (k_I (fun z82_3 s82_3 q82_3 => ?_))
          obtain ⟨⟨ez82_3, rz82_3⟩, rfl⟩ := q82_3
          refine v_isub (pc := 85) C dX6_reckon_85 ?_
          refine v_iload_n (pc := 86) C 4 rfl dX6_reckon_86 ?_
          refine v_cs (pc := 87) (as := [.ref (bs γ + c), .int (iI v), .int (iI (1 - z82_3)), .int (iI z3)]) C (cy_X6_layLegs G) (wM_X6_72 G) (k_X6_layLegs G hc (by omega) (by omega) (by first | omega | assumption)) dX6_reckon_87 rfl rfl (by decide) (by decide) (Nat.le_of_ble_eq_true rfl) zc (k_V (fun s87_3 q87_3 => ?_))
          subst q87_3
          refine v_goto (pc := 90) C 227 dX6_reckon_90 (by decide) ?_
          exact v_vret (pc := 227) C hr dX6_reckon_227 ⟨rfl, by subst ez42_3; subst ez82_3; subst ez3; show _ = setc σ c (reckonR r v); unfold reckonR; rw [if_pos hs45_3]⟩
        · refine v_tabIn (pc := 45) C 93 (by first | omega | assumption) dX6_reckon_45 (by omega) (by rw [hs45_3]; rfl) (by decide) ?_
          refine v_aload_n (pc := 93) C 5 rfl dX6_reckon_93 ?_
          refine v_iload_n (pc := 94) C 6 rfl dX6_reckon_94 ?_
          refine v_iload (pc := 95) C 1 rfl dX6_reckon_95 ?_
          refine v_if_ne (pc := 97) C 105 (by first | omega | assumption) dX6_reckon_97 (by decide) (fun h => absurd h (by decide)) (fun _ => ?_)
          refine v_iload (pc := 100) C 0 rfl dX6_reckon_100 ?_
          refine v_if_eq (pc := 102) C 109 (by first | omega | assumption) dX6_reckon_102 (by decide) (fun _ => ?_) (fun h => absurd h (by decide))
          refine v_iconst (pc := 109) C dX6_reckon_109 ?_
          refine v_iload_n (pc := 110) C 4 rfl dX6_reckon_110 ?_
          refine v_cs (pc := 111) (as := [.ref (bs γ + c), .int (iI v), .int (iI 0), .int (iI z3)]) C (cy_X6_layLegs G) (wM_X6_72 G) (k_X6_layLegs G hc (by omega) (by omega) (by first | omega | assumption)) dX6_reckon_111 rfl rfl (by decide) (by decide) (Nat.le_of_ble_eq_true rfl) zc (k_V (fun s111_3 q111_3 => ?_))
          subst q111_3
          refine v_goto (pc := 114) C 227 dX6_reckon_114 (by decide) ?_
          exact v_vret (pc := 227) C hr dX6_reckon_227 ⟨rfl, by subst ez42_3; subst ez3; show _ = setc σ c (reckonR r v); unfold reckonR; rw [if_neg (by omega), if_pos hs45_3]; (first | rw [if_pos (Or.inl (by assumption))] | rw [if_pos (Or.inr (by assumption))] | rw [if_neg (by rintro (a | a) <;> contradiction)])⟩
        · refine v_tabIn (pc := 45) C 117 (by first | omega | assumption) dX6_reckon_45 (by omega) (by rw [hs45_3]; rfl) (by decide) ?_
          refine v_iload (pc := 117) C 1 rfl dX6_reckon_117 ?_
          refine v_iload (pc := 119) C 0 rfl dX6_reckon_119 ?_
          refine v_icmp_eq (pc := 121) C 139 (by first | omega | assumption) (by first | omega | assumption) dX6_reckon_121 (by decide) (fun _ => ?_) (fun h => absurd h (by decide))
          refine v_aload_n (pc := 139) C 5 rfl dX6_reckon_139 ?_
          refine v_iload_n (pc := 140) C 6 rfl dX6_reckon_140 ?_
          refine v_aload_n (pc := 141) C 5 rfl dX6_reckon_141 ?_
          refine v_iload_n (pc := 142) C 6 rfl dX6_reckon_142 ?_
          refine v_iconst (pc := 143) C dX6_reckon_143 ?_
          refine v_cs (pc := 144) (as := [.ref (bs γ + c), .int (iI v), .int (iI 2)]) C (cy_X6_of G) (wM_X6_48 G) (k_X6_of G hc (by omega)) dX6_reckon_144 rfl rfl (by decide) (by decide) (Nat.le_of_ble_eq_true rfl) zc (k_I (fun z144_3 s144_3 q144_3 => ?_))
          obtain ⟨⟨ez144_3, rz144_3⟩, rfl⟩ := q144_3
          try rw [goesR_2] at ez144_3
          refine v_iload_n (pc := 147) C 4 rfl dX6_reckon_147 ?_
          refine v_cs (pc := 148) (as := [.ref (bs γ + c), .int (iI v), .int (iI z144_3), .int (iI z3)]) C (cy_X6_layLegs G) (wM_X6_72 G) (k_X6_layLegs G hc (by omega) (by omega) (by first | omega | assumption)) dX6_reckon_148 rfl rfl (by decide) (by decide) (Nat.le_of_ble_eq_true rfl) zc (k_V (fun s148_3 q148_3 => ?_))
          subst q148_3
          refine v_goto (pc := 151) C 227 dX6_reckon_151 (by decide) ?_
          exact v_vret (pc := 227) C hr dX6_reckon_227 ⟨rfl, by subst ez42_3; subst ez144_3; subst ez3; show _ = setc σ c (reckonR r v); unfold reckonR; rw [if_neg (by omega), if_neg (by omega), if_pos hs45_3]; (first | rw [if_pos ⟨by assumption, by assumption⟩] | rw [if_neg (by rintro ⟨a, b⟩; contradiction), if_pos ⟨by assumption, by assumption⟩] | rw [if_neg (by rintro ⟨a, b⟩; contradiction), if_neg (by rintro ⟨a, b⟩; contradiction)])⟩
        · refine v_tabIn (pc := 45) C 154 (by first | omega | assumption) dX6_reckon_45 (by omega) (by rw [hs45_3]; rfl) (by decide) ?_
          refine v_aload_n (pc := 154) C 5 rfl dX6_reckon_154 ?_
          refine v_iload_n (pc := 155) C 6 rfl dX6_reckon_155 ?_
          refine v_iconst (pc := 156) C dX6_reckon_156 ?_
          refine v_iload_n (pc := 157) C 3 rfl dX6_reckon_157 ?_
          refine v_iload (pc := 158) C 2 rfl dX6_reckon_158 ?_
          refine v_icmp_ge (pc := 160) C 167 (by first | omega | assumption) (by first | omega | assumption) dX6_reckon_160 (by decide) (fun h160_3 => ?_) (fun h160_3 => ?_)
          · refine v_iload (pc := 167) C 2 rfl dX6_reckon_167 ?_
            refine v_cs (pc := 169) (as := [.ref (bs γ + c), .int (iI v), .int (iI 0), .int (iI z18)]) C (cy_X6_layLegs G) (wM_X6_72 G) (k_X6_layLegs G hc (by omega) (by omega) (by first | omega | assumption)) dX6_reckon_169 rfl rfl (by decide) (by decide) (Nat.le_of_ble_eq_true rfl) zc (k_V (fun s169_6 q169_6 => ?_))
            subst q169_6
            refine v_aload_n (pc := 172) C 5 rfl dX6_reckon_172 ?_
            refine v_bipush (pc := 173) C (by decide +kernel) dX6_reckon_173 ?_
            refine v_bipush (pc := 175) C (by decide +kernel) dX6_reckon_175 ?_
            refine v_iload_n (pc := 177) C 6 rfl dX6_reckon_177 ?_
            refine v_imul (pc := 178) C dX6_reckon_178 ?_
            refine v_iadd (pc := 179) C dX6_reckon_179 ?_
            refine v_iconst (pc := 180) C dX6_reckon_180 ?_
            refine v_iadd (pc := 181) C dX6_reckon_181 ?_
            refine v_iconst (pc := 182) C dX6_reckon_182 ?_
            refine v_iadd (pc := 183) C dX6_reckon_183 ?_
            refine v_iload_n (pc := 184) C 3 rfl dX6_reckon_184 ?_
            refine v_if_eq (pc := 185) C 193 (by first | omega | assumption) dX6_reckon_185 (by decide) (fun h185_6 => ?_) (fun h185_6 => ?_)
            · refine v_iload_n (pc := 193) C 3 rfl dX6_reckon_193 ?_
              refine v_iload (pc := 194) C 2 rfl dX6_reckon_194 ?_
              refine v_iadd (pc := 196) C dX6_reckon_196 ?_
              refine v_goto (pc := 197) C 201 dX6_reckon_197 (by decide) ?_
              refine v_iastR (pc := 201) C hc (by first | omega | assumption) (by first | omega | assumption) dX6_reckon_201 ?_
              refine v_goto (pc := 202) C 227 dX6_reckon_202 (by decide) ?_
              exact v_vret (pc := 227) C hr dX6_reckon_227 ⟨rfl, by subst ez42_3; subst ez10; subst ez18; show _ = setc σ c (reckonR r v); unfold reckonR; rw [if_neg (by omega), if_neg (by omega), if_neg (by omega), if_pos hs45_3]; split <;> split <;> first | rfl | (exfalso; omega)⟩
            · refine v_iload (pc := 188) C 2 rfl dX6_reckon_188 ?_
              refine v_if_ne (pc := 190) C 200 (by first | omega | assumption) dX6_reckon_190 (by decide) (fun h190_6 => ?_) (fun h190_6 => ?_)
              · refine v_iconst (pc := 200) C dX6_reckon_200 ?_
                refine v_iastR (pc := 201) C hc (by first | omega | assumption) (by first | omega | assumption) dX6_reckon_201 ?_
                refine v_goto (pc := 202) C 227 dX6_reckon_202 (by decide) ?_
                exact v_vret (pc := 227) C hr dX6_reckon_227 ⟨rfl, by subst ez42_3; subst ez10; subst ez18; show _ = setc σ c (reckonR r v); unfold reckonR; rw [if_neg (by omega), if_neg (by omega), if_neg (by omega), if_pos hs45_3]; split <;> split <;> first | rfl | (exfalso; omega)⟩
              · refine v_iload_n (pc := 193) C 3 rfl dX6_reckon_193 ?_
                refine v_iload (pc := 194) C 2 rfl dX6_reckon_194 ?_
                refine v_iadd (pc := 196) C dX6_reckon_196 ?_
                refine v_goto (pc := 197) C 201 dX6_reckon_197 (by decide) ?_
                refine v_iastR (pc := 201) C hc (by first | omega | assumption) (by first | omega | assumption) dX6_reckon_201 ?_
                refine v_goto (pc := 202) C 227 dX6_reckon_202 (by decide) ?_
                exact v_vret (pc := 227) C hr dX6_reckon_227 ⟨rfl, by subst ez42_3; subst ez10; subst ez18; show _ = setc σ c (reckonR r v); unfold reckonR; rw [if_neg (by omega), if_neg (by omega), if_neg (by omega), if_pos hs45_3]; split <;> split <;> first | rfl | (exfalso; omega)⟩
          · refine v_iload_n (pc := 163) C 3 rfl dX6_reckon_163 ?_
            refine v_goto (pc := 164) C 169 dX6_reckon_164 (by decide) ?_
            refine v_cs (pc := 169) (as := [.ref (bs γ + c), .int (iI v), .int (iI 0), .int (iI z10)]) C (cy_X6_layLegs G) (wM_X6_72 G) (k_X6_layLegs G hc (by omega) (by omega) (by first | omega | assumption)) dX6_reckon_169 rfl rfl (by decide) (by decide) (Nat.le_of_ble_eq_true rfl) zc (k_V (fun s169_7 q169_7 => ?_))
            subst q169_7
            refine v_aload_n (pc := 172) C 5 rfl dX6_reckon_172 ?_
            refine v_bipush (pc := 173) C (by decide +kernel) dX6_reckon_173 ?_
            refine v_bipush (pc := 175) C (by decide +kernel) dX6_reckon_175 ?_
            refine v_iload_n (pc := 177) C 6 rfl dX6_reckon_177 ?_
            refine v_imul (pc := 178) C dX6_reckon_178 ?_
            refine v_iadd (pc := 179) C dX6_reckon_179 ?_
            refine v_iconst (pc := 180) C dX6_reckon_180 ?_
            refine v_iadd (pc := 181) C dX6_reckon_181 ?_
            refine v_iconst (pc := 182) C dX6_reckon_182 ?_
            refine v_iadd (pc := 183) C dX6_reckon_183 ?_
            refine v_iload_n (pc := 184) C 3 rfl dX6_reckon_184 ?_
            refine v_if_eq (pc := 185) C 193 (by first | omega | assumption) dX6_reckon_185 (by decide) (fun h185_7 => ?_) (fun h185_7 => ?_)
            · refine v_iload_n (pc := 193) C 3 rfl dX6_reckon_193 ?_
              refine v_iload (pc := 194) C 2 rfl dX6_reckon_194 ?_
              refine v_iadd (pc := 196) C dX6_reckon_196 ?_
              refine v_goto (pc := 197) C 201 dX6_reckon_197 (by decide) ?_
              refine v_iastR (pc := 201) C hc (by first | omega | assumption) (by first | omega | assumption) dX6_reckon_201 ?_
              refine v_goto (pc := 202) C 227 dX6_reckon_202 (by decide) ?_
              exact v_vret (pc := 227) C hr dX6_reckon_227 ⟨rfl, by subst ez42_3; subst ez10; subst ez18; show _ = setc σ c (reckonR r v); unfold reckonR; rw [if_neg (by omega), if_neg (by omega), if_neg (by omega), if_pos hs45_3]; split <;> split <;> first | rfl | (exfalso; omega)⟩
            · refine v_iload (pc := 188) C 2 rfl dX6_reckon_188 ?_
              refine v_if_ne (pc := 190) C 200 (by first | omega | assumption) dX6_reckon_190 (by decide) (fun h190_7 => ?_) (fun h190_7 => ?_)
              · refine v_iconst (pc := 200) C dX6_reckon_200 ?_
                refine v_iastR (pc := 201) C hc (by first | omega | assumption) (by first | omega | assumption) dX6_reckon_201 ?_
                refine v_goto (pc := 202) C 227 dX6_reckon_202 (by decide) ?_
                exact v_vret (pc := 227) C hr dX6_reckon_227 ⟨rfl, by subst ez42_3; subst ez10; subst ez18; show _ = setc σ c (reckonR r v); unfold reckonR; rw [if_neg (by omega), if_neg (by omega), if_neg (by omega), if_pos hs45_3]; split <;> split <;> first | rfl | (exfalso; omega)⟩
              · refine v_iload_n (pc := 193) C 3 rfl dX6_reckon_193 ?_
                refine v_iload (pc := 194) C 2 rfl dX6_reckon_194 ?_
                refine v_iadd (pc := 196) C dX6_reckon_196 ?_
                refine v_goto (pc := 197) C 201 dX6_reckon_197 (by decide) ?_
                refine v_iastR (pc := 201) C hc (by first | omega | assumption) (by first | omega | assumption) dX6_reckon_201 ?_
                refine v_goto (pc := 202) C 227 dX6_reckon_202 (by decide) ?_
                exact v_vret (pc := 227) C hr dX6_reckon_227 ⟨rfl, by subst ez42_3; subst ez10; subst ez18; show _ = setc σ c (reckonR r v); unfold reckonR; rw [if_neg (by omega), if_neg (by omega), if_neg (by omega), if_pos hs45_3]; split <;> split <;> first | rfl | (exfalso; omega)⟩
      · refine v_tabOut (pc := 45) C 205 (by first | omega | assumption) dX6_reckon_45 (by omega) (by decide) ?_
        refine v_aload_n (pc := 205) C 5 rfl dX6_reckon_205 ?_
        refine v_iload_n (pc := 206) C 6 rfl dX6_reckon_206 ?_
        refine v_iload_n (pc := 207) C 3 rfl dX6_reckon_207 ?_
        refine v_iconst (pc := 208) C dX6_reckon_208 ?_
        refine v_icmp_ge (pc := 209) C 218 (by first | omega | assumption) (by first | omega | assumption) dX6_reckon_209 (by decide) (fun h209_3 => ?_) (fun h209_3 => ?_)
        · refine v_iconst (pc := 218) C dX6_reckon_218 ?_
          refine v_goto (pc := 219) C 223 dX6_reckon_219 (by decide) ?_
          refine v_iload_n (pc := 223) C 4 rfl dX6_reckon_223 ?_
          refine v_cs (pc := 224) (as := [.ref (bs γ + c), .int (iI v), .int (iI 0), .int (iI z3)]) C (cy_X6_layLegs G) (wM_X6_72 G) (k_X6_layLegs G hc (by omega) (by omega) (by first | omega | assumption)) dX6_reckon_224 rfl rfl (by decide) (by decide) (Nat.le_of_ble_eq_true rfl) zc (k_V (fun s224_9 q224_9 => ?_))
          subst q224_9
          exact v_vret (pc := 227) C hr dX6_reckon_227 ⟨rfl, by subst ez42_3; subst ez10; subst ez18; subst ez3; show _ = setc σ c (reckonR r v); unfold reckonR; rw [if_neg (by omega), if_neg (by omega), if_neg (by omega), if_neg (by omega)]; split <;> first | rfl | (exfalso; omega)⟩
        · refine v_iload (pc := 212) C 2 rfl dX6_reckon_212 ?_
          refine v_iconst (pc := 214) C dX6_reckon_214 ?_
          refine v_icmp_lt (pc := 215) C 222 (by first | omega | assumption) (by first | omega | assumption) dX6_reckon_215 (by decide) (fun h215_3 => ?_) (fun h215_3 => ?_)
          · refine v_iconst (pc := 222) C dX6_reckon_222 ?_
            refine v_iload_n (pc := 223) C 4 rfl dX6_reckon_223 ?_
            refine v_cs (pc := 224) (as := [.ref (bs γ + c), .int (iI v), .int (iI 1), .int (iI z3)]) C (cy_X6_layLegs G) (wM_X6_72 G) (k_X6_layLegs G hc (by omega) (by omega) (by first | omega | assumption)) dX6_reckon_224 rfl rfl (by decide) (by decide) (Nat.le_of_ble_eq_true rfl) zc (k_V (fun s224_10 q224_10 => ?_))
            subst q224_10
            exact v_vret (pc := 227) C hr dX6_reckon_227 ⟨rfl, by subst ez42_3; subst ez10; subst ez18; subst ez3; show _ = setc σ c (reckonR r v); unfold reckonR; rw [if_neg (by omega), if_neg (by omega), if_neg (by omega), if_neg (by omega)]; split <;> first | rfl | (exfalso; omega)⟩
          · refine v_iconst (pc := 218) C dX6_reckon_218 ?_
            refine v_goto (pc := 219) C 223 dX6_reckon_219 (by decide) ?_
            refine v_iload_n (pc := 223) C 4 rfl dX6_reckon_223 ?_
            refine v_cs (pc := 224) (as := [.ref (bs γ + c), .int (iI v), .int (iI 0), .int (iI z3)]) C (cy_X6_layLegs G) (wM_X6_72 G) (k_X6_layLegs G hc (by omega) (by omega) (by first | omega | assumption)) dX6_reckon_224 rfl rfl (by decide) (by decide) (Nat.le_of_ble_eq_true rfl) zc (k_V (fun s224_11 q224_11 => ?_))
            subst q224_11
            exact v_vret (pc := 227) C hr dX6_reckon_227 ⟨rfl, by subst ez42_3; subst ez10; subst ez18; subst ez3; show _ = setc σ c (reckonR r v); unfold reckonR; rw [if_neg (by omega), if_neg (by omega), if_neg (by omega), if_neg (by omega)]; split <;> first | rfl | (exfalso; omega)⟩

set_option maxHeartbeats 4000000 in
set_option maxRecDepth 100000 in
theorem k_X6_enter {γ : Gm} (G : Glo γ) {σ : St} {c : Nat} {r : Int → Int} {d : Int} (hc : sh c = (0, 268) ∧ 268 ≤ 4000) (h : Wf r) (h0 : 0 ≤ d ∧ d < r 1) : Ct γ yX6_enter cX6_enter 5 none 2 [.ref (bs γ + c), .int (iI d)] (setc σ c r) (pV (fun σ2 => σ2 = setc σ c (enterR r d))) := by
  refine Ct.of G (by decide +kernel) (Nat.le_of_ble_eq_true rfl) (fun φ C hr => ?_)
  have C : Cx γ φ RX6 cX6_enter 5 2 := C
  obtain ⟨q0, q1, q2, q3, q4, q5, q6⟩ := h.2.2.2.2.2 d h0.1 h0.2
  have hn0 := h.1
  have hn1 := h.2.1
  refine v_lv [(0, .ref (bs γ + c)), (1, .int (iI d))] [0, 1] rfl ?_
  refine v_bipush (pc := 0) C (by decide +kernel) dX6_enter_0 ?_
  refine v_bipush (pc := 2) C (by decide +kernel) dX6_enter_2 ?_
  refine v_iload_n (pc := 4) C 1 rfl dX6_enter_4 ?_
  refine v_imul (pc := 5) C dX6_enter_5 ?_
  refine v_iadd (pc := 6) C dX6_enter_6 ?_
  refine v_bipush (pc := 7) C (by decide +kernel) dX6_enter_7 ?_
  refine v_iadd (pc := 9) C dX6_enter_9 ?_
  refine v_nm (fun at0 eat0 => ?_)
  refine v_istore_n (pc := 10) C [(2, .int (iI at0)), (0, .ref (bs γ + c)), (1, .int (iI d))] dX6_enter_10 rfl (by decide) rfl ?_
  refine v_aload_n (pc := 11) C 1 rfl dX6_enter_11 ?_
  refine v_iload_n (pc := 12) C 2 rfl dX6_enter_12 ?_
  refine v_iconst (pc := 13) C dX6_enter_13 ?_
  refine v_cs (pc := 14) (as := [.ref (bs γ + c), .int (iI d), .int (iI 4)]) C (cy_X6_ofDuct G) (wM_X6_62 G) (k_X6_ofDuct G hc (by omega)) dX6_enter_14 rfl rfl (by decide) (by decide) (Nat.le_of_ble_eq_true rfl) zc (k_I (fun z14 s14 q14 => ?_))
  obtain ⟨⟨ez14, rz14⟩, rfl⟩ := q14
  refine v_iconst (pc := 17) C dX6_enter_17 ?_
  refine v_isub (pc := 18) C dX6_enter_18 ?_
  refine v_nm (fun la ela => ?_)
  refine v_istore_n (pc := 19) C [(3, .int (iI la)), (2, .int (iI at0)), (0, .ref (bs γ + c)), (1, .int (iI d))] dX6_enter_19 rfl (by decide) rfl ?_
  refine v_iconst (pc := 20) C dX6_enter_20 ?_
  refine v_istore (pc := 21) C [(4, .int (iI 0)), (3, .int (iI la)), (2, .int (iI at0)), (0, .ref (bs γ + c)), (1, .int (iI d))] dX6_enter_21 (by decide) rfl ?_
  have L23 : ∀ (fu : Nat) (i : Nat), (hi : (i : Int) ≤ la) → la.toNat - i < fu → Vw γ φ 5 0 0 (QE γ φ (pV (fun σ2 => σ2 = setc σ c (enterR r d)))) (setc σ c (shiftR r at0 i)) 23 [(4, .int (iI (i : Int))), (3, .int (iI la)), (2, .int (iI at0)), (1, .int (iI d)), (0, .ref (bs γ + c))] [] := by
    intro fu
    induction fu with
    | zero => intro i hi hz; exact absurd hz (Nat.not_lt_zero _)
    | succ fu ih =>
      intro i hi hz
      refine v_iload (pc := 23) C 0 rfl dX6_enter_23 ?_
      refine v_iload_n (pc := 25) C 1 rfl dX6_enter_25 ?_
      refine v_icmp_ge (pc := 26) C 49 (by omega) (by omega) dX6_enter_26 (by decide) (fun h26 => ?_) (fun h26 => ?_)
      · obtain rfl : i = la.toNat := by omega
        have sh4 : ∀ k, k < 76 + 12 * d + 6 → shiftR r at0 la.toNat k = r k := fun k hk => shiftR_out r at0 _ (by omega)
        have sh0 := sh4 (76 + 12 * d + 0) (by omega)
        have sh1 := sh4 (76 + 12 * d + 1) (by omega)
        refine v_aload_n (pc := 49) C 4 rfl dX6_enter_49 ?_
        refine v_iload_n (pc := 50) C 2 rfl dX6_enter_50 ?_
        refine v_iload_n (pc := 51) C 1 rfl dX6_enter_51 ?_
        refine v_iadd (pc := 52) C dX6_enter_52 ?_
        refine v_aload_n (pc := 53) C 4 rfl dX6_enter_53 ?_
        refine v_aload_n (pc := 54) C 4 rfl dX6_enter_54 ?_
        refine v_iload_n (pc := 55) C 3 rfl dX6_enter_55 ?_
        refine v_iconst (pc := 56) C dX6_enter_56 ?_
        refine v_cs (pc := 57) (as := [.ref (bs γ + c), .int (iI d), .int (iI 0)]) C (cy_X6_ofDuct G) (wM_X6_62 G) (k_X6_ofDuct G hc (by omega)) dX6_enter_57 rfl rfl (by decide) (by decide) (Nat.le_of_ble_eq_true rfl) zc (k_I (fun z57 s57 q57 => ?_))
        obtain ⟨⟨ez57, rz57⟩, rfl⟩ := q57
        refine v_iconst (pc := 60) C dX6_enter_60 ?_
        refine v_aload_n (pc := 61) C 4 rfl dX6_enter_61 ?_
        refine v_iload_n (pc := 62) C 3 rfl dX6_enter_62 ?_
        refine v_iconst (pc := 63) C dX6_enter_63 ?_
        refine v_cs (pc := 64) (as := [.ref (bs γ + c), .int (iI d), .int (iI 1)]) C (cy_X6_ofDuct G) (wM_X6_62 G) (k_X6_ofDuct G hc (by omega)) dX6_enter_64 rfl rfl (by decide) (by decide) (Nat.le_of_ble_eq_true rfl) zc (k_I (fun z64 s64 q64 => ?_))
        obtain ⟨⟨ez64, rz64⟩, rfl⟩ := q64
        refine v_iadd (pc := 67) C dX6_enter_67 ?_
        refine v_cs (pc := 68) (as := [.ref (bs γ + c), .int (iI z57), .int (iI (3 + z64))]) C (cy_X6_of G) (wM_X6_48 G) (k_X6_of G hc (by omega)) dX6_enter_68 rfl rfl (by decide) (by decide) (Nat.le_of_ble_eq_true rfl) zc (k_I (fun z68 s68 q68 => ?_))
        obtain ⟨⟨ez68, rz68⟩, rfl⟩ := q68
        rw [sh4 _ (by omega), ez57, sh0, ez64, sh1] at ez68
        refine v_iastR (pc := 71) C hc (by omega) (by omega) dX6_enter_71 ?_
        exact v_vret (pc := 72) C hr dX6_enter_72 ⟨rfl, by unfold enterR; rw [← ez14, ← ela, ← eat0, ← ez68]⟩
      · refine v_aload_n (pc := 29) C 4 rfl dX6_enter_29 ?_
        refine v_iload_n (pc := 30) C 2 rfl dX6_enter_30 ?_
        refine v_iload (pc := 31) C 0 rfl dX6_enter_31 ?_
        refine v_iadd (pc := 33) C dX6_enter_33 ?_
        refine v_aload_n (pc := 34) C 4 rfl dX6_enter_34 ?_
        refine v_iload_n (pc := 35) C 2 rfl dX6_enter_35 ?_
        refine v_iload (pc := 36) C 0 rfl dX6_enter_36 ?_
        refine v_iadd (pc := 38) C dX6_enter_38 ?_
        refine v_iconst (pc := 39) C dX6_enter_39 ?_
        refine v_iadd (pc := 40) C dX6_enter_40 ?_
        refine v_ialdR (pc := 41) C hc (by omega) dX6_enter_41 (fun z41 ez41 rz41 => ?_)
        refine v_iastR (pc := 42) C hc (by omega) (by omega) dX6_enter_42 ?_
        refine v_iinc (pc := 43) C 0 [(4, .int (iI ((i : Int) + 1))), (3, .int (iI la)), (2, .int (iI at0)), (1, .int (iI d)), (0, .ref (bs γ + c))] dX6_enter_43 rfl (by decide) rfl ?_
        refine v_goto (pc := 46) C 23 dX6_enter_46 (by decide) ?_
        refine v_st (show _ = setc σ c (shiftR r at0 (i + 1)) from by rw [ez41]; rfl) ?_
        exact v_lv _ [0, 1, 2, 3, 4] rfl (ih (i + 1) (by omega) (by omega))
  exact v_lv _ [0, 1, 2, 4, 3] rfl (L23 (la.toNat + 1) 0 (by omega) (by omega))

set_option maxHeartbeats 4000000 in
set_option maxRecDepth 100000 in
theorem k_X6_tick {γ : Gm} (G : Glo γ) {σ : St} {c : Nat} {r : Int → Int} (hc : sh c = (0, 268) ∧ 268 ≤ 4000) (h : Wf r) : Ct γ yX6_tick cX6_tick 2 none 5 [.ref (bs γ + c)] (setc σ c r) (pV (fun σ2 => σ2 = setc σ c (tickR r))) := by
  refine Ct.of G (by decide +kernel) (Nat.le_of_ble_eq_true rfl) (fun φ C hr => ?_)
  have C : Cx γ φ RX6 cX6_tick 2 5 := C
  have hn0 := h.1
  have hn1 := h.2.1
  have hw2 := Wf_scal h (i := 2) (bmz (r 2 + 1)) (by omega)
  obtain ⟨hwp, hep⟩ := pushAllR_Wf hw2
  have ep0 := hep 0 (by unfold isP; omega)
  rw [upr_ne _ _ (by omega)] at ep0
  have hres : tickR r = enterAll (tick2R r) (r 1).toNat := rfl
  have hres2 : tick2R r = reckAll (pushAllR (upr r 2 (bmz (r 2 + 1)))) (r 0).toNat := rfl
  obtain ⟨hwt, het⟩ := tick2R_Wf h
  have et1 := het 1 (by omega)
  obtain ⟨w, hw⟩ : ∃ w, w = pushAllR (upr r 2 (bmz (r 2 + 1))) := ⟨_, rfl⟩
  rw [← hw] at hwp hep ep0 hres2
  refine v_lv [(0, .ref (bs γ + c))] [0] rfl ?_
  refine v_aload_n (pc := 0) C 0 rfl dX6_tick_0 ?_
  refine v_iconst (pc := 1) C dX6_tick_1 ?_
  refine v_dup2 (pc := 2) C rfl rfl dX6_tick_2 ?_
  refine v_ialdR (pc := 3) C hc (by omega) dX6_tick_3 (fun z3 ez3 rz3 => ?_)
  refine v_iconst (pc := 4) C dX6_tick_4 ?_
  refine v_iadd (pc := 5) C dX6_tick_5 ?_
  refine v_bm ?_
  refine v_iastR (pc := 6) C hc (by omega) (bmz_r _) dX6_tick_6 ?_
  rw [ez3]
  refine v_aload_n (pc := 7) C 0 rfl dX6_tick_7 ?_
  refine v_cs (pc := 8) (as := [.ref (bs γ + c)]) C (cy_X6_pushAll G) (wM_X6_80 G) (k_X6_pushAll G hc hw2) dX6_tick_8 rfl rfl (by decide) (by decide) (Nat.le_of_ble_eq_true rfl) zc (k_V (fun s8 q8 => ?_))
  subst q8
  rw [← hw]
  refine v_iconst (pc := 11) C dX6_tick_11 ?_
  refine v_istore_n (pc := 12) C [(1, .int (iI 0)), (0, .ref (bs γ + c))] dX6_tick_12 rfl (by decide) rfl ?_
  have L13 : ∀ (fu : Nat) (i : Nat), (hi : (i : Int) ≤ r 0) → (r 0).toNat - i < fu → Vw γ φ 2 0 0 (QE γ φ (pV (fun σ2 => σ2 = setc σ c (tickR r)))) (setc σ c (reckAll w i)) 13 [(1, .int (iI (i : Int))), (0, .ref (bs γ + c))] [] := by
    intro fu
    induction fu with
    | zero => intro i hi hz; exact absurd hz (Nat.not_lt_zero _)
    | succ fu ih =>
      intro i hi hz
      obtain ⟨hwi, hei⟩ := reckAll_Wf hwp i (by omega)
      have e0i := hei 0 (by omega)
      refine v_iload_n (pc := 13) C 0 rfl dX6_tick_13 ?_
      refine v_aload_n (pc := 14) C 1 rfl dX6_tick_14 ?_
      refine v_iconst (pc := 15) C dX6_tick_15 ?_
      refine v_ialdR (pc := 16) C hc (by omega) dX6_tick_16 (fun z16 ez16 rz16 => ?_)
      refine v_icmp_ge (pc := 17) C 31 (by omega) (by omega) dX6_tick_17 (by decide) (fun h17 => ?_) (fun h17 => ?_)
      · obtain rfl : i = (r 0).toNat := by omega
        rw [← hres2]
        refine v_iconst (pc := 31) C dX6_tick_31 ?_
        refine v_istore_n (pc := 32) C [(1, .int (iI 0)), (0, .ref (bs γ + c))] dX6_tick_32 rfl (by decide) rfl ?_
        have L33 : ∀ (fu : Nat) (d : Nat), (hd : (d : Int) ≤ r 1) → (r 1).toNat - d < fu → Vw γ φ 2 0 0 (QE γ φ (pV (fun σ2 => σ2 = setc σ c (tickR r)))) (setc σ c (enterAll (tick2R r) d)) 33 [(1, .int (iI (d : Int))), (0, .ref (bs γ + c))] [] := by
          intro fu
          induction fu with
          | zero => intro d hd hz; exact absurd hz (Nat.not_lt_zero _)
          | succ fu ih =>
            intro d hd hz
            obtain ⟨hwi, hei⟩ := enterAll_Wf hwt d (by omega)
            have e1i := hei 1 (by omega)
            refine v_iload_n (pc := 33) C 0 rfl dX6_tick_33 ?_
            refine v_aload_n (pc := 34) C 1 rfl dX6_tick_34 ?_
            refine v_iconst (pc := 35) C dX6_tick_35 ?_
            refine v_ialdR (pc := 36) C hc (by omega) dX6_tick_36 (fun z36 ez36 rz36 => ?_)
            refine v_icmp_ge (pc := 37) C 51 (by omega) (by omega) dX6_tick_37 (by decide) (fun h37 => ?_) (fun h37 => ?_)
            · exact v_vret (pc := 51) C hr dX6_tick_51 ⟨rfl, by rw [hres, show d = (r 1).toNat by omega]⟩
            · refine v_aload_n (pc := 40) C 1 rfl dX6_tick_40 ?_
              refine v_iload_n (pc := 41) C 0 rfl dX6_tick_41 ?_
              refine v_cs (pc := 42) (as := [.ref (bs γ + c), .int (iI (d : Int))]) C (cy_X6_enter G) (wM_X6_87 G) (k_X6_enter G hc ‹_› ⟨by omega, by omega⟩) dX6_tick_42 rfl rfl (by decide) (by decide) (Nat.le_of_ble_eq_true rfl) zc (k_V (fun s42 q42 => ?_))
              subst q42
              refine v_iinc (pc := 45) C 0 [(1, .int (iI ((d : Int) + 1))), (0, .ref (bs γ + c))] dX6_tick_45 rfl (by decide) rfl ?_
              refine v_goto (pc := 48) C 33 dX6_tick_48 (by decide) ?_
              exact v_lv _ [0, 1] rfl (ih (d + 1) (by omega) (by omega))
        exact v_lv _ [0, 1] rfl (L33 ((r 1).toNat + 1) 0 (by omega) (by omega))
      · refine v_aload_n (pc := 20) C 1 rfl dX6_tick_20 ?_
        refine v_iload_n (pc := 21) C 0 rfl dX6_tick_21 ?_
        refine v_cs (pc := 22) (as := [.ref (bs γ + c), .int (iI (i : Int))]) C (cy_X6_reckon G) (wM_X6_83 G) (k_X6_reckon G hc ‹_› ⟨by omega, by omega⟩) dX6_tick_22 rfl rfl (by decide) (by decide) (Nat.le_of_ble_eq_true rfl) zc (k_V (fun s22 q22 => ?_))
        subst q22
        refine v_iinc (pc := 25) C 0 [(1, .int (iI ((i : Int) + 1))), (0, .ref (bs γ + c))] dX6_tick_25 rfl (by decide) rfl ?_
        refine v_goto (pc := 28) C 13 dX6_tick_28 (by decide) ?_
        exact v_lv _ [0, 1] rfl (ih (i + 1) (by omega) (by omega))
  exact v_lv _ [0, 1] rfl (L13 ((r 0).toNat + 1) 0 (by omega) (by omega))

set_option maxHeartbeats 4000000 in
set_option maxRecDepth 100000 in
theorem k_X6_run {γ : Gm} (G : Glo γ) {σ : St} {c : Nat} {r : Int → Int} {m : Int} (hc : sh c = (0, 268) ∧ 268 ≤ 4000) (h : Wf r) (hm : R3 m) : Ct γ yX6_run cX6_run 3 none 6 [.ref (bs γ + c), .int (iI m)] (setc σ c r) (pV (fun σ2 => σ2 = setc σ c (runR r m.toNat))) := by
  refine Ct.of G (by decide +kernel) (Nat.le_of_ble_eq_true rfl) (fun φ C hr => ?_)
  have C : Cx γ φ RX6 cX6_run 3 6 := C
  refine v_lv [(0, .ref (bs γ + c)), (1, .int (iI m))] [0, 1] rfl ?_
  refine v_iconst (pc := 0) C dX6_run_0 ?_
  refine v_istore_n (pc := 1) C [(2, .int (iI 0)), (0, .ref (bs γ + c)), (1, .int (iI m))] dX6_run_1 rfl (by decide) rfl ?_
  have L2 : ∀ (fu : Nat) (i : Nat), (hi : (i : Int) ≤ m.toNat) → m.toNat - i < fu → Vw γ φ 3 0 0 (QE γ φ (pV (fun σ2 => σ2 = setc σ c (runR r m.toNat)))) (setc σ c (runR r i)) 2 [(2, .int (iI (i : Int))), (1, .int (iI m)), (0, .ref (bs γ + c))] [] := by
    intro fu
    induction fu with
    | zero => intro i hi hz; exact absurd hz (Nat.not_lt_zero _)
    | succ fu ih =>
      intro i hi hz
      have hwi := (runR_Wf h i).1
      refine v_iload_n (pc := 2) C 0 rfl dX6_run_2 ?_
      refine v_iload_n (pc := 3) C 1 rfl dX6_run_3 ?_
      refine v_icmp_ge (pc := 4) C 17 (by first | omega | assumption) (by first | omega | assumption) dX6_run_4 (by decide) (fun h4 => ?_) (fun h4 => ?_)
      · exact v_vret (pc := 17) C hr dX6_run_17 ⟨rfl, by rw [show i = m.toNat by omega]⟩
      · refine v_aload_n (pc := 7) C 2 rfl dX6_run_7 ?_
        refine v_cs (pc := 8) (as := [.ref (bs γ + c)]) C (cy_X6_tick G) (wM_X6_90 G) (k_X6_tick G hc hwi) dX6_run_8 rfl rfl (by decide) (by decide) (Nat.le_of_ble_eq_true rfl) zc (k_V (fun s8 q8 => ?_))
        subst q8
        refine v_iinc (pc := 11) C 0 [(2, .int (iI ((i : Int) + 1))), (1, .int (iI m)), (0, .ref (bs γ + c))] dX6_run_11 rfl (by decide) rfl ?_
        refine v_goto (pc := 14) C 2 dX6_run_14 (by decide) ?_
        exact v_lv _ [0, 1, 2] rfl (ih (i + 1) (by omega) (by omega))
  exact v_lv _ [0, 2, 1] rfl (L2 (m.toNat + 1) 0 (by omega) (by omega))
