set_option maxHeartbeats 4000000 in
set_option maxRecDepth 100000 in
theorem k2_X6_setting {γ : Gm} (G : Glo γ) {σ : St} {w0 s a p u : Int} {t n x f d k i : Int → Int} {w : Int} (hw : R3 w)  : Ct γ yX6_setting cX6_setting 2 (some .int) 2 [.ref (bs γ + 255), .int (iI w)] (mS σ w0 s a p u t n x f d k i) (pI (fun z σ2 => mQ σ (op_setting s a t n d k i w) z σ2)) := by
  refine Ct.of G (by decide +kernel) (Nat.le_of_ble_eq_true rfl) (fun φ C hr => ?_)
  have C : Cx γ φ RX6 cX6_setting 2 2 := C
  refine v_lv [(0, .ref (bs γ + 255)), (1, .int (iI w))] [0, 1] rfl ?_
  refine v_aload_n (pc := 0) C 0 rfl dX6_setting_0 ?_
  refine v_iload_n (pc := 1) C 1 rfl dX6_setting_1 ?_
  refine v_i2l (pc := 2) C (by first | omega | assumption) dX6_setting_2 ?_
  refine v_lconst (pc := 3) C (z := 0) rfl dX6_setting_3 ?_
  refine v_lconst (pc := 4) C (z := 1) rfl dX6_setting_4 ?_
  refine v_cs (pc := 5) (as := [.long (lI w), .long (lI 0), .long (lI 1)]) C (cy_X6_in G) (wM_X6_40 G) (k_X6_in G (by first | omega | assumption) (by first | omega | assumption) (by first | omega | assumption)) dX6_setting_5 rfl rfl (by decide) (by decide) (Nat.le_of_ble_eq_true rfl) zc (k_I (fun z5 s5 q5 => ?_))
  rcases q5 with ⟨⟨rfl, q5⟩ | ⟨rfl, q5⟩, rfl⟩
  · refine v_if_eq (pc := 8) C 15 (by first | omega | assumption) dX6_setting_8 (by decide) (fun h => absurd h (by decide)) (fun _ => ?_)
    refine v_iconst (pc := 11) C dX6_setting_11 ?_
    refine v_goto (pc := 12) C 16 dX6_setting_12 (by decide) ?_
    refine v_cv (pc := 16) (as := [.int (iI 0)]) C (cy_X6_refused G) (wM_X6_124 G) sh_255 (ci := 4) rfl rfl (refN G) dX6_setting_16 rfl rfl (by decide) (by decide) (Nat.le_of_ble_eq_true rfl) zc (k_I (fun z16 s16 q16 => ?_))
    obtain ⟨rfl, rfl⟩ := q16
    refine v_if_eq (pc := 19) C 24 (by first | omega | assumption) dX6_setting_19 (by decide) (fun _ => ?_) (fun h => absurd h (by decide))
    refine v_aload_n (pc := 24) C 0 rfl dX6_setting_24 ?_
    refine v_getr (pc := 25) C inX6 goX6 (ci := 4) rfl 3 (by decide) (wF_X6_13 G) rfl sh_255 (257) rfl dX6_setting_25 ?_
    refine v_iconst (pc := 28) C dX6_setting_28 ?_
    refine v_iload_n (pc := 29) C 1 rfl dX6_setting_29 ?_
    refine v_iadd (pc := 30) C dX6_setting_30 ?_
    refine v_iald (pc := 31) C sh_257 (by decide) (by first | omega | assumption) dX6_setting_31 (fun z31 ez31 rz31 => ?_)
    rw [mS_n] at ez31
    exact v_iret (pc := 32) C hr (rfl) dX6_setting_32 (⟨_, rfl, mQ_ok (z' := n (4 + w)) (by unfold op_setting; rw [if_neg (by omega)]) (by rw [ez31])⟩)
  · refine v_if_eq (pc := 8) C 15 (by first | omega | assumption) dX6_setting_8 (by decide) (fun _ => ?_) (fun h => absurd h (by decide))
    refine v_iconst (pc := 15) C dX6_setting_15 ?_
    refine v_cv (pc := 16) (as := [.int (iI 1)]) C (cy_X6_refused G) (wM_X6_124 G) sh_255 (ci := 4) rfl rfl (refY G (by decide)) dX6_setting_16 rfl rfl (by decide) (by decide) (Nat.le_of_ble_eq_true rfl) zc (k_I (fun z16_1 s16_1 q16_1 => ?_))
    obtain ⟨rfl, rfl⟩ := q16_1
    refine v_if_eq (pc := 19) C 24 (by first | omega | assumption) dX6_setting_19 (by decide) (fun h => absurd h (by decide)) (fun _ => ?_)
    refine v_iconst (pc := 22) C dX6_setting_22 ?_
    exact v_iret (pc := 23) C hr (rfl) dX6_setting_23 (⟨_, rfl, mQ_no (by unfold op_setting; rw [if_pos (by omega)]) (by decide)⟩)

set_option maxHeartbeats 4000000 in
set_option maxRecDepth 100000 in
theorem k2_X6_push {γ : Gm} (G : Glo γ) {σ : St} {w0 s a p u : Int} {t n x f d k i : Int → Int} {v g w : Int} (hv : R3 v) (hg : R3 g) (hw : R3 w) (hW : Wf n) : Ct γ yX6_push cX6_push 4 (some .int) 4 [.ref (bs γ + 255), .int (iI v), .int (iI g), .int (iI w)] (mS σ w0 s a p u t n x f d k i) (pI (fun z σ2 => mQ σ (op_push s a t n d k i v g w) z σ2)) := by
  refine Ct.of G (by decide +kernel) (Nat.le_of_ble_eq_true rfl) (fun φ C hr => ?_)
  have C : Cx γ φ RX6 cX6_push 4 4 := C
  have hn0 := hW.1
  have hn1 := hW.2.1
  have hn4 := hW.2.2.1
  have hn5 := hW.2.2.2.1
  refine v_lv [(0, .ref (bs γ + 255)), (1, .int (iI v)), (2, .int (iI g)), (3, .int (iI w))] [0, 1, 2, 3] rfl ?_
  refine v_aload_n (pc := 0) C 0 rfl dX6_push_0 ?_
  refine v_aload_n (pc := 1) C 0 rfl dX6_push_1 ?_
  refine v_getr (pc := 2) C inX6 goX6 (ci := 4) rfl 3 (by decide) (wF_X6_13 G) rfl sh_255 (257) rfl dX6_push_2 ?_
  refine v_iload_n (pc := 5) C 1 rfl dX6_push_5 ?_
  refine v_st (mS_i257 _ _ _ _ _ _ _ _ _ _ _ _ _ ) ?_
  refine v_cs (pc := 6) (as := [.ref (bs γ + 257), .int (iI v)]) C (cy_X6_isValve G) (wM_X6_44 G) (k_X6_isValve G (⟨sh_257, by decide⟩ : sh 257 = (0, 268) ∧ 268 ≤ 4000) (by first | omega | assumption) (by first | omega | assumption)) dX6_push_6 rfl rfl (by decide) (by decide) (Nat.le_of_ble_eq_true rfl) zc (k_I (fun z6 s6 q6 => ?_))
  rcases q6 with ⟨⟨rfl, q6⟩ | ⟨rfl, q6⟩, rfl⟩
  · rw [mS_o257]
    refine v_if_eq (pc := 9) C 19 (by first | omega | assumption) dX6_push_9 (by decide) (fun h => absurd h (by decide)) (fun _ => ?_)
    refine v_iload_n (pc := 12) C 2 rfl dX6_push_12 ?_
    refine v_cs (pc := 13) (as := [.int (iI g)]) C (cy_X6_isSide G) (wM_X6_106 G) (k_X6_isSide G (by first | omega | assumption)) dX6_push_13 rfl rfl (by decide) (by decide) (Nat.le_of_ble_eq_true rfl) zc (k_I (fun z13 s13 q13 => ?_))
    rcases q13 with ⟨⟨rfl, q13⟩ | ⟨rfl, q13⟩, rfl⟩
    · refine v_if_ne (pc := 16) C 23 (by first | omega | assumption) dX6_push_16 (by decide) (fun _ => ?_) (fun h => absurd h (by decide))
      refine v_iload_n (pc := 23) C 3 rfl dX6_push_23 ?_
      refine v_i2l (pc := 24) C (by first | omega | assumption) dX6_push_24 ?_
      refine v_lconst (pc := 25) C (z := 0) rfl dX6_push_25 ?_
      refine v_lconst (pc := 26) C (z := 1) rfl dX6_push_26 ?_
      refine v_cs (pc := 27) (as := [.long (lI w), .long (lI 0), .long (lI 1)]) C (cy_X6_in G) (wM_X6_40 G) (k_X6_in G (by first | omega | assumption) (by first | omega | assumption) (by first | omega | assumption)) dX6_push_27 rfl rfl (by decide) (by decide) (Nat.le_of_ble_eq_true rfl) zc (k_I (fun z27 s27 q27 => ?_))
      rcases q27 with ⟨⟨rfl, q27⟩ | ⟨rfl, q27⟩, rfl⟩
      · refine v_if_eq (pc := 30) C 37 (by first | omega | assumption) dX6_push_30 (by decide) (fun h => absurd h (by decide)) (fun _ => ?_)
        refine v_iconst (pc := 33) C dX6_push_33 ?_
        refine v_goto (pc := 34) C 38 dX6_push_34 (by decide) ?_
        refine v_cv (pc := 38) (as := [.int (iI 0)]) C (cy_X6_refused G) (wM_X6_124 G) sh_255 (ci := 4) rfl rfl (refN G) dX6_push_38 rfl rfl (by decide) (by decide) (Nat.le_of_ble_eq_true rfl) zc (k_I (fun z38 s38 q38 => ?_))
        obtain ⟨rfl, rfl⟩ := q38
        refine v_if_eq (pc := 41) C 46 (by first | omega | assumption) dX6_push_41 (by decide) (fun _ => ?_) (fun h => absurd h (by decide))
        refine v_iload_n (pc := 46) C 3 rfl dX6_push_46 ?_
        refine v_if_ne (pc := 47) C 64 (by first | omega | assumption) dX6_push_47 (by decide) (fun h47 => ?_) (fun h47 => ?_)
        · refine v_aload_n (pc := 64) C 0 rfl dX6_push_64 ?_
          refine v_getr (pc := 65) C inX6 goX6 (ci := 4) rfl 3 (by decide) (wF_X6_13 G) rfl sh_255 (257) rfl dX6_push_65 ?_
          refine v_iload_n (pc := 68) C 1 rfl dX6_push_68 ?_
          refine v_iload_n (pc := 69) C 2 rfl dX6_push_69 ?_
          refine v_st (mS_i257 _ _ _ _ _ _ _ _ _ _ _ _ _ ) ?_
          refine v_cs (pc := 70) (as := [.ref (bs γ + 257), .int (iI v), .int (iI g)]) C (cy_X6_works G) (wM_X6_69 G) (k_X6_works G (⟨sh_257, by decide⟩ : sh 257 = (0, 268) ∧ 268 ≤ 4000) (k := 5 + g) rfl (by omega) (by omega) (hW.pg (by omega) (by omega)) ⟨by have := hW.su (v := v) (by omega); omega, (hW.su (by omega)).2⟩ (by omega)) dX6_push_70 rfl rfl (by decide) (by decide) (Nat.le_of_ble_eq_true rfl) zc (k_I (fun z70 s70 q70 => ?_))
          rcases q70 with ⟨⟨rfl, q70⟩ | ⟨rfl, q70⟩, rfl⟩
          · rw [mS_o257]
            refine v_if_eq (pc := 73) C 80 (by first | omega | assumption) dX6_push_73 (by decide) (fun h => absurd h (by decide)) (fun _ => ?_)
            refine v_iconst (pc := 76) C dX6_push_76 ?_
            refine v_goto (pc := 77) C 81 dX6_push_77 (by decide) ?_
            exact v_iret (pc := 81) C hr (rfl) dX6_push_81 (⟨_, rfl, mQ_ok (z' := if w = 0 then n (6 + 7 * v + (5 + g)) else if worksR n v (5 + g) then 1 else 0) (by unfold op_push; rw [if_neg (by omega), if_neg (by omega)]) (by first | (rw [if_pos (by omega)]; assumption) | (rw [if_neg (by omega), if_pos (by assumption)]) | (rw [if_neg (by omega), if_neg (by assumption)]))⟩)
          · rw [mS_o257]
            refine v_if_eq (pc := 73) C 80 (by first | omega | assumption) dX6_push_73 (by decide) (fun _ => ?_) (fun h => absurd h (by decide))
            refine v_iconst (pc := 80) C dX6_push_80 ?_
            exact v_iret (pc := 81) C hr (rfl) dX6_push_81 (⟨_, rfl, mQ_ok (z' := if w = 0 then n (6 + 7 * v + (5 + g)) else if worksR n v (5 + g) then 1 else 0) (by unfold op_push; rw [if_neg (by omega), if_neg (by omega)]) (by first | (rw [if_pos (by omega)]; assumption) | (rw [if_neg (by omega), if_pos (by assumption)]) | (rw [if_neg (by omega), if_neg (by assumption)]))⟩)
        · refine v_aload_n (pc := 50) C 0 rfl dX6_push_50 ?_
          refine v_getr (pc := 51) C inX6 goX6 (ci := 4) rfl 3 (by decide) (wF_X6_13 G) rfl sh_255 (257) rfl dX6_push_51 ?_
          refine v_iload_n (pc := 54) C 1 rfl dX6_push_54 ?_
          refine v_iconst (pc := 55) C dX6_push_55 ?_
          refine v_iload_n (pc := 56) C 2 rfl dX6_push_56 ?_
          refine v_iadd (pc := 57) C dX6_push_57 ?_
          refine v_st (mS_i257 _ _ _ _ _ _ _ _ _ _ _ _ _ ) ?_
          refine v_cs (pc := 58) (as := [.ref (bs γ + 257), .int (iI v), .int (iI (5 + g))]) C (cy_X6_of G) (wM_X6_48 G) (k_X6_of G (⟨sh_257, by decide⟩ : sh 257 = (0, 268) ∧ 268 ≤ 4000) (by omega)) dX6_push_58 rfl rfl (by decide) (by decide) (Nat.le_of_ble_eq_true rfl) zc (k_I (fun z58 s58 q58 => ?_))
          obtain ⟨⟨ez58, rz58⟩, rfl⟩ := q58
          rw [mS_o257]
          refine v_goto (pc := 61) C 81 dX6_push_61 (by decide) ?_
          exact v_iret (pc := 81) C hr (rfl) dX6_push_81 (⟨_, rfl, mQ_ok (z' := if w = 0 then n (6 + 7 * v + (5 + g)) else if worksR n v (5 + g) then 1 else 0) (by unfold op_push; rw [if_neg (by omega), if_neg (by omega)]) (by first | (rw [if_pos (by omega)]; assumption) | (rw [if_neg (by omega), if_pos (by assumption)]) | (rw [if_neg (by omega), if_neg (by assumption)]))⟩)
      · refine v_if_eq (pc := 30) C 37 (by first | omega | assumption) dX6_push_30 (by decide) (fun _ => ?_) (fun h => absurd h (by decide))
        refine v_iconst (pc := 37) C dX6_push_37 ?_
        refine v_cv (pc := 38) (as := [.int (iI 2)]) C (cy_X6_refused G) (wM_X6_124 G) sh_255 (ci := 4) rfl rfl (refY G (by decide)) dX6_push_38 rfl rfl (by decide) (by decide) (Nat.le_of_ble_eq_true rfl) zc (k_I (fun z38_1 s38_1 q38_1 => ?_))
        obtain ⟨rfl, rfl⟩ := q38_1
        refine v_if_eq (pc := 41) C 46 (by first | omega | assumption) dX6_push_41 (by decide) (fun h => absurd h (by decide)) (fun _ => ?_)
        refine v_iconst (pc := 44) C dX6_push_44 ?_
        exact v_iret (pc := 45) C hr (rfl) dX6_push_45 (⟨_, rfl, mQ_no (by unfold op_push; rw [if_neg (by omega), if_pos (by omega)]) (by decide)⟩)
    · refine v_if_ne (pc := 16) C 23 (by first | omega | assumption) dX6_push_16 (by decide) (fun h => absurd h (by decide)) (fun _ => ?_)
      refine v_iconst (pc := 19) C dX6_push_19 ?_
      refine v_goto (pc := 20) C 38 dX6_push_20 (by decide) ?_
      refine v_cv (pc := 38) (as := [.int (iI 1)]) C (cy_X6_refused G) (wM_X6_124 G) sh_255 (ci := 4) rfl rfl (refY G (by decide)) dX6_push_38 rfl rfl (by decide) (by decide) (Nat.le_of_ble_eq_true rfl) zc (k_I (fun z38_2 s38_2 q38_2 => ?_))
      obtain ⟨rfl, rfl⟩ := q38_2
      refine v_if_eq (pc := 41) C 46 (by first | omega | assumption) dX6_push_41 (by decide) (fun h => absurd h (by decide)) (fun _ => ?_)
      refine v_iconst (pc := 44) C dX6_push_44 ?_
      exact v_iret (pc := 45) C hr (rfl) dX6_push_45 (⟨_, rfl, mQ_no (by unfold op_push; rw [if_pos (by omega)]) (by decide)⟩)
  · rw [mS_o257]
    refine v_if_eq (pc := 9) C 19 (by first | omega | assumption) dX6_push_9 (by decide) (fun _ => ?_) (fun h => absurd h (by decide))
    refine v_iconst (pc := 19) C dX6_push_19 ?_
    refine v_goto (pc := 20) C 38 dX6_push_20 (by decide) ?_
    refine v_cv (pc := 38) (as := [.int (iI 1)]) C (cy_X6_refused G) (wM_X6_124 G) sh_255 (ci := 4) rfl rfl (refY G (by decide)) dX6_push_38 rfl rfl (by decide) (by decide) (Nat.le_of_ble_eq_true rfl) zc (k_I (fun z38_3 s38_3 q38_3 => ?_))
    obtain ⟨rfl, rfl⟩ := q38_3
    refine v_if_eq (pc := 41) C 46 (by first | omega | assumption) dX6_push_41 (by decide) (fun h => absurd h (by decide)) (fun _ => ?_)
    refine v_iconst (pc := 44) C dX6_push_44 ?_
    exact v_iret (pc := 45) C hr (rfl) dX6_push_45 (⟨_, rfl, mQ_no (by unfold op_push; rw [if_pos (by omega)]) (by decide)⟩)

set_option maxHeartbeats 4000000 in
set_option maxRecDepth 100000 in
theorem k2_X6_about {γ : Gm} (G : Glo γ) {σ : St} {w0 s a p u : Int} {t n x f d k i : Int → Int} {w : Int} (hw : R3 w) (hW : Wf n) : Ct γ yX6_about cX6_about 4 (some .int) 4 [.ref (bs γ + 255), .int (iI w)] (mS σ w0 s a p u t n x f d k i) (pI (fun z σ2 => mQ σ (op_about s a t n d k i w) z σ2)) := by
  refine Ct.of G (by decide +kernel) (Nat.le_of_ble_eq_true rfl) (fun φ C hr => ?_)
  have C : Cx γ φ RX6 cX6_about 4 4 := C
  have hn0 := hW.1
  have hn1 := hW.2.1
  have hn4 := hW.2.2.1
  have hn5 := hW.2.2.2.1
  refine v_lv [(0, .ref (bs γ + 255)), (1, .int (iI w))] [0, 1] rfl ?_
  refine v_aload_n (pc := 0) C 0 rfl dX6_about_0 ?_
  refine v_iload_n (pc := 1) C 1 rfl dX6_about_1 ?_
  refine v_i2l (pc := 2) C (by first | omega | assumption) dX6_about_2 ?_
  refine v_lconst (pc := 3) C (z := 0) rfl dX6_about_3 ?_
  refine v_ldc2 (pc := 4) C (wCL_X6_114 G) dX6_about_4 ?_
  refine v_cs (pc := 7) (as := [.long (lI w), .long (lI 0), .long (lI 6)]) C (cy_X6_in G) (wM_X6_40 G) (k_X6_in G (by first | omega | assumption) (by first | omega | assumption) (by first | omega | assumption)) dX6_about_7 rfl rfl (by decide) (by decide) (Nat.le_of_ble_eq_true rfl) zc (k_I (fun z7 s7 q7 => ?_))
  rcases q7 with ⟨⟨rfl, q7⟩ | ⟨rfl, q7⟩, rfl⟩
  · refine v_if_eq (pc := 10) C 17 (by first | omega | assumption) dX6_about_10 (by decide) (fun h => absurd h (by decide)) (fun _ => ?_)
    refine v_iconst (pc := 13) C dX6_about_13 ?_
    refine v_goto (pc := 14) C 18 dX6_about_14 (by decide) ?_
    refine v_cv (pc := 18) (as := [.int (iI 0)]) C (cy_X6_refused G) (wM_X6_124 G) sh_255 (ci := 4) rfl rfl (refN G) dX6_about_18 rfl rfl (by decide) (by decide) (Nat.le_of_ble_eq_true rfl) zc (k_I (fun z18 s18 q18 => ?_))
    obtain ⟨rfl, rfl⟩ := q18
    refine v_if_eq (pc := 21) C 26 (by first | omega | assumption) dX6_about_21 (by decide) (fun _ => ?_) (fun h => absurd h (by decide))
    refine v_iconst (pc := 26) C dX6_about_26 ?_
    refine v_istore_n (pc := 27) C [(2, .int (iI 0)), (0, .ref (bs γ + 255)), (1, .int (iI w))] dX6_about_27 rfl (by decide) rfl ?_
    refine v_iload_n (pc := 28) C 2 rfl dX6_about_28 ?_
    by_cases hs29 : 3 ≤ w ∧ w ≤ 6
    · have hs29 : w = 3 ∨ w = 4 ∨ w = 5 ∨ w = 6 := by omega
      rcases hs29 with hs29 | hs29 | hs29 | hs29
      · refine v_tabIn (pc := 29) C 60 (by first | omega | assumption) dX6_about_29 (by omega) (by rw [hs29]; rfl) (by decide) ?_
        refine v_aload_n (pc := 60) C 1 rfl dX6_about_60 ?_
        refine v_getr (pc := 61) C inX6 goX6 (ci := 4) rfl 3 (by decide) (wF_X6_13 G) rfl sh_255 (257) rfl dX6_about_61 ?_
        refine v_st (mS_i257 _ _ _ _ _ _ _ _ _ _ _ _ _ ) ?_
        refine v_cs (pc := 64) (as := [.ref (bs γ + 257)]) C (cy_X6_livelyLegs G) (wM_X6_183 G) (k_X6_livelyLegs G (⟨sh_257, by decide⟩ : sh 257 = (0, 268) ∧ 268 ≤ 4000) ‹_›) dX6_about_64 rfl rfl (by decide) (by decide) (Nat.le_of_ble_eq_true rfl) zc (k_I (fun z64 s64 q64 => ?_))
        obtain ⟨ez64, rfl⟩ := q64
        rw [mS_o257]
        exact v_iret (pc := 67) C hr (rfl) dX6_about_67 (⟨_, rfl, mQ_ok (z' := aboutR n w) (by unfold op_about; rw [if_neg (by omega)]) (by unfold aboutR; (repeat' split) <;> first | omega | (exfalso; omega) | assumption | (rw [show j = (n 0).toNat by omega]))⟩)
      · refine v_tabIn (pc := 29) C 68 (by first | omega | assumption) dX6_about_29 (by omega) (by rw [hs29]; rfl) (by decide) ?_
        refine v_aload_n (pc := 68) C 1 rfl dX6_about_68 ?_
        refine v_getr (pc := 69) C inX6 goX6 (ci := 4) rfl 3 (by decide) (wF_X6_13 G) rfl sh_255 (257) rfl dX6_about_69 ?_
        refine v_st (mS_i257 _ _ _ _ _ _ _ _ _ _ _ _ _ ) ?_
        refine v_cs (pc := 72) (as := [.ref (bs γ + 257)]) C (cy_X6_allPressures G) (wM_X6_186 G) (k_X6_allPressures G (⟨sh_257, by decide⟩ : sh 257 = (0, 268) ∧ 268 ≤ 4000) ‹_›) dX6_about_72 rfl rfl (by decide) (by decide) (Nat.le_of_ble_eq_true rfl) zc (k_I (fun z72 s72 q72 => ?_))
        obtain ⟨ez72, rfl⟩ := q72
        rw [mS_o257]
        exact v_iret (pc := 75) C hr (rfl) dX6_about_75 (⟨_, rfl, mQ_ok (z' := aboutR n w) (by unfold op_about; rw [if_neg (by omega)]) (by unfold aboutR; (repeat' split) <;> first | omega | (exfalso; omega) | assumption | (rw [show j = (n 0).toNat by omega]))⟩)
      · refine v_tabIn (pc := 29) C 76 (by first | omega | assumption) dX6_about_29 (by omega) (by rw [hs29]; rfl) (by decide) ?_
        refine v_iconst (pc := 76) C dX6_about_76 ?_
        refine v_istore_n (pc := 77) C [(3, .int (iI 0)), (2, .int (iI 0)), (0, .ref (bs γ + 255)), (1, .int (iI w))] dX6_about_77 rfl (by decide) rfl ?_
        have L78 : ∀ (fu : Nat) (j : Nat), (hj : (j : Int) ≤ n 0) → (n 0).toNat - j < fu → Vw γ φ 4 0 0 (QE γ φ (pI (fun z σ2 => mQ σ (op_about s a t n d k i w) z σ2))) (mS σ 0 s a p u t n x f d k i) 78 [(3, .int (iI (j : Int))), (2, .int (iI (keysR n j))), (1, .int (iI w)), (0, .ref (bs γ + 255))] [] := by
          intro fu
          induction fu with
          | zero => intro j hj hz; exact absurd hz (Nat.not_lt_zero _)
          | succ fu ih =>
            intro j hj hz
            refine v_iload_n (pc := 78) C 0 rfl dX6_about_78 ?_
            refine v_aload_n (pc := 79) C 3 rfl dX6_about_79 ?_
            refine v_getr (pc := 80) C inX6 goX6 (ci := 4) rfl 3 (by decide) (wF_X6_13 G) rfl sh_255 (257) rfl dX6_about_80 ?_
            refine v_iconst (pc := 83) C dX6_about_83 ?_
            refine v_iald (pc := 84) C sh_257 (by decide) (by first | omega | assumption) dX6_about_84 (fun z84 ez84 rz84 => ?_)
            rw [mS_n] at ez84
            refine v_icmp_ge (pc := 85) C 128 (by first | omega | assumption) (by first | omega | assumption) dX6_about_85 (by decide) (fun h85 => ?_) (fun h85 => ?_)
            · refine v_iload_n (pc := 128) C 1 rfl dX6_about_128 ?_
              exact v_iret (pc := 129) C hr (rfl) dX6_about_129 (⟨_, rfl, mQ_ok (z' := aboutR n w) (by unfold op_about; rw [if_neg (by omega)]) (by unfold aboutR; (repeat' split) <;> first | omega | (exfalso; omega) | assumption | (rw [show j = (n 0).toNat by omega]))⟩)
            · refine v_iload_n (pc := 88) C 1 rfl dX6_about_88 ?_
              refine v_aload_n (pc := 89) C 3 rfl dX6_about_89 ?_
              refine v_getr (pc := 90) C inX6 goX6 (ci := 4) rfl 3 (by decide) (wF_X6_13 G) rfl sh_255 (257) rfl dX6_about_90 ?_
              refine v_iload_n (pc := 93) C 0 rfl dX6_about_93 ?_
              refine v_st (mS_i257 _ _ _ _ _ _ _ _ _ _ _ _ _ ) ?_
              refine v_cs (pc := 94) (as := [.ref (bs γ + 257), .int (iI (j : Int))]) C (cy_X6_isKey G) (wM_X6_160 G) (k_X6_isKey G (⟨sh_257, by decide⟩ : sh 257 = (0, 268) ∧ 268 ≤ 4000) (by first | omega | assumption) (by first | omega | assumption)) dX6_about_94 rfl rfl (by decide) (by decide) (Nat.le_of_ble_eq_true rfl) zc (k_I (fun z94 s94 q94 => ?_))
              rcases q94 with ⟨⟨rfl, q94⟩ | ⟨rfl, q94⟩, rfl⟩
              · rw [mS_o257]
                refine v_if_eq (pc := 97) C 119 (by first | omega | assumption) dX6_about_97 (by decide) (fun h => absurd h (by decide)) (fun _ => ?_)
                refine v_aload_n (pc := 100) C 3 rfl dX6_about_100 ?_
                refine v_getr (pc := 101) C inX6 goX6 (ci := 4) rfl 3 (by decide) (wF_X6_13 G) rfl sh_255 (257) rfl dX6_about_101 ?_
                refine v_iload_n (pc := 104) C 0 rfl dX6_about_104 ?_
                refine v_iconst (pc := 105) C dX6_about_105 ?_
                refine v_st (mS_i257 _ _ _ _ _ _ _ _ _ _ _ _ _ ) ?_
                refine v_cs (pc := 106) (as := [.ref (bs γ + 257), .int (iI (j : Int)), .int (iI 2)]) C (cy_X6_of G) (wM_X6_48 G) (k_X6_of G (⟨sh_257, by decide⟩ : sh 257 = (0, 268) ∧ 268 ≤ 4000) (by omega)) dX6_about_106 rfl rfl (by decide) (by decide) (Nat.le_of_ble_eq_true rfl) zc (k_I (fun z106 s106 q106 => ?_))
                obtain ⟨⟨ez106, rz106⟩, rfl⟩ := q106
                rw [mS_o257]
                refine v_iconst (pc := 109) C dX6_about_109 ?_
                refine v_icmp_ne (pc := 110) C 119 (by first | omega | assumption) (by first | omega | assumption) dX6_about_110 (by decide) (fun h110 => ?_) (fun h110 => ?_)
                · refine v_iconst (pc := 119) C dX6_about_119 ?_
                  refine v_ior (pc := 120) C dX6_about_120 ?_
                  refine v_istore_n (pc := 121) C [(2, .int (iI (iOr (keysR n j) 0))), (3, .int (iI (j : Int))), (1, .int (iI w)), (0, .ref (bs γ + 255))] dX6_about_121 rfl (by decide) rfl ?_
                  refine v_iinc (pc := 122) C 1 [(3, .int (iI ((j : Int) + 1))), (2, .int (iI (iOr (keysR n j) 0))), (1, .int (iI w)), (0, .ref (bs γ + 255))] dX6_about_122 rfl (by decide) rfl ?_
                  refine v_goto (pc := 125) C 78 dX6_about_125 (by decide) ?_
                  exact v_lv _ [0, 1, 2, 3] (by rw [show keysR n (j + 1) = iOr (keysR n j) 0 from by rw [keysR]; first | rw [if_pos (by omega)] | rw [if_neg (by omega)]]; rfl) (ih (j + 1) (by omega) (by omega))
                · refine v_iconst (pc := 113) C dX6_about_113 ?_
                  refine v_iload_n (pc := 114) C 0 rfl dX6_about_114 ?_
                  refine v_ishl (pc := 115) C dX6_about_115 ?_
                  refine v_goto (pc := 116) C 120 dX6_about_116 (by decide) ?_
                  refine v_ior (pc := 120) C dX6_about_120 ?_
                  refine v_istore_n (pc := 121) C [(2, .int (iI (iOr (keysR n j) (iShl 1 (j : Int))))), (3, .int (iI (j : Int))), (1, .int (iI w)), (0, .ref (bs γ + 255))] dX6_about_121 rfl (by decide) rfl ?_
                  refine v_iinc (pc := 122) C 1 [(3, .int (iI ((j : Int) + 1))), (2, .int (iI (iOr (keysR n j) (iShl 1 (j : Int))))), (1, .int (iI w)), (0, .ref (bs γ + 255))] dX6_about_122 rfl (by decide) rfl ?_
                  refine v_goto (pc := 125) C 78 dX6_about_125 (by decide) ?_
                  exact v_lv _ [0, 1, 2, 3] (by rw [show keysR n (j + 1) = iOr (keysR n j) (iShl 1 (j : Int)) from by rw [keysR]; first | rw [if_pos (by omega)] | rw [if_neg (by omega)]]; rfl) (ih (j + 1) (by omega) (by omega))
              · rw [mS_o257]
                refine v_if_eq (pc := 97) C 119 (by first | omega | assumption) dX6_about_97 (by decide) (fun _ => ?_) (fun h => absurd h (by decide))
                refine v_iconst (pc := 119) C dX6_about_119 ?_
                refine v_ior (pc := 120) C dX6_about_120 ?_
                refine v_istore_n (pc := 121) C [(2, .int (iI (iOr (keysR n j) 0))), (3, .int (iI (j : Int))), (1, .int (iI w)), (0, .ref (bs γ + 255))] dX6_about_121 rfl (by decide) rfl ?_
                refine v_iinc (pc := 122) C 1 [(3, .int (iI ((j : Int) + 1))), (2, .int (iI (iOr (keysR n j) 0))), (1, .int (iI w)), (0, .ref (bs γ + 255))] dX6_about_122 rfl (by decide) rfl ?_
                refine v_goto (pc := 125) C 78 dX6_about_125 (by decide) ?_
                exact v_lv _ [0, 1, 2, 3] (by rw [show keysR n (j + 1) = iOr (keysR n j) 0 from by rw [keysR]; first | rw [if_pos (by omega)] | rw [if_neg (by omega)]]; rfl) (ih (j + 1) (by omega) (by omega))
        exact v_lv _ [0, 1, 3, 2] rfl (L78 ((n 0).toNat + 1) 0 (by omega) (by omega))
      · refine v_tabIn (pc := 29) C 130 (by first | omega | assumption) dX6_about_29 (by omega) (by rw [hs29]; rfl) (by decide) ?_
        refine v_aload_n (pc := 130) C 1 rfl dX6_about_130 ?_
        refine v_getr (pc := 131) C inX6 goX6 (ci := 4) rfl 3 (by decide) (wF_X6_13 G) rfl sh_255 (257) rfl dX6_about_131 ?_
        refine v_iconst (pc := 134) C dX6_about_134 ?_
        refine v_iald (pc := 135) C sh_257 (by decide) (by first | omega | assumption) dX6_about_135 (fun z135 ez135 rz135 => ?_)
        rw [mS_n] at ez135
        exact v_iret (pc := 136) C hr (rfl) dX6_about_136 (⟨_, rfl, mQ_ok (z' := aboutR n w) (by unfold op_about; rw [if_neg (by omega)]) (by unfold aboutR; (repeat' split) <;> first | omega | (exfalso; omega) | assumption | (rw [show j = (n 0).toNat by omega]))⟩)
    · refine v_tabOut (pc := 29) C 137 (by first | omega | assumption) dX6_about_29 (by omega) (by decide) ?_
      refine v_aload_n (pc := 137) C 1 rfl dX6_about_137 ?_
      refine v_getr (pc := 138) C inX6 goX6 (ci := 4) rfl 3 (by decide) (wF_X6_13 G) rfl sh_255 (257) rfl dX6_about_138 ?_
      refine v_iload_n (pc := 141) C 2 rfl dX6_about_141 ?_
      refine v_iald (pc := 142) C sh_257 (by decide) (by first | omega | assumption) dX6_about_142 (fun z142 ez142 rz142 => ?_)
      rw [mS_n] at ez142
      exact v_iret (pc := 143) C hr (rfl) dX6_about_143 (⟨_, rfl, mQ_ok (z' := aboutR n w) (by unfold op_about; rw [if_neg (by omega)]) (by unfold aboutR; (repeat' split) <;> first | omega | (exfalso; omega) | assumption | (rw [show j = (n 0).toNat by omega]))⟩)
  · refine v_if_eq (pc := 10) C 17 (by first | omega | assumption) dX6_about_10 (by decide) (fun _ => ?_) (fun h => absurd h (by decide))
    refine v_iconst (pc := 17) C dX6_about_17 ?_
    refine v_cv (pc := 18) (as := [.int (iI 1)]) C (cy_X6_refused G) (wM_X6_124 G) sh_255 (ci := 4) rfl rfl (refY G (by decide)) dX6_about_18 rfl rfl (by decide) (by decide) (Nat.le_of_ble_eq_true rfl) zc (k_I (fun z18_1 s18_1 q18_1 => ?_))
    obtain ⟨rfl, rfl⟩ := q18_1
    refine v_if_eq (pc := 21) C 26 (by first | omega | assumption) dX6_about_21 (by decide) (fun h => absurd h (by decide)) (fun _ => ?_)
    refine v_iconst (pc := 24) C dX6_about_24 ?_
    exact v_iret (pc := 25) C hr (rfl) dX6_about_25 (⟨_, rfl, mQ_no (by unfold op_about; rw [if_pos (by omega)]) (by decide)⟩)

set_option maxHeartbeats 4000000 in
set_option maxRecDepth 100000 in
theorem k2_X6_valveOf {γ : Gm} (G : Glo γ) {σ : St} {w0 s a p u : Int} {t n x f d k i : Int → Int} {v w : Int} (hv : R3 v) (hw : R3 w) (hW : Wf n) : Ct γ yX6_valveOf cX6_valveOf 5 (some .int) 3 [.ref (bs γ + 255), .int (iI v), .int (iI w)] (mS σ w0 s a p u t n x f d k i) (pI (fun z σ2 => mQ σ (op_valveOf s a t n d k i v w) z σ2)) := by
  refine Ct.of G (by decide +kernel) (Nat.le_of_ble_eq_true rfl) (fun φ C hr => ?_)
  have C : Cx γ φ RX6 cX6_valveOf 5 3 := C
  have hn0 := hW.1
  have hn1 := hW.2.1
  have hn4 := hW.2.2.1
  have hn5 := hW.2.2.2.1
  refine v_lv [(0, .ref (bs γ + 255)), (1, .int (iI v)), (2, .int (iI w))] [0, 1, 2] rfl ?_
  refine v_aload_n (pc := 0) C 0 rfl dX6_valveOf_0 ?_
  refine v_aload_n (pc := 1) C 0 rfl dX6_valveOf_1 ?_
  refine v_getr (pc := 2) C inX6 goX6 (ci := 4) rfl 3 (by decide) (wF_X6_13 G) rfl sh_255 (257) rfl dX6_valveOf_2 ?_
  refine v_iload_n (pc := 5) C 1 rfl dX6_valveOf_5 ?_
  refine v_st (mS_i257 _ _ _ _ _ _ _ _ _ _ _ _ _ ) ?_
  refine v_cs (pc := 6) (as := [.ref (bs γ + 257), .int (iI v)]) C (cy_X6_isValve G) (wM_X6_44 G) (k_X6_isValve G (⟨sh_257, by decide⟩ : sh 257 = (0, 268) ∧ 268 ≤ 4000) (by first | omega | assumption) (by first | omega | assumption)) dX6_valveOf_6 rfl rfl (by decide) (by decide) (Nat.le_of_ble_eq_true rfl) zc (k_I (fun z6 s6 q6 => ?_))
  rcases q6 with ⟨⟨rfl, q6⟩ | ⟨rfl, q6⟩, rfl⟩
  · rw [mS_o257]
    refine v_if_ne (pc := 9) C 16 (by first | omega | assumption) dX6_valveOf_9 (by decide) (fun _ => ?_) (fun h => absurd h (by decide))
    refine v_iload_n (pc := 16) C 2 rfl dX6_valveOf_16 ?_
    refine v_i2l (pc := 17) C (by first | omega | assumption) dX6_valveOf_17 ?_
    refine v_lconst (pc := 18) C (z := 0) rfl dX6_valveOf_18 ?_
    refine v_ldc2 (pc := 19) C (wCL_X6_100 G) dX6_valveOf_19 ?_
    refine v_cs (pc := 22) (as := [.long (lI w), .long (lI 0), .long (lI 4)]) C (cy_X6_in G) (wM_X6_40 G) (k_X6_in G (by first | omega | assumption) (by first | omega | assumption) (by first | omega | assumption)) dX6_valveOf_22 rfl rfl (by decide) (by decide) (Nat.le_of_ble_eq_true rfl) zc (k_I (fun z22 s22 q22 => ?_))
    rcases q22 with ⟨⟨rfl, q22⟩ | ⟨rfl, q22⟩, rfl⟩
    · refine v_if_eq (pc := 25) C 32 (by first | omega | assumption) dX6_valveOf_25 (by decide) (fun h => absurd h (by decide)) (fun _ => ?_)
      refine v_iconst (pc := 28) C dX6_valveOf_28 ?_
      refine v_goto (pc := 29) C 33 dX6_valveOf_29 (by decide) ?_
      refine v_cv (pc := 33) (as := [.int (iI 0)]) C (cy_X6_refused G) (wM_X6_124 G) sh_255 (ci := 4) rfl rfl (refN G) dX6_valveOf_33 rfl rfl (by decide) (by decide) (Nat.le_of_ble_eq_true rfl) zc (k_I (fun z33 s33 q33 => ?_))
      obtain ⟨rfl, rfl⟩ := q33
      refine v_if_eq (pc := 36) C 41 (by first | omega | assumption) dX6_valveOf_36 (by decide) (fun _ => ?_) (fun h => absurd h (by decide))
      obtain ⟨E, hE⟩ : ∃ E : Int, E = (if w = 3 then 0 else 2) := ⟨_, rfl⟩
      refine v_iconst (pc := 41) C dX6_valveOf_41 ?_
      refine v_istore_n (pc := 42) C [(3, .int (iI 0)), (0, .ref (bs γ + 255)), (1, .int (iI v)), (2, .int (iI w))] dX6_valveOf_42 rfl (by decide) rfl ?_
      refine v_iconst (pc := 43) C dX6_valveOf_43 ?_
      refine v_istore (pc := 44) C [(4, .int (iI 0)), (3, .int (iI 0)), (0, .ref (bs γ + 255)), (1, .int (iI v)), (2, .int (iI w))] dX6_valveOf_44 (by decide) rfl ?_
      have L46 : ∀ (fu : Nat) (j : Nat), (hj : (j : Int) ≤ n 1) → (n 1).toNat - j < fu → Vw γ φ 5 0 0 (QE γ φ (pI (fun z σ2 => mQ σ (op_valveOf s a t n d k i v w) z σ2))) (mS σ 0 s a p u t n x f d k i) 46 [(4, .int (iI (j : Int))), (3, .int (iI (cntR n v E j))), (2, .int (iI w)), (1, .int (iI v)), (0, .ref (bs γ + 255))] [] := by
        intro fu
        induction fu with
        | zero => intro j hj hz; exact absurd hz (Nat.not_lt_zero _)
        | succ fu ih =>
          intro j hj hz
          have hcb := cntR_b n v E j
          refine v_iload (pc := 46) C 0 rfl dX6_valveOf_46 ?_
          refine v_aload_n (pc := 48) C 4 rfl dX6_valveOf_48 ?_
          refine v_getr (pc := 49) C inX6 goX6 (ci := 4) rfl 3 (by decide) (wF_X6_13 G) rfl sh_255 (257) rfl dX6_valveOf_49 ?_
          refine v_iconst (pc := 52) C dX6_valveOf_52 ?_
          refine v_iald (pc := 53) C sh_257 (by decide) (by first | omega | assumption) dX6_valveOf_53 (fun z53 ez53 rz53 => ?_)
          rw [mS_n] at ez53
          refine v_icmp_ge (pc := 54) C 94 (by first | omega | assumption) (by first | omega | assumption) dX6_valveOf_54 (by decide) (fun h54 => ?_) (fun h54 => ?_)
          · refine v_iload_n (pc := 94) C 2 rfl dX6_valveOf_94 ?_
            refine v_iconst (pc := 95) C dX6_valveOf_95 ?_
            refine v_icmp_ge (pc := 96) C 111 (by first | omega | assumption) (by first | omega | assumption) dX6_valveOf_96 (by decide) (fun h96 => ?_) (fun h96 => ?_)
            · refine v_iload_n (pc := 111) C 1 rfl dX6_valveOf_111 ?_
              exact v_iret (pc := 112) C hr (rfl) dX6_valveOf_112 (⟨_, rfl, mQ_ok (z' := valveOfR n v w) (by unfold op_valveOf; rw [if_neg (by omega), if_neg (by omega)]) (by unfold valveOfR; first | (rw [if_pos (by omega)]; assumption) | (rw [if_neg (by omega), ← hE, show j = (n 1).toNat by omega]))⟩)
            · refine v_aload_n (pc := 99) C 4 rfl dX6_valveOf_99 ?_
              refine v_getr (pc := 100) C inX6 goX6 (ci := 4) rfl 3 (by decide) (wF_X6_13 G) rfl sh_255 (257) rfl dX6_valveOf_100 ?_
              refine v_iload_n (pc := 103) C 3 rfl dX6_valveOf_103 ?_
              refine v_iload_n (pc := 104) C 2 rfl dX6_valveOf_104 ?_
              refine v_st (mS_i257 _ _ _ _ _ _ _ _ _ _ _ _ _ ) ?_
              refine v_cs (pc := 105) (as := [.ref (bs γ + 257), .int (iI v), .int (iI w)]) C (cy_X6_of G) (wM_X6_48 G) (k_X6_of G (⟨sh_257, by decide⟩ : sh 257 = (0, 268) ∧ 268 ≤ 4000) (by omega)) dX6_valveOf_105 rfl rfl (by decide) (by decide) (Nat.le_of_ble_eq_true rfl) zc (k_I (fun z105 s105 q105 => ?_))
              obtain ⟨⟨ez105, rz105⟩, rfl⟩ := q105
              rw [mS_o257]
              refine v_goto (pc := 108) C 112 dX6_valveOf_108 (by decide) ?_
              exact v_iret (pc := 112) C hr (rfl) dX6_valveOf_112 (⟨_, rfl, mQ_ok (z' := valveOfR n v w) (by unfold op_valveOf; rw [if_neg (by omega), if_neg (by omega)]) (by unfold valveOfR; first | (rw [if_pos (by omega)]; assumption) | (rw [if_neg (by omega), ← hE, show j = (n 1).toNat by omega]))⟩)
          · refine v_iload_n (pc := 57) C 1 rfl dX6_valveOf_57 ?_
            refine v_aload_n (pc := 58) C 4 rfl dX6_valveOf_58 ?_
            refine v_getr (pc := 59) C inX6 goX6 (ci := 4) rfl 3 (by decide) (wF_X6_13 G) rfl sh_255 (257) rfl dX6_valveOf_59 ?_
            refine v_iload (pc := 62) C 0 rfl dX6_valveOf_62 ?_
            refine v_iload_n (pc := 64) C 2 rfl dX6_valveOf_64 ?_
            refine v_iconst (pc := 65) C dX6_valveOf_65 ?_
            refine v_icmp_ne (pc := 66) C 73 (by first | omega | assumption) (by first | omega | assumption) dX6_valveOf_66 (by decide) (fun h66 => ?_) (fun h66 => ?_)
            · have hE2 : E = 2 := by rw [hE, if_neg (by omega)]
              refine v_iconst (pc := 73) C dX6_valveOf_73 ?_
              refine v_st (mS_i257 _ _ _ _ _ _ _ _ _ _ _ _ _ ) ?_
              refine v_cs (pc := 74) (as := [.ref (bs γ + 257), .int (iI (j : Int)), .int (iI 2)]) C (cy_X6_ofDuct G) (wM_X6_62 G) (k_X6_ofDuct G (⟨sh_257, by decide⟩ : sh 257 = (0, 268) ∧ 268 ≤ 4000) (by omega)) dX6_valveOf_74 rfl rfl (by decide) (by decide) (Nat.le_of_ble_eq_true rfl) zc (k_I (fun z74 s74 q74 => ?_))
              obtain ⟨⟨ez74, rz74⟩, rfl⟩ := q74
              rw [mS_o257]
              refine v_iload_n (pc := 77) C 3 rfl dX6_valveOf_77 ?_
              refine v_icmp_ne (pc := 78) C 85 (by first | omega | assumption) (by first | omega | assumption) dX6_valveOf_78 (by decide) (fun h78 => ?_) (fun h78 => ?_)
              · refine v_iconst (pc := 85) C dX6_valveOf_85 ?_
                refine v_iadd (pc := 86) C dX6_valveOf_86 ?_
                refine v_istore_n (pc := 87) C [(3, .int (iI ((cntR n v E j) + 0))), (4, .int (iI (j : Int))), (2, .int (iI w)), (1, .int (iI v)), (0, .ref (bs γ + 255))] dX6_valveOf_87 rfl (by decide) rfl ?_
                refine v_iinc (pc := 88) C 1 [(4, .int (iI ((j : Int) + 1))), (3, .int (iI ((cntR n v E j) + 0))), (2, .int (iI w)), (1, .int (iI v)), (0, .ref (bs γ + 255))] dX6_valveOf_88 rfl (by decide) rfl ?_
                refine v_goto (pc := 91) C 46 dX6_valveOf_91 (by decide) ?_
                exact v_lv _ [0, 1, 2, 3, 4] (by rw [show cntR n v E (j + 1) = (cntR n v E j) + 0 from by rw [cntR]; subst hE2; first | rw [if_pos (by omega)] | rw [if_neg (by omega)]]; rfl) (ih (j + 1) (by omega) (by omega))
              · refine v_iconst (pc := 81) C dX6_valveOf_81 ?_
                refine v_goto (pc := 82) C 86 dX6_valveOf_82 (by decide) ?_
                refine v_iadd (pc := 86) C dX6_valveOf_86 ?_
                refine v_istore_n (pc := 87) C [(3, .int (iI ((cntR n v E j) + 1))), (4, .int (iI (j : Int))), (2, .int (iI w)), (1, .int (iI v)), (0, .ref (bs γ + 255))] dX6_valveOf_87 rfl (by decide) rfl ?_
                refine v_iinc (pc := 88) C 1 [(4, .int (iI ((j : Int) + 1))), (3, .int (iI ((cntR n v E j) + 1))), (2, .int (iI w)), (1, .int (iI v)), (0, .ref (bs γ + 255))] dX6_valveOf_88 rfl (by decide) rfl ?_
                refine v_goto (pc := 91) C 46 dX6_valveOf_91 (by decide) ?_
                exact v_lv _ [0, 1, 2, 3, 4] (by rw [show cntR n v E (j + 1) = (cntR n v E j) + 1 from by rw [cntR]; subst hE2; first | rw [if_pos (by omega)] | rw [if_neg (by omega)]]; rfl) (ih (j + 1) (by omega) (by omega))
            · have hE2 : E = 0 := by rw [hE, if_pos (by omega)]
              refine v_iconst (pc := 69) C dX6_valveOf_69 ?_
              refine v_goto (pc := 70) C 74 dX6_valveOf_70 (by decide) ?_
              refine v_st (mS_i257 _ _ _ _ _ _ _ _ _ _ _ _ _ ) ?_
              refine v_cs (pc := 74) (as := [.ref (bs γ + 257), .int (iI (j : Int)), .int (iI 0)]) C (cy_X6_ofDuct G) (wM_X6_62 G) (k_X6_ofDuct G (⟨sh_257, by decide⟩ : sh 257 = (0, 268) ∧ 268 ≤ 4000) (by omega)) dX6_valveOf_74 rfl rfl (by decide) (by decide) (Nat.le_of_ble_eq_true rfl) zc (k_I (fun z74_1 s74_1 q74_1 => ?_))
              obtain ⟨⟨ez74_1, rz74_1⟩, rfl⟩ := q74_1
              rw [mS_o257]
              refine v_iload_n (pc := 77) C 3 rfl dX6_valveOf_77 ?_
              refine v_icmp_ne (pc := 78) C 85 (by first | omega | assumption) (by first | omega | assumption) dX6_valveOf_78 (by decide) (fun h78_1 => ?_) (fun h78_1 => ?_)
              · refine v_iconst (pc := 85) C dX6_valveOf_85 ?_
                refine v_iadd (pc := 86) C dX6_valveOf_86 ?_
                refine v_istore_n (pc := 87) C [(3, .int (iI ((cntR n v E j) + 0))), (4, .int (iI (j : Int))), (2, .int (iI w)), (1, .int (iI v)), (0, .ref (bs γ + 255))] dX6_valveOf_87 rfl (by decide) rfl ?_
                refine v_iinc (pc := 88) C 1 [(4, .int (iI ((j : Int) + 1))), (3, .int (iI ((cntR n v E j) + 0))), (2, .int (iI w)), (1, .int (iI v)), (0, .ref (bs γ + 255))] dX6_valveOf_88 rfl (by decide) rfl ?_
                refine v_goto (pc := 91) C 46 dX6_valveOf_91 (by decide) ?_
                exact v_lv _ [0, 1, 2, 3, 4] (by rw [show cntR n v E (j + 1) = (cntR n v E j) + 0 from by rw [cntR]; subst hE2; first | rw [if_pos (by omega)] | rw [if_neg (by omega)]]; rfl) (ih (j + 1) (by omega) (by omega))
              · refine v_iconst (pc := 81) C dX6_valveOf_81 ?_
                refine v_goto (pc := 82) C 86 dX6_valveOf_82 (by decide) ?_
                refine v_iadd (pc := 86) C dX6_valveOf_86 ?_
                refine v_istore_n (pc := 87) C [(3, .int (iI ((cntR n v E j) + 1))), (4, .int (iI (j : Int))), (2, .int (iI w)), (1, .int (iI v)), (0, .ref (bs γ + 255))] dX6_valveOf_87 rfl (by decide) rfl ?_
                refine v_iinc (pc := 88) C 1 [(4, .int (iI ((j : Int) + 1))), (3, .int (iI ((cntR n v E j) + 1))), (2, .int (iI w)), (1, .int (iI v)), (0, .ref (bs γ + 255))] dX6_valveOf_88 rfl (by decide) rfl ?_
                refine v_goto (pc := 91) C 46 dX6_valveOf_91 (by decide) ?_
                exact v_lv _ [0, 1, 2, 3, 4] (by rw [show cntR n v E (j + 1) = (cntR n v E j) + 1 from by rw [cntR]; subst hE2; first | rw [if_pos (by omega)] | rw [if_neg (by omega)]]; rfl) (ih (j + 1) (by omega) (by omega))
      exact v_lv _ [0, 1, 4, 3, 2] rfl (L46 ((n 1).toNat + 1) 0 (by omega) (by omega))
    · refine v_if_eq (pc := 25) C 32 (by first | omega | assumption) dX6_valveOf_25 (by decide) (fun _ => ?_) (fun h => absurd h (by decide))
      refine v_iconst (pc := 32) C dX6_valveOf_32 ?_
      refine v_cv (pc := 33) (as := [.int (iI 2)]) C (cy_X6_refused G) (wM_X6_124 G) sh_255 (ci := 4) rfl rfl (refY G (by decide)) dX6_valveOf_33 rfl rfl (by decide) (by decide) (Nat.le_of_ble_eq_true rfl) zc (k_I (fun z33_1 s33_1 q33_1 => ?_))
      obtain ⟨rfl, rfl⟩ := q33_1
      refine v_if_eq (pc := 36) C 41 (by first | omega | assumption) dX6_valveOf_36 (by decide) (fun h => absurd h (by decide)) (fun _ => ?_)
      refine v_iconst (pc := 39) C dX6_valveOf_39 ?_
      exact v_iret (pc := 40) C hr (rfl) dX6_valveOf_40 (⟨_, rfl, mQ_no (by unfold op_valveOf; rw [if_neg (by omega), if_pos (by omega)]) (by decide)⟩)
  · rw [mS_o257]
    refine v_if_ne (pc := 9) C 16 (by first | omega | assumption) dX6_valveOf_9 (by decide) (fun h => absurd h (by decide)) (fun _ => ?_)
    refine v_iconst (pc := 12) C dX6_valveOf_12 ?_
    refine v_goto (pc := 13) C 33 dX6_valveOf_13 (by decide) ?_
    refine v_cv (pc := 33) (as := [.int (iI 1)]) C (cy_X6_refused G) (wM_X6_124 G) sh_255 (ci := 4) rfl rfl (refY G (by decide)) dX6_valveOf_33 rfl rfl (by decide) (by decide) (Nat.le_of_ble_eq_true rfl) zc (k_I (fun z33_2 s33_2 q33_2 => ?_))
    obtain ⟨rfl, rfl⟩ := q33_2
    refine v_if_eq (pc := 36) C 41 (by first | omega | assumption) dX6_valveOf_36 (by decide) (fun h => absurd h (by decide)) (fun _ => ?_)
    refine v_iconst (pc := 39) C dX6_valveOf_39 ?_
    exact v_iret (pc := 40) C hr (rfl) dX6_valveOf_40 (⟨_, rfl, mQ_no (by unfold op_valveOf; rw [if_pos (by omega)]) (by decide)⟩)

set_option maxHeartbeats 4000000 in
set_option maxRecDepth 100000 in
theorem k2_X6_ductOf {γ : Gm} (G : Glo γ) {σ : St} {w0 s a p u : Int} {t n x f d k i : Int → Int} {e w : Int} (he : R3 e) (hw : R3 w) (hW : Wf n) : Ct γ yX6_ductOf cX6_ductOf 3 (some .int) 4 [.ref (bs γ + 255), .int (iI e), .int (iI w)] (mS σ w0 s a p u t n x f d k i) (pI (fun z σ2 => mQ σ (op_ductOf s a t n d k i e w) z σ2)) := by
  refine Ct.of G (by decide +kernel) (Nat.le_of_ble_eq_true rfl) (fun φ C hr => ?_)
  have C : Cx γ φ RX6 cX6_ductOf 3 4 := C
  have hn0 := hW.1
  have hn1 := hW.2.1
  have hn4 := hW.2.2.1
  have hn5 := hW.2.2.2.1
  refine v_lv [(0, .ref (bs γ + 255)), (1, .int (iI e)), (2, .int (iI w))] [0, 1, 2] rfl ?_
  refine v_aload_n (pc := 0) C 0 rfl dX6_ductOf_0 ?_
  refine v_aload_n (pc := 1) C 0 rfl dX6_ductOf_1 ?_
  refine v_getr (pc := 2) C inX6 goX6 (ci := 4) rfl 3 (by decide) (wF_X6_13 G) rfl sh_255 (257) rfl dX6_ductOf_2 ?_
  refine v_iload_n (pc := 5) C 1 rfl dX6_ductOf_5 ?_
  refine v_st (mS_i257 _ _ _ _ _ _ _ _ _ _ _ _ _ ) ?_
  refine v_cs (pc := 6) (as := [.ref (bs γ + 257), .int (iI e)]) C (cy_X6_isDuct G) (wM_X6_167 G) (k_X6_isDuct G (⟨sh_257, by decide⟩ : sh 257 = (0, 268) ∧ 268 ≤ 4000) (by first | omega | assumption) (by first | omega | assumption)) dX6_ductOf_6 rfl rfl (by decide) (by decide) (Nat.le_of_ble_eq_true rfl) zc (k_I (fun z6 s6 q6 => ?_))
  rcases q6 with ⟨⟨rfl, q6⟩ | ⟨rfl, q6⟩, rfl⟩
  · rw [mS_o257]
    refine v_if_ne (pc := 9) C 16 (by first | omega | assumption) dX6_ductOf_9 (by decide) (fun _ => ?_) (fun h => absurd h (by decide))
    refine v_iload_n (pc := 16) C 2 rfl dX6_ductOf_16 ?_
    refine v_i2l (pc := 17) C (by first | omega | assumption) dX6_ductOf_17 ?_
    refine v_lconst (pc := 18) C (z := 0) rfl dX6_ductOf_18 ?_
    refine v_ldc2 (pc := 19) C (wCL_X6_189 G) dX6_ductOf_19 ?_
    refine v_cs (pc := 22) (as := [.long (lI w), .long (lI 0), .long (lI 7)]) C (cy_X6_in G) (wM_X6_40 G) (k_X6_in G (by first | omega | assumption) (by first | omega | assumption) (by first | omega | assumption)) dX6_ductOf_22 rfl rfl (by decide) (by decide) (Nat.le_of_ble_eq_true rfl) zc (k_I (fun z22 s22 q22 => ?_))
    rcases q22 with ⟨⟨rfl, q22⟩ | ⟨rfl, q22⟩, rfl⟩
    · refine v_if_eq (pc := 25) C 32 (by first | omega | assumption) dX6_ductOf_25 (by decide) (fun h => absurd h (by decide)) (fun _ => ?_)
      refine v_iconst (pc := 28) C dX6_ductOf_28 ?_
      refine v_goto (pc := 29) C 33 dX6_ductOf_29 (by decide) ?_
      refine v_cv (pc := 33) (as := [.int (iI 0)]) C (cy_X6_refused G) (wM_X6_124 G) sh_255 (ci := 4) rfl rfl (refN G) dX6_ductOf_33 rfl rfl (by decide) (by decide) (Nat.le_of_ble_eq_true rfl) zc (k_I (fun z33 s33 q33 => ?_))
      obtain ⟨rfl, rfl⟩ := q33
      refine v_if_eq (pc := 36) C 41 (by first | omega | assumption) dX6_ductOf_36 (by decide) (fun _ => ?_) (fun h => absurd h (by decide))
      refine v_iload_n (pc := 41) C 2 rfl dX6_ductOf_41 ?_
      refine v_bipush (pc := 42) C (by decide +kernel) dX6_ductOf_42 ?_
      refine v_icmp_ge (pc := 44) C 59 (by first | omega | assumption) (by first | omega | assumption) dX6_ductOf_44 (by decide) (fun h44 => ?_) (fun h44 => ?_)
      · refine v_iload_n (pc := 59) C 2 rfl dX6_ductOf_59 ?_
        refine v_bipush (pc := 60) C (by decide +kernel) dX6_ductOf_60 ?_
        refine v_icmp_ne (pc := 62) C 76 (by first | omega | assumption) (by first | omega | assumption) dX6_ductOf_62 (by decide) (fun h62 => ?_) (fun h62 => ?_)
        · refine v_aload_n (pc := 76) C 0 rfl dX6_ductOf_76 ?_
          refine v_getr (pc := 77) C inX6 goX6 (ci := 4) rfl 3 (by decide) (wF_X6_13 G) rfl sh_255 (257) rfl dX6_ductOf_77 ?_
          refine v_iload_n (pc := 80) C 1 rfl dX6_ductOf_80 ?_
          refine v_st (mS_i257 _ _ _ _ _ _ _ _ _ _ _ _ _ ) ?_
          refine v_cs (pc := 81) (as := [.ref (bs γ + 257), .int (iI e)]) C (cy_X6_needs G) (wM_X6_191 G) (k_X6_needs G (⟨sh_257, by decide⟩ : sh 257 = (0, 268) ∧ 268 ≤ 4000) ‹_› (by omega)) dX6_ductOf_81 rfl rfl (by decide) (by decide) (Nat.le_of_ble_eq_true rfl) zc (k_I (fun z81 s81 q81 => ?_))
          obtain ⟨⟨ez81, rz81⟩, rfl⟩ := q81
          rw [mS_o257]
          exact v_iret (pc := 84) C hr (rfl) dX6_ductOf_84 (⟨_, rfl, mQ_ok (z' := if w < 6 then n (76 + 12 * e + w) else if w = 6 then outR n e else needR n e) (by unfold op_ductOf; rw [if_neg (by omega), if_neg (by omega)]) (by first | (rw [if_pos (by omega)]; assumption) | (rw [if_neg (by omega), if_pos (by omega)]; assumption) | (rw [if_neg (by omega), if_neg (by omega)]; assumption))⟩)
        · obtain ⟨d0, d1, d2, d3, d4, d5, d6⟩ := hW.2.2.2.2.2 e (by omega) (by omega)
          have d60 := d6 0 (by omega) (by omega)
          rw [show 76 + 12 * e + 6 + 0 = 76 + 12 * e + 6 by omega] at d60
          refine v_aload_n (pc := 65) C 0 rfl dX6_ductOf_65 ?_
          refine v_getr (pc := 66) C inX6 goX6 (ci := 4) rfl 3 (by decide) (wF_X6_13 G) rfl sh_255 (257) rfl dX6_ductOf_66 ?_
          refine v_iload_n (pc := 69) C 1 rfl dX6_ductOf_69 ?_
          refine v_st (mS_i257 _ _ _ _ _ _ _ _ _ _ _ _ _ ) ?_
          refine v_cs (pc := 70) (as := [.ref (bs γ + 257), .int (iI e)]) C (cy_X6_comesOut G) (wM_X6_65 G) (k_X6_comesOut G (⟨sh_257, by decide⟩ : sh 257 = (0, 268) ∧ 268 ≤ 4000) (by omega) (by omega) (by omega) (by omega) (by omega)) dX6_ductOf_70 rfl rfl (by decide) (by decide) (Nat.le_of_ble_eq_true rfl) zc (k_I (fun z70 s70 q70 => ?_))
          obtain ⟨⟨ez70, rz70⟩, rfl⟩ := q70
          rw [mS_o257]
          refine v_goto (pc := 73) C 84 dX6_ductOf_73 (by decide) ?_
          exact v_iret (pc := 84) C hr (rfl) dX6_ductOf_84 (⟨_, rfl, mQ_ok (z' := if w < 6 then n (76 + 12 * e + w) else if w = 6 then outR n e else needR n e) (by unfold op_ductOf; rw [if_neg (by omega), if_neg (by omega)]) (by first | (rw [if_pos (by omega)]; assumption) | (rw [if_neg (by omega), if_pos (by omega)]; assumption) | (rw [if_neg (by omega), if_neg (by omega)]; assumption))⟩)
      · refine v_aload_n (pc := 47) C 0 rfl dX6_ductOf_47 ?_
        refine v_getr (pc := 48) C inX6 goX6 (ci := 4) rfl 3 (by decide) (wF_X6_13 G) rfl sh_255 (257) rfl dX6_ductOf_48 ?_
        refine v_iload_n (pc := 51) C 1 rfl dX6_ductOf_51 ?_
        refine v_iload_n (pc := 52) C 2 rfl dX6_ductOf_52 ?_
        refine v_st (mS_i257 _ _ _ _ _ _ _ _ _ _ _ _ _ ) ?_
        refine v_cs (pc := 53) (as := [.ref (bs γ + 257), .int (iI e), .int (iI w)]) C (cy_X6_ofDuct G) (wM_X6_62 G) (k_X6_ofDuct G (⟨sh_257, by decide⟩ : sh 257 = (0, 268) ∧ 268 ≤ 4000) (by omega)) dX6_ductOf_53 rfl rfl (by decide) (by decide) (Nat.le_of_ble_eq_true rfl) zc (k_I (fun z53 s53 q53 => ?_))
        obtain ⟨⟨ez53, rz53⟩, rfl⟩ := q53
        rw [mS_o257]
        refine v_goto (pc := 56) C 84 dX6_ductOf_56 (by decide) ?_
        exact v_iret (pc := 84) C hr (rfl) dX6_ductOf_84 (⟨_, rfl, mQ_ok (z' := if w < 6 then n (76 + 12 * e + w) else if w = 6 then outR n e else needR n e) (by unfold op_ductOf; rw [if_neg (by omega), if_neg (by omega)]) (by first | (rw [if_pos (by omega)]; assumption) | (rw [if_neg (by omega), if_pos (by omega)]; assumption) | (rw [if_neg (by omega), if_neg (by omega)]; assumption))⟩)
    · refine v_if_eq (pc := 25) C 32 (by first | omega | assumption) dX6_ductOf_25 (by decide) (fun _ => ?_) (fun h => absurd h (by decide))
      refine v_iconst (pc := 32) C dX6_ductOf_32 ?_
      refine v_cv (pc := 33) (as := [.int (iI 2)]) C (cy_X6_refused G) (wM_X6_124 G) sh_255 (ci := 4) rfl rfl (refY G (by decide)) dX6_ductOf_33 rfl rfl (by decide) (by decide) (Nat.le_of_ble_eq_true rfl) zc (k_I (fun z33_1 s33_1 q33_1 => ?_))
      obtain ⟨rfl, rfl⟩ := q33_1
      refine v_if_eq (pc := 36) C 41 (by first | omega | assumption) dX6_ductOf_36 (by decide) (fun h => absurd h (by decide)) (fun _ => ?_)
      refine v_iconst (pc := 39) C dX6_ductOf_39 ?_
      exact v_iret (pc := 40) C hr (rfl) dX6_ductOf_40 (⟨_, rfl, mQ_no (by unfold op_ductOf; rw [if_neg (by omega), if_pos (by omega)]) (by decide)⟩)
  · rw [mS_o257]
    refine v_if_ne (pc := 9) C 16 (by first | omega | assumption) dX6_ductOf_9 (by decide) (fun h => absurd h (by decide)) (fun _ => ?_)
    refine v_iconst (pc := 12) C dX6_ductOf_12 ?_
    refine v_goto (pc := 13) C 33 dX6_ductOf_13 (by decide) ?_
    refine v_cv (pc := 33) (as := [.int (iI 1)]) C (cy_X6_refused G) (wM_X6_124 G) sh_255 (ci := 4) rfl rfl (refY G (by decide)) dX6_ductOf_33 rfl rfl (by decide) (by decide) (Nat.le_of_ble_eq_true rfl) zc (k_I (fun z33_2 s33_2 q33_2 => ?_))
    obtain ⟨rfl, rfl⟩ := q33_2
    refine v_if_eq (pc := 36) C 41 (by first | omega | assumption) dX6_ductOf_36 (by decide) (fun h => absurd h (by decide)) (fun _ => ?_)
    refine v_iconst (pc := 39) C dX6_ductOf_39 ?_
    exact v_iret (pc := 40) C hr (rfl) dX6_ductOf_40 (⟨_, rfl, mQ_no (by unfold op_ductOf; rw [if_pos (by omega)]) (by decide)⟩)

set_option maxHeartbeats 4000000 in
set_option maxRecDepth 100000 in
theorem k2_X6_set {γ : Gm} (G : Glo γ) {σ : St} {w0 s a p u : Int} {t n x f d k i : Int → Int} {w v : Int} (hw : R3 w) (hv : R3 v) (ha : 0 ≤ a ∧ a ≤ 14) (hW : Wf n) : Ct γ yX6_set cX6_set 3 (some .int) 3 [.ref (bs γ + 255), .int (iI w), .int (iI v)] (mS σ w0 s a p u t n x f d k i) (pI (fun z σ2 => mQ σ (op_set s a t n d k i w v) z σ2)) := by
  refine Ct.of G (by decide +kernel) (Nat.le_of_ble_eq_true rfl) (fun φ C hr => ?_)
  have C : Cx γ φ RX6 cX6_set 3 3 := C
  have hn0 := hW.1
  have hn1 := hW.2.1
  have hn4 := hW.2.2.1
  have hn5 := hW.2.2.2.1
  refine v_lv [(0, .ref (bs γ + 255)), (1, .int (iI w)), (2, .int (iI v))] [0, 1, 2] rfl ?_
  refine v_aload_n (pc := 0) C 0 rfl dX6_set_0 ?_
  refine v_iload_n (pc := 1) C 1 rfl dX6_set_1 ?_
  refine v_iload_n (pc := 2) C 2 rfl dX6_set_2 ?_
  refine v_cs (pc := 3) (as := [.int (iI w), .int (iI v)]) C (cy_X6_isSetting G) (wM_X6_206 G) (k_X6_isSetting G (by first | omega | assumption) (by first | omega | assumption)) dX6_set_3 rfl rfl (by decide) (by decide) (Nat.le_of_ble_eq_true rfl) zc (k_I (fun z3 s3 q3 => ?_))
  rcases q3 with ⟨⟨rfl, q3⟩ | ⟨rfl, q3⟩, rfl⟩
  · refine v_if_eq (pc := 6) C 13 (by first | omega | assumption) dX6_set_6 (by decide) (fun h => absurd h (by decide)) (fun _ => ?_)
    refine v_iconst (pc := 9) C dX6_set_9 ?_
    refine v_goto (pc := 10) C 14 dX6_set_10 (by decide) ?_
    refine v_cv (pc := 14) (as := [.int (iI 0)]) C (cy_X6_refused G) (wM_X6_124 G) sh_255 (ci := 4) rfl rfl (refN G) dX6_set_14 rfl rfl (by decide) (by decide) (Nat.le_of_ble_eq_true rfl) zc (k_I (fun z14 s14 q14 => ?_))
    obtain ⟨rfl, rfl⟩ := q14
    refine v_if_eq (pc := 17) C 22 (by first | omega | assumption) dX6_set_17 (by decide) (fun _ => ?_) (fun h => absurd h (by decide))
    refine v_aload_n (pc := 22) C 0 rfl dX6_set_22 ?_
    refine v_cv (pc := 23) (as := []) C (cy_X6_remember G) (wM_X6_198 G) sh_255 (ci := 4) rfl rfl (k_X6_remember G ha) dX6_set_23 rfl rfl (by decide) (by decide) (Nat.le_of_ble_eq_true rfl) zc (k_V (fun s23 q23 => ?_))
    subst q23
    refine v_aload_n (pc := 26) C 0 rfl dX6_set_26 ?_
    refine v_getr (pc := 27) C inX6 goX6 (ci := 4) rfl 3 (by decide) (wF_X6_13 G) rfl sh_255 (257) rfl dX6_set_27 ?_
    refine v_iconst (pc := 30) C dX6_set_30 ?_
    refine v_iload_n (pc := 31) C 1 rfl dX6_set_31 ?_
    refine v_iadd (pc := 32) C dX6_set_32 ?_
    refine v_iload_n (pc := 33) C 2 rfl dX6_set_33 ?_
    refine v_st (mS_i257 _ _ _ _ _ _ _ _ _ _ _ _ _ ) ?_
    refine v_cs (pc := 34) (as := [.ref (bs γ + 257), .int (iI (4 + w)), .int (iI v)]) C (cy_X6_change G) (wM_X6_116 G) (k_X6_change G (⟨sh_257, by decide⟩ : sh 257 = (0, 268) ∧ 268 ≤ 4000) (by omega) (by first | omega | assumption)) dX6_set_34 rfl rfl (by decide) (by decide) (Nat.le_of_ble_eq_true rfl) zc (k_I (fun z34 s34 q34 => ?_))
    obtain ⟨⟨ez34, rz34⟩, rfl⟩ := q34
    rw [mS_o257]
    exact v_iret (pc := 37) C hr (rfl) dX6_set_37 (⟨_, rfl, mQ_ok (z' := n (4 + w)) (by unfold op_set; rw [if_neg (by omega)]) (by assumption)⟩)
  · refine v_if_eq (pc := 6) C 13 (by first | omega | assumption) dX6_set_6 (by decide) (fun _ => ?_) (fun h => absurd h (by decide))
    refine v_iconst (pc := 13) C dX6_set_13 ?_
    refine v_cv (pc := 14) (as := [.int (iI 1)]) C (cy_X6_refused G) (wM_X6_124 G) sh_255 (ci := 4) rfl rfl (refY G (by decide)) dX6_set_14 rfl rfl (by decide) (by decide) (Nat.le_of_ble_eq_true rfl) zc (k_I (fun z14_1 s14_1 q14_1 => ?_))
    obtain ⟨rfl, rfl⟩ := q14_1
    refine v_if_eq (pc := 17) C 22 (by first | omega | assumption) dX6_set_17 (by decide) (fun h => absurd h (by decide)) (fun _ => ?_)
    refine v_iconst (pc := 20) C dX6_set_20 ?_
    exact v_iret (pc := 21) C hr (rfl) dX6_set_21 (⟨_, rfl, mQ_no (by unfold op_set; rw [if_pos (by omega)]) (by decide)⟩)
