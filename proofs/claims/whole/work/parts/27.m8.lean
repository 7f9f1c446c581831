set_option maxHeartbeats 4000000 in
set_option maxRecDepth 100000 in
theorem k_X6_remember {γ : Gm} (G : Glo γ) {σ : St} {w s a p u : Int} {t n x f d k i : Int → Int} (ha : 0 ≤ a ∧ a ≤ 14) : Ct γ yX6_remember cX6_remember 2 none 2 [.ref (bs γ + 255)] (mS σ w s a p u t n x f d k i) (pV (fun σ2 => σ2 = mS σ w s (remA a) p u t n x f (remD a n d) k i)) := by
  refine Ct.of G (by decide +kernel) (Nat.le_of_ble_eq_true rfl) (fun φ C hr => ?_)
  have C : Cx γ φ RX6 cX6_remember 2 2 := C
  refine v_lv [(0, .ref (bs γ + 255))] [0] rfl ?_
  refine v_aload_n (pc := 0) C 0 rfl dX6_remember_0 ?_
  refine v_geti (pc := 1) C inX6 goX6 (ci := 4) rfl 7 (by decide) (wF_X6_180 G) rfl sh_255 7 rfl dX6_remember_1 (fun z1 ez1 rz1 => ?_)
  rw [mS_a] at ez1
  refine v_bipush (pc := 4) C (by decide +kernel) dX6_remember_4 ?_
  refine v_icmp_ne (pc := 6) C 50 (by first | omega | assumption) (by first | omega | assumption) dX6_remember_6 (by decide) (fun h6 => ?_) (fun h6 => ?_)
  · refine v_aload_n (pc := 50) C 0 rfl dX6_remember_50 ?_
    refine v_getr (pc := 51) C inX6 goX6 (ci := 4) rfl 3 (by decide) (wF_X6_13 G) rfl sh_255 (257) rfl dX6_remember_51 ?_
    refine v_iconst (pc := 54) C dX6_remember_54 ?_
    refine v_aload_n (pc := 55) C 0 rfl dX6_remember_55 ?_
    refine v_getr (pc := 56) C inX6 goX6 (ci := 4) rfl 6 (by decide) (wF_X6_22 G) rfl sh_255 (260) rfl dX6_remember_56 ?_
    refine v_sipush (pc := 59) C (by decide +kernel) dX6_remember_59 ?_
    refine v_aload_n (pc := 62) C 0 rfl dX6_remember_62 ?_
    refine v_geti (pc := 63) C inX6 goX6 (ci := 4) rfl 7 (by decide) (wF_X6_180 G) rfl sh_255 7 rfl dX6_remember_63 (fun z63 ez63 rz63 => ?_)
    rw [mS_a] at ez63
    refine v_imul (pc := 66) C dX6_remember_66 ?_
    refine v_cs (pc := 67) (as := [.ref (bs γ + 257), .int (iI 0), .ref (bs γ + 260), .int (iI (268 * z63))]) C (cy_X6_copyState G) (wM_X6_93 G) (k_X6_copyState G ⟨sh_257, by decide⟩ ⟨sh_260, by decide⟩ (by decide) (by omega) (by omega)) dX6_remember_67 rfl rfl (by decide) (by decide) (Nat.le_of_ble_eq_true rfl) zc (k_V (fun s67 q67 => ?_))
    subst q67
    rw [mS_o260, mS_n, mS_d]
    refine v_aload_n (pc := 70) C 0 rfl dX6_remember_70 ?_
    refine v_dup (pc := 71) C rfl dX6_remember_71 ?_
    refine v_geti (pc := 72) C inX6 goX6 (ci := 4) rfl 7 (by decide) (wF_X6_180 G) rfl sh_255 7 rfl dX6_remember_72 (fun z72 ez72 rz72 => ?_)
    rw [mS_a] at ez72
    refine v_iconst (pc := 75) C dX6_remember_75 ?_
    refine v_iadd (pc := 76) C dX6_remember_76 ?_
    refine v_puti (pc := 77) C inX6 goX6 (ci := 4) rfl 7 (by decide) (wF_X6_180 G) rfl sh_255 tyX6 tyX6_ok nmX6 rfl rfl (fun _ => Nat.le_of_ble_eq_true rfl) (fun _ _ => ob_set_X6_7) (by first | omega | assumption) dX6_remember_77 ?_
    refine v_st (mS_f7 _ _ _ _ _ _ _ _ _ _ _ _ _ _ ) ?_
    exact v_vret (pc := 80) C hr dX6_remember_80 ⟨rfl, by unfold remA remD; rw [if_neg (by omega), if_neg (by omega), show z72 = a by omega, show z63 = a by omega]⟩
  · refine v_iconst (pc := 9) C dX6_remember_9 ?_
    refine v_istore_n (pc := 10) C [(1, .int (iI 0)), (0, .ref (bs γ + 255))] dX6_remember_10 rfl (by decide) rfl ?_
    have L11 : ∀ (fu : Nat) (j : Nat), (hj : j ≤ 3484) → 3484 - j < fu → Vw γ φ 2 0 0 (QE γ φ (pV (fun σ2 => σ2 = mS σ w s (remA a) p u t n x f (remD a n d) k i))) (mS σ w s a p u t n x f (shlN d j) k i) 11 [(1, .int (iI (j : Int))), (0, .ref (bs γ + 255))] [] := by
      intro fu
      induction fu with
      | zero => intro j hj hz; exact absurd hz (Nat.not_lt_zero _)
      | succ fu ih =>
        intro j hj hz
        refine v_iload_n (pc := 11) C 0 rfl dX6_remember_11 ?_
        refine v_sipush (pc := 12) C (by decide +kernel) dX6_remember_12 ?_
        refine v_icmp_ge (pc := 15) C 40 (by first | omega | assumption) (by first | omega | assumption) dX6_remember_15 (by decide) (fun h15 => ?_) (fun h15 => ?_)
        · refine v_aload_n (pc := 40) C 1 rfl dX6_remember_40 ?_
          refine v_dup (pc := 41) C rfl dX6_remember_41 ?_
          refine v_geti (pc := 42) C inX6 goX6 (ci := 4) rfl 7 (by decide) (wF_X6_180 G) rfl sh_255 7 rfl dX6_remember_42 (fun z42 ez42 rz42 => ?_)
          rw [mS_a] at ez42
          refine v_iconst (pc := 45) C dX6_remember_45 ?_
          refine v_isub (pc := 46) C dX6_remember_46 ?_
          refine v_puti (pc := 47) C inX6 goX6 (ci := 4) rfl 7 (by decide) (wF_X6_180 G) rfl sh_255 tyX6 tyX6_ok nmX6 rfl rfl (fun _ => Nat.le_of_ble_eq_true rfl) (fun _ _ => ob_set_X6_7) (by first | omega | assumption) dX6_remember_47 ?_
          refine v_st (mS_f7 _ _ _ _ _ _ _ _ _ _ _ _ _ _ ) ?_
          refine v_aload_n (pc := 50) C 1 rfl dX6_remember_50 ?_
          refine v_getr (pc := 51) C inX6 goX6 (ci := 4) rfl 3 (by decide) (wF_X6_13 G) rfl sh_255 (257) rfl dX6_remember_51 ?_
          refine v_iconst (pc := 54) C dX6_remember_54 ?_
          refine v_aload_n (pc := 55) C 1 rfl dX6_remember_55 ?_
          refine v_getr (pc := 56) C inX6 goX6 (ci := 4) rfl 6 (by decide) (wF_X6_22 G) rfl sh_255 (260) rfl dX6_remember_56 ?_
          refine v_sipush (pc := 59) C (by decide +kernel) dX6_remember_59 ?_
          refine v_aload_n (pc := 62) C 1 rfl dX6_remember_62 ?_
          refine v_geti (pc := 63) C inX6 goX6 (ci := 4) rfl 7 (by decide) (wF_X6_180 G) rfl sh_255 7 rfl dX6_remember_63 (fun z63_1 ez63_1 rz63_1 => ?_)
          rw [mS_a] at ez63_1
          refine v_imul (pc := 66) C dX6_remember_66 ?_
          refine v_cs (pc := 67) (as := [.ref (bs γ + 257), .int (iI 0), .ref (bs γ + 260), .int (iI (268 * z63_1))]) C (cy_X6_copyState G) (wM_X6_93 G) (k_X6_copyState G ⟨sh_257, by decide⟩ ⟨sh_260, by decide⟩ (by decide) (by omega) (by omega)) dX6_remember_67 rfl rfl (by decide) (by decide) (Nat.le_of_ble_eq_true rfl) zc (k_V (fun s67_1 q67_1 => ?_))
          subst q67_1
          rw [mS_o260, mS_n, mS_d]
          refine v_aload_n (pc := 70) C 1 rfl dX6_remember_70 ?_
          refine v_dup (pc := 71) C rfl dX6_remember_71 ?_
          refine v_geti (pc := 72) C inX6 goX6 (ci := 4) rfl 7 (by decide) (wF_X6_180 G) rfl sh_255 7 rfl dX6_remember_72 (fun z72_1 ez72_1 rz72_1 => ?_)
          rw [mS_a] at ez72_1
          refine v_iconst (pc := 75) C dX6_remember_75 ?_
          refine v_iadd (pc := 76) C dX6_remember_76 ?_
          refine v_puti (pc := 77) C inX6 goX6 (ci := 4) rfl 7 (by decide) (wF_X6_180 G) rfl sh_255 tyX6 tyX6_ok nmX6 rfl rfl (fun _ => Nat.le_of_ble_eq_true rfl) (fun _ _ => ob_set_X6_7) (by first | omega | assumption) dX6_remember_77 ?_
          refine v_st (mS_f7 _ _ _ _ _ _ _ _ _ _ _ _ _ _ ) ?_
          exact v_vret (pc := 80) C hr dX6_remember_80 ⟨rfl, by rw [show z72_1 = 13 by omega, show z63_1 = 13 by omega, show (j : Int) = 3484 by omega, show a = 14 by omega]; rfl⟩
        · refine v_aload_n (pc := 18) C 1 rfl dX6_remember_18 ?_
          refine v_getr (pc := 19) C inX6 goX6 (ci := 4) rfl 6 (by decide) (wF_X6_22 G) rfl sh_255 (260) rfl dX6_remember_19 ?_
          refine v_iload_n (pc := 22) C 0 rfl dX6_remember_22 ?_
          refine v_aload_n (pc := 23) C 1 rfl dX6_remember_23 ?_
          refine v_getr (pc := 24) C inX6 goX6 (ci := 4) rfl 6 (by decide) (wF_X6_22 G) rfl sh_255 (260) rfl dX6_remember_24 ?_
          refine v_iload_n (pc := 27) C 0 rfl dX6_remember_27 ?_
          refine v_sipush (pc := 28) C (by decide +kernel) dX6_remember_28 ?_
          refine v_iadd (pc := 31) C dX6_remember_31 ?_
          refine v_iald (pc := 32) C sh_260 (by decide) (by first | omega | assumption) dX6_remember_32 (fun z32 ez32 rz32 => ?_)
          rw [mS_d] at ez32
          refine v_iast (pc := 33) C sh_260 (by decide) (by first | omega | assumption) (by first | omega | assumption) dX6_remember_33 ?_
          rw [mS_o260, mS_d]
          refine v_iinc (pc := 34) C 0 [(1, .int (iI ((j : Int) + 1))), (0, .ref (bs γ + 255))] dX6_remember_34 rfl (by decide) rfl ?_
          refine v_goto (pc := 37) C 11 dX6_remember_37 (by decide) ?_
          have hsh : upr (shlN d j) (j : Int) z32 = shlN d ((j + 1 : Nat) : Int) := by
            funext q; unfold upr shlN at *
            by_cases e1 : q = (j : Int)
            · rw [if_pos e1, if_pos (by omega), ez32, if_neg (by omega), e1]
            · rw [if_neg e1]
              by_cases e2 : 0 ≤ q ∧ q < (j : Int)
              · rw [if_pos e2, if_pos (by omega)]
              · rw [if_neg e2, if_neg (by omega)]
          refine v_st (show _ = mS σ w s a p u t n x f (shlN d ((j + 1 : Nat) : Int)) k i from by rw [hsh]) ?_
          exact v_lv _ [0, 1] rfl (ih (j + 1) (by omega) (by omega))
    refine v_st (show mS σ w s a p u t n x f d k i = mS σ w s a p u t n x f (shlN d ((0 : Nat) : Int)) k i from by rw [show shlN d ((0 : Nat) : Int) = d from funext (fun q => if_neg (by omega))]) ?_
    exact v_lv _ [0, 1] rfl (L11 3485 0 (by omega) (by omega))

set_option maxHeartbeats 4000000 in
set_option maxRecDepth 100000 in
theorem k_X6_setting {γ : Gm} (G : Glo γ) {σ : St} {w s a p u : Int} {t n x f d k i : Int → Int} {w : Int} (hw : R3 w)  : Ct γ yX6_setting cX6_setting 2 (some .int) 2 [.ref (bs γ + 255), .int (iI w)] (mS σ w s a p u t n x f d k i) (pI (fun z σ2 => mQ σ (op_setting s a t n d k i w) z σ2)) := by
  refine Ct.of G (by decide +kernel) (Nat.le_of_ble_eq_true rfl) (fun φ C hr => ?_)
  have C : Cx γ φ RX6 cX6_setting 2 2 := C
  refine v_lv [(0, .ref (bs γ + 255)), (1, .int (iI w))] [0, 1] rfl ?_
  refine v_aload_n (pc := 0) C 0 rfl dX6_setting_0 ?_
  refine v_iload_n (pc := 1) C 1 rfl dX6_setting_1 ?_
  refine v_i2l (pc := 2) C (by first | omega | assumption) dX6_setting_2 ?_
  refine v_lconst (pc := 3) C (z := 0) rfl dX6_setting_3 ?_
  refine v_lconst (pc := 4) C (z := 1) rfl dX6_setting_4 ?_
  refine v_cs (pc := 5) (as := [.long (lI w), .long (lI 0), .long (lI 1)]) C (cy_X6_in G) (wM_X6_40 G) (k_X6_in G (by first | omega | assumption) (by first | omega | assumption) (by first | omega | assumption)) dX6_setting_5 rfl rfl (by decide) (by decide) (Nat.le_of_ble_eq_true rfl) zc (k_I (fun z5 s5 q5 => ?_))
  rcases q5 with ⟨⟨rfl, q5⟩ | ⟨rfl, q5⟩, rfl⟩
  · refine v_if_eq (pc := 8) C 15 (by first | omega | assumption) dX6_setting_8 (by decide) (fun h => absurd h (by decide)) (fun _ => ?_)
    refine v_iconst (pc := 11) C dX6_setting_11 ?_
    refine v_goto (pc := 12) C 16 dX6_setting_12 (by decide) ?_
    refine v_cv (pc := 16) (as := [.int (iI 0)]) C (cy_X6_refused G) (wM_X6_124 G) sh_255 (ci := 4) rfl rfl (refN G) dX6_setting_16 rfl rfl (by decide) (by decide) (Nat.le_of_ble_eq_true rfl) zc (k_I (fun z16 s16 q16 => ?_))
    obtain ⟨rfl, rfl⟩ := q16
    refine v_if_eq (pc := 19) C 24 (by first | omega | assumption) dX6_setting_19 (by decide) (fun _ => ?_) (fun h => absurd h (by decide))
    refine v_aload_n (pc := 24) C 0 rfl dX6_setting_24 ?_
    refine v_getr (pc := 25) C inX6 goX6 (ci := 4) rfl 3 (by decide) (wF_X6_13 G) rfl sh_255 (257) rfl dX6_setting_25 ?_
    refine v_iconst (pc := 28) C dX6_setting_28 ?_
    refine v_iload_n (pc := 29) C 1 rfl dX6_setting_29 ?_
    refine v_iadd (pc := 30) C dX6_setting_30 ?_
    refine v_iald (pc := 31) C sh_257 (by decide) (by first | omega | assumption) dX6_setting_31 (fun z31 ez31 rz31 => ?_)
    rw [mS_n] at ez31
    exact v_iret (pc := 32) C hr (rfl) dX6_setting_32 (⟨_, rfl, mQ_ok (z' := n (4 + w)) (by unfold op_setting; rw [if_neg (by omega)]) (by rw [ez31])⟩)
  · refine v_if_eq (pc := 8) C 15 (by first | omega | assumption) dX6_setting_8 (by decide) (fun _ => ?_) (fun h => absurd h (by decide))
    refine v_iconst (pc := 15) C dX6_setting_15 ?_
    refine v_cv (pc := 16) (as := [.int (iI 1)]) C (cy_X6_refused G) (wM_X6_124 G) sh_255 (ci := 4) rfl rfl (refY G (by decide)) dX6_setting_16 rfl rfl (by decide) (by decide) (Nat.le_of_ble_eq_true rfl) zc (k_I (fun z16_1 s16_1 q16_1 => ?_))
    obtain ⟨rfl, rfl⟩ := q16_1
    refine v_if_eq (pc := 19) C 24 (by first | omega | assumption) dX6_setting_19 (by decide) (fun h => absurd h (by decide)) (fun _ => ?_)
    refine v_iconst (pc := 22) C dX6_setting_22 ?_
    exact v_iret (pc := 23) C hr (rfl) dX6_setting_23 (⟨_, rfl, mQ_no (by unfold op_setting; rw [if_pos (by omega)]) (by decide)⟩)

set_option maxHeartbeats 4000000 in
set_option maxRecDepth 100000 in
theorem k_X6_leg {γ : Gm} (G : Glo γ) {σ : St} {w s a p u : Int} {t n x f d k i : Int → Int} {v g : Int} (hv : R3 v) (hg : R3 g) (hW : Wf n) : Ct γ yX6_leg cX6_leg 3 (some .int) 3 [.ref (bs γ + 255), .int (iI v), .int (iI g)] (mS σ w s a p u t n x f d k i) (pI (fun z σ2 => mQ σ (op_leg s a t n d k i v g) z σ2)) := by
  refine Ct.of G (by decide +kernel) (Nat.le_of_ble_eq_true rfl) (fun φ C hr => ?_)
  have C : Cx γ φ RX6 cX6_leg 3 3 := C
  have hn0 := hW.1
  have hn1 := hW.2.1
  have hn4 := hW.2.2.1
  have hn5 := hW.2.2.2.1
  refine v_lv [(0, .ref (bs γ + 255)), (1, .int (iI v)), (2, .int (iI g))] [0, 1, 2] rfl ?_
  refine v_aload_n (pc := 0) C 0 rfl dX6_leg_0 ?_
  refine v_aload_n (pc := 1) C 0 rfl dX6_leg_1 ?_
  refine v_getr (pc := 2) C inX6 goX6 (ci := 4) rfl 3 (by decide) (wF_X6_13 G) rfl sh_255 (257) rfl dX6_leg_2 ?_
  refine v_iload_n (pc := 5) C 1 rfl dX6_leg_5 ?_
  refine v_st (mS_i257 _ _ _ _ _ _ _ _ _ _ _ _ _ ) ?_
  refine v_cs (pc := 6) (as := [.ref (bs γ + 257), .int (iI v)]) C (cy_X6_isValve G) (wM_X6_44 G) (k_X6_isValve G (⟨sh_257, by decide⟩ : sh 257 = (0, 268) ∧ 268 ≤ 4000) (by first | omega | assumption) (by first | omega | assumption)) dX6_leg_6 rfl rfl (by decide) (by decide) (Nat.le_of_ble_eq_true rfl) zc (k_I (fun z6 s6 q6 => ?_))
  rcases q6 with ⟨⟨rfl, q6⟩ | ⟨rfl, q6⟩, rfl⟩
  · rw [mS_o257]
    refine v_if_eq (pc := 9) C 23 (by first | omega | assumption) dX6_leg_9 (by decide) (fun h => absurd h (by decide)) (fun _ => ?_)
    refine v_iload_n (pc := 12) C 2 rfl dX6_leg_12 ?_
    refine v_cs (pc := 13) (as := [.int (iI g)]) C (cy_X6_isSide G) (wM_X6_106 G) (k_X6_isSide G (by first | omega | assumption)) dX6_leg_13 rfl rfl (by decide) (by decide) (Nat.le_of_ble_eq_true rfl) zc (k_I (fun z13 s13 q13 => ?_))
    rcases q13 with ⟨⟨rfl, q13⟩ | ⟨rfl, q13⟩, rfl⟩
    · refine v_if_eq (pc := 16) C 23 (by first | omega | assumption) dX6_leg_16 (by decide) (fun h => absurd h (by decide)) (fun _ => ?_)
      refine v_iconst (pc := 19) C dX6_leg_19 ?_
      refine v_goto (pc := 20) C 24 dX6_leg_20 (by decide) ?_
      refine v_cv (pc := 24) (as := [.int (iI 0)]) C (cy_X6_refused G) (wM_X6_124 G) sh_255 (ci := 4) rfl rfl (refN G) dX6_leg_24 rfl rfl (by decide) (by decide) (Nat.le_of_ble_eq_true rfl) zc (k_I (fun z24 s24 q24 => ?_))
      obtain ⟨rfl, rfl⟩ := q24
      refine v_if_eq (pc := 27) C 32 (by first | omega | assumption) dX6_leg_27 (by decide) (fun _ => ?_) (fun h => absurd h (by decide))
      refine v_aload_n (pc := 32) C 0 rfl dX6_leg_32 ?_
      refine v_getr (pc := 33) C inX6 goX6 (ci := 4) rfl 3 (by decide) (wF_X6_13 G) rfl sh_255 (257) rfl dX6_leg_33 ?_
      refine v_iload_n (pc := 36) C 1 rfl dX6_leg_36 ?_
      refine v_iconst (pc := 37) C dX6_leg_37 ?_
      refine v_iload_n (pc := 38) C 2 rfl dX6_leg_38 ?_
      refine v_iadd (pc := 39) C dX6_leg_39 ?_
      refine v_st (mS_i257 _ _ _ _ _ _ _ _ _ _ _ _ _ ) ?_
      refine v_cs (pc := 40) (as := [.ref (bs γ + 257), .int (iI v), .int (iI (3 + g))]) C (cy_X6_of G) (wM_X6_48 G) (k_X6_of G (⟨sh_257, by decide⟩ : sh 257 = (0, 268) ∧ 268 ≤ 4000) (by omega)) dX6_leg_40 rfl rfl (by decide) (by decide) (Nat.le_of_ble_eq_true rfl) zc (k_I (fun z40 s40 q40 => ?_))
      obtain ⟨⟨ez40, rz40⟩, rfl⟩ := q40
      rw [mS_o257]
      exact v_iret (pc := 43) C hr (rfl) dX6_leg_43 (⟨_, rfl, mQ_ok (z' := n (6 + 7 * v + (3 + g))) (by unfold op_leg; rw [if_neg (by omega)]) (by rw [ez40])⟩)
    · refine v_if_eq (pc := 16) C 23 (by first | omega | assumption) dX6_leg_16 (by decide) (fun _ => ?_) (fun h => absurd h (by decide))
      refine v_iconst (pc := 23) C dX6_leg_23 ?_
      refine v_cv (pc := 24) (as := [.int (iI 1)]) C (cy_X6_refused G) (wM_X6_124 G) sh_255 (ci := 4) rfl rfl (refY G (by decide)) dX6_leg_24 rfl rfl (by decide) (by decide) (Nat.le_of_ble_eq_true rfl) zc (k_I (fun z24_1 s24_1 q24_1 => ?_))
      obtain ⟨rfl, rfl⟩ := q24_1
      refine v_if_eq (pc := 27) C 32 (by first | omega | assumption) dX6_leg_27 (by decide) (fun h => absurd h (by decide)) (fun _ => ?_)
      refine v_iconst (pc := 30) C dX6_leg_30 ?_
      exact v_iret (pc := 31) C hr (rfl) dX6_leg_31 (⟨_, rfl, mQ_no (by unfold op_leg; rw [if_pos (by omega)]) (by decide)⟩)
  · rw [mS_o257]
    refine v_if_eq (pc := 9) C 23 (by first | omega | assumption) dX6_leg_9 (by decide) (fun _ => ?_) (fun h => absurd h (by decide))
    refine v_iconst (pc := 23) C dX6_leg_23 ?_
    refine v_cv (pc := 24) (as := [.int (iI 1)]) C (cy_X6_refused G) (wM_X6_124 G) sh_255 (ci := 4) rfl rfl (refY G (by decide)) dX6_leg_24 rfl rfl (by decide) (by decide) (Nat.le_of_ble_eq_true rfl) zc (k_I (fun z24_2 s24_2 q24_2 => ?_))
    obtain ⟨rfl, rfl⟩ := q24_2
    refine v_if_eq (pc := 27) C 32 (by first | omega | assumption) dX6_leg_27 (by decide) (fun h => absurd h (by decide)) (fun _ => ?_)
    refine v_iconst (pc := 30) C dX6_leg_30 ?_
    exact v_iret (pc := 31) C hr (rfl) dX6_leg_31 (⟨_, rfl, mQ_no (by unfold op_leg; rw [if_pos (by omega)]) (by decide)⟩)

set_option maxHeartbeats 4000000 in
set_option maxRecDepth 100000 in
theorem k_X6_push {γ : Gm} (G : Glo γ) {σ : St} {w s a p u : Int} {t n x f d k i : Int → Int} {v g w : Int} (hv : R3 v) (hg : R3 g) (hw : R3 w) (hW : Wf n) : Ct γ yX6_push cX6_push 4 (some .int) 4 [.ref (bs γ + 255), .int (iI v), .int (iI g), .int (iI w)] (mS σ w s a p u t n x f d k i) (pI (fun z σ2 => mQ σ (op_push s a t n d k i v g w) z σ2)) := by
  refine Ct.of G (by decide +kernel) (Nat.le_of_ble_eq_true rfl) (fun φ C hr => ?_)
  have C : Cx γ φ RX6 cX6_push 4 4 := C
  have hn0 := hW.1
  have hn1 := hW.2.1
  have hn4 := hW.2.2.1
  have hn5 := hW.2.2.2.1
  refine v_lv [(0, .ref (bs γ + 255)), (1, .int (iI v)), (2, .int (iI g)), (3, .int (iI w))] [0, 1, 2, 3] rfl ?_
  refine v_aload_n (pc := 0) C 0 rfl dX6_push_0 ?_
  refine v_aload_n (pc := 1) C 0 rfl dX6_push_1 ?_
  refine v_getr (pc := 2) C inX6 goX6 (ci := 4) rfl 3 (by decide) (wF_X6_13 G) rfl sh_255 (257) rfl dX6_push_2 ?_
  refine v_iload_n (pc := 5) C 1 rfl dX6_push_5 ?_
  refine v_st (mS_i257 _ _ _ _ _ _ _ _ _ _ _ _ _ ) ?_
  refine v_cs (pc := 6) (as := [.ref (bs γ + 257), .int (iI v)]) C (cy_X6_isValve G) (wM_X6_44 G) (k_X6_isValve G (⟨sh_257, by decide⟩ : sh 257 = (0, 268) ∧ 268 ≤ 4000) (by first | omega | assumption) (by first | omega | assumption)) dX6_push_6 rfl rfl (by decide) (by decide) (Nat.le_of_ble_eq_true rfl) zc (k_I (fun z6 s6 q6 => ?_))
  rcases q6 with ⟨⟨rfl, q6⟩ | ⟨rfl, q6⟩, rfl⟩
  · rw [mS_o257]
    refine v_if_eq (pc := 9) C 19 (by first | omega | assumption) dX6_push_9 (by decide) (fun h => absurd h (by decide)) (fun _ => ?_)
    refine v_iload_n (pc := 12) C 2 rfl dX6_push_12 ?_
    refine v_cs (pc := 13) (as := [.int (iI g)]) C (cy_X6_isSide G) (wM_X6_106 G) (k_X6_isSide G (by first | omega | assumption)) dX6_push_13 rfl rfl (by decide) (by decide) (Nat.le_of_ble_eq_true rfl) zc (k_I (fun z13 s13 q13 => ?_))
    rcases q13 with ⟨⟨rfl, q13⟩ | ⟨rfl, q13⟩, rfl⟩
    · refine v_if_ne (pc := 16) C 23 (by first | omega | assumption) dX6_push_16 (by decide) (fun _ => ?_) (fun h => absurd h (by decide))
      refine v_iload_n (pc := 23) C 3 rfl dX6_push_23 ?_
      refine v_i2l (pc := 24) C (by first | omega | assumption) dX6_push_24 ?_
      refine v_lconst (pc := 25) C (z := 0) rfl dX6_push_25 ?_
      refine v_lconst (pc := 26) C (z := 1) rfl dX6_push_26 ?_
      refine v_cs (pc := 27) (as := [.long (lI w), .long (lI 0), .long (lI 1)]) C (cy_X6_in G) (wM_X6_40 G) (k_X6_in G (by first | omega | assumption) (by first | omega | assumption) (by first | omega | assumption)) dX6_push_27 rfl rfl (by decide) (by decide) (Nat.le_of_ble_eq_true rfl) zc (k_I (fun z27 s27 q27 => ?_))
      rcases q27 with ⟨⟨rfl, q27⟩ | ⟨rfl, q27⟩, rfl⟩
      · refine v_if_eq (pc := 30) C 37 (by first | omega | assumption) dX6_push_30 (by decide) (fun h => absurd h (by decide)) (fun _ => ?_)
        refine v_iconst (pc := 33) C dX6_push_33 ?_
        refine v_goto (pc := 34) C 38 dX6_push_34 (by decide) ?_
        refine v_cv (pc := 38) (as := [.int (iI 0)]) C (cy_X6_refused G) (wM_X6_124 G) sh_255 (ci := 4) rfl rfl (refN G) dX6_push_38 rfl rfl (by decide) (by decide) (Nat.le_of_ble_eq_true rfl) zc (k_I (fun z38 s38 q38 => ?_))
        obtain ⟨rfl, rfl⟩ := q38
        refine v_if_eq (pc := 41) C 46 (by first | omega | assumption) dX6_push_41 (by decide) (fun _ => ?_) (fun h => absurd h (by decide))
        refine v_iload_n (pc := 46) C 3 rfl dX6_push_46 ?_
        refine v_if_ne (pc := 47) C 64 (by first | omega | assumption) dX6_push_47 (by decide) (fun h47 => ?_) (fun h47 => ?_)
        · refine v_aload_n (pc := 64) C 0 rfl dX6_push_64 ?_
          refine v_getr (pc := 65) C inX6 goX6 (ci := 4) rfl 3 (by decide) (wF_X6_13 G) rfl sh_255 (257) rfl dX6_push_65 ?_
          refine v_iload_n (pc := 68) C 1 rfl dX6_push_68 ?_
          refine v_iload_n (pc := 69) C 2 rfl dX6_push_69 ?_
          refine v_st (mS_i257 _ _ _ _ _ _ _ _ _ _ _ _ _ ) ?_
          refine v_cs (pc := 70) (as := [.ref (bs γ + 257), .int (iI v), .int (iI g)]) C (cy_X6_works G) (wM_X6_69 G) (k_X6_works G (⟨sh_257, by decide⟩ : sh 257 = (0, 268) ∧ 268 ≤ 4000) (k := 5 + g) rfl (by omega) (by omega) (hW.pg (by omega) (by omega)) ⟨by have := hW.su (v := v) (by omega); omega, (hW.su (by omega)).2⟩ (by omega)) dX6_push_70 rfl rfl (by decide) (by decide) (Nat.le_of_ble_eq_true rfl) zc (k_I (fun z70 s70 q70 => ?_))
          rcases q70 with ⟨⟨rfl, q70⟩ | ⟨rfl, q70⟩, rfl⟩
          · rw [mS_o257]
            refine v_if_eq (pc := 73) C 80 (by first | omega | assumption) dX6_push_73 (by decide) (fun h => absurd h (by decide)) (fun _ => ?_)
            refine v_iconst (pc := 76) C dX6_push_76 ?_
            refine v_goto (pc := 77) C 81 dX6_push_77 (by decide) ?_
            exact v_iret (pc := 81) C hr (rfl) dX6_push_81 (⟨_, rfl, mQ_ok (z' := if w = 0 then n (6 + 7 * v + (5 + g)) else if worksR n v (5 + g) then 1 else 0) (by unfold op_push; rw [if_neg (by omega), if_neg (by omega)]) (by first | (rw [if_pos (by omega)]; assumption) | (rw [if_neg (by omega), if_pos (by assumption)]) | (rw [if_neg (by omega), if_neg (by assumption)]))⟩)
          · rw [mS_o257]
            refine v_if_eq (pc := 73) C 80 (by first | omega | assumption) dX6_push_73 (by decide) (fun _ => ?_) (fun h => absurd h (by decide))
            refine v_iconst (pc := 80) C dX6_push_80 ?_
            exact v_iret (pc := 81) C hr (rfl) dX6_push_81 (⟨_, rfl, mQ_ok (z' := if w = 0 then n (6 + 7 * v + (5 + g)) else if worksR n v (5 + g) then 1 else 0) (by unfold op_push; rw [if_neg (by omega), if_neg (by omega)]) (by first | (rw [if_pos (by omega)]; assumption) | (rw [if_neg (by omega), if_pos (by assumption)]) | (rw [if_neg (by omega), if_neg (by assumption)]))⟩)
        · refine v_aload_n (pc := 50) C 0 rfl dX6_push_50 ?_
          refine v_getr (pc := 51) C inX6 goX6 (ci := 4) rfl 3 (by decide) (wF_X6_13 G) rfl sh_255 (257) rfl dX6_push_51 ?_
          refine v_iload_n (pc := 54) C 1 rfl dX6_push_54 ?_
          refine v_iconst (pc := 55) C dX6_push_55 ?_
          refine v_iload_n (pc := 56) C 2 rfl dX6_push_56 ?_
          refine v_iadd (pc := 57) C dX6_push_57 ?_
          refine v_st (mS_i257 _ _ _ _ _ _ _ _ _ _ _ _ _ ) ?_
          refine v_cs (pc := 58) (as := [.ref (bs γ + 257), .int (iI v), .int (iI (5 + g))]) C (cy_X6_of G) (wM_X6_48 G) (k_X6_of G (⟨sh_257, by decide⟩ : sh 257 = (0, 268) ∧ 268 ≤ 4000) (by omega)) dX6_push_58 rfl rfl (by decide) (by decide) (Nat.le_of_ble_eq_true rfl) zc (k_I (fun z58 s58 q58 => ?_))
          obtain ⟨⟨ez58, rz58⟩, rfl⟩ := q58
          rw [mS_o257]
          refine v_goto (pc := 61) C 81 dX6_push_61 (by decide) ?_
          exact v_iret (pc := 81) C hr (rfl) dX6_push_81 (⟨_, rfl, mQ_ok (z' := if w = 0 then n (6 + 7 * v + (5 + g)) else if worksR n v (5 + g) then 1 else 0) (by unfold op_push; rw [if_neg (by omega), if_neg (by omega)]) (by first | (rw [if_pos (by omega)]; assumption) | (rw [if_neg (by omega), if_pos (by assumption)]) | (rw [if_neg (by omega), if_neg (by assumption)]))⟩)
      · refine v_if_eq (pc := 30) C 37 (by first | omega | assumption) dX6_push_30 (by decide) (fun _ => ?_) (fun h => absurd h (by decide))
        refine v_iconst (pc := 37) C dX6_push_37 ?_
        refine v_cv (pc := 38) (as := [.int (iI 2)]) C (cy_X6_refused G) (wM_X6_124 G) sh_255 (ci := 4) rfl rfl (refY G (by decide)) dX6_push_38 rfl rfl (by decide) (by decide) (Nat.le_of_ble_eq_true rfl) zc (k_I (fun z38_1 s38_1 q38_1 => ?_))
        obtain ⟨rfl, rfl⟩ := q38_1
        refine v_if_eq (pc := 41) C 46 (by first | omega | assumption) dX6_push_41 (by decide) (fun h => absurd h (by decide)) (fun _ => ?_)
        refine v_iconst (pc := 44) C dX6_push_44 ?_
        exact v_iret (pc := 45) C hr (rfl) dX6_push_45 (⟨_, rfl, mQ_no (by unfold op_push; rw [if_neg (by omega), if_pos (by omega)]) (by decide)⟩)
    · refine v_if_ne (pc := 16) C 23 (by first | omega | assumption) dX6_push_16 (by decide) (fun h => absurd h (by decide)) (fun _ => ?_)
      refine v_iconst (pc := 19) C dX6_push_19 ?_
      refine v_goto (pc := 20) C 38 dX6_push_20 (by decide) ?_
      refine v_cv (pc := 38) (as := [.int (iI 1)]) C (cy_X6_refused G) (wM_X6_124 G) sh_255 (ci := 4) rfl rfl (refY G (by decide)) dX6_push_38 rfl rfl (by decide) (by decide) (Nat.le_of_ble_eq_true rfl) zc (k_I (fun z38_2 s38_2 q38_2 => ?_))
      obtain ⟨rfl, rfl⟩ := q38_2
      refine v_if_eq (pc := 41) C 46 (by first | omega | assumption) dX6_push_41 (by decide) (fun h => absurd h (by decide)) (fun _ => ?_)
      refine v_iconst (pc := 44) C dX6_push_44 ?_
      exact v_iret (pc := 45) C hr (rfl) dX6_push_45 (⟨_, rfl, mQ_no (by unfold op_push; rw [if_pos (by omega)]) (by decide)⟩)
  · rw [mS_o257]
    refine v_if_eq (pc := 9) C 19 (by first | omega | assumption) dX6_push_9 (by decide) (fun _ => ?_) (fun h => absurd h (by decide))
    refine v_iconst (pc := 19) C dX6_push_19 ?_
    refine v_goto (pc := 20) C 38 dX6_push_20 (by decide) ?_
    refine v_cv (pc := 38) (as := [.int (iI 1)]) C (cy_X6_refused G) (wM_X6_124 G) sh_255 (ci := 4) rfl rfl (refY G (by decide)) dX6_push_38 rfl rfl (by decide) (by decide) (Nat.le_of_ble_eq_true rfl) zc (k_I (fun z38_3 s38_3 q38_3 => ?_))
    obtain ⟨rfl, rfl⟩ := q38_3
    refine v_if_eq (pc := 41) C 46 (by first | omega | assumption) dX6_push_41 (by decide) (fun h => absurd h (by decide)) (fun _ => ?_)
    refine v_iconst (pc := 44) C dX6_push_44 ?_
    exact v_iret (pc := 45) C hr (rfl) dX6_push_45 (⟨_, rfl, mQ_no (by unfold op_push; rw [if_pos (by omega)]) (by decide)⟩)

set_option maxHeartbeats 4000000 in
set_option maxRecDepth 100000 in
theorem k_X6_about {γ : Gm} (G : Glo γ) {σ : St} {w s a p u : Int} {t n x f d k i : Int → Int} {w : Int} (hw : R3 w) (hW : Wf n) : Ct γ yX6_about cX6_about 4 (some .int) 4 [.ref (bs γ + 255), .int (iI w)] (mS σ w s a p u t n x f d k i) (pI (fun z σ2 => mQ σ (op_about s a t n d k i w) z σ2)) := by
  refine Ct.of G (by decide +kernel) (Nat.le_of_ble_eq_true rfl) (fun φ C hr => ?_)
  have C : Cx γ φ RX6 cX6_about 4 4 := C
  have hn0 := hW.1
  have hn1 := hW.2.1
  have hn4 := hW.2.2.1
  have hn5 := hW.2.2.2.1
  refine v_lv [(0, .ref (bs γ + 255)), (1, .int (iI w))] [0, 1] rfl ?_
  refine v_aload_n (pc := 0) C 0 rfl dX6_about_0 ?_
  refine v_iload_n (pc := 1) C 1 rfl dX6_about_1 ?_
  refine v_i2l (pc := 2) C (by first | omega | assumption) dX6_about_2 ?_
  refine v_lconst (pc := 3) C (z := 0) rfl dX6_about_3 ?_
  refine v_ldc2 (pc := 4) C (wCL_X6_114 G) dX6_about_4 ?_
  refine v_cs (pc := 7) (as := [.long (lI w), .long (lI 0), .long (lI 6)]) C (cy_X6_in G) (wM_X6_40 G) (k_X6_in G (by first | omega | assumption) (by first | omega | assumption) (by first | omega | assumption)) dX6_about_7 rfl rfl (by decide) (by decide) (Nat.le_of_ble_eq_true rfl) zc (k_I (fun z7 s7 q7 => ?_))
  rcases q7 with ⟨⟨rfl, q7⟩ | ⟨rfl, q7⟩, rfl⟩
  · refine v_if_eq (pc := 10) C 17 (by first | omega | assumption) dX6_about_10 (by decide) (fun h => absurd h (by decide)) (fun _ => ?_)
    refine v_iconst (pc := 13) C dX6_about_13 ?_
    refine v_goto (pc := 14) C 18 dX6_about_14 (by decide) ?_
    refine v_cv (pc := 18) (as := [.int (iI 0)]) C (cy_X6_refused G) (wM_X6_124 G) sh_255 (ci := 4) rfl rfl (refN G) dX6_about_18 rfl rfl (by decide) (by decide) (Nat.le_of_ble_eq_true rfl) zc (k_I (fun z18 s18 q18 => ?_))
    obtain ⟨rfl, rfl⟩ := q18
    refine v_if_eq (pc := 21) C 26 (by first | omega | assumption) dX6_about_21 (by decide) (fun _ => ?_) (fun h => absurd h (by decide))
    refine v_iconst (pc := 26) C dX6_about_26 ?_
    refine v_istore_n (pc := 27) C [(2, .int (iI 0)), (0, .ref (bs γ + 255)), (1, .int (iI w))] dX6_about_27 rfl (by decide) rfl ?_
    refine v_iload_n (pc := 28) C 2 rfl dX6_about_28 ?_
    by_cases hs29 : 3 ≤ w ∧ w ≤ 6
    · have hs29 : w = 3 ∨ w = 4 ∨ w = 5 ∨ w = 6 := by omega
      rcases hs29 with hs29 | hs29 | hs29 | hs29
      · refine v_tabIn (pc := 29) C 60 (by first | omega | assumption) dX6_about_29 (by omega) (by rw [hs29]; rfl) (by decide) ?_
        refine v_aload_n (pc := 60) C 1 rfl dX6_about_60 ?_
        refine v_getr (pc := 61) C inX6 goX6 (ci := 4) rfl 3 (by decide) (wF_X6_13 G) rfl sh_255 (257) rfl dX6_about_61 ?_
        refine v_st (mS_i257 _ _ _ _ _ _ _ _ _ _ _ _ _ ) ?_
        refine v_cs (pc := 64) (as := [.ref (bs γ + 257)]) C (cy_X6_livelyLegs G) (wM_X6_183 G) (k_X6_livelyLegs G (⟨sh_257, by decide⟩ : sh 257 = (0, 268) ∧ 268 ≤ 4000) ‹_›) dX6_about_64 rfl rfl (by decide) (by decide) (Nat.le_of_ble_eq_true rfl) zc (k_I (fun z64 s64 q64 => ?_))
        obtain ⟨ez64, rfl⟩ := q64
        rw [mS_o257]
        exact v_iret (pc := 67) C hr (rfl) dX6_about_67 (⟨_, rfl, mQ_ok (z' := aboutR n w) (by unfold op_about; rw [if_neg (by omega)]) (by unfold aboutR; (repeat' split) <;> first | omega | (exfalso; omega) | assumption | (rw [show j = (n 0).toNat by omega]))⟩)
      · refine v_tabIn (pc := 29) C 68 (by first | omega | assumption) dX6_about_29 (by omega) (by rw [hs29]; rfl) (by decide) ?_
        refine v_aload_n (pc := 68) C 1 rfl dX6_about_68 ?_
        refine v_getr (pc := 69) C inX6 goX6 (ci := 4) rfl 3 (by decide) (wF_X6_13 G) rfl sh_255 (257) rfl dX6_about_69 ?_
        refine v_st (mS_i257 _ _ _ _ _ _ _ _ _ _ _ _ _ ) ?_
        refine v_cs (pc := 72) (as := [.ref (bs γ + 257)]) C (cy_X6_allPressures G) (wM_X6_186 G) (k_X6_allPressures G (⟨sh_257, by decide⟩ : sh 257 = (0, 268) ∧ 268 ≤ 4000) ‹_›) dX6_about_72 rfl rfl (by decide) (by decide) (Nat.le_of_ble_eq_true rfl) zc (k_I (fun z72 s72 q72 => ?_))
        obtain ⟨ez72, rfl⟩ := q72
        rw [mS_o257]
        exact v_iret (pc := 75) C hr (rfl) dX6_about_75 (⟨_, rfl, mQ_ok (z' := aboutR n w) (by unfold op_about; rw [if_neg (by omega)]) (by unfold aboutR; (repeat' split) <;> first | omega | (exfalso; omega) | assumption | (rw [show j = (n 0).toNat by omega]))⟩)
      · refine v_tabIn (pc := 29) C 76 (by first | omega | assumption) dX6_about_29 (by omega) (by rw [hs29]; rfl) (by decide) ?_
        refine v_iconst (pc := 76) C dX6_about_76 ?_
        refine v_istore_n (pc := 77) C [(3, .int (iI 0)), (2, .int (iI 0)), (0, .ref (bs γ + 255)), (1, .int (iI w))] dX6_about_77 rfl (by decide) rfl ?_
        have L78 : ∀ (fu : Nat) (j : Nat), (hj : (j : Int) ≤ n 0) → (n 0).toNat - j < fu → Vw γ φ 4 0 0 (QE γ φ (pI (fun z σ2 => mQ σ (op_about s a t n d k i w) z σ2))) (mS σ 0 s a p u t n x f d k i) 78 [(3, .int (iI (j : Int))), (2, .int (iI (keysR n j))), (1, .int (iI w)), (0, .ref (bs γ + 255))] [] := by
          intro fu
          induction fu with
          | zero => intro j hj hz; exact absurd hz (Nat.not_lt_zero _)
          | succ fu ih =>
            intro j hj hz
            refine v_iload_n (pc := 78) C 0 rfl dX6_about_78 ?_
            refine v_aload_n (pc := 79) C 3 rfl dX6_about_79 ?_
            refine v_getr (pc := 80) C inX6 goX6 (ci := 4) rfl 3 (by decide) (wF_X6_13 G) rfl sh_255 (257) rfl dX6_about_80 ?_
            refine v_iconst (pc := 83) C dX6_about_83 ?_
            refine v_iald (pc := 84) C sh_257 (by decide) (by first | omega | assumption) dX6_about_84 (fun z84 ez84 rz84 => ?_)
            rw [mS_n] at ez84
            refine v_icmp_ge (pc := 85) C 128 (by first | omega | assumption) (by first | omega | assumption) dX6_about_85 (by decide) (fun h85 => ?_) (fun h85 => ?_)
            · refine v_iload_n (pc := 128) C 1 rfl dX6_about_128 ?_
              exact v_iret (pc := 129) C hr (rfl) dX6_about_129 (⟨_, rfl, mQ_ok (z' := aboutR n w) (by unfold op_about; rw [if_neg (by omega)]) (by unfold aboutR; (repeat' split) <;> first | omega | (exfalso; omega) | assumption | (rw [show j = (n 0).toNat by omega]))⟩)
            · refine v_iload_n (pc := 88) C 1 rfl dX6_about_88 ?_
              refine v_aload_n (pc := 89) C 3 rfl dX6_about_89 ?_
              refine v_getr (pc := 90) C inX6 goX6 (ci := 4) rfl 3 (by decide) (wF_X6_13 G) rfl sh_255 (257) rfl dX6_about_90 ?_
              refine v_iload_n (pc := 93) C 0 rfl dX6_about_93 ?_
              refine v_st (mS_i257 _ _ _ _ _ _ _ _ _ _ _ _ _ ) ?_
              refine v_cs (pc := 94) (as := [.ref (bs γ + 257), .int (iI (j : Int))]) C (cy_X6_isKey G) (wM_X6_160 G) (k_X6_isKey G (⟨sh_257, by decide⟩ : sh 257 = (0, 268) ∧ 268 ≤ 4000) (by first | omega | assumption) (by first | omega | assumption)) dX6_about_94 rfl rfl (by decide) (by decide) (Nat.le_of_ble_eq_true rfl) zc (k_I (fun z94 s94 q94 => ?_))
              rcases q94 with ⟨⟨rfl, q94⟩ | ⟨rfl, q94⟩, rfl⟩
              · rw [mS_o257]
                refine v_if_eq (pc := 97) C 119 (by first | omega | assumption) dX6_about_97 (by decide) (fun h => absurd h (by decide)) (fun _ => ?_)
                refine v_aload_n (pc := 100) C 3 rfl dX6_about_100 ?_
                refine v_getr (pc := 101) C inX6 goX6 (ci := 4) rfl 3 (by decide) (wF_X6_13 G) rfl sh_255 (257) rfl dX6_about_101 ?_
                refine v_iload_n (pc := 104) C 0 rfl dX6_about_104 ?_
                refine v_iconst (pc := 105) C dX6_about_105 ?_
                refine v_st (mS_i257 _ _ _ _ _ _ _ _ _ _ _ _ _ ) ?_
                refine v_cs (pc := 106) (as := [.ref (bs γ + 257), .int (iI (j : Int)), .int (iI 2)]) C (cy_X6_of G) (wM_X6_48 G) (k_X6_of G (⟨sh_257, by decide⟩ : sh 257 = (0, 268) ∧ 268 ≤ 4000) (by omega)) dX6_about_106 rfl rfl (by decide) (by decide) (Nat.le_of_ble_eq_true rfl) zc (k_I (fun z106 s106 q106 => ?_))
                obtain ⟨⟨ez106, rz106⟩, rfl⟩ := q106
                rw [mS_o257]
                refine v_iconst (pc := 109) C dX6_about_109 ?_
                refine v_icmp_ne (pc := 110) C 119 (by first | omega | assumption) (by first | omega | assumption) dX6_about_110 (by decide) (fun h110 => ?_) (fun h110 => ?_)
                · refine v_iconst (pc := 119) C dX6_about_119 ?_
                  refine v_ior (pc := 120) C dX6_about_120 ?_
                  refine v_istore_n (pc := 121) C [(2, .int (iI (iOr (keysR n j) 0))), (3, .int (iI (j : Int))), (1, .int (iI w)), (0, .ref (bs γ + 255))] dX6_about_121 rfl (by decide) rfl ?_
                  refine v_iinc (pc := 122) C 1 [(3, .int (iI ((j : Int) + 1))), (2, .int (iI (iOr (keysR n j) 0))), (1, .int (iI w)), (0, .ref (bs γ + 255))] dX6_about_122 rfl (by decide) rfl ?_
                  refine v_goto (pc := 125) C 78 dX6_about_125 (by decide) ?_
                  exact v_lv _ [0, 1, 2, 3] (by rw [show keysR n (j + 1) = iOr (keysR n j) 0 from by rw [keysR]; first | rw [if_pos (by omega)] | rw [if_neg (by omega)]]; rfl) (ih (j + 1) (by omega) (by omega))
                · refine v_iconst (pc := 113) C dX6_about_113 ?_
                  refine v_iload_n (pc := 114) C 0 rfl dX6_about_114 ?_
                  refine v_ishl (pc := 115) C dX6_about_115 ?_
                  refine v_goto (pc := 116) C 120 dX6_about_116 (by decide) ?_
                  refine v_ior (pc := 120) C dX6_about_120 ?_
                  refine v_istore_n (pc := 121) C [(2, .int (iI (iOr (keysR n j) (iShl 1 (j : Int))))), (3, .int (iI (j : Int))), (1, .int (iI w)), (0, .ref (bs γ + 255))] dX6_about_121 rfl (by decide) rfl ?_
                  refine v_iinc (pc := 122) C 1 [(3, .int (iI ((j : Int) + 1))), (2, .int (iI (iOr (keysR n j) (iShl 1 (j : Int))))), (1, .int (iI w)), (0, .ref (bs γ + 255))] dX6_about_122 rfl (by decide) rfl ?_
                  refine v_goto (pc := 125) C 78 dX6_about_125 (by decide) ?_
                  exact v_lv _ [0, 1, 2, 3] (by rw [show keysR n (j + 1) = iOr (keysR n j) (iShl 1 (j : Int)) from by rw [keysR]; first | rw [if_pos (by omega)] | rw [if_neg (by omega)]]; rfl) (ih (j + 1) (by omega) (by omega))
              · rw [mS_o257]
                refine v_if_eq (pc := 97) C 119 (by first | omega | assumption) dX6_about_97 (by decide) (fun _ => ?_) (fun h => absurd h (by decide))
                refine v_iconst (pc := 119) C dX6_about_119 ?_
                refine v_ior (pc := 120) C dX6_about_120 ?_
                refine v_istore_n (pc := 121) C [(2, .int (iI (iOr (keysR n j) 0))), (3, .int (iI (j : Int))), (1, .int (iI w)), (0, .ref (bs γ + 255))] dX6_about_121 rfl (by decide) rfl ?_
                refine v_iinc (pc := 122) C 1 [(3, .int (iI ((j : Int) + 1))), (2, .int (iI (iOr (keysR n j) 0))), (1, .int (iI w)), (0, .ref (bs γ + 255))] dX6_about_122 rfl (by decide) rfl ?_
                refine v_goto (pc := 125) C 78 dX6_about_125 (by decide) ?_
                exact v_lv _ [0, 1, 2, 3] (by rw [show keysR n (j + 1) = iOr (keysR n j) 0 from by rw [keysR]; first | rw [if_pos (by omega)] | rw [if_neg (by omega)]]; rfl) (ih (j + 1) (by omega) (by omega))
        exact v_lv _ [0, 1, 3, 2] rfl (L78 ((n 0).toNat + 1) 0 (by omega) (by omega))
      · refine v_tabIn (pc := 29) C 130 (by first | omega | assumption) dX6_about_29 (by omega) (by rw [hs29]; rfl) (by decide) ?_
        refine v_aload_n (pc := 130) C 1 rfl dX6_about_130 ?_
        refine v_getr (pc := 131) C inX6 goX6 (ci := 4) rfl 3 (by decide) (wF_X6_13 G) rfl sh_255 (257) rfl dX6_about_131 ?_
        refine v_iconst (pc := 134) C dX6_about_134 ?_
        refine v_iald (pc := 135) C sh_257 (by decide) (by first | omega | assumption) dX6_about_135 (fun z135 ez135 rz135 => ?_)
        rw [mS_n] at ez135
        exact v_iret (pc := 136) C hr (rfl) dX6_about_136 (⟨_, rfl, mQ_ok (z' := aboutR n w) (by unfold op_about; rw [if_neg (by omega)]) (by unfold aboutR; (repeat' split) <;> first | omega | (exfalso; omega) | assumption | (rw [show j = (n 0).toNat by omega]))⟩)
    · refine v_tabOut (pc := 29) C 137 (by first | omega | assumption) dX6_about_29 (by omega) (by decide) ?_
      refine v_aload_n (pc := 137) C 1 rfl dX6_about_137 ?_
      refine v_getr (pc := 138) C inX6 goX6 (ci := 4) rfl 3 (by decide) (wF_X6_13 G) rfl sh_255 (257) rfl dX6_about_138 ?_
      refine v_iload_n (pc := 141) C 2 rfl dX6_about_141 ?_
      refine v_iald (pc := 142) C sh_257 (by decide) (by first | omega | assumption) dX6_about_142 (fun z142 ez142 rz142 => ?_)
      rw [mS_n] at ez142
      exact v_iret (pc := 143) C hr (rfl) dX6_about_143 (⟨_, rfl, mQ_ok (z' := aboutR n w) (by unfold op_about; rw [if_neg (by omega)]) (by unfold aboutR; (repeat' split) <;> first | omega | (exfalso; omega) | assumption | (rw [show j = (n 0).toNat by omega]))⟩)
  · refine v_if_eq (pc := 10) C 17 (by first | omega | assumption) dX6_about_10 (by decide) (fun _ => ?_) (fun h => absurd h (by decide))
    refine v_iconst (pc := 17) C dX6_about_17 ?_
    refine v_cv (pc := 18) (as := [.int (iI 1)]) C (cy_X6_refused G) (wM_X6_124 G) sh_255 (ci := 4) rfl rfl (refY G (by decide)) dX6_about_18 rfl rfl (by decide) (by decide) (Nat.le_of_ble_eq_true rfl) zc (k_I (fun z18_1 s18_1 q18_1 => ?_))
    obtain ⟨rfl, rfl⟩ := q18_1
    refine v_if_eq (pc := 21) C 26 (by first | omega | assumption) dX6_about_21 (by decide) (fun h => absurd h (by decide)) (fun _ => ?_)
    refine v_iconst (pc := 24) C dX6_about_24 ?_
    exact v_iret (pc := 25) C hr (rfl) dX6_about_25 (⟨_, rfl, mQ_no (by unfold op_about; rw [if_pos (by omega)]) (by decide)⟩)

set_option maxHeartbeats 4000000 in
set_option maxRecDepth 100000 in
theorem k_X6_valveOf {γ : Gm} (G : Glo γ) {σ : St} {w s a p u : Int} {t n x f d k i : Int → Int} {v w : Int} (hv : R3 v) (hw : R3 w) (hW : Wf n) : Ct γ yX6_valveOf cX6_valveOf 5 (some .int) 3 [.ref (bs γ + 255), .int (iI v), .int (iI w)] (mS σ w s a p u t n x f d k i) (pI (fun z σ2 => mQ σ (op_valveOf s a t n d k i v w) z σ2)) := by
  refine Ct.of G (by decide +kernel) (Nat.le_of_ble_eq_true rfl) (fun φ C hr => ?_)
  have C : Cx γ φ RX6 cX6_valveOf 5 3 := C
  have hn0 := hW.1
  have hn1 := hW.2.1
  have hn4 := hW.2.2.1
  have hn5 := hW.2.2.2.1
  refine v_lv [(0, .ref (bs γ + 255)), (1, .int (iI v)), (2, .int (iI w))] [0, 1, 2] rfl ?_
  refine v_aload_n (pc := 0) C 0 rfl dX6_valveOf_0 ?_
  refine v_aload_n (pc := 1) C 0 rfl dX6_valveOf_1 ?_
  refine v_getr (pc := 2) C inX6 goX6 (ci := 4) rfl 3 (by decide) (wF_X6_13 G) rfl sh_255 (257) rfl dX6_valveOf_2 ?_
  refine v_iload_n (pc := 5) C 1 rfl dX6_valveOf_5 ?_
  refine v_st (mS_i257 _ _ _ _ _ _ _ _ _ _ _ _ _ ) ?_
  refine v_cs (pc := 6) (as := [.ref (bs γ + 257), .int (iI v)]) C (cy_X6_isValve G) (wM_X6_44 G) (k_X6_isValve G (⟨sh_257, by decide⟩ : sh 257 = (0, 268) ∧ 268 ≤ 4000) (by first | omega | assumption) (by first | omega | assumption)) dX6_valveOf_6 rfl rfl (by decide) (by decide) (Nat.le_of_ble_eq_true rfl) zc (k_I (fun z6 s6 q6 => ?_))
  rcases q6 with ⟨⟨rfl, q6⟩ | ⟨rfl, q6⟩, rfl⟩
  · rw [mS_o257]
    refine v_if_ne (pc := 9) C 16 (by first | omega | assumption) dX6_valveOf_9 (by decide) (fun _ => ?_) (fun h => absurd h (by decide))
    refine v_iload_n (pc := 16) C 2 rfl dX6_valveOf_16 ?_
    refine v_i2l (pc := 17) C (by first | omega | assumption) dX6_valveOf_17 ?_
    refine v_lconst (pc := 18) C (z := 0) rfl dX6_valveOf_18 ?_
    refine v_ldc2 (pc := 19) C (wCL_X6_100 G) dX6_valveOf_19 ?_
    refine v_cs (pc := 22) (as := [.long (lI w), .long (lI 0), .long (lI 4)]) C (cy_X6_in G) (wM_X6_40 G) (k_X6_in G (by first | omega | assumption) (by first | omega | assumption) (by first | omega | assumption)) dX6_valveOf_22 rfl rfl (by decide) (by decide) (Nat.le_of_ble_eq_true rfl) zc (k_I (fun z22 s22 q22 => ?_))
    rcases q22 with ⟨⟨rfl, q22⟩ | ⟨rfl, q22⟩, rfl⟩
    · refine v_if_eq (pc := 25) C 32 (by first | omega | assumption) dX6_valveOf_25 (by decide) (fun h => absurd h (by decide)) (fun _ => ?_)
      refine v_iconst (pc := 28) C dX6_valveOf_28 ?_
      refine v_goto (pc := 29) C 33 dX6_valveOf_29 (by decide) ?_
      refine v_cv (pc := 33) (as := [.int (iI 0)]) C (cy_X6_refused G) (wM_X6_124 G) sh_255 (ci := 4) rfl rfl (refN G) dX6_valveOf_33 rfl rfl (by decide) (by decide) (Nat.le_of_ble_eq_true rfl) zc (k_I (fun z33 s33 q33 => ?_))
      obtain ⟨rfl, rfl⟩ := q33
      refine v_if_eq (pc := 36) C 41 (by first | omega | assumption) dX6_valveOf_36 (by decide) (fun _ => ?_) (fun h => absurd h (by decide))
      obtain ⟨E, hE⟩ : ∃ E : Int, E = (if w = 3 then 0 else 2) := ⟨_, rfl⟩
      refine v_iconst (pc := 41) C dX6_valveOf_41 ?_
      refine v_istore_n (pc := 42) C [(3, .int (iI 0)), (0, .ref (bs γ + 255)), (1, .int (iI v)), (2, .int (iI w))] dX6_valveOf_42 rfl (by decide) rfl ?_
      refine v_iconst (pc := 43) C dX6_valveOf_43 ?_
      refine v_istore (pc := 44) C [(4, .int (iI 0)), (3, .int (iI 0)), (0, .ref (bs γ + 255)), (1, .int (iI v)), (2, .int (iI w))] dX6_valveOf_44 (by decide) rfl ?_
      have L46 : ∀ (fu : Nat) (j : Nat), (hj : (j : Int) ≤ n 1) → (n 1).toNat - j < fu → Vw γ φ 5 0 0 (QE γ φ (pI (fun z σ2 => mQ σ (op_valveOf s a t n d k i v w) z σ2))) (mS σ 0 s a p u t n x f d k i) 46 [(4, .int (iI (j : Int))), (3, .int (iI (cntR n v E j))), (2, .int (iI w)), (1, .int (iI v)), (0, .ref (bs γ + 255))] [] := by
        intro fu
        induction fu with
        | zero => intro j hj hz; exact absurd hz (Nat.not_lt_zero _)
        | succ fu ih =>
          intro j hj hz
          have hcb := cntR_b n v E j
          refine v_iload (pc := 46) C 0 rfl dX6_valveOf_46 ?_
          refine v_aload_n (pc := 48) C 4 rfl dX6_valveOf_48 ?_
          refine v_getr (pc := 49) C inX6 goX6 (ci := 4) rfl 3 (by decide) (wF_X6_13 G) rfl sh_255 (257) rfl dX6_valveOf_49 ?_
          refine v_iconst (pc := 52) C dX6_valveOf_52 ?_
          refine v_iald (pc := 53) C sh_257 (by decide) (by first | omega | assumption) dX6_valveOf_53 (fun z53 ez53 rz53 => ?_)
          rw [mS_n] at ez53
          refine v_icmp_ge (pc := 54) C 94 (by first | omega | assumption) (by first | omega | assumption) dX6_valveOf_54 (by decide) (fun h54 => ?_) (fun h54 => ?_)
          · refine v_iload_n (pc := 94) C 2 rfl dX6_valveOf_94 ?_
            refine v_iconst (pc := 95) C dX6_valveOf_95 ?_
            refine v_icmp_ge (pc := 96) C 111 (by first | omega | assumption) (by first | omega | assumption) dX6_valveOf_96 (by decide) (fun h96 => ?_) (fun h96 => ?_)
            · refine v_iload_n (pc := 111) C 1 rfl dX6_valveOf_111 ?_
              exact v_iret (pc := 112) C hr (rfl) dX6_valveOf_112 (⟨_, rfl, mQ_ok (z' := valveOfR n v w) (by unfold op_valveOf; rw [if_neg (by omega), if_neg (by omega)]) (by unfold valveOfR; first | (rw [if_pos (by omega)]; assumption) | (rw [if_neg (by omega), ← hE, show j = (n 1).toNat by omega]))⟩)
            · refine v_aload_n (pc := 99) C 4 rfl dX6_valveOf_99 ?_
              refine v_getr (pc := 100) C inX6 goX6 (ci := 4) rfl 3 (by decide) (wF_X6_13 G) rfl sh_255 (257) rfl dX6_valveOf_100 ?_
              refine v_iload_n (pc := 103) C 3 rfl dX6_valveOf_103 ?_
              refine v_iload_n (pc := 104) C 2 rfl dX6_valveOf_104 ?_
              refine v_st (mS_i257 _ _ _ _ _ _ _ _ _ _ _ _ _ ) ?_
              refine v_cs (pc := 105) (as := [.ref (bs γ + 257), .int (iI v), .int (iI w)]) C (cy_X6_of G) (wM_X6_48 G) (k_X6_of G (⟨sh_257, by decide⟩ : sh 257 = (0, 268) ∧ 268 ≤ 4000) (by omega)) dX6_valveOf_105 rfl rfl (by decide) (by decide) (Nat.le_of_ble_eq_true rfl) zc (k_I (fun z105 s105 q105 => ?_))
              obtain ⟨⟨ez105, rz105⟩, rfl⟩ := q105
              rw [mS_o257]
              refine v_goto (pc := 108) C 112 dX6_valveOf_108 (by decide) ?_
              exact v_iret (pc := 112) C hr (rfl) dX6_valveOf_112 (⟨_, rfl, mQ_ok (z' := valveOfR n v w) (by unfold op_valveOf; rw [if_neg (by omega), if_neg (by omega)]) (by unfold valveOfR; first | (rw [if_pos (by omega)]; assumption) | (rw [if_neg (by omega), ← hE, show j = (n 1).toNat by omega]))⟩)
          · refine v_iload_n (pc := 57) C 1 rfl dX6_valveOf_57 ?_
            refine v_aload_n (pc := 58) C 4 rfl dX6_valveOf_58 ?_
            refine v_getr (pc := 59) C inX6 goX6 (ci := 4) rfl 3 (by decide) (wF_X6_13 G) rfl sh_255 (257) rfl dX6_valveOf_59 ?_
            refine v_iload (pc := 62) C 0 rfl dX6_valveOf_62 ?_
            refine v_iload_n (pc := 64) C 2 rfl dX6_valveOf_64 ?_
            refine v_iconst (pc := 65) C dX6_valveOf_65 ?_
            refine v_icmp_ne (pc := 66) C 73 (by first | omega | assumption) (by first | omega | assumption) dX6_valveOf_66 (by decide) (fun h66 => ?_) (fun h66 => ?_)
            · have hE2 : E = 2 := by rw [hE, if_neg (by omega)]
              refine v_iconst (pc := 73) C dX6_valveOf_73 ?_
              refine v_st (mS_i257 _ _ _ _ _ _ _ _ _ _ _ _ _ ) ?_
              refine v_cs (pc := 74) (as := [.ref (bs γ + 257), .int (iI (j : Int)), .int (iI 2)]) C (cy_X6_ofDuct G) (wM_X6_62 G) (k_X6_ofDuct G (⟨sh_257, by decide⟩ : sh 257 = (0, 268) ∧ 268 ≤ 4000) (by omega)) dX6_valveOf_74 rfl rfl (by decide) (by decide) (Nat.le_of_ble_eq_true rfl) zc (k_I (fun z74 s74 q74 => ?_))
              obtain ⟨⟨ez74, rz74⟩, rfl⟩ := q74
              rw [mS_o257]
              refine v_iload_n (pc := 77) C 3 rfl dX6_valveOf_77 ?_
              refine v_icmp_ne (pc := 78) C 85 (by first | omega | assumption) (by first | omega | assumption) dX6_valveOf_78 (by decide) (fun h78 => ?_) (fun h78 => ?_)
              · refine v_iconst (pc := 85) C dX6_valveOf_85 ?_
                refine v_iadd (pc := 86) C dX6_valveOf_86 ?_
                refine v_istore_n (pc := 87) C [(3, .int (iI ((cntR n v E j) + 0))), (4, .int (iI (j : Int))), (2, .int (iI w)), (1, .int (iI v)), (0, .ref (bs γ + 255))] dX6_valveOf_87 rfl (by decide) rfl ?_
                refine v_iinc (pc := 88) C 1 [(4, .int (iI ((j : Int) + 1))), (3, .int (iI ((cntR n v E j) + 0))), (2, .int (iI w)), (1, .int (iI v)), (0, .ref (bs γ + 255))] dX6_valveOf_88 rfl (by decide) rfl ?_
                refine v_goto (pc := 91) C 46 dX6_valveOf_91 (by decide) ?_
                exact v_lv _ [0, 1, 2, 3, 4] (by rw [show cntR n v E (j + 1) = (cntR n v E j) + 0 from by rw [cntR]; subst hE2; first | rw [if_pos (by omega)] | rw [if_neg (by omega)]]; rfl) (ih (j + 1) (by omega) (by omega))
              · refine v_iconst (pc := 81) C dX6_valveOf_81 ?_
                refine v_goto (pc := 82) C 86 dX6_valveOf_82 (by decide) ?_
                refine v_iadd (pc := 86) C dX6_valveOf_86 ?_
                refine v_istore_n (pc := 87) C [(3, .int (iI ((cntR n v E j) + 1))), (4, .int (iI (j : Int))), (2, .int (iI w)), (1, .int (iI v)), (0, .ref (bs γ + 255))] dX6_valveOf_87 rfl (by decide) rfl ?_
                refine v_iinc (pc := 88) C 1 [(4, .int (iI ((j : Int) + 1))), (3, .int (iI ((cntR n v E j) + 1))), (2, .int (iI w)), (1, .int (iI v)), (0, .ref (bs γ + 255))] dX6_valveOf_88 rfl (by decide) rfl ?_
                refine v_goto (pc := 91) C 46 dX6_valveOf_91 (by decide) ?_
                exact v_lv _ [0, 1, 2, 3, 4] (by rw [show cntR n v E (j + 1) = (cntR n v E j) + 1 from by rw [cntR]; subst hE2; first | rw [if_pos (by omega)] | rw [if_neg (by omega)]]; rfl) (ih (j + 1) (by omega) (by omega))
            · have hE2 : E = 0 := by rw [hE, if_pos (by omega)]
              refine v_iconst (pc := 69) C dX6_valveOf_69 ?_
              refine v_goto (pc := 70) C 74 dX6_valveOf_70 (by decide) ?_
              refine v_st (mS_i257 _ _ _ _ _ _ _ _ _ _ _ _ _ ) ?_
              refine v_cs (pc := 74) (as := [.ref (bs γ + 257), .int (iI (j : Int)), .int (iI 0)]) C (cy_X6_ofDuct G) (wM_X6_62 G) (k_X6_ofDuct G (⟨sh_257, by decide⟩ : sh 257 = (0, 268) ∧ 268 ≤ 4000) (by omega)) dX6_valveOf_74 rfl rfl (by decide) (by decide) (Nat.le_of_ble_eq_true rfl) zc (k_I (fun z74_1 s74_1 q74_1 => ?_))
              obtain ⟨⟨ez74_1, rz74_1⟩, rfl⟩ := q74_1
              rw [mS_o257]
              refine v_iload_n (pc := 77) C 3 rfl dX6_valveOf_77 ?_
              refine v_icmp_ne (pc := 78) C 85 (by first | omega | assumption) (by first | omega | assumption) dX6_valveOf_78 (by decide) (fun h78_1 => ?_) (fun h78_1 => ?_)
              · refine v_iconst (pc := 85) C dX6_valveOf_85 ?_
                refine v_iadd (pc := 86) C dX6_valveOf_86 ?_
                refine v_istore_n (pc := 87) C [(3, .int (iI ((cntR n v E j) + 0))), (4, .int (iI (j : Int))), (2, .int (iI w)), (1, .int (iI v)), (0, .ref (bs γ + 255))] dX6_valveOf_87 rfl (by decide) rfl ?_
                refine v_iinc (pc := 88) C 1 [(4, .int (iI ((j : Int) + 1))), (3, .int (iI ((cntR n v E j) + 0))), (2, .int (iI w)), (1, .int (iI v)), (0, .ref (bs γ + 255))] dX6_valveOf_88 rfl (by decide) rfl ?_
                refine v_goto (pc := 91) C 46 dX6_valveOf_91 (by decide) ?_
                exact v_lv _ [0, 1, 2, 3, 4] (by rw [show cntR n v E (j + 1) = (cntR n v E j) + 0 from by rw [cntR]; subst hE2; first | rw [if_pos (by omega)] | rw [if_neg (by omega)]]; rfl) (ih (j + 1) (by omega) (by omega))
              · refine v_iconst (pc := 81) C dX6_valveOf_81 ?_
                refine v_goto (pc := 82) C 86 dX6_valveOf_82 (by decide) ?_
                refine v_iadd (pc := 86) C dX6_valveOf_86 ?_
                refine v_istore_n (pc := 87) C [(3, .int (iI ((cntR n v E j) + 1))), (4, .int (iI (j : Int))), (2, .int (iI w)), (1, .int (iI v)), (0, .ref (bs γ + 255))] dX6_valveOf_87 rfl (by decide) rfl ?_
                refine v_iinc (pc := 88) C 1 [(4, .int (iI ((j : Int) + 1))), (3, .int (iI ((cntR n v E j) + 1))), (2, .int (iI w)), (1, .int (iI v)), (0, .ref (bs γ + 255))] dX6_valveOf_88 rfl (by decide) rfl ?_
                refine v_goto (pc := 91) C 46 dX6_valveOf_91 (by decide) ?_
                exact v_lv _ [0, 1, 2, 3, 4] (by rw [show cntR n v E (j + 1) = (cntR n v E j) + 1 from by rw [cntR]; subst hE2; first | rw [if_pos (by omega)] | rw [if_neg (by omega)]]; rfl) (ih (j + 1) (by omega) (by omega))
      exact v_lv _ [0, 1, 4, 3, 2] rfl (L46 ((n 1).toNat + 1) 0 (by omega) (by omega))
    · refine v_if_eq (pc := 25) C 32 (by first | omega | assumption) dX6_valveOf_25 (by decide) (fun _ => ?_) (fun h => absurd h (by decide))
      refine v_iconst (pc := 32) C dX6_valveOf_32 ?_
      refine v_cv (pc := 33) (as := [.int (iI 2)]) C (cy_X6_refused G) (wM_X6_124 G) sh_255 (ci := 4) rfl rfl (refY G (by decide)) dX6_valveOf_33 rfl rfl (by decide) (by decide) (Nat.le_of_ble_eq_true rfl) zc (k_I (fun z33_1 s33_1 q33_1 => ?_))
      obtain ⟨rfl, rfl⟩ := q33_1
      refine v_if_eq (pc := 36) C 41 (by first | omega | assumption) dX6_valveOf_36 (by decide) (fun h => absurd h (by decide)) (fun _ => ?_)
      refine v_iconst (pc := 39) C dX6_valveOf_39 ?_
      exact v_iret (pc := 40) C hr (rfl) dX6_valveOf_40 (⟨_, rfl, mQ_no (by unfold op_valveOf; rw [if_neg (by omega), if_pos (by omega)]) (by decide)⟩)
  · rw [mS_o257]
    refine v_if_ne (pc := 9) C 16 (by first | omega | assumption) dX6_valveOf_9 (by decide) (fun h => absurd h (by decide)) (fun _ => ?_)
    refine v_iconst (pc := 12) C dX6_valveOf_12 ?_
    refine v_goto (pc := 13) C 33 dX6_valveOf_13 (by decide) ?_
    refine v_cv (pc := 33) (as := [.int (iI 1)]) C (cy_X6_refused G) (wM_X6_124 G) sh_255 (ci := 4) rfl rfl (refY G (by decide)) dX6_valveOf_33 rfl rfl (by decide) (by decide) (Nat.le_of_ble_eq_true rfl) zc (k_I (fun z33_2 s33_2 q33_2 => ?_))
    obtain ⟨rfl, rfl⟩ := q33_2
    refine v_if_eq (pc := 36) C 41 (by first | omega | assumption) dX6_valveOf_36 (by decide) (fun h => absurd h (by decide)) (fun _ => ?_)
    refine v_iconst (pc := 39) C dX6_valveOf_39 ?_
    exact v_iret (pc := 40) C hr (rfl) dX6_valveOf_40 (⟨_, rfl, mQ_no (by unfold op_valveOf; rw [if_pos (by omega)]) (by decide)⟩)

set_option maxHeartbeats 4000000 in
set_option maxRecDepth 100000 in
theorem k_X6_ductOf {γ : Gm} (G : Glo γ) {σ : St} {w s a p u : Int} {t n x f d k i : Int → Int} {e w : Int} (he : R3 e) (hw : R3 w) (hW : Wf n) : Ct γ yX6_ductOf cX6_ductOf 3 (some .int) 4 [.ref (bs γ + 255), .int (iI e), .int (iI w)] (mS σ w s a p u t n x f d k i) (pI (fun z σ2 => mQ σ (op_ductOf s a t n d k i e w) z σ2)) := by
  refine Ct.of G (by decide +kernel) (Nat.le_of_ble_eq_true rfl) (fun φ C hr => ?_)
  have C : Cx γ φ RX6 cX6_ductOf 3 4 := C
  have hn0 := hW.1
  have hn1 := hW.2.1
  have hn4 := hW.2.2.1
  have hn5 := hW.2.2.2.1
  refine v_lv [(0, .ref (bs γ + 255)), (1, .int (iI e)), (2, .int (iI w))] [0, 1, 2] rfl ?_
  refine v_aload_n (pc := 0) C 0 rfl dX6_ductOf_0 ?_
  refine v_aload_n (pc := 1) C 0 rfl dX6_ductOf_1 ?_
  refine v_getr (pc := 2) C inX6 goX6 (ci := 4) rfl 3 (by decide) (wF_X6_13 G) rfl sh_255 (257) rfl dX6_ductOf_2 ?_
  refine v_iload_n (pc := 5) C 1 rfl dX6_ductOf_5 ?_
  refine v_st (mS_i257 _ _ _ _ _ _ _ _ _ _ _ _ _ ) ?_
  refine v_cs (pc := 6) (as := [.ref (bs γ + 257), .int (iI e)]) C (cy_X6_isDuct G) (wM_X6_167 G) (k_X6_isDuct G (⟨sh_257, by decide⟩ : sh 257 = (0, 268) ∧ 268 ≤ 4000) (by first | omega | assumption) (by first | omega | assumption)) dX6_ductOf_6 rfl rfl (by decide) (by decide) (Nat.le_of_ble_eq_true rfl) zc (k_I (fun z6 s6 q6 => ?_))
  rcases q6 with ⟨⟨rfl, q6⟩ | ⟨rfl, q6⟩, rfl⟩
  · rw [mS_o257]
    refine v_if_ne (pc := 9) C 16 (by first | omega | assumption) dX6_ductOf_9 (by decide) (fun _ => ?_) (fun h => absurd h (by decide))
    refine v_iload_n (pc := 16) C 2 rfl dX6_ductOf_16 ?_
    refine v_i2l (pc := 17) C (by first | omega | assumption) dX6_ductOf_17 ?_
    refine v_lconst (pc := 18) C (z := 0) rfl dX6_ductOf_18 ?_
    refine v_ldc2 (pc := 19) C (wCL_X6_189 G) dX6_ductOf_19 ?_
    refine v_cs (pc := 22) (as := [.long (lI w), .long (lI 0), .long (lI 7)]) C (cy_X6_in G) (wM_X6_40 G) (k_X6_in G (by first | omega | assumption) (by first | omega | assumption) (by first | omega | assumption)) dX6_ductOf_22 rfl rfl (by decide) (by decide) (Nat.le_of_ble_eq_true rfl) zc (k_I (fun z22 s22 q22 => ?_))
    rcases q22 with ⟨⟨rfl, q22⟩ | ⟨rfl, q22⟩, rfl⟩
    · refine v_if_eq (pc := 25) C 32 (by first | omega | assumption) dX6_ductOf_25 (by decide) (fun h => absurd h (by decide)) (fun _ => ?_)
      refine v_iconst (pc := 28) C dX6_ductOf_28 ?_
      refine v_goto (pc := 29) C 33 dX6_ductOf_29 (by decide) ?_
      refine v_cv (pc := 33) (as := [.int (iI 0)]) C (cy_X6_refused G) (wM_X6_124 G) sh_255 (ci := 4) rfl rfl (refN G) dX6_ductOf_33 rfl rfl (by decide) (by decide) (Nat.le_of_ble_eq_true rfl) zc (k_I (fun z33 s33 q33 => ?_))
      obtain ⟨rfl, rfl⟩ := q33
      refine v_if_eq (pc := 36) C 41 (by first | omega | assumption) dX6_ductOf_36 (by decide) (fun _ => ?_) (fun h => absurd h (by decide))
      refine v_iload_n (pc := 41) C 2 rfl dX6_ductOf_41 ?_
      refine v_bipush (pc := 42) C (by decide +kernel) dX6_ductOf_42 ?_
      refine v_icmp_ge (pc := 44) C 59 (by first | omega | assumption) (by first | omega | assumption) dX6_ductOf_44 (by decide) (fun h44 => ?_) (fun h44 => ?_)
      · refine v_iload_n (pc := 59) C 2 rfl dX6_ductOf_59 ?_
        refine v_bipush (pc := 60) C (by decide +kernel) dX6_ductOf_60 ?_
        refine v_icmp_ne (pc := 62) C 76 (by first | omega | assumption) (by first | omega | assumption) dX6_ductOf_62 (by decide) (fun h62 => ?_) (fun h62 => ?_)
        · refine v_aload_n (pc := 76) C 0 rfl dX6_ductOf_76 ?_
          refine v_getr (pc := 77) C inX6 goX6 (ci := 4) rfl 3 (by decide) (wF_X6_13 G) rfl sh_255 (257) rfl dX6_ductOf_77 ?_
          refine v_iload_n (pc := 80) C 1 rfl dX6_ductOf_80 ?_
          refine v_st (mS_i257 _ _ _ _ _ _ _ _ _ _ _ _ _ ) ?_
          refine v_cs (pc := 81) (as := [.ref (bs γ + 257), .int (iI e)]) C (cy_X6_needs G) (wM_X6_191 G) (k_X6_needs G (⟨sh_257, by decide⟩ : sh 257 = (0, 268) ∧ 268 ≤ 4000) ‹_› (by omega)) dX6_ductOf_81 rfl rfl (by decide) (by decide) (Nat.le_of_ble_eq_true rfl) zc (k_I (fun z81 s81 q81 => ?_))
          obtain ⟨⟨ez81, rz81⟩, rfl⟩ := q81
          rw [mS_o257]
          exact v_iret (pc := 84) C hr (rfl) dX6_ductOf_84 (⟨_, rfl, mQ_ok (z' := if w < 6 then n (76 + 12 * e + w) else if w = 6 then outR n e else needR n e) (by unfold op_ductOf; rw [if_neg (by omega), if_neg (by omega)]) (by first | (rw [if_pos (by omega)]; assumption) | (rw [if_neg (by omega), if_pos (by omega)]; assumption) | (rw [if_neg (by omega), if_neg (by omega)]; assumption))⟩)
        · obtain ⟨d0, d1, d2, d3, d4, d5, d6⟩ := hW.2.2.2.2.2 e (by omega) (by omega)
          have d60 := d6 0 (by omega) (by omega)
          rw [show 76 + 12 * e + 6 + 0 = 76 + 12 * e + 6 by omega] at d60
          refine v_aload_n (pc := 65) C 0 rfl dX6_ductOf_65 ?_
          refine v_getr (pc := 66) C inX6 goX6 (ci := 4) rfl 3 (by decide) (wF_X6_13 G) rfl sh_255 (257) rfl dX6_ductOf_66 ?_
          refine v_iload_n (pc := 69) C 1 rfl dX6_ductOf_69 ?_
          refine v_st (mS_i257 _ _ _ _ _ _ _ _ _ _ _ _ _ ) ?_
          refine v_cs (pc := 70) (as := [.ref (bs γ + 257), .int (iI e)]) C (cy_X6_comesOut G) (wM_X6_65 G) (k_X6_comesOut G (⟨sh_257, by decide⟩ : sh 257 = (0, 268) ∧ 268 ≤ 4000) (by omega) (by omega) (by omega) (by omega) (by omega)) dX6_ductOf_70 rfl rfl (by decide) (by decide) (Nat.le_of_ble_eq_true rfl) zc (k_I (fun z70 s70 q70 => ?_))
          obtain ⟨⟨ez70, rz70⟩, rfl⟩ := q70
          rw [mS_o257]
          refine v_goto (pc := 73) C 84 dX6_ductOf_73 (by decide) ?_
          exact v_iret (pc := 84) C hr (rfl) dX6_ductOf_84 (⟨_, rfl, mQ_ok (z' := if w < 6 then n (76 + 12 * e + w) else if w = 6 then outR n e else needR n e) (by unfold op_ductOf; rw [if_neg (by omega), if_neg (by omega)]) (by first | (rw [if_pos (by omega)]; assumption) | (rw [if_neg (by omega), if_pos (by omega)]; assumption) | (rw [if_neg (by omega), if_neg (by omega)]; assumption))⟩)
      · refine v_aload_n (pc := 47) C 0 rfl dX6_ductOf_47 ?_
        refine v_getr (pc := 48) C inX6 goX6 (ci := 4) rfl 3 (by decide) (wF_X6_13 G) rfl sh_255 (257) rfl dX6_ductOf_48 ?_
        refine v_iload_n (pc := 51) C 1 rfl dX6_ductOf_51 ?_
        refine v_iload_n (pc := 52) C 2 rfl dX6_ductOf_52 ?_
        refine v_st (mS_i257 _ _ _ _ _ _ _ _ _ _ _ _ _ ) ?_
        refine v_cs (pc := 53) (as := [.ref (bs γ + 257), .int (iI e), .int (iI w)]) C (cy_X6_ofDuct G) (wM_X6_62 G) (k_X6_ofDuct G (⟨sh_257, by decide⟩ : sh 257 = (0, 268) ∧ 268 ≤ 4000) (by omega)) dX6_ductOf_53 rfl rfl (by decide) (by decide) (Nat.le_of_ble_eq_true rfl) zc (k_I (fun z53 s53 q53 => ?_))
        obtain ⟨⟨ez53, rz53⟩, rfl⟩ := q53
        rw [mS_o257]
        refine v_goto (pc := 56) C 84 dX6_ductOf_56 (by decide) ?_
        exact v_iret (pc := 84) C hr (rfl) dX6_ductOf_84 (⟨_, rfl, mQ_ok (z' := if w < 6 then n (76 + 12 * e + w) else if w = 6 then outR n e else needR n e) (by unfold op_ductOf; rw [if_neg (by omega), if_neg (by omega)]) (by first | (rw [if_pos (by omega)]; assumption) | (rw [if_neg (by omega), if_pos (by omega)]; assumption) | (rw [if_neg (by omega), if_neg (by omega)]; assumption))⟩)
    · refine v_if_eq (pc := 25) C 32 (by first | omega | assumption) dX6_ductOf_25 (by decide) (fun _ => ?_) (fun h => absurd h (by decide))
      refine v_iconst (pc := 32) C dX6_ductOf_32 ?_
      refine v_cv (pc := 33) (as := [.int (iI 2)]) C (cy_X6_refused G) (wM_X6_124 G) sh_255 (ci := 4) rfl rfl (refY G (by decide)) dX6_ductOf_33 rfl rfl (by decide) (by decide) (Nat.le_of_ble_eq_true rfl) zc (k_I (fun z33_1 s33_1 q33_1 => ?_))
      obtain ⟨rfl, rfl⟩ := q33_1
      refine v_if_eq (pc := 36) C 41 (by first | omega | assumption) dX6_ductOf_36 (by decide) (fun h => absurd h (by decide)) (fun _ => ?_)
      refine v_iconst (pc := 39) C dX6_ductOf_39 ?_
      exact v_iret (pc := 40) C hr (rfl) dX6_ductOf_40 (⟨_, rfl, mQ_no (by unfold op_ductOf; rw [if_neg (by omega), if_pos (by omega)]) (by decide)⟩)
  · rw [mS_o257]
    refine v_if_ne (pc := 9) C 16 (by first | omega | assumption) dX6_ductOf_9 (by decide) (fun h => absurd h (by decide)) (fun _ => ?_)
    refine v_iconst (pc := 12) C dX6_ductOf_12 ?_
    refine v_goto (pc := 13) C 33 dX6_ductOf_13 (by decide) ?_
    refine v_cv (pc := 33) (as := [.int (iI 1)]) C (cy_X6_refused G) (wM_X6_124 G) sh_255 (ci := 4) rfl rfl (refY G (by decide)) dX6_ductOf_33 rfl rfl (by decide) (by decide) (Nat.le_of_ble_eq_true rfl) zc (k_I (fun z33_2 s33_2 q33_2 => ?_))
    obtain ⟨rfl, rfl⟩ := q33_2
    refine v_if_eq (pc := 36) C 41 (by first | omega | assumption) dX6_ductOf_36 (by decide) (fun h => absurd h (by decide)) (fun _ => ?_)
    refine v_iconst (pc := 39) C dX6_ductOf_39 ?_
    exact v_iret (pc := 40) C hr (rfl) dX6_ductOf_40 (⟨_, rfl, mQ_no (by unfold op_ductOf; rw [if_pos (by omega)]) (by decide)⟩)

set_option maxHeartbeats 4000000 in
set_option maxRecDepth 100000 in
theorem k_X6_valve {γ : Gm} (G : Glo γ) {σ : St} {w s a p u : Int} {t n x f d k i : Int → Int} {c v : Int} (hc : R3 c) (hv : R3 v) (ha : 0 ≤ a ∧ a ≤ 14) (hW : Wf n) : Ct γ yX6_valve cX6_valve 3 (some .int) 3 [.ref (bs γ + 255), .int (iI c), .int (iI v)] (mS σ w s a p u t n x f d k i) (pI (fun z σ2 => mQ σ (op_valve s a t n d k i c v) z σ2)) := by
  refine Ct.of G (by decide +kernel) (Nat.le_of_ble_eq_true rfl) (fun φ C hr => ?_)
  have C : Cx γ φ RX6 cX6_valve 3 3 := C
  have hn0 := hW.1
  have hn1 := hW.2.1
  have hn4 := hW.2.2.1
  have hn5 := hW.2.2.2.1
  refine v_lv [(0, .ref (bs γ + 255)), (1, .int (iI c)), (2, .int (iI v))] [0, 1, 2] rfl ?_
  refine v_aload_n (pc := 0) C 0 rfl dX6_valve_0 ?_
  refine v_iload_n (pc := 1) C 1 rfl dX6_valve_1 ?_
  refine v_iload_n (pc := 2) C 2 rfl dX6_valve_2 ?_
  refine v_cs (pc := 3) (as := [.int (iI c), .int (iI v)]) C (cy_X6_isValveWord G) (wM_X6_194 G) (k_X6_isValveWord G (by first | omega | assumption) (by first | omega | assumption)) dX6_valve_3 rfl rfl (by decide) (by decide) (Nat.le_of_ble_eq_true rfl) zc (k_I (fun z3 s3 q3 => ?_))
  rcases q3 with ⟨⟨rfl, q3⟩ | ⟨rfl, q3⟩, rfl⟩
  · refine v_if_ne (pc := 6) C 13 (by first | omega | assumption) dX6_valve_6 (by decide) (fun _ => ?_) (fun h => absurd h (by decide))
    refine v_aload_n (pc := 13) C 0 rfl dX6_valve_13 ?_
    refine v_getr (pc := 14) C inX6 goX6 (ci := 4) rfl 3 (by decide) (wF_X6_13 G) rfl sh_255 (257) rfl dX6_valve_14 ?_
    refine v_iconst (pc := 17) C dX6_valve_17 ?_
    refine v_iald (pc := 18) C sh_257 (by decide) (by first | omega | assumption) dX6_valve_18 (fun z18 ez18 rz18 => ?_)
    rw [mS_n] at ez18
    refine v_bipush (pc := 19) C (by decide +kernel) dX6_valve_19 ?_
    refine v_icmp_ge (pc := 21) C 28 (by first | omega | assumption) (by first | omega | assumption) dX6_valve_21 (by decide) (fun h21 => ?_) (fun h21 => ?_)
    · refine v_iconst (pc := 28) C dX6_valve_28 ?_
      refine v_cv (pc := 29) (as := [.int (iI 2)]) C (cy_X6_refused G) (wM_X6_124 G) sh_255 (ci := 4) rfl rfl (refY G (by decide)) dX6_valve_29 rfl rfl (by decide) (by decide) (Nat.le_of_ble_eq_true rfl) zc (k_I (fun z29 s29 q29 => ?_))
      obtain ⟨rfl, rfl⟩ := q29
      refine v_if_eq (pc := 32) C 37 (by first | omega | assumption) dX6_valve_32 (by decide) (fun h => absurd h (by decide)) (fun _ => ?_)
      refine v_iconst (pc := 35) C dX6_valve_35 ?_
      exact v_iret (pc := 36) C hr (rfl) dX6_valve_36 (⟨_, rfl, mQ_no (by unfold op_valve; rw [if_neg (by omega), if_pos (by omega)]) (by decide)⟩)
    · refine v_iconst (pc := 24) C dX6_valve_24 ?_
      refine v_goto (pc := 25) C 29 dX6_valve_25 (by decide) ?_
      refine v_cv (pc := 29) (as := [.int (iI 0)]) C (cy_X6_refused G) (wM_X6_124 G) sh_255 (ci := 4) rfl rfl (refN G) dX6_valve_29 rfl rfl (by decide) (by decide) (Nat.le_of_ble_eq_true rfl) zc (k_I (fun z29_1 s29_1 q29_1 => ?_))
      obtain ⟨rfl, rfl⟩ := q29_1
      refine v_if_eq (pc := 32) C 37 (by first | omega | assumption) dX6_valve_32 (by decide) (fun _ => ?_) (fun h => absurd h (by decide))
      refine v_aload_n (pc := 37) C 0 rfl dX6_valve_37 ?_
      refine v_cv (pc := 38) (as := []) C (cy_X6_remember G) (wM_X6_198 G) sh_255 (ci := 4) rfl rfl (k_X6_remember G ha) dX6_valve_38 rfl rfl (by decide) (by decide) (Nat.le_of_ble_eq_true rfl) zc (k_V (fun s38 q38 => ?_))
      subst q38
      refine v_aload_n (pc := 41) C 0 rfl dX6_valve_41 ?_
      refine v_getr (pc := 42) C inX6 goX6 (ci := 4) rfl 3 (by decide) (wF_X6_13 G) rfl sh_255 (257) rfl dX6_valve_42 ?_
      refine v_iload_n (pc := 45) C 1 rfl dX6_valve_45 ?_
      refine v_iload_n (pc := 46) C 2 rfl dX6_valve_46 ?_
      refine v_st (mS_i257 _ _ _ _ _ _ _ _ _ _ _ _ _ ) ?_
      refine v_cs (pc := 47) (as := [.ref (bs γ + 257), .int (iI c), .int (iI v)]) C (cy_X6_valveOn G) (wM_X6_153 G) (k_X6_valveOn G (⟨sh_257, by decide⟩ : sh 257 = (0, 268) ∧ 268 ≤ 4000) (by omega) (by first | omega | assumption) (by first | omega | assumption)) dX6_valve_47 rfl rfl (by decide) (by decide) (Nat.le_of_ble_eq_true rfl) zc (k_I (fun z47 s47 q47 => ?_))
      obtain ⟨ez47, rfl⟩ := q47
      rw [mS_o257]
      exact v_iret (pc := 50) C hr (rfl) dX6_valve_50 (⟨_, rfl, mQ_ok (z' := n 0) (by unfold op_valve; rw [if_neg (by omega), if_neg (by omega)]) (by omega)⟩)
  · refine v_if_ne (pc := 6) C 13 (by first | omega | assumption) dX6_valve_6 (by decide) (fun h => absurd h (by decide)) (fun _ => ?_)
    refine v_iconst (pc := 9) C dX6_valve_9 ?_
    refine v_goto (pc := 10) C 29 dX6_valve_10 (by decide) ?_
    refine v_cv (pc := 29) (as := [.int (iI 1)]) C (cy_X6_refused G) (wM_X6_124 G) sh_255 (ci := 4) rfl rfl (refY G (by decide)) dX6_valve_29 rfl rfl (by decide) (by decide) (Nat.le_of_ble_eq_true rfl) zc (k_I (fun z29_2 s29_2 q29_2 => ?_))
    obtain ⟨rfl, rfl⟩ := q29_2
    refine v_if_eq (pc := 32) C 37 (by first | omega | assumption) dX6_valve_32 (by decide) (fun h => absurd h (by decide)) (fun _ => ?_)
    refine v_iconst (pc := 35) C dX6_valve_35 ?_
    exact v_iret (pc := 36) C hr (rfl) dX6_valve_36 (⟨_, rfl, mQ_no (by unfold op_valve; rw [if_pos (by omega)]) (by decide)⟩)

set_option maxHeartbeats 4000000 in
set_option maxRecDepth 100000 in
theorem k_X6_duct {γ : Gm} (G : Glo γ) {σ : St} {w s a p u : Int} {t n x f d k i : Int → Int} {c g y q m : Int} (hc : R3 c) (hg : R3 g) (hy : R3 y) (hq : R3 q) (hm : R3 m) (ha : 0 ≤ a ∧ a ≤ 14) (hW : Wf n) : Ct γ yX6_duct cX6_duct 6 (some .int) 4 [.ref (bs γ + 255), .int (iI c), .int (iI g), .int (iI y), .int (iI q), .int (iI m)] (mS σ w s a p u t n x f d k i) (pI (fun z σ2 => mQ σ (op_duct s a t n d k i c g y q m) z σ2)) := by
  refine Ct.of G (by decide +kernel) (Nat.le_of_ble_eq_true rfl) (fun φ C hr => ?_)
  have C : Cx γ φ RX6 cX6_duct 6 4 := C
  have hn0 := hW.1
  have hn1 := hW.2.1
  have hn4 := hW.2.2.1
  have hn5 := hW.2.2.2.1
  refine v_lv [(0, .ref (bs γ + 255)), (1, .int (iI c)), (2, .int (iI g)), (3, .int (iI y)), (4, .int (iI q)), (5, .int (iI m))] [0, 1, 2, 3, 4, 5] rfl ?_
  refine v_aload_n (pc := 0) C 0 rfl dX6_duct_0 ?_
  refine v_aload_n (pc := 1) C 0 rfl dX6_duct_1 ?_
  refine v_getr (pc := 2) C inX6 goX6 (ci := 4) rfl 3 (by decide) (wF_X6_13 G) rfl sh_255 (257) rfl dX6_duct_2 ?_
  refine v_iload_n (pc := 5) C 1 rfl dX6_duct_5 ?_
  refine v_iload_n (pc := 6) C 2 rfl dX6_duct_6 ?_
  refine v_iload_n (pc := 7) C 3 rfl dX6_duct_7 ?_
  refine v_iload (pc := 8) C 4 rfl dX6_duct_8 ?_
  refine v_st (mS_i257 _ _ _ _ _ _ _ _ _ _ _ _ _ ) ?_
  refine v_cs (pc := 10) (as := [.ref (bs γ + 257), .int (iI c), .int (iI g), .int (iI y), .int (iI q)]) C (cy_X6_areEnds G) (wM_X6_110 G) (k_X6_areEnds G (⟨sh_257, by decide⟩ : sh 257 = (0, 268) ∧ 268 ≤ 4000) (by first | omega | assumption) (by first | omega | assumption) (by first | omega | assumption) (by first | omega | assumption) (by first | omega | assumption)) dX6_duct_10 rfl rfl (by decide) (by decide) (Nat.le_of_ble_eq_true rfl) zc (k_I (fun z10 s10 q10 => ?_))
  rcases q10 with ⟨⟨rfl, q10⟩ | ⟨rfl, q10⟩, rfl⟩
  · rw [mS_o257]
    refine v_if_ne (pc := 13) C 20 (by first | omega | assumption) dX6_duct_13 (by decide) (fun _ => ?_) (fun h => absurd h (by decide))
    refine v_iload (pc := 20) C 5 rfl dX6_duct_20 ?_
    refine v_i2l (pc := 22) C (by first | omega | assumption) dX6_duct_22 ?_
    refine v_lconst (pc := 23) C (z := 1) rfl dX6_duct_23 ?_
    refine v_ldc2 (pc := 24) C (wCL_X6_114 G) dX6_duct_24 ?_
    refine v_cs (pc := 27) (as := [.long (lI m), .long (lI 1), .long (lI 6)]) C (cy_X6_in G) (wM_X6_40 G) (k_X6_in G (by first | omega | assumption) (by first | omega | assumption) (by first | omega | assumption)) dX6_duct_27 rfl rfl (by decide) (by decide) (Nat.le_of_ble_eq_true rfl) zc (k_I (fun z27 s27 q27 => ?_))
    rcases q27 with ⟨⟨rfl, q27⟩ | ⟨rfl, q27⟩, rfl⟩
    · refine v_if_ne (pc := 30) C 37 (by first | omega | assumption) dX6_duct_30 (by decide) (fun _ => ?_) (fun h => absurd h (by decide))
      refine v_aload_n (pc := 37) C 0 rfl dX6_duct_37 ?_
      refine v_getr (pc := 38) C inX6 goX6 (ci := 4) rfl 3 (by decide) (wF_X6_13 G) rfl sh_255 (257) rfl dX6_duct_38 ?_
      refine v_iconst (pc := 41) C dX6_duct_41 ?_
      refine v_iald (pc := 42) C sh_257 (by decide) (by first | omega | assumption) dX6_duct_42 (fun z42 ez42 rz42 => ?_)
      rw [mS_n] at ez42
      refine v_bipush (pc := 43) C (by decide +kernel) dX6_duct_43 ?_
      refine v_icmp_ge (pc := 45) C 52 (by first | omega | assumption) (by first | omega | assumption) dX6_duct_45 (by decide) (fun h45 => ?_) (fun h45 => ?_)
      · refine v_iconst (pc := 52) C dX6_duct_52 ?_
        refine v_cv (pc := 53) (as := [.int (iI 3)]) C (cy_X6_refused G) (wM_X6_124 G) sh_255 (ci := 4) rfl rfl (refY G (by decide)) dX6_duct_53 rfl rfl (by decide) (by decide) (Nat.le_of_ble_eq_true rfl) zc (k_I (fun z53 s53 q53 => ?_))
        obtain ⟨rfl, rfl⟩ := q53
        refine v_if_eq (pc := 56) C 61 (by first | omega | assumption) dX6_duct_56 (by decide) (fun h => absurd h (by decide)) (fun _ => ?_)
        refine v_iconst (pc := 59) C dX6_duct_59 ?_
        exact v_iret (pc := 60) C hr (rfl) dX6_duct_60 (⟨_, rfl, mQ_no (by unfold op_duct; rw [if_neg (by omega), if_neg (by omega), if_pos (by omega)]) (by decide)⟩)
      · refine v_iconst (pc := 48) C dX6_duct_48 ?_
        refine v_goto (pc := 49) C 53 dX6_duct_49 (by decide) ?_
        refine v_cv (pc := 53) (as := [.int (iI 0)]) C (cy_X6_refused G) (wM_X6_124 G) sh_255 (ci := 4) rfl rfl (refN G) dX6_duct_53 rfl rfl (by decide) (by decide) (Nat.le_of_ble_eq_true rfl) zc (k_I (fun z53_1 s53_1 q53_1 => ?_))
        obtain ⟨rfl, rfl⟩ := q53_1
        refine v_if_eq (pc := 56) C 61 (by first | omega | assumption) dX6_duct_56 (by decide) (fun _ => ?_) (fun h => absurd h (by decide))
        refine v_aload_n (pc := 61) C 0 rfl dX6_duct_61 ?_
        refine v_cv (pc := 62) (as := []) C (cy_X6_remember G) (wM_X6_198 G) sh_255 (ci := 4) rfl rfl (k_X6_remember G ha) dX6_duct_62 rfl rfl (by decide) (by decide) (Nat.le_of_ble_eq_true rfl) zc (k_V (fun s62 q62 => ?_))
        subst q62
        refine v_aload_n (pc := 65) C 0 rfl dX6_duct_65 ?_
        refine v_getr (pc := 66) C inX6 goX6 (ci := 4) rfl 3 (by decide) (wF_X6_13 G) rfl sh_255 (257) rfl dX6_duct_66 ?_
        refine v_iload_n (pc := 69) C 1 rfl dX6_duct_69 ?_
        refine v_iload_n (pc := 70) C 2 rfl dX6_duct_70 ?_
        refine v_iload_n (pc := 71) C 3 rfl dX6_duct_71 ?_
        refine v_iload (pc := 72) C 4 rfl dX6_duct_72 ?_
        refine v_iload (pc := 74) C 5 rfl dX6_duct_74 ?_
        refine v_st (mS_i257 _ _ _ _ _ _ _ _ _ _ _ _ _ ) ?_
        refine v_cs (pc := 76) (as := [.ref (bs γ + 257), .int (iI c), .int (iI g), .int (iI y), .int (iI q), .int (iI m)]) C (cy_X6_ductOn G) (wM_X6_145 G) (k_X6_ductOn G (⟨sh_257, by decide⟩ : sh 257 = (0, 268) ∧ 268 ≤ 4000) (by omega) (by first | omega | assumption) (by first | omega | assumption) (by first | omega | assumption) (by first | omega | assumption) (by first | omega | assumption)) dX6_duct_76 rfl rfl (by decide) (by decide) (Nat.le_of_ble_eq_true rfl) zc (k_I (fun z76 s76 q76 => ?_))
        obtain ⟨ez76, rfl⟩ := q76
        rw [mS_o257]
        exact v_iret (pc := 79) C hr (rfl) dX6_duct_79 (⟨_, rfl, mQ_ok (z' := n 1) (by unfold op_duct; rw [if_neg (by omega), if_neg (by omega), if_neg (by omega)]) (by omega)⟩)
    · refine v_if_ne (pc := 30) C 37 (by first | omega | assumption) dX6_duct_30 (by decide) (fun h => absurd h (by decide)) (fun _ => ?_)
      refine v_iconst (pc := 33) C dX6_duct_33 ?_
      refine v_goto (pc := 34) C 53 dX6_duct_34 (by decide) ?_
      refine v_cv (pc := 53) (as := [.int (iI 2)]) C (cy_X6_refused G) (wM_X6_124 G) sh_255 (ci := 4) rfl rfl (refY G (by decide)) dX6_duct_53 rfl rfl (by decide) (by decide) (Nat.le_of_ble_eq_true rfl) zc (k_I (fun z53_2 s53_2 q53_2 => ?_))
      obtain ⟨rfl, rfl⟩ := q53_2
      refine v_if_eq (pc := 56) C 61 (by first | omega | assumption) dX6_duct_56 (by decide) (fun h => absurd h (by decide)) (fun _ => ?_)
      refine v_iconst (pc := 59) C dX6_duct_59 ?_
      exact v_iret (pc := 60) C hr (rfl) dX6_duct_60 (⟨_, rfl, mQ_no (by unfold op_duct; rw [if_neg (by omega), if_pos (by omega)]) (by decide)⟩)
  · rw [mS_o257]
    refine v_if_ne (pc := 13) C 20 (by first | omega | assumption) dX6_duct_13 (by decide) (fun h => absurd h (by decide)) (fun _ => ?_)
    refine v_iconst (pc := 16) C dX6_duct_16 ?_
    refine v_goto (pc := 17) C 53 dX6_duct_17 (by decide) ?_
    refine v_cv (pc := 53) (as := [.int (iI 1)]) C (cy_X6_refused G) (wM_X6_124 G) sh_255 (ci := 4) rfl rfl (refY G (by decide)) dX6_duct_53 rfl rfl (by decide) (by decide) (Nat.le_of_ble_eq_true rfl) zc (k_I (fun z53_3 s53_3 q53_3 => ?_))
    obtain ⟨rfl, rfl⟩ := q53_3
    refine v_if_eq (pc := 56) C 61 (by first | omega | assumption) dX6_duct_56 (by decide) (fun h => absurd h (by decide)) (fun _ => ?_)
    refine v_iconst (pc := 59) C dX6_duct_59 ?_
    exact v_iret (pc := 60) C hr (rfl) dX6_duct_60 (⟨_, rfl, mQ_no (by unfold op_duct; rw [if_pos (by omega)]) (by decide)⟩)

set_option maxHeartbeats 4000000 in
set_option maxRecDepth 100000 in
theorem k_X6_remove {γ : Gm} (G : Glo γ) {σ : St} {w s a p u : Int} {t n x f d k i : Int → Int} {e : Int} (he : R3 e) (ha : 0 ≤ a ∧ a ≤ 14) (hW : Wf n) : Ct γ yX6_remove cX6_remove 2 (some .int) 3 [.ref (bs γ + 255), .int (iI e)] (mS σ w s a p u t n x f d k i) (pI (fun z σ2 => mQ σ (op_remove s a t n d k i e) z σ2)) := by
  refine Ct.of G (by decide +kernel) (Nat.le_of_ble_eq_true rfl) (fun φ C hr => ?_)
  have C : Cx γ φ RX6 cX6_remove 2 3 := C
  have hn0 := hW.1
  have hn1 := hW.2.1
  have hn4 := hW.2.2.1
  have hn5 := hW.2.2.2.1
  refine v_lv [(0, .ref (bs γ + 255)), (1, .int (iI e))] [0, 1] rfl ?_
  refine v_aload_n (pc := 0) C 0 rfl dX6_remove_0 ?_
  refine v_aload_n (pc := 1) C 0 rfl dX6_remove_1 ?_
  refine v_getr (pc := 2) C inX6 goX6 (ci := 4) rfl 3 (by decide) (wF_X6_13 G) rfl sh_255 (257) rfl dX6_remove_2 ?_
  refine v_iload_n (pc := 5) C 1 rfl dX6_remove_5 ?_
  refine v_st (mS_i257 _ _ _ _ _ _ _ _ _ _ _ _ _ ) ?_
  refine v_cs (pc := 6) (as := [.ref (bs γ + 257), .int (iI e)]) C (cy_X6_isDuct G) (wM_X6_167 G) (k_X6_isDuct G (⟨sh_257, by decide⟩ : sh 257 = (0, 268) ∧ 268 ≤ 4000) (by first | omega | assumption) (by first | omega | assumption)) dX6_remove_6 rfl rfl (by decide) (by decide) (Nat.le_of_ble_eq_true rfl) zc (k_I (fun z6 s6 q6 => ?_))
  rcases q6 with ⟨⟨rfl, q6⟩ | ⟨rfl, q6⟩, rfl⟩
  · rw [mS_o257]
    refine v_if_eq (pc := 9) C 16 (by first | omega | assumption) dX6_remove_9 (by decide) (fun h => absurd h (by decide)) (fun _ => ?_)
    refine v_iconst (pc := 12) C dX6_remove_12 ?_
    refine v_goto (pc := 13) C 17 dX6_remove_13 (by decide) ?_
    refine v_cv (pc := 17) (as := [.int (iI 0)]) C (cy_X6_refused G) (wM_X6_124 G) sh_255 (ci := 4) rfl rfl (refN G) dX6_remove_17 rfl rfl (by decide) (by decide) (Nat.le_of_ble_eq_true rfl) zc (k_I (fun z17 s17 q17 => ?_))
    obtain ⟨rfl, rfl⟩ := q17
    refine v_if_eq (pc := 20) C 25 (by first | omega | assumption) dX6_remove_20 (by decide) (fun _ => ?_) (fun h => absurd h (by decide))
    refine v_aload_n (pc := 25) C 0 rfl dX6_remove_25 ?_
    refine v_cv (pc := 26) (as := []) C (cy_X6_remember G) (wM_X6_198 G) sh_255 (ci := 4) rfl rfl (k_X6_remember G ha) dX6_remove_26 rfl rfl (by decide) (by decide) (Nat.le_of_ble_eq_true rfl) zc (k_V (fun s26 q26 => ?_))
    subst q26
    refine v_aload_n (pc := 29) C 0 rfl dX6_remove_29 ?_
    refine v_getr (pc := 30) C inX6 goX6 (ci := 4) rfl 3 (by decide) (wF_X6_13 G) rfl sh_255 (257) rfl dX6_remove_30 ?_
    refine v_iload_n (pc := 33) C 1 rfl dX6_remove_33 ?_
    refine v_st (mS_i257 _ _ _ _ _ _ _ _ _ _ _ _ _ ) ?_
    refine v_cs (pc := 34) (as := [.ref (bs γ + 257), .int (iI e)]) C (cy_X6_removeOn G) (wM_X6_201 G) (k_X6_removeOn G (⟨sh_257, by decide⟩ : sh 257 = (0, 268) ∧ 268 ≤ 4000) (by omega) (by omega)) dX6_remove_34 rfl rfl (by decide) (by decide) (Nat.le_of_ble_eq_true rfl) zc (k_I (fun z34 s34 q34 => ?_))
    obtain ⟨ez34, rfl⟩ := q34
    rw [mS_o257]
    exact v_iret (pc := 37) C hr (rfl) dX6_remove_37 (⟨_, rfl, mQ_ok (z' := n 1 - 1) (by unfold op_remove; rw [if_neg (by omega)]) (by omega)⟩)
  · rw [mS_o257]
    refine v_if_eq (pc := 9) C 16 (by first | omega | assumption) dX6_remove_9 (by decide) (fun _ => ?_) (fun h => absurd h (by decide))
    refine v_iconst (pc := 16) C dX6_remove_16 ?_
    refine v_cv (pc := 17) (as := [.int (iI 1)]) C (cy_X6_refused G) (wM_X6_124 G) sh_255 (ci := 4) rfl rfl (refY G (by decide)) dX6_remove_17 rfl rfl (by decide) (by decide) (Nat.le_of_ble_eq_true rfl) zc (k_I (fun z17_1 s17_1 q17_1 => ?_))
    obtain ⟨rfl, rfl⟩ := q17_1
    refine v_if_eq (pc := 20) C 25 (by first | omega | assumption) dX6_remove_20 (by decide) (fun h => absurd h (by decide)) (fun _ => ?_)
    refine v_iconst (pc := 23) C dX6_remove_23 ?_
    exact v_iret (pc := 24) C hr (rfl) dX6_remove_24 (⟨_, rfl, mQ_no (by unfold op_remove; rw [if_pos (by omega)]) (by decide)⟩)

set_option maxHeartbeats 4000000 in
set_option maxRecDepth 100000 in
theorem k_X6_press {γ : Gm} (G : Glo γ) {σ : St} {w s a p u : Int} {t n x f d k i : Int → Int} {v b : Int} (hv : R3 v) (ha : 0 ≤ a ∧ a ≤ 14) (hW : Wf n) (hb01 : b = 0 ∨ b = 1) : Ct γ yX6_press cX6_press 3 (some .int) 4 [.ref (bs γ + 255), .int (iI v), .int (iI b)] (mS σ w s a p u t n x f d k i) (pI (fun z σ2 => mQ σ (op_press s a t n d k i v b) z σ2)) := by
  refine Ct.of G (by decide +kernel) (Nat.le_of_ble_eq_true rfl) (fun φ C hr => ?_)
  have C : Cx γ φ RX6 cX6_press 3 4 := C
  have hn0 := hW.1
  have hn1 := hW.2.1
  have hn4 := hW.2.2.1
  have hn5 := hW.2.2.2.1
  refine v_lv [(0, .ref (bs γ + 255)), (1, .int (iI v)), (2, .int (iI b))] [0, 1, 2] rfl ?_
  refine v_aload_n (pc := 0) C 0 rfl dX6_press_0 ?_
  refine v_aload_n (pc := 1) C 0 rfl dX6_press_1 ?_
  refine v_getr (pc := 2) C inX6 goX6 (ci := 4) rfl 3 (by decide) (wF_X6_13 G) rfl sh_255 (257) rfl dX6_press_2 ?_
  refine v_iload_n (pc := 5) C 1 rfl dX6_press_5 ?_
  refine v_st (mS_i257 _ _ _ _ _ _ _ _ _ _ _ _ _ ) ?_
  refine v_cs (pc := 6) (as := [.ref (bs γ + 257), .int (iI v)]) C (cy_X6_isValve G) (wM_X6_44 G) (k_X6_isValve G (⟨sh_257, by decide⟩ : sh 257 = (0, 268) ∧ 268 ≤ 4000) (by first | omega | assumption) (by first | omega | assumption)) dX6_press_6 rfl rfl (by decide) (by decide) (Nat.le_of_ble_eq_true rfl) zc (k_I (fun z6 s6 q6 => ?_))
  rcases q6 with ⟨⟨rfl, q6⟩ | ⟨rfl, q6⟩, rfl⟩
  · rw [mS_o257]
    refine v_if_ne (pc := 9) C 16 (by first | omega | assumption) dX6_press_9 (by decide) (fun _ => ?_) (fun h => absurd h (by decide))
    refine v_aload_n (pc := 16) C 0 rfl dX6_press_16 ?_
    refine v_getr (pc := 17) C inX6 goX6 (ci := 4) rfl 3 (by decide) (wF_X6_13 G) rfl sh_255 (257) rfl dX6_press_17 ?_
    refine v_iload_n (pc := 20) C 1 rfl dX6_press_20 ?_
    refine v_st (mS_i257 _ _ _ _ _ _ _ _ _ _ _ _ _ ) ?_
    refine v_cs (pc := 21) (as := [.ref (bs γ + 257), .int (iI v)]) C (cy_X6_isKey G) (wM_X6_160 G) (k_X6_isKey G (⟨sh_257, by decide⟩ : sh 257 = (0, 268) ∧ 268 ≤ 4000) (by first | omega | assumption) (by first | omega | assumption)) dX6_press_21 rfl rfl (by decide) (by decide) (Nat.le_of_ble_eq_true rfl) zc (k_I (fun z21 s21 q21 => ?_))
    rcases q21 with ⟨⟨rfl, q21⟩ | ⟨rfl, q21⟩, rfl⟩
    · rw [mS_o257]
      refine v_if_eq (pc := 24) C 31 (by first | omega | assumption) dX6_press_24 (by decide) (fun h => absurd h (by decide)) (fun _ => ?_)
      refine v_iconst (pc := 27) C dX6_press_27 ?_
      refine v_goto (pc := 28) C 32 dX6_press_28 (by decide) ?_
      refine v_cv (pc := 32) (as := [.int (iI 0)]) C (cy_X6_refused G) (wM_X6_124 G) sh_255 (ci := 4) rfl rfl (refN G) dX6_press_32 rfl rfl (by decide) (by decide) (Nat.le_of_ble_eq_true rfl) zc (k_I (fun z32 s32 q32 => ?_))
      obtain ⟨rfl, rfl⟩ := q32
      refine v_if_eq (pc := 35) C 40 (by first | omega | assumption) dX6_press_35 (by decide) (fun _ => ?_) (fun h => absurd h (by decide))
      refine v_aload_n (pc := 40) C 0 rfl dX6_press_40 ?_
      refine v_cv (pc := 41) (as := []) C (cy_X6_remember G) (wM_X6_198 G) sh_255 (ci := 4) rfl rfl (k_X6_remember G ha) dX6_press_41 rfl rfl (by decide) (by decide) (Nat.le_of_ble_eq_true rfl) zc (k_V (fun s41 q41 => ?_))
      subst q41
      refine v_aload_n (pc := 44) C 0 rfl dX6_press_44 ?_
      refine v_getr (pc := 45) C inX6 goX6 (ci := 4) rfl 3 (by decide) (wF_X6_13 G) rfl sh_255 (257) rfl dX6_press_45 ?_
      refine v_iload_n (pc := 48) C 1 rfl dX6_press_48 ?_
      refine v_iload_n (pc := 49) C 2 rfl dX6_press_49 ?_
      refine v_st (mS_i257 _ _ _ _ _ _ _ _ _ _ _ _ _ ) ?_
      refine v_cs (pc := 50) (as := [.ref (bs γ + 257), .int (iI v), .int (iI b)]) C (cy_X6_pressOn G) (wM_X6_163 G) (k_X6_pressOn G (⟨sh_257, by decide⟩ : sh 257 = (0, 268) ∧ 268 ≤ 4000) (by omega) (by first | omega | assumption)) dX6_press_50 rfl rfl (by decide) (by decide) (Nat.le_of_ble_eq_true rfl) zc (k_I (fun z50 s50 q50 => ?_))
      obtain ⟨ez50, rfl⟩ := q50
      rw [mS_o257]
      exact v_iret (pc := 53) C hr (rfl) dX6_press_53 (⟨_, rfl, mQ_ok (z' := if n (6 + 7 * v + 2) = b then 0 else 1) (by unfold op_press; rw [if_neg (by omega), if_neg (by omega)]) (by assumption)⟩)
    · rw [mS_o257]
      refine v_if_eq (pc := 24) C 31 (by first | omega | assumption) dX6_press_24 (by decide) (fun _ => ?_) (fun h => absurd h (by decide))
      refine v_iconst (pc := 31) C dX6_press_31 ?_
      refine v_cv (pc := 32) (as := [.int (iI 2)]) C (cy_X6_refused G) (wM_X6_124 G) sh_255 (ci := 4) rfl rfl (refY G (by decide)) dX6_press_32 rfl rfl (by decide) (by decide) (Nat.le_of_ble_eq_true rfl) zc (k_I (fun z32_1 s32_1 q32_1 => ?_))
      obtain ⟨rfl, rfl⟩ := q32_1
      refine v_if_eq (pc := 35) C 40 (by first | omega | assumption) dX6_press_35 (by decide) (fun h => absurd h (by decide)) (fun _ => ?_)
      refine v_iconst (pc := 38) C dX6_press_38 ?_
      exact v_iret (pc := 39) C hr (rfl) dX6_press_39 (⟨_, rfl, mQ_no (by unfold op_press; rw [if_neg (by omega), if_pos (by omega)]) (by decide)⟩)
  · rw [mS_o257]
    refine v_if_ne (pc := 9) C 16 (by first | omega | assumption) dX6_press_9 (by decide) (fun h => absurd h (by decide)) (fun _ => ?_)
    refine v_iconst (pc := 12) C dX6_press_12 ?_
    refine v_goto (pc := 13) C 32 dX6_press_13 (by decide) ?_
    refine v_cv (pc := 32) (as := [.int (iI 1)]) C (cy_X6_refused G) (wM_X6_124 G) sh_255 (ci := 4) rfl rfl (refY G (by decide)) dX6_press_32 rfl rfl (by decide) (by decide) (Nat.le_of_ble_eq_true rfl) zc (k_I (fun z32_2 s32_2 q32_2 => ?_))
    obtain ⟨rfl, rfl⟩ := q32_2
    refine v_if_eq (pc := 35) C 40 (by first | omega | assumption) dX6_press_35 (by decide) (fun h => absurd h (by decide)) (fun _ => ?_)
    refine v_iconst (pc := 38) C dX6_press_38 ?_
    exact v_iret (pc := 39) C hr (rfl) dX6_press_39 (⟨_, rfl, mQ_no (by unfold op_press; rw [if_pos (by omega)]) (by decide)⟩)

set_option maxHeartbeats 4000000 in
set_option maxRecDepth 100000 in
theorem k_X6_leak {γ : Gm} (G : Glo γ) {σ : St} {w s a p u : Int} {t n x f d k i : Int → Int} {e l : Int} (he : R3 e) (hl : R3 l) (ha : 0 ≤ a ∧ a ≤ 14) (hW : Wf n) : Ct γ yX6_leak cX6_leak 3 (some .int) 3 [.ref (bs γ + 255), .int (iI e), .int (iI l)] (mS σ w s a p u t n x f d k i) (pI (fun z σ2 => mQ σ (op_leak s a t n d k i e l) z σ2)) := by
  refine Ct.of G (by decide +kernel) (Nat.le_of_ble_eq_true rfl) (fun φ C hr => ?_)
  have C : Cx γ φ RX6 cX6_leak 3 3 := C
  have hn0 := hW.1
  have hn1 := hW.2.1
  have hn4 := hW.2.2.1
  have hn5 := hW.2.2.2.1
  refine v_lv [(0, .ref (bs γ + 255)), (1, .int (iI e)), (2, .int (iI l))] [0, 1, 2] rfl ?_
  refine v_aload_n (pc := 0) C 0 rfl dX6_leak_0 ?_
  refine v_aload_n (pc := 1) C 0 rfl dX6_leak_1 ?_
  refine v_getr (pc := 2) C inX6 goX6 (ci := 4) rfl 3 (by decide) (wF_X6_13 G) rfl sh_255 (257) rfl dX6_leak_2 ?_
  refine v_iload_n (pc := 5) C 1 rfl dX6_leak_5 ?_
  refine v_st (mS_i257 _ _ _ _ _ _ _ _ _ _ _ _ _ ) ?_
  refine v_cs (pc := 6) (as := [.ref (bs γ + 257), .int (iI e)]) C (cy_X6_isDuct G) (wM_X6_167 G) (k_X6_isDuct G (⟨sh_257, by decide⟩ : sh 257 = (0, 268) ∧ 268 ≤ 4000) (by first | omega | assumption) (by first | omega | assumption)) dX6_leak_6 rfl rfl (by decide) (by decide) (Nat.le_of_ble_eq_true rfl) zc (k_I (fun z6 s6 q6 => ?_))
  rcases q6 with ⟨⟨rfl, q6⟩ | ⟨rfl, q6⟩, rfl⟩
  · rw [mS_o257]
    refine v_if_ne (pc := 9) C 16 (by first | omega | assumption) dX6_leak_9 (by decide) (fun _ => ?_) (fun h => absurd h (by decide))
    refine v_iload_n (pc := 16) C 2 rfl dX6_leak_16 ?_
    refine v_i2l (pc := 17) C (by first | omega | assumption) dX6_leak_17 ?_
    refine v_lconst (pc := 18) C (z := 0) rfl dX6_leak_18 ?_
    refine v_ldc2 (pc := 19) C (wCL_X6_204 G) dX6_leak_19 ?_
    refine v_cs (pc := 22) (as := [.long (lI l), .long (lI 0), .long (lI 30)]) C (cy_X6_in G) (wM_X6_40 G) (k_X6_in G (by first | omega | assumption) (by first | omega | assumption) (by first | omega | assumption)) dX6_leak_22 rfl rfl (by decide) (by decide) (Nat.le_of_ble_eq_true rfl) zc (k_I (fun z22 s22 q22 => ?_))
    rcases q22 with ⟨⟨rfl, q22⟩ | ⟨rfl, q22⟩, rfl⟩
    · refine v_if_eq (pc := 25) C 32 (by first | omega | assumption) dX6_leak_25 (by decide) (fun h => absurd h (by decide)) (fun _ => ?_)
      refine v_iconst (pc := 28) C dX6_leak_28 ?_
      refine v_goto (pc := 29) C 33 dX6_leak_29 (by decide) ?_
      refine v_cv (pc := 33) (as := [.int (iI 0)]) C (cy_X6_refused G) (wM_X6_124 G) sh_255 (ci := 4) rfl rfl (refN G) dX6_leak_33 rfl rfl (by decide) (by decide) (Nat.le_of_ble_eq_true rfl) zc (k_I (fun z33 s33 q33 => ?_))
      obtain ⟨rfl, rfl⟩ := q33
      refine v_if_eq (pc := 36) C 41 (by first | omega | assumption) dX6_leak_36 (by decide) (fun _ => ?_) (fun h => absurd h (by decide))
      refine v_aload_n (pc := 41) C 0 rfl dX6_leak_41 ?_
      refine v_cv (pc := 42) (as := []) C (cy_X6_remember G) (wM_X6_198 G) sh_255 (ci := 4) rfl rfl (k_X6_remember G ha) dX6_leak_42 rfl rfl (by decide) (by decide) (Nat.le_of_ble_eq_true rfl) zc (k_V (fun s42 q42 => ?_))
      subst q42
      refine v_aload_n (pc := 45) C 0 rfl dX6_leak_45 ?_
      refine v_getr (pc := 46) C inX6 goX6 (ci := 4) rfl 3 (by decide) (wF_X6_13 G) rfl sh_255 (257) rfl dX6_leak_46 ?_
      refine v_bipush (pc := 49) C (by decide +kernel) dX6_leak_49 ?_
      refine v_bipush (pc := 51) C (by decide +kernel) dX6_leak_51 ?_
      refine v_iload_n (pc := 53) C 1 rfl dX6_leak_53 ?_
      refine v_imul (pc := 54) C dX6_leak_54 ?_
      refine v_iadd (pc := 55) C dX6_leak_55 ?_
      refine v_iconst (pc := 56) C dX6_leak_56 ?_
      refine v_iadd (pc := 57) C dX6_leak_57 ?_
      refine v_iload_n (pc := 58) C 2 rfl dX6_leak_58 ?_
      refine v_st (mS_i257 _ _ _ _ _ _ _ _ _ _ _ _ _ ) ?_
      refine v_cs (pc := 59) (as := [.ref (bs γ + 257), .int (iI ((76 + (12 * e)) + 5)), .int (iI l)]) C (cy_X6_change G) (wM_X6_116 G) (k_X6_change G (⟨sh_257, by decide⟩ : sh 257 = (0, 268) ∧ 268 ≤ 4000) (by omega) (by first | omega | assumption)) dX6_leak_59 rfl rfl (by decide) (by decide) (Nat.le_of_ble_eq_true rfl) zc (k_I (fun z59 s59 q59 => ?_))
      obtain ⟨⟨ez59, rz59⟩, rfl⟩ := q59
      rw [mS_o257]
      exact v_iret (pc := 62) C hr (rfl) dX6_leak_62 (⟨_, rfl, mQ_ok (z' := n (76 + 12 * e + 5)) (by unfold op_leak; rw [if_neg (by omega), if_neg (by omega)]) (by assumption)⟩)
    · refine v_if_eq (pc := 25) C 32 (by first | omega | assumption) dX6_leak_25 (by decide) (fun _ => ?_) (fun h => absurd h (by decide))
      refine v_iconst (pc := 32) C dX6_leak_32 ?_
      refine v_cv (pc := 33) (as := [.int (iI 2)]) C (cy_X6_refused G) (wM_X6_124 G) sh_255 (ci := 4) rfl rfl (refY G (by decide)) dX6_leak_33 rfl rfl (by decide) (by decide) (Nat.le_of_ble_eq_true rfl) zc (k_I (fun z33_1 s33_1 q33_1 => ?_))
      obtain ⟨rfl, rfl⟩ := q33_1
      refine v_if_eq (pc := 36) C 41 (by first | omega | assumption) dX6_leak_36 (by decide) (fun h => absurd h (by decide)) (fun _ => ?_)
      refine v_iconst (pc := 39) C dX6_leak_39 ?_
      exact v_iret (pc := 40) C hr (rfl) dX6_leak_40 (⟨_, rfl, mQ_no (by unfold op_leak; rw [if_neg (by omega), if_pos (by omega)]) (by decide)⟩)
  · rw [mS_o257]
    refine v_if_ne (pc := 9) C 16 (by first | omega | assumption) dX6_leak_9 (by decide) (fun h => absurd h (by decide)) (fun _ => ?_)
    refine v_iconst (pc := 12) C dX6_leak_12 ?_
    refine v_goto (pc := 13) C 33 dX6_leak_13 (by decide) ?_
    refine v_cv (pc := 33) (as := [.int (iI 1)]) C (cy_X6_refused G) (wM_X6_124 G) sh_255 (ci := 4) rfl rfl (refY G (by decide)) dX6_leak_33 rfl rfl (by decide) (by decide) (Nat.le_of_ble_eq_true rfl) zc (k_I (fun z33_2 s33_2 q33_2 => ?_))
    obtain ⟨rfl, rfl⟩ := q33_2
    refine v_if_eq (pc := 36) C 41 (by first | omega | assumption) dX6_leak_36 (by decide) (fun h => absurd h (by decide)) (fun _ => ?_)
    refine v_iconst (pc := 39) C dX6_leak_39 ?_
    exact v_iret (pc := 40) C hr (rfl) dX6_leak_40 (⟨_, rfl, mQ_no (by unfold op_leak; rw [if_pos (by omega)]) (by decide)⟩)

set_option maxHeartbeats 4000000 in
set_option maxRecDepth 100000 in
theorem k_X6_feed {γ : Gm} (G : Glo γ) {σ : St} {w s a p u : Int} {t n x f d k i : Int → Int} {v m : Int} (hv : R3 v) (hm : R3 m) (ha : 0 ≤ a ∧ a ≤ 14) (hW : Wf n) : Ct γ yX6_feed cX6_feed 3 (some .int) 3 [.ref (bs γ + 255), .int (iI v), .int (iI m)] (mS σ w s a p u t n x f d k i) (pI (fun z σ2 => mQ σ (op_feed s a t n d k i v m) z σ2)) := by
  refine Ct.of G (by decide +kernel) (Nat.le_of_ble_eq_true rfl) (fun φ C hr => ?_)
  have C : Cx γ φ RX6 cX6_feed 3 3 := C
  have hn0 := hW.1
  have hn1 := hW.2.1
  have hn4 := hW.2.2.1
  have hn5 := hW.2.2.2.1
  refine v_lv [(0, .ref (bs γ + 255)), (1, .int (iI v)), (2, .int (iI m))] [0, 1, 2] rfl ?_
  refine v_aload_n (pc := 0) C 0 rfl dX6_feed_0 ?_
  refine v_aload_n (pc := 1) C 0 rfl dX6_feed_1 ?_
  refine v_getr (pc := 2) C inX6 goX6 (ci := 4) rfl 3 (by decide) (wF_X6_13 G) rfl sh_255 (257) rfl dX6_feed_2 ?_
  refine v_iload_n (pc := 5) C 1 rfl dX6_feed_5 ?_
  refine v_st (mS_i257 _ _ _ _ _ _ _ _ _ _ _ _ _ ) ?_
  refine v_cs (pc := 6) (as := [.ref (bs γ + 257), .int (iI v)]) C (cy_X6_isValve G) (wM_X6_44 G) (k_X6_isValve G (⟨sh_257, by decide⟩ : sh 257 = (0, 268) ∧ 268 ≤ 4000) (by first | omega | assumption) (by first | omega | assumption)) dX6_feed_6 rfl rfl (by decide) (by decide) (Nat.le_of_ble_eq_true rfl) zc (k_I (fun z6 s6 q6 => ?_))
  rcases q6 with ⟨⟨rfl, q6⟩ | ⟨rfl, q6⟩, rfl⟩
  · rw [mS_o257]
    refine v_if_ne (pc := 9) C 16 (by first | omega | assumption) dX6_feed_9 (by decide) (fun _ => ?_) (fun h => absurd h (by decide))
    refine v_iload_n (pc := 16) C 2 rfl dX6_feed_16 ?_
    refine v_i2l (pc := 17) C (by first | omega | assumption) dX6_feed_17 ?_
    refine v_ldc2 (pc := 18) C (wCL_X6_102 G) dX6_feed_18 ?_
    refine v_ldc2 (pc := 21) C (wCL_X6_104 G) dX6_feed_21 ?_
    refine v_cs (pc := 24) (as := [.long (lI m), .long (lI 10), .long (lI 99)]) C (cy_X6_in G) (wM_X6_40 G) (k_X6_in G (by first | omega | assumption) (by first | omega | assumption) (by first | omega | assumption)) dX6_feed_24 rfl rfl (by decide) (by decide) (Nat.le_of_ble_eq_true rfl) zc (k_I (fun z24 s24 q24 => ?_))
    rcases q24 with ⟨⟨rfl, q24⟩ | ⟨rfl, q24⟩, rfl⟩
    · refine v_if_eq (pc := 27) C 34 (by first | omega | assumption) dX6_feed_27 (by decide) (fun h => absurd h (by decide)) (fun _ => ?_)
      refine v_iconst (pc := 30) C dX6_feed_30 ?_
      refine v_goto (pc := 31) C 35 dX6_feed_31 (by decide) ?_
      refine v_cv (pc := 35) (as := [.int (iI 0)]) C (cy_X6_refused G) (wM_X6_124 G) sh_255 (ci := 4) rfl rfl (refN G) dX6_feed_35 rfl rfl (by decide) (by decide) (Nat.le_of_ble_eq_true rfl) zc (k_I (fun z35 s35 q35 => ?_))
      obtain ⟨rfl, rfl⟩ := q35
      refine v_if_eq (pc := 38) C 43 (by first | omega | assumption) dX6_feed_38 (by decide) (fun _ => ?_) (fun h => absurd h (by decide))
      refine v_aload_n (pc := 43) C 0 rfl dX6_feed_43 ?_
      refine v_cv (pc := 44) (as := []) C (cy_X6_remember G) (wM_X6_198 G) sh_255 (ci := 4) rfl rfl (k_X6_remember G ha) dX6_feed_44 rfl rfl (by decide) (by decide) (Nat.le_of_ble_eq_true rfl) zc (k_V (fun s44 q44 => ?_))
      subst q44
      refine v_aload_n (pc := 47) C 0 rfl dX6_feed_47 ?_
      refine v_getr (pc := 48) C inX6 goX6 (ci := 4) rfl 3 (by decide) (wF_X6_13 G) rfl sh_255 (257) rfl dX6_feed_48 ?_
      refine v_bipush (pc := 51) C (by decide +kernel) dX6_feed_51 ?_
      refine v_bipush (pc := 53) C (by decide +kernel) dX6_feed_53 ?_
      refine v_iload_n (pc := 55) C 1 rfl dX6_feed_55 ?_
      refine v_imul (pc := 56) C dX6_feed_56 ?_
      refine v_iadd (pc := 57) C dX6_feed_57 ?_
      refine v_iconst (pc := 58) C dX6_feed_58 ?_
      refine v_iadd (pc := 59) C dX6_feed_59 ?_
      refine v_iload_n (pc := 60) C 2 rfl dX6_feed_60 ?_
      refine v_st (mS_i257 _ _ _ _ _ _ _ _ _ _ _ _ _ ) ?_
      refine v_cs (pc := 61) (as := [.ref (bs γ + 257), .int (iI ((6 + (7 * v)) + 1)), .int (iI m)]) C (cy_X6_change G) (wM_X6_116 G) (k_X6_change G (⟨sh_257, by decide⟩ : sh 257 = (0, 268) ∧ 268 ≤ 4000) (by omega) (by first | omega | assumption)) dX6_feed_61 rfl rfl (by decide) (by decide) (Nat.le_of_ble_eq_true rfl) zc (k_I (fun z61 s61 q61 => ?_))
      obtain ⟨⟨ez61, rz61⟩, rfl⟩ := q61
      rw [mS_o257]
      exact v_iret (pc := 64) C hr (rfl) dX6_feed_64 (⟨_, rfl, mQ_ok (z' := n (6 + 7 * v + 1)) (by unfold op_feed; rw [if_neg (by omega), if_neg (by omega)]) (by assumption)⟩)
    · refine v_if_eq (pc := 27) C 34 (by first | omega | assumption) dX6_feed_27 (by decide) (fun _ => ?_) (fun h => absurd h (by decide))
      refine v_iconst (pc := 34) C dX6_feed_34 ?_
      refine v_cv (pc := 35) (as := [.int (iI 2)]) C (cy_X6_refused G) (wM_X6_124 G) sh_255 (ci := 4) rfl rfl (refY G (by decide)) dX6_feed_35 rfl rfl (by decide) (by decide) (Nat.le_of_ble_eq_true rfl) zc (k_I (fun z35_1 s35_1 q35_1 => ?_))
      obtain ⟨rfl, rfl⟩ := q35_1
      refine v_if_eq (pc := 38) C 43 (by first | omega | assumption) dX6_feed_38 (by decide) (fun h => absurd h (by decide)) (fun _ => ?_)
      refine v_iconst (pc := 41) C dX6_feed_41 ?_
      exact v_iret (pc := 42) C hr (rfl) dX6_feed_42 (⟨_, rfl, mQ_no (by unfold op_feed; rw [if_neg (by omega), if_pos (by omega)]) (by decide)⟩)
  · rw [mS_o257]
    refine v_if_ne (pc := 9) C 16 (by first | omega | assumption) dX6_feed_9 (by decide) (fun h => absurd h (by decide)) (fun _ => ?_)
    refine v_iconst (pc := 12) C dX6_feed_12 ?_
    refine v_goto (pc := 13) C 35 dX6_feed_13 (by decide) ?_
    refine v_cv (pc := 35) (as := [.int (iI 1)]) C (cy_X6_refused G) (wM_X6_124 G) sh_255 (ci := 4) rfl rfl (refY G (by decide)) dX6_feed_35 rfl rfl (by decide) (by decide) (Nat.le_of_ble_eq_true rfl) zc (k_I (fun z35_2 s35_2 q35_2 => ?_))
    obtain ⟨rfl, rfl⟩ := q35_2
    refine v_if_eq (pc := 38) C 43 (by first | omega | assumption) dX6_feed_38 (by decide) (fun h => absurd h (by decide)) (fun _ => ?_)
    refine v_iconst (pc := 41) C dX6_feed_41 ?_
    exact v_iret (pc := 42) C hr (rfl) dX6_feed_42 (⟨_, rfl, mQ_no (by unfold op_feed; rw [if_pos (by omega)]) (by decide)⟩)

set_option maxHeartbeats 4000000 in
set_option maxRecDepth 100000 in
theorem k_X6_set {γ : Gm} (G : Glo γ) {σ : St} {w s a p u : Int} {t n x f d k i : Int → Int} {w v : Int} (hw : R3 w) (hv : R3 v) (ha : 0 ≤ a ∧ a ≤ 14) (hW : Wf n) : Ct γ yX6_set cX6_set 3 (some .int) 3 [.ref (bs γ + 255), .int (iI w), .int (iI v)] (mS σ w s a p u t n x f d k i) (pI (fun z σ2 => mQ σ (op_set s a t n d k i w v) z σ2)) := by
  refine Ct.of G (by decide +kernel) (Nat.le_of_ble_eq_true rfl) (fun φ C hr => ?_)
  have C : Cx γ φ RX6 cX6_set 3 3 := C
  have hn0 := hW.1
  have hn1 := hW.2.1
  have hn4 := hW.2.2.1
  have hn5 := hW.2.2.2.1
  refine v_lv [(0, .ref (bs γ + 255)), (1, .int (iI w)), (2, .int (iI v))] [0, 1, 2] rfl ?_
  refine v_aload_n (pc := 0) C 0 rfl dX6_set_0 ?_
  refine v_iload_n (pc := 1) C 1 rfl dX6_set_1 ?_
  refine v_iload_n (pc := 2) C 2 rfl dX6_set_2 ?_
  refine v_cs (pc := 3) (as := [.int (iI w), .int (iI v)]) C (cy_X6_isSetting G) (wM_X6_206 G) (k_X6_isSetting G (by first | omega | assumption) (by first | omega | assumption)) dX6_set_3 rfl rfl (by decide) (by decide) (Nat.le_of_ble_eq_true rfl) zc (k_I (fun z3 s3 q3 => ?_))
  rcases q3 with ⟨⟨rfl, q3⟩ | ⟨rfl, q3⟩, rfl⟩
  · refine v_if_eq (pc := 6) C 13 (by first | omega | assumption) dX6_set_6 (by decide) (fun h => absurd h (by decide)) (fun _ => ?_)
    refine v_iconst (pc := 9) C dX6_set_9 ?_
    refine v_goto (pc := 10) C 14 dX6_set_10 (by decide) ?_
    refine v_cv (pc := 14) (as := [.int (iI 0)]) C (cy_X6_refused G) (wM_X6_124 G) sh_255 (ci := 4) rfl rfl (refN G) dX6_set_14 rfl rfl (by decide) (by decide) (Nat.le_of_ble_eq_true rfl) zc (k_I (fun z14 s14 q14 => ?_))
    obtain ⟨rfl, rfl⟩ := q14
    refine v_if_eq (pc := 17) C 22 (by first | omega | assumption) dX6_set_17 (by decide) (fun _ => ?_) (fun h => absurd h (by decide))
    refine v_aload_n (pc := 22) C 0 rfl dX6_set_22 ?_
    refine v_cv (pc := 23) (as := []) C (cy_X6_remember G) (wM_X6_198 G) sh_255 (ci := 4) rfl rfl (k_X6_remember G ha) dX6_set_23 rfl rfl (by decide) (by decide) (Nat.le_of_ble_eq_true rfl) zc (k_V (fun s23 q23 => ?_))
    subst q23
    refine v_aload_n (pc := 26) C 0 rfl dX6_set_26 ?_
    refine v_getr (pc := 27) C inX6 goX6 (ci := 4) rfl 3 (by decide) (wF_X6_13 G) rfl sh_255 (257) rfl dX6_set_27 ?_
    refine v_iconst (pc := 30) C dX6_set_30 ?_
    refine v_iload_n (pc := 31) C 1 rfl dX6_set_31 ?_
    refine v_iadd (pc := 32) C dX6_set_32 ?_
    refine v_iload_n (pc := 33) C 2 rfl dX6_set_33 ?_
    refine v_st (mS_i257 _ _ _ _ _ _ _ _ _ _ _ _ _ ) ?_
    refine v_cs (pc := 34) (as := [.ref (bs γ + 257), .int (iI (4 + w)), .int (iI v)]) C (cy_X6_change G) (wM_X6_116 G) (k_X6_change G (⟨sh_257, by decide⟩ : sh 257 = (0, 268) ∧ 268 ≤ 4000) (by omega) (by first | omega | assumption)) dX6_set_34 rfl rfl (by decide) (by decide) (Nat.le_of_ble_eq_true rfl) zc (k_I (fun z34 s34 q34 => ?_))
    obtain ⟨⟨ez34, rz34⟩, rfl⟩ := q34
    rw [mS_o257]
    exact v_iret (pc := 37) C hr (rfl) dX6_set_37 (⟨_, rfl, mQ_ok (z' := n (4 + w)) (by unfold op_set; rw [if_neg (by omega)]) (by assumption)⟩)
  · refine v_if_eq (pc := 6) C 13 (by first | omega | assumption) dX6_set_6 (by decide) (fun _ => ?_) (fun h => absurd h (by decide))
    refine v_iconst (pc := 13) C dX6_set_13 ?_
    refine v_cv (pc := 14) (as := [.int (iI 1)]) C (cy_X6_refused G) (wM_X6_124 G) sh_255 (ci := 4) rfl rfl (refY G (by decide)) dX6_set_14 rfl rfl (by decide) (by decide) (Nat.le_of_ble_eq_true rfl) zc (k_I (fun z14_1 s14_1 q14_1 => ?_))
    obtain ⟨rfl, rfl⟩ := q14_1
    refine v_if_eq (pc := 17) C 22 (by first | omega | assumption) dX6_set_17 (by decide) (fun h => absurd h (by decide)) (fun _ => ?_)
    refine v_iconst (pc := 20) C dX6_set_20 ?_
    exact v_iret (pc := 21) C hr (rfl) dX6_set_21 (⟨_, rfl, mQ_no (by unfold op_set; rw [if_pos (by omega)]) (by decide)⟩)

set_option maxHeartbeats 4000000 in
set_option maxRecDepth 100000 in
theorem k_X6_ticks {γ : Gm} (G : Glo γ) {σ : St} {w s a p u : Int} {t n x f d k i : Int → Int} {m : Int} (hm : R3 m) (ha : 0 ≤ a ∧ a ≤ 14) (hW : Wf n) : Ct γ yX6_ticks cX6_ticks 2 (some .int) 8 [.ref (bs γ + 255), .int (iI m)] (mS σ w s a p u t n x f d k i) (pI (fun z σ2 => mQ σ (op_ticks s a t n d k i m) z σ2)) := by
  refine Ct.of G (by decide +kernel) (Nat.le_of_ble_eq_true rfl) (fun φ C hr => ?_)
  have C : Cx γ φ RX6 cX6_ticks 2 8 := C
  have hn0 := hW.1
  have hn1 := hW.2.1
  have hn4 := hW.2.2.1
  have hn5 := hW.2.2.2.1
  refine v_lv [(0, .ref (bs γ + 255)), (1, .int (iI m))] [0, 1] rfl ?_
  refine v_aload_n (pc := 0) C 0 rfl dX6_ticks_0 ?_
  refine v_iload_n (pc := 1) C 1 rfl dX6_ticks_1 ?_
  refine v_i2l (pc := 2) C (by first | omega | assumption) dX6_ticks_2 ?_
  refine v_lconst (pc := 3) C (z := 1) rfl dX6_ticks_3 ?_
  refine v_ldc2 (pc := 4) C (wCL_X6_104 G) dX6_ticks_4 ?_
  refine v_cs (pc := 7) (as := [.long (lI m), .long (lI 1), .long (lI 99)]) C (cy_X6_in G) (wM_X6_40 G) (k_X6_in G (by first | omega | assumption) (by first | omega | assumption) (by first | omega | assumption)) dX6_ticks_7 rfl rfl (by decide) (by decide) (Nat.le_of_ble_eq_true rfl) zc (k_I (fun z7 s7 q7 => ?_))
  rcases q7 with ⟨⟨rfl, q7⟩ | ⟨rfl, q7⟩, rfl⟩
  · refine v_if_eq (pc := 10) C 17 (by first | omega | assumption) dX6_ticks_10 (by decide) (fun h => absurd h (by decide)) (fun _ => ?_)
    refine v_iconst (pc := 13) C dX6_ticks_13 ?_
    refine v_goto (pc := 14) C 18 dX6_ticks_14 (by decide) ?_
    refine v_cv (pc := 18) (as := [.int (iI 0)]) C (cy_X6_refused G) (wM_X6_124 G) sh_255 (ci := 4) rfl rfl (refN G) dX6_ticks_18 rfl rfl (by decide) (by decide) (Nat.le_of_ble_eq_true rfl) zc (k_I (fun z18 s18 q18 => ?_))
    obtain ⟨rfl, rfl⟩ := q18
    refine v_if_eq (pc := 21) C 26 (by first | omega | assumption) dX6_ticks_21 (by decide) (fun _ => ?_) (fun h => absurd h (by decide))
    refine v_aload_n (pc := 26) C 0 rfl dX6_ticks_26 ?_
    refine v_cv (pc := 27) (as := []) C (cy_X6_remember G) (wM_X6_198 G) sh_255 (ci := 4) rfl rfl (k_X6_remember G ha) dX6_ticks_27 rfl rfl (by decide) (by decide) (Nat.le_of_ble_eq_true rfl) zc (k_V (fun s27 q27 => ?_))
    subst q27
    refine v_aload_n (pc := 30) C 0 rfl dX6_ticks_30 ?_
    refine v_aload_n (pc := 31) C 0 rfl dX6_ticks_31 ?_
    refine v_getr (pc := 32) C inX6 goX6 (ci := 4) rfl 3 (by decide) (wF_X6_13 G) rfl sh_255 (257) rfl dX6_ticks_32 ?_
    refine v_iload_n (pc := 35) C 1 rfl dX6_ticks_35 ?_
    refine v_ok (fun hz => ?_)
    refine v_cv (pc := 36) (as := [.ref (bs γ + 257), .int (iI m)]) C (cy_X6_runOn G) (wM_X6_170 G) sh_255 (ci := 4) rfl rfl (k_X6_runOn G (c := 257) (by decide) hW (by first | omega | assumption) hz) dX6_ticks_36 rfl rfl (by decide) (by decide) (Nat.le_of_ble_eq_true rfl) zc (k_I (fun z36 s36 q36 => ?_))
    obtain ⟨⟨ez36, rz36⟩, rfl⟩ := q36
    rw [mS_o259, mS_o257, mS_n]
    rw [mS_n] at ez36
    exact v_iret (pc := 39) C hr (rfl) dX6_ticks_39 (⟨_, rfl, mQ_ok (z' := diffR (runR n m.toNat) n (n 0).toNat) (by unfold op_ticks; rw [if_neg (by omega)]) (by assumption)⟩)
  · refine v_if_eq (pc := 10) C 17 (by first | omega | assumption) dX6_ticks_10 (by decide) (fun _ => ?_) (fun h => absurd h (by decide))
    refine v_iconst (pc := 17) C dX6_ticks_17 ?_
    refine v_cv (pc := 18) (as := [.int (iI 1)]) C (cy_X6_refused G) (wM_X6_124 G) sh_255 (ci := 4) rfl rfl (refY G (by decide)) dX6_ticks_18 rfl rfl (by decide) (by decide) (Nat.le_of_ble_eq_true rfl) zc (k_I (fun z18_1 s18_1 q18_1 => ?_))
    obtain ⟨rfl, rfl⟩ := q18_1
    refine v_if_eq (pc := 21) C 26 (by first | omega | assumption) dX6_ticks_21 (by decide) (fun h => absurd h (by decide)) (fun _ => ?_)
    refine v_iconst (pc := 24) C dX6_ticks_24 ?_
    exact v_iret (pc := 25) C hr (rfl) dX6_ticks_25 (⟨_, rfl, mQ_no (by unfold op_ticks; rw [if_pos (by omega)]) (by decide)⟩)

set_option maxHeartbeats 4000000 in
set_option maxRecDepth 100000 in
theorem k_X6_undo {γ : Gm} (G : Glo γ) {σ : St} {w s a p u : Int} {t n x f d k i : Int → Int}  (ha : 0 ≤ a ∧ a ≤ 14) : Ct γ yX6_undo cX6_undo 1 (some .int) 3 [.ref (bs γ + 255)] (mS σ w s a p u t n x f d k i) (pI (fun z σ2 => mQ σ (op_undo s a t n d k i) z σ2)) := by
  refine Ct.of G (by decide +kernel) (Nat.le_of_ble_eq_true rfl) (fun φ C hr => ?_)
  have C : Cx γ φ RX6 cX6_undo 1 3 := C
  refine v_lv [(0, .ref (bs γ + 255))] [0] rfl ?_
  refine v_aload_n (pc := 0) C 0 rfl dX6_undo_0 ?_
  refine v_aload_n (pc := 1) C 0 rfl dX6_undo_1 ?_
  refine v_geti (pc := 2) C inX6 goX6 (ci := 4) rfl 7 (by decide) (wF_X6_180 G) rfl sh_255 7 rfl dX6_undo_2 (fun z2 ez2 rz2 => ?_)
  rw [mS_a] at ez2
  refine v_if_ne (pc := 5) C 12 (by first | omega | assumption) dX6_undo_5 (by decide) (fun h5 => ?_) (fun h5 => ?_)
  · refine v_iconst (pc := 12) C dX6_undo_12 ?_
    refine v_cv (pc := 13) (as := [.int (iI 0)]) C (cy_X6_refused G) (wM_X6_124 G) sh_255 (ci := 4) rfl rfl (refN G) dX6_undo_13 rfl rfl (by decide) (by decide) (Nat.le_of_ble_eq_true rfl) zc (k_I (fun z13 s13 q13 => ?_))
    obtain ⟨rfl, rfl⟩ := q13
    refine v_if_eq (pc := 16) C 21 (by first | omega | assumption) dX6_undo_16 (by decide) (fun _ => ?_) (fun h => absurd h (by decide))
    refine v_aload_n (pc := 21) C 0 rfl dX6_undo_21 ?_
    refine v_dup (pc := 22) C rfl dX6_undo_22 ?_
    refine v_geti (pc := 23) C inX6 goX6 (ci := 4) rfl 7 (by decide) (wF_X6_180 G) rfl sh_255 7 rfl dX6_undo_23 (fun z23 ez23 rz23 => ?_)
    rw [mS_a] at ez23
    refine v_iconst (pc := 26) C dX6_undo_26 ?_
    refine v_isub (pc := 27) C dX6_undo_27 ?_
    refine v_puti (pc := 28) C inX6 goX6 (ci := 4) rfl 7 (by decide) (wF_X6_180 G) rfl sh_255 tyX6 tyX6_ok nmX6 rfl rfl (fun _ => Nat.le_of_ble_eq_true rfl) (fun _ _ => ob_set_X6_7) (by first | omega | assumption) dX6_undo_28 ?_
    refine v_st (mS_f7 _ _ _ _ _ _ _ _ _ _ _ _ _ _ ) ?_
    refine v_aload_n (pc := 31) C 0 rfl dX6_undo_31 ?_
    refine v_getr (pc := 32) C inX6 goX6 (ci := 4) rfl 6 (by decide) (wF_X6_22 G) rfl sh_255 (260) rfl dX6_undo_32 ?_
    refine v_sipush (pc := 35) C (by decide +kernel) dX6_undo_35 ?_
    refine v_aload_n (pc := 38) C 0 rfl dX6_undo_38 ?_
    refine v_geti (pc := 39) C inX6 goX6 (ci := 4) rfl 7 (by decide) (wF_X6_180 G) rfl sh_255 7 rfl dX6_undo_39 (fun z39 ez39 rz39 => ?_)
    rw [mS_a] at ez39
    refine v_imul (pc := 42) C dX6_undo_42 ?_
    refine v_aload_n (pc := 43) C 0 rfl dX6_undo_43 ?_
    refine v_getr (pc := 44) C inX6 goX6 (ci := 4) rfl 3 (by decide) (wF_X6_13 G) rfl sh_255 (257) rfl dX6_undo_44 ?_
    refine v_iconst (pc := 47) C dX6_undo_47 ?_
    refine v_ok (fun hz => ?_)
    refine v_cs (pc := 48) (as := [.ref (bs γ + 260), .int (iI (268 * z39)), .ref (bs γ + 257), .int (iI 0)]) C (cy_X6_copyState G) (wM_X6_93 G) (copyR G ⟨sh_260, by decide⟩ ⟨sh_257, by decide⟩ (by decide) (by omega) hz) dX6_undo_48 rfl rfl (by decide) (by decide) (Nat.le_of_ble_eq_true rfl) zc (k_V (fun s48 q48 => ?_))
    subst q48
    rw [mS_o257, mS_d]
    refine v_aload_n (pc := 51) C 0 rfl dX6_undo_51 ?_
    refine v_geti (pc := 52) C inX6 goX6 (ci := 4) rfl 7 (by decide) (wF_X6_180 G) rfl sh_255 7 rfl dX6_undo_52 (fun z52 ez52 rz52 => ?_)
    rw [mS_a] at ez52
    exact v_iret (pc := 55) C hr (rfl) dX6_undo_55 (⟨_, rfl, mQ_ok (z' := a - 1) (by unfold op_undo; rw [if_neg (by omega)]; rw [show z39 = a - 1 by omega, show z23 - 1 = a - 1 by omega]) (by omega)⟩)
  · refine v_iconst (pc := 8) C dX6_undo_8 ?_
    refine v_goto (pc := 9) C 13 dX6_undo_9 (by decide) ?_
    refine v_cv (pc := 13) (as := [.int (iI 1)]) C (cy_X6_refused G) (wM_X6_124 G) sh_255 (ci := 4) rfl rfl (refY G (by decide)) dX6_undo_13 rfl rfl (by decide) (by decide) (Nat.le_of_ble_eq_true rfl) zc (k_I (fun z13_1 s13_1 q13_1 => ?_))
    obtain ⟨rfl, rfl⟩ := q13_1
    refine v_if_eq (pc := 16) C 21 (by first | omega | assumption) dX6_undo_16 (by decide) (fun h => absurd h (by decide)) (fun _ => ?_)
    refine v_iconst (pc := 19) C dX6_undo_19 ?_
    exact v_iret (pc := 20) C hr (rfl) dX6_undo_20 (⟨_, rfl, mQ_no (by unfold op_undo; rw [if_pos (by omega)]) (by decide)⟩)

set_option maxHeartbeats 4000000 in
set_option maxRecDepth 100000 in
theorem k_X6_save {γ : Gm} (G : Glo γ) {σ : St} {w s a p u : Int} {t n x f d k i : Int → Int} {q : Int} (hq : R3 q)  : Ct γ yX6_save cX6_save 2 (some .int) 3 [.ref (bs γ + 255), .int (iI q)] (mS σ w s a p u t n x f d k i) (pI (fun z σ2 => mQ σ (op_save s a t n d k i q) z σ2)) := by
  refine Ct.of G (by decide +kernel) (Nat.le_of_ble_eq_true rfl) (fun φ C hr => ?_)
  have C : Cx γ φ RX6 cX6_save 2 3 := C
  refine v_lv [(0, .ref (bs γ + 255)), (1, .int (iI q))] [0, 1] rfl ?_
  refine v_aload_n (pc := 0) C 0 rfl dX6_save_0 ?_
  refine v_iload_n (pc := 1) C 1 rfl dX6_save_1 ?_
  refine v_i2l (pc := 2) C (by first | omega | assumption) dX6_save_2 ?_
  refine v_lconst (pc := 3) C (z := 0) rfl dX6_save_3 ?_
  refine v_lconst (pc := 4) C (z := 1) rfl dX6_save_4 ?_
  refine v_cs (pc := 5) (as := [.long (lI q), .long (lI 0), .long (lI 1)]) C (cy_X6_in G) (wM_X6_40 G) (k_X6_in G (by first | omega | assumption) (by first | omega | assumption) (by first | omega | assumption)) dX6_save_5 rfl rfl (by decide) (by decide) (Nat.le_of_ble_eq_true rfl) zc (k_I (fun z5 s5 q5 => ?_))
  rcases q5 with ⟨⟨rfl, q5⟩ | ⟨rfl, q5⟩, rfl⟩
  · refine v_if_eq (pc := 8) C 15 (by first | omega | assumption) dX6_save_8 (by decide) (fun h => absurd h (by decide)) (fun _ => ?_)
    refine v_iconst (pc := 11) C dX6_save_11 ?_
    refine v_goto (pc := 12) C 16 dX6_save_12 (by decide) ?_
    refine v_cv (pc := 16) (as := [.int (iI 0)]) C (cy_X6_refused G) (wM_X6_124 G) sh_255 (ci := 4) rfl rfl (refN G) dX6_save_16 rfl rfl (by decide) (by decide) (Nat.le_of_ble_eq_true rfl) zc (k_I (fun z16 s16 q16 => ?_))
    obtain ⟨rfl, rfl⟩ := q16
    refine v_if_eq (pc := 19) C 24 (by first | omega | assumption) dX6_save_19 (by decide) (fun _ => ?_) (fun h => absurd h (by decide))
    refine v_aload_n (pc := 24) C 0 rfl dX6_save_24 ?_
    refine v_getr (pc := 25) C inX6 goX6 (ci := 4) rfl 3 (by decide) (wF_X6_13 G) rfl sh_255 (257) rfl dX6_save_25 ?_
    refine v_iconst (pc := 28) C dX6_save_28 ?_
    refine v_aload_n (pc := 29) C 0 rfl dX6_save_29 ?_
    refine v_getr (pc := 30) C inX6 goX6 (ci := 4) rfl 8 (by decide) (wF_X6_25 G) rfl sh_255 (261) rfl dX6_save_30 ?_
    refine v_sipush (pc := 33) C (by decide +kernel) dX6_save_33 ?_
    refine v_iload_n (pc := 36) C 1 rfl dX6_save_36 ?_
    refine v_imul (pc := 37) C dX6_save_37 ?_
    refine v_cs (pc := 38) (as := [.ref (bs γ + 257), .int (iI 0), .ref (bs γ + 261), .int (iI (268 * q))]) C (cy_X6_copyState G) (wM_X6_93 G) (k_X6_copyState G ⟨sh_257, by decide⟩ ⟨sh_261, by decide⟩ (by decide) (by omega) (by omega)) dX6_save_38 rfl rfl (by decide) (by decide) (Nat.le_of_ble_eq_true rfl) zc (k_V (fun s38 q38 => ?_))
    subst q38
    rw [mS_o261, mS_n, mS_k]
    refine v_aload_n (pc := 41) C 0 rfl dX6_save_41 ?_
    refine v_getr (pc := 42) C inX6 goX6 (ci := 4) rfl 9 (by decide) (wF_X6_28 G) rfl sh_255 (262) rfl dX6_save_42 ?_
    refine v_iload_n (pc := 45) C 1 rfl dX6_save_45 ?_
    refine v_iconst (pc := 46) C dX6_save_46 ?_
    refine v_zast (pc := 47) C sh_262 (by decide) (by first | omega | assumption) (by first | omega | assumption) dX6_save_47 ?_
    rw [mS_o262, mS_i]
    refine v_aload_n (pc := 48) C 0 rfl dX6_save_48 ?_
    refine v_getr (pc := 49) C inX6 goX6 (ci := 4) rfl 3 (by decide) (wF_X6_13 G) rfl sh_255 (257) rfl dX6_save_49 ?_
    refine v_iconst (pc := 52) C dX6_save_52 ?_
    refine v_iald (pc := 53) C sh_257 (by decide) (by first | omega | assumption) dX6_save_53 (fun z53 ez53 rz53 => ?_)
    rw [mS_n] at ez53
    exact v_iret (pc := 54) C hr (rfl) dX6_save_54 (⟨_, rfl, mQ_ok (z' := n 2) (by unfold op_save; rw [if_neg (by omega)]) (by assumption)⟩)
  · refine v_if_eq (pc := 8) C 15 (by first | omega | assumption) dX6_save_8 (by decide) (fun _ => ?_) (fun h => absurd h (by decide))
    refine v_iconst (pc := 15) C dX6_save_15 ?_
    refine v_cv (pc := 16) (as := [.int (iI 1)]) C (cy_X6_refused G) (wM_X6_124 G) sh_255 (ci := 4) rfl rfl (refY G (by decide)) dX6_save_16 rfl rfl (by decide) (by decide) (Nat.le_of_ble_eq_true rfl) zc (k_I (fun z16_1 s16_1 q16_1 => ?_))
    obtain ⟨rfl, rfl⟩ := q16_1
    refine v_if_eq (pc := 19) C 24 (by first | omega | assumption) dX6_save_19 (by decide) (fun h => absurd h (by decide)) (fun _ => ?_)
    refine v_iconst (pc := 22) C dX6_save_22 ?_
    exact v_iret (pc := 23) C hr (rfl) dX6_save_23 (⟨_, rfl, mQ_no (by unfold op_save; rw [if_pos (by omega)]) (by decide)⟩)

set_option maxHeartbeats 4000000 in
set_option maxRecDepth 100000 in
theorem k_X6_restore {γ : Gm} (G : Glo γ) {σ : St} {w s a p u : Int} {t n x f d k i : Int → Int} {q : Int} (hq : R3 q)  : Ct γ yX6_restore cX6_restore 2 (some .int) 3 [.ref (bs γ + 255), .int (iI q)] (mS σ w s a p u t n x f d k i) (pI (fun z σ2 => mQ σ (op_restore s a t n d k i q) z σ2)) := by
  refine Ct.of G (by decide +kernel) (Nat.le_of_ble_eq_true rfl) (fun φ C hr => ?_)
  have C : Cx γ φ RX6 cX6_restore 2 3 := C
  refine v_lv [(0, .ref (bs γ + 255)), (1, .int (iI q))] [0, 1] rfl ?_
  refine v_aload_n (pc := 0) C 0 rfl dX6_restore_0 ?_
  refine v_iload_n (pc := 1) C 1 rfl dX6_restore_1 ?_
  refine v_i2l (pc := 2) C (by first | omega | assumption) dX6_restore_2 ?_
  refine v_lconst (pc := 3) C (z := 0) rfl dX6_restore_3 ?_
  refine v_lconst (pc := 4) C (z := 1) rfl dX6_restore_4 ?_
  refine v_cs (pc := 5) (as := [.long (lI q), .long (lI 0), .long (lI 1)]) C (cy_X6_in G) (wM_X6_40 G) (k_X6_in G (by first | omega | assumption) (by first | omega | assumption) (by first | omega | assumption)) dX6_restore_5 rfl rfl (by decide) (by decide) (Nat.le_of_ble_eq_true rfl) zc (k_I (fun z5 s5 q5 => ?_))
  rcases q5 with ⟨⟨rfl, q5⟩ | ⟨rfl, q5⟩, rfl⟩
  · refine v_if_ne (pc := 8) C 15 (by first | omega | assumption) dX6_restore_8 (by decide) (fun _ => ?_) (fun h => absurd h (by decide))
    refine v_aload_n (pc := 15) C 0 rfl dX6_restore_15 ?_
    refine v_getr (pc := 16) C inX6 goX6 (ci := 4) rfl 9 (by decide) (wF_X6_28 G) rfl sh_255 (262) rfl dX6_restore_16 ?_
    refine v_iload_n (pc := 19) C 1 rfl dX6_restore_19 ?_
    refine v_zald (pc := 20) C sh_262 (by decide) (by first | omega | assumption) dX6_restore_20 (fun z20 ez20 rz20 => ?_)
    rw [mS_i] at ez20
    refine v_if_ne (pc := 21) C 28 (by first | omega | assumption) dX6_restore_21 (by decide) (fun h21 => ?_) (fun h21 => ?_)
    · refine v_iconst (pc := 28) C dX6_restore_28 ?_
      refine v_cv (pc := 29) (as := [.int (iI 0)]) C (cy_X6_refused G) (wM_X6_124 G) sh_255 (ci := 4) rfl rfl (refN G) dX6_restore_29 rfl rfl (by decide) (by decide) (Nat.le_of_ble_eq_true rfl) zc (k_I (fun z29 s29 q29 => ?_))
      obtain ⟨rfl, rfl⟩ := q29
      refine v_if_eq (pc := 32) C 37 (by first | omega | assumption) dX6_restore_32 (by decide) (fun _ => ?_) (fun h => absurd h (by decide))
      refine v_aload_n (pc := 37) C 0 rfl dX6_restore_37 ?_
      refine v_getr (pc := 38) C inX6 goX6 (ci := 4) rfl 8 (by decide) (wF_X6_25 G) rfl sh_255 (261) rfl dX6_restore_38 ?_
      refine v_sipush (pc := 41) C (by decide +kernel) dX6_restore_41 ?_
      refine v_iload_n (pc := 44) C 1 rfl dX6_restore_44 ?_
      refine v_imul (pc := 45) C dX6_restore_45 ?_
      refine v_aload_n (pc := 46) C 0 rfl dX6_restore_46 ?_
      refine v_getr (pc := 47) C inX6 goX6 (ci := 4) rfl 3 (by decide) (wF_X6_13 G) rfl sh_255 (257) rfl dX6_restore_47 ?_
      refine v_iconst (pc := 50) C dX6_restore_50 ?_
      refine v_ok (fun hz => ?_)
      refine v_cs (pc := 51) (as := [.ref (bs γ + 261), .int (iI (268 * q)), .ref (bs γ + 257), .int (iI 0)]) C (cy_X6_copyState G) (wM_X6_93 G) (copyR G ⟨sh_261, by decide⟩ ⟨sh_257, by decide⟩ (by decide) (by omega) hz) dX6_restore_51 rfl rfl (by decide) (by decide) (Nat.le_of_ble_eq_true rfl) zc (k_V (fun s51 q51 => ?_))
      subst q51
      rw [mS_o257, mS_k]
      refine v_aload_n (pc := 54) C 0 rfl dX6_restore_54 ?_
      refine v_iconst (pc := 55) C dX6_restore_55 ?_
      refine v_puti (pc := 56) C inX6 goX6 (ci := 4) rfl 7 (by decide) (wF_X6_180 G) rfl sh_255 tyX6 tyX6_ok nmX6 rfl rfl (fun _ => Nat.le_of_ble_eq_true rfl) (fun _ _ => ob_set_X6_7) (by first | omega | assumption) dX6_restore_56 ?_
      refine v_st (mS_f7 _ _ _ _ _ _ _ _ _ _ _ _ _ _ ) ?_
      refine v_aload_n (pc := 59) C 0 rfl dX6_restore_59 ?_
      refine v_getr (pc := 60) C inX6 goX6 (ci := 4) rfl 3 (by decide) (wF_X6_13 G) rfl sh_255 (257) rfl dX6_restore_60 ?_
      refine v_iconst (pc := 63) C dX6_restore_63 ?_
      refine v_iald (pc := 64) C sh_257 (by decide) (by first | omega | assumption) dX6_restore_64 (fun z64 ez64 rz64 => ?_)
      rw [mS_n] at ez64
      exact v_iret (pc := 65) C hr (rfl) dX6_restore_65 (⟨_, rfl, mQ_ok (z' := blk k (268 * q) 2) (by unfold op_restore; rw [if_neg (by omega), if_neg (by omega)]) (by assumption)⟩)
    · refine v_iconst (pc := 24) C dX6_restore_24 ?_
      refine v_goto (pc := 25) C 29 dX6_restore_25 (by decide) ?_
      refine v_cv (pc := 29) (as := [.int (iI 2)]) C (cy_X6_refused G) (wM_X6_124 G) sh_255 (ci := 4) rfl rfl (refY G (by decide)) dX6_restore_29 rfl rfl (by decide) (by decide) (Nat.le_of_ble_eq_true rfl) zc (k_I (fun z29_1 s29_1 q29_1 => ?_))
      obtain ⟨rfl, rfl⟩ := q29_1
      refine v_if_eq (pc := 32) C 37 (by first | omega | assumption) dX6_restore_32 (by decide) (fun h => absurd h (by decide)) (fun _ => ?_)
      refine v_iconst (pc := 35) C dX6_restore_35 ?_
      exact v_iret (pc := 36) C hr (rfl) dX6_restore_36 (⟨_, rfl, mQ_no (by unfold op_restore; rw [if_neg (by omega), if_pos (by omega)]) (by decide)⟩)
  · refine v_if_ne (pc := 8) C 15 (by first | omega | assumption) dX6_restore_8 (by decide) (fun h => absurd h (by decide)) (fun _ => ?_)
    refine v_iconst (pc := 11) C dX6_restore_11 ?_
    refine v_goto (pc := 12) C 29 dX6_restore_12 (by decide) ?_
    refine v_cv (pc := 29) (as := [.int (iI 1)]) C (cy_X6_refused G) (wM_X6_124 G) sh_255 (ci := 4) rfl rfl (refY G (by decide)) dX6_restore_29 rfl rfl (by decide) (by decide) (Nat.le_of_ble_eq_true rfl) zc (k_I (fun z29_2 s29_2 q29_2 => ?_))
    obtain ⟨rfl, rfl⟩ := q29_2
    refine v_if_eq (pc := 32) C 37 (by first | omega | assumption) dX6_restore_32 (by decide) (fun h => absurd h (by decide)) (fun _ => ?_)
    refine v_iconst (pc := 35) C dX6_restore_35 ?_
    exact v_iret (pc := 36) C hr (rfl) dX6_restore_36 (⟨_, rfl, mQ_no (by unfold op_restore; rw [if_pos (by omega)]) (by decide)⟩)
