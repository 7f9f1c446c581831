theorem refY {γ : Gm} (G : Glo γ) {σ : St} {w w0 s a p u : Int} {t n x f d k i : Int → Int} (hw : 0 < w ∧ w ≤ 10) : Ct γ yX6_refused cX6_refused 2 (some .boolean) 1 [.ref (bs γ + 255), .int (iI w)] (mS σ w0 s a p u t n x f d k i) (pI (fun z σ2 => z = 1 ∧ σ2 = mS σ w s a p u t n x f d k i)) := by
  refine (k_X6_refused G (by omega)).weak ?_
  rintro v σ' ⟨z, rfl, h, rfl⟩
  exact ⟨z, rfl, by omega, mS_f0 _ _ _ _ _ _ _ _ _ _ _ _ _ _⟩
theorem refN {γ : Gm} (G : Glo γ) {σ : St} {w0 s a p u : Int} {t n x f d k i : Int → Int} : Ct γ yX6_refused cX6_refused 2 (some .boolean) 1 [.ref (bs γ + 255), .int (iI 0)] (mS σ w0 s a p u t n x f d k i) (pI (fun z σ2 => z = 0 ∧ σ2 = mS σ 0 s a p u t n x f d k i)) := by
  refine (k_X6_refused G (by omega)).weak ?_
  rintro v σ' ⟨z, rfl, h, rfl⟩
  exact ⟨z, rfl, by omega, mS_f0 _ _ _ _ _ _ _ _ _ _ _ _ _ _⟩

set_option maxHeartbeats 4000000 in
set_option maxRecDepth 100000 in
theorem k_X6_readText {γ : Gm} (G : Glo γ) {σ : St} {w s a p u : Int} {t n x f d k i : Int → Int} (hs : 0 ≤ s ∧ s ≤ 120) (ht : ∀ j, 0 ≤ j → j < s → 0 ≤ t j ∧ t j ≤ 255) : Ct γ yX6_readText cX6_readText 2 (some .int) 9 [.ref (bs γ + 255), .ref (bs γ + 258)] (mS σ w s a p u t n x f d k i) (pI (fun z σ2 => (z = (readT t s).1 ∧ -1 ≤ z ∧ z ≤ 200) ∧ ∃ p9 f9, σ2 = mS σ w s a p9 ((readT t s).2.2) t n ((readT t s).2.1) f9 d k i)) := by
  refine Ct.of G (by decide +kernel) (Nat.le_of_ble_eq_true rfl) (fun φ C hr => ?_)
  have C : Cx γ φ RX6 cX6_readText 2 9 := C
  refine v_lv [(0, .ref (bs γ + 255)), (1, .ref (bs γ + 258))] [0, 1] rfl ?_
  refine v_aload_n (pc := 0) C 1 rfl dX6_readText_0 ?_
  refine v_ok (fun hz => ?_)
  refine v_cs (pc := 1) (as := [.ref (bs γ + 258)]) C (cy_X6_clear G) (wM_X6_32 G) (clearR G ⟨sh_258, by decide⟩ hz) dX6_readText_1 rfl rfl (by decide) (by decide) (Nat.le_of_ble_eq_true rfl) zc (k_V (fun s1 q1 => ?_))
  subst q1
  rw [mS_o258]
  refine v_aload_n (pc := 4) C 0 rfl dX6_readText_4 ?_
  refine v_iconst (pc := 5) C dX6_readText_5 ?_
  refine v_puti (pc := 6) C inX6 goX6 (ci := 4) rfl 11 (by decide) (wF_X6_130 G) rfl sh_255 tyX6 tyX6_ok nmX6 rfl rfl (fun _ => Nat.le_of_ble_eq_true rfl) (fun _ _ => ob_set_X6_11) (by first | omega | assumption) dX6_readText_6 ?_
  refine v_st (mS_f11 _ _ _ _ _ _ _ _ _ _ _ _ _ _ ) ?_
  refine v_aload_n (pc := 9) C 0 rfl dX6_readText_9 ?_
  refine v_iconst (pc := 10) C dX6_readText_10 ?_
  refine v_puti (pc := 11) C inX6 goX6 (ci := 4) rfl 10 (by decide) (wF_X6_127 G) rfl sh_255 tyX6 tyX6_ok nmX6 rfl rfl (fun _ => Nat.le_of_ble_eq_true rfl) (fun _ _ => ob_set_X6_10) (by first | omega | assumption) dX6_readText_11 ?_
  refine v_st (mS_f10 _ _ _ _ _ _ _ _ _ _ _ _ _ _ ) ?_
  refine v_aload_n (pc := 14) C 0 rfl dX6_readText_14 ?_
  refine v_geti (pc := 15) C inX6 goX6 (ci := 4) rfl 2 (by decide) (wF_X6_121 G) rfl sh_255 2 rfl dX6_readText_15 (fun z15 ez15 rz15 => ?_)
  rw [mS_s] at ez15
  refine v_if_eq (pc := 18) C 32 (by first | omega | assumption) dX6_readText_18 (by decide) (fun h18 => ?_) (fun h18 => ?_)
  · refine v_iconst (pc := 32) C dX6_readText_32 ?_
    exact v_iret (pc := 33) C hr (rfl) dX6_readText_33 (⟨_, rfl, ⟨by unfold readT; rw [if_pos (by first | exact Or.inl (by omega) | (right; rw [← ez26]; omega))], by decide⟩, _, _, by unfold readT; rw [if_pos (by first | exact Or.inl (by omega) | (right; rw [← ez26]; omega))]⟩)
  · refine v_aload_n (pc := 21) C 0 rfl dX6_readText_21 ?_
    refine v_getr (pc := 22) C inX6 goX6 (ci := 4) rfl 1 (by decide) (wF_X6_7 G) rfl sh_255 (256) rfl dX6_readText_22 ?_
    refine v_iconst (pc := 25) C dX6_readText_25 ?_
    refine v_iald (pc := 26) C sh_256 (by decide) (by first | omega | assumption) dX6_readText_26 (fun z26 ez26 rz26 => ?_)
    rw [mS_t] at ez26
    refine v_bipush (pc := 27) C (by decide +kernel) dX6_readText_27 ?_
    refine v_icmp_eq (pc := 29) C 34 (by first | omega | assumption) (by first | omega | assumption) dX6_readText_29 (by decide) (fun h29 => ?_) (fun h29 => ?_)
    · refine v_aload_n (pc := 34) C 0 rfl dX6_readText_34 ?_
      refine v_iconst (pc := 35) C dX6_readText_35 ?_
      refine v_puti (pc := 36) C inX6 goX6 (ci := 4) rfl 10 (by decide) (wF_X6_127 G) rfl sh_255 tyX6 tyX6_ok nmX6 rfl rfl (fun _ => Nat.le_of_ble_eq_true rfl) (fun _ _ => ob_set_X6_10) (by first | omega | assumption) dX6_readText_36 ?_
      refine v_st (mS_f10 _ _ _ _ _ _ _ _ _ _ _ _ _ _ ) ?_
      have L39 : ∀ (fu : Nat) (fl : Nat) (q b : Int) (r g : Int → Int), (hrr : readT t s = runT t s fl q r b) → (hq : 1 ≤ q ∧ q ≤ 131 ∧ s - q ≤ fl) → (hb : 0 ≤ b ∧ b ≤ q) → (hWf : Wf r) → fl < fu → Vw γ φ 2 0 0 (QE γ φ (pI (fun z σ2 => (z = (readT t s).1 ∧ -1 ≤ z ∧ z ≤ 200) ∧ ∃ p9 f9, σ2 = mS σ w s a p9 ((readT t s).2.2) t n ((readT t s).2.1) f9 d k i))) (mS σ w s a q b t n r g d k i) 39 [(1, .ref (bs γ + 258)), (0, .ref (bs γ + 255))] [] := by
        intro fu
        induction fu with
        | zero => intro fl q b r g hrr hq hb hWf hz; exact absurd hz (Nat.not_lt_zero _)
        | succ fu ih =>
          intro fl q b r g hrr hq hb hWf hz
          refine v_aload_n (pc := 39) C 1 rfl dX6_readText_39 ?_
          refine v_geti (pc := 40) C inX6 goX6 (ci := 4) rfl 10 (by decide) (wF_X6_127 G) rfl sh_255 10 rfl dX6_readText_40 (fun z40 ez40 rz40 => ?_)
          rw [mS_p] at ez40
          refine v_aload_n (pc := 43) C 1 rfl dX6_readText_43 ?_
          refine v_geti (pc := 44) C inX6 goX6 (ci := 4) rfl 2 (by decide) (wF_X6_121 G) rfl sh_255 2 rfl dX6_readText_44 (fun z44 ez44 rz44 => ?_)
          rw [mS_s] at ez44
          refine v_icmp_ge (pc := 47) C 63 (by first | omega | assumption) (by first | omega | assumption) dX6_readText_47 (by decide) (fun h47 => ?_) (fun h47 => ?_)
          · have hend : readT t s = (-1, r, b) := by
              rw [hrr]
              cases fl with
              | zero => rfl
              | succ fl2 => unfold runT; rw [if_neg (by omega)]
            refine v_iconst (pc := 63) C dX6_readText_63 ?_
            exact v_iret (pc := 64) C hr (rfl) dX6_readText_64 (⟨_, rfl, ⟨by rw [hend], by decide⟩, _, _, by rw [hend]⟩)
          · have hlt : q < s := by omega
            obtain ⟨fl2, rfl⟩ : ∃ g, fl = g + 1 := ⟨fl - 1, by omega⟩
            unfold runT at hrr
            rw [if_pos hlt] at hrr
            have hcp := cmdP_r t s q
            refine v_st (mS_mT σ w s a q b t n r g d k i q b r g).symm ?_
            refine v_aload_n (pc := 50) C 1 rfl dX6_readText_50 ?_
            refine v_aload_n (pc := 51) C 0 rfl dX6_readText_51 ?_
            refine v_cv (pc := 52) (as := [.ref (bs γ + 258)]) C (cy_X6_readCommand G) (wM_X6_173 G) sh_255 (ci := 4) rfl rfl (k_X6_readCommand (σ := mS σ w s a q b t n r g d k i) G hs (show 0 ≤ q ∧ q < s from by omega) ht hWf (by omega)) dX6_readText_52 rfl rfl (by decide) (by decide) (Nat.le_of_ble_eq_true rfl) zc (k_I (fun z52 s52 q52 => ?_))
            rcases q52 with ⟨rfl, q52, f2, rfl⟩ | ⟨rfl, q52, rfl⟩
            · have QC : cmdOk t s q := q52
              rw [if_pos QC] at hrr
              refine v_st (show _ = mS σ w s a (cmdP t s q) (b + cmdNo r (t q) (argV t s q)) t n (cmdDo r (t q) (argV t s q)) f2 d k i from mS_mT _ _ _ _ _ _ _ _ _ _ _ _ _ _ _ _ _ ) ?_
              refine v_if_ne (pc := 55) C 39 (by first | omega | assumption) dX6_readText_55 (by decide) (fun _ => ?_) (fun h => absurd h (by decide))
              have hcn := cmdNo_01 r (t q) (argV t s q)
              have hw2 := Wf_cmdDo hWf QC
              exact v_lv _ [0, 1] rfl (ih fl2 _ _ _ _ hrr (by have := hcp.2.2 QC.1; omega) (by have := hcp.2.2 QC.1; omega) hw2 (by omega))
            · have QC : ¬ cmdOk t s q := q52
              rw [if_neg QC] at hrr
              refine v_st (show _ = mS σ w s a (cmdP t s q) b t n r g d k i from mS_mT _ _ _ _ _ _ _ _ _ _ _ _ _ _ _ _ _ ) ?_
              refine v_if_ne (pc := 55) C 39 (by first | omega | assumption) dX6_readText_55 (by decide) (fun h => absurd h (by decide)) (fun _ => ?_)
              refine v_aload_n (pc := 58) C 1 rfl dX6_readText_58 ?_
              refine v_geti (pc := 59) C inX6 goX6 (ci := 4) rfl 10 (by decide) (wF_X6_127 G) rfl sh_255 10 rfl dX6_readText_59 (fun z59 ez59 rz59 => ?_)
              rw [mS_p] at ez59
              exact v_iret (pc := 62) C hr (rfl) dX6_readText_62 (⟨_, rfl, ⟨by rw [hrr]; exact ez59, by omega⟩, _, _, by rw [hrr]⟩)
      have hr0 : readT t s = runT t s 120 1 newR 0 := by unfold readT; rw [if_neg (by rintro (e | e); omega; exact e (by omega))]
      exact v_lv _ [1, 0] rfl (L39 121 120 1 0 newR f hr0 (by omega) (by omega) Wf_newR (by omega))
    · refine v_iconst (pc := 32) C dX6_readText_32 ?_
      exact v_iret (pc := 33) C hr (rfl) dX6_readText_33 (⟨_, rfl, ⟨by unfold readT; rw [if_pos (by first | exact Or.inl (by omega) | (right; rw [← ez26]; omega))], by decide⟩, _, _, by unfold readT; rw [if_pos (by first | exact Or.inl (by omega) | (right; rw [← ez26]; omega))]⟩)

set_option maxHeartbeats 4000000 in
set_option maxRecDepth 100000 in
theorem k_X6_errorPosition {γ : Gm} (G : Glo γ) {σ : St} {w s a p u : Int} {t n x f d k i : Int → Int}  (hs : 0 ≤ s ∧ s ≤ 120) (ht : ∀ j, 0 ≤ j → j < s → 0 ≤ t j ∧ t j ≤ 255) : Ct γ yX6_errorPosition cX6_errorPosition 1 (some .int) 10 [.ref (bs γ + 255)] (mS σ w s a p u t n x f d k i) (pI (fun z σ2 => mQ σ (op_errorPosition s a t n d k i) z σ2)) := by
  refine Ct.of G (by decide +kernel) (Nat.le_of_ble_eq_true rfl) (fun φ C hr => ?_)
  have C : Cx γ φ RX6 cX6_errorPosition 1 10 := C
  refine v_lv [(0, .ref (bs γ + 255))] [0] rfl ?_
  refine v_aload_n (pc := 0) C 0 rfl dX6_errorPosition_0 ?_
  refine v_iconst (pc := 1) C dX6_errorPosition_1 ?_
  refine v_puti (pc := 2) C inX6 goX6 (ci := 4) rfl 0 (by decide) (wF_X6_36 G) rfl sh_255 tyX6 tyX6_ok nmX6 rfl rfl (fun _ => Nat.le_of_ble_eq_true rfl) (fun _ _ => ob_set_X6_0) (by first | omega | assumption) dX6_errorPosition_2 ?_
  refine v_st (mS_f0 _ _ _ _ _ _ _ _ _ _ _ _ _ _ ) ?_
  refine v_aload_n (pc := 5) C 0 rfl dX6_errorPosition_5 ?_
  refine v_aload_n (pc := 6) C 0 rfl dX6_errorPosition_6 ?_
  refine v_getr (pc := 7) C inX6 goX6 (ci := 4) rfl 4 (by decide) (wF_X6_16 G) rfl sh_255 (258) rfl dX6_errorPosition_7 ?_
  refine v_cv (pc := 10) (as := [.ref (bs γ + 258)]) C (cy_X6_readText G) (wM_X6_176 G) sh_255 (ci := 4) rfl rfl (k_X6_readText G hs ht) dX6_errorPosition_10 rfl rfl (by decide) (by decide) (Nat.le_of_ble_eq_true rfl) zc (k_I (fun z10 s10 q10 => ?_))
  obtain ⟨⟨ez10, rz10⟩, p9, f9, rfl⟩ := q10
  exact v_iret (pc := 13) C hr (rfl) dX6_errorPosition_13 (⟨_, rfl, mQ_ok (z' := errR t s) (by unfold op_errorPosition; rfl) (by rw [ez10, readT_err])⟩)

set_option maxHeartbeats 4000000 in
set_option maxRecDepth 100000 in
theorem k_X6_load {γ : Gm} (G : Glo γ) {σ : St} {w s a p u : Int} {t n x f d k i : Int → Int}  (hs : 0 ≤ s ∧ s ≤ 120) (ht : ∀ j, 0 ≤ j → j < s → 0 ≤ t j ∧ t j ≤ 255) : Ct γ yX6_load cX6_load 1 (some .int) 10 [.ref (bs γ + 255)] (mS σ w s a p u t n x f d k i) (pI (fun z σ2 => mQ σ (op_load s a t n d k i) z σ2)) := by
  refine Ct.of G (by decide +kernel) (Nat.le_of_ble_eq_true rfl) (fun φ C hr => ?_)
  have C : Cx γ φ RX6 cX6_load 1 10 := C
  refine v_lv [(0, .ref (bs γ + 255))] [0] rfl ?_
  refine v_aload_n (pc := 0) C 0 rfl dX6_load_0 ?_
  refine v_aload_n (pc := 1) C 0 rfl dX6_load_1 ?_
  refine v_aload_n (pc := 2) C 0 rfl dX6_load_2 ?_
  refine v_getr (pc := 3) C inX6 goX6 (ci := 4) rfl 4 (by decide) (wF_X6_16 G) rfl sh_255 (258) rfl dX6_load_3 ?_
  refine v_cv (pc := 6) (as := [.ref (bs γ + 258)]) C (cy_X6_readText G) (wM_X6_176 G) sh_255 (ci := 4) rfl rfl (k_X6_readText G hs ht) dX6_load_6 rfl rfl (by decide) (by decide) (Nat.le_of_ble_eq_true rfl) zc (k_I (fun z6 s6 q6 => ?_))
  obtain ⟨⟨ez6, rz6⟩, p9, f9, rfl⟩ := q6
  rw [readT_err] at ez6
  refine v_iconst (pc := 9) C dX6_load_9 ?_
  refine v_icmp_ne (pc := 10) C 17 (by first | omega | assumption) (by first | omega | assumption) dX6_load_10 (by decide) (fun h10 => ?_) (fun h10 => ?_)
  · refine v_iconst (pc := 17) C dX6_load_17 ?_
    refine v_cv (pc := 18) (as := [.int (iI 1)]) C (cy_X6_refused G) (wM_X6_124 G) sh_255 (ci := 4) rfl rfl (refY G (by decide)) dX6_load_18 rfl rfl (by decide) (by decide) (Nat.le_of_ble_eq_true rfl) zc (k_I (fun z18 s18 q18 => ?_))
    obtain ⟨rfl, rfl⟩ := q18
    refine v_if_eq (pc := 21) C 26 (by first | omega | assumption) dX6_load_21 (by decide) (fun h => absurd h (by decide)) (fun _ => ?_)
    refine v_iconst (pc := 24) C dX6_load_24 ?_
    exact v_iret (pc := 25) C hr (rfl) dX6_load_25 (⟨_, rfl, mQ_no (by unfold op_load; rw [if_pos (by omega)]) (by decide)⟩)
  · refine v_iconst (pc := 13) C dX6_load_13 ?_
    refine v_goto (pc := 14) C 18 dX6_load_14 (by decide) ?_
    refine v_cv (pc := 18) (as := [.int (iI 0)]) C (cy_X6_refused G) (wM_X6_124 G) sh_255 (ci := 4) rfl rfl (refN G) dX6_load_18 rfl rfl (by decide) (by decide) (Nat.le_of_ble_eq_true rfl) zc (k_I (fun z18_1 s18_1 q18_1 => ?_))
    obtain ⟨rfl, rfl⟩ := q18_1
    refine v_if_eq (pc := 21) C 26 (by first | omega | assumption) dX6_load_21 (by decide) (fun _ => ?_) (fun h => absurd h (by decide))
    refine v_aload_n (pc := 26) C 0 rfl dX6_load_26 ?_
    refine v_getr (pc := 27) C inX6 goX6 (ci := 4) rfl 4 (by decide) (wF_X6_16 G) rfl sh_255 (258) rfl dX6_load_27 ?_
    refine v_iconst (pc := 30) C dX6_load_30 ?_
    refine v_aload_n (pc := 31) C 0 rfl dX6_load_31 ?_
    refine v_getr (pc := 32) C inX6 goX6 (ci := 4) rfl 3 (by decide) (wF_X6_13 G) rfl sh_255 (257) rfl dX6_load_32 ?_
    refine v_iconst (pc := 35) C dX6_load_35 ?_
    refine v_ok (fun hz => ?_)
    refine v_cs (pc := 36) (as := [.ref (bs γ + 258), .int (iI 0), .ref (bs γ + 257), .int (iI 0)]) C (cy_X6_copyState G) (wM_X6_93 G) (copyR G ⟨sh_258, by decide⟩ ⟨sh_257, by decide⟩ (by decide) (by omega) hz) dX6_load_36 rfl rfl (by decide) (by decide) (Nat.le_of_ble_eq_true rfl) zc (k_V (fun s36 q36 => ?_))
    subst q36
    rw [blk0 hz sh_258, mS_o257, mS_x]
    refine v_aload_n (pc := 39) C 0 rfl dX6_load_39 ?_
    refine v_iconst (pc := 40) C dX6_load_40 ?_
    refine v_puti (pc := 41) C inX6 goX6 (ci := 4) rfl 7 (by decide) (wF_X6_180 G) rfl sh_255 tyX6 tyX6_ok nmX6 rfl rfl (fun _ => Nat.le_of_ble_eq_true rfl) (fun _ _ => ob_set_X6_7) (by first | omega | assumption) dX6_load_41 ?_
    refine v_st (mS_f7 _ _ _ _ _ _ _ _ _ _ _ _ _ _ ) ?_
    refine v_aload_n (pc := 44) C 0 rfl dX6_load_44 ?_
    refine v_getr (pc := 45) C inX6 goX6 (ci := 4) rfl 9 (by decide) (wF_X6_28 G) rfl sh_255 (262) rfl dX6_load_45 ?_
    refine v_iconst (pc := 48) C dX6_load_48 ?_
    refine v_iconst (pc := 49) C dX6_load_49 ?_
    refine v_zast (pc := 50) C sh_262 (by decide) (by first | omega | assumption) (by first | omega | assumption) dX6_load_50 ?_
    rw [mS_o262, mS_i]
    refine v_aload_n (pc := 51) C 0 rfl dX6_load_51 ?_
    refine v_getr (pc := 52) C inX6 goX6 (ci := 4) rfl 9 (by decide) (wF_X6_28 G) rfl sh_255 (262) rfl dX6_load_52 ?_
    refine v_iconst (pc := 55) C dX6_load_55 ?_
    refine v_iconst (pc := 56) C dX6_load_56 ?_
    refine v_zast (pc := 57) C sh_262 (by decide) (by first | omega | assumption) (by first | omega | assumption) dX6_load_57 ?_
    rw [mS_o262, mS_i]
    refine v_aload_n (pc := 58) C 0 rfl dX6_load_58 ?_
    refine v_geti (pc := 59) C inX6 goX6 (ci := 4) rfl 11 (by decide) (wF_X6_130 G) rfl sh_255 11 rfl dX6_load_59 (fun z59 ez59 rz59 => ?_)
    rw [mS_u] at ez59
    exact v_iret (pc := 62) C hr (rfl) dX6_load_62 (⟨_, rfl, mQ_ok (z' := (readT t s).2.2) (by unfold op_load; rw [if_neg (by omega)]) (by omega)⟩)

set_option maxHeartbeats 4000000 in
set_option maxRecDepth 100000 in
theorem k_X6_append {γ : Gm} (G : Glo γ) {σ : St} {w s a p u : Int} {t n x f d k i : Int → Int} {c : Int} (hc : R3 c) (hs : 0 ≤ s ∧ s ≤ 120) : Ct γ yX6_append cX6_append 2 (some .int) 2 [.ref (bs γ + 255), .int (iI c)] (mS σ w s a p u t n x f d k i) (pI (fun z σ2 => mQ σ (op_append s a t n d k i c) z σ2)) := by
  refine Ct.of G (by decide +kernel) (Nat.le_of_ble_eq_true rfl) (fun φ C hr => ?_)
  have C : Cx γ φ RX6 cX6_append 2 2 := C
  refine v_lv [(0, .ref (bs γ + 255)), (1, .int (iI c))] [0, 1] rfl ?_
  refine v_aload_n (pc := 0) C 0 rfl dX6_append_0 ?_
  refine v_iload_n (pc := 1) C 1 rfl dX6_append_1 ?_
  refine v_i2l (pc := 2) C (by first | omega | assumption) dX6_append_2 ?_
  refine v_lconst (pc := 3) C (z := 0) rfl dX6_append_3 ?_
  refine v_ldc2 (pc := 4) C (wCL_X6_119 G) dX6_append_4 ?_
  refine v_cs (pc := 7) (as := [.long (lI c), .long (lI 0), .long (lI 255)]) C (cy_X6_in G) (wM_X6_40 G) (k_X6_in G (by first | omega | assumption) (by first | omega | assumption) (by first | omega | assumption)) dX6_append_7 rfl rfl (by decide) (by decide) (Nat.le_of_ble_eq_true rfl) zc (k_I (fun z7 s7 q7 => ?_))
  rcases q7 with ⟨⟨rfl, q7⟩ | ⟨rfl, q7⟩, rfl⟩
  · refine v_if_ne (pc := 10) C 17 (by first | omega | assumption) dX6_append_10 (by decide) (fun _ => ?_) (fun h => absurd h (by decide))
    refine v_aload_n (pc := 17) C 0 rfl dX6_append_17 ?_
    refine v_geti (pc := 18) C inX6 goX6 (ci := 4) rfl 2 (by decide) (wF_X6_121 G) rfl sh_255 2 rfl dX6_append_18 (fun z18 ez18 rz18 => ?_)
    rw [mS_s] at ez18
    refine v_bipush (pc := 21) C (by decide +kernel) dX6_append_21 ?_
    refine v_icmp_ne (pc := 23) C 30 (by first | omega | assumption) (by first | omega | assumption) dX6_append_23 (by decide) (fun h23 => ?_) (fun h23 => ?_)
    · refine v_iconst (pc := 30) C dX6_append_30 ?_
      refine v_cv (pc := 31) (as := [.int (iI 0)]) C (cy_X6_refused G) (wM_X6_124 G) sh_255 (ci := 4) rfl rfl (refN G) dX6_append_31 rfl rfl (by decide) (by decide) (Nat.le_of_ble_eq_true rfl) zc (k_I (fun z31 s31 q31 => ?_))
      obtain ⟨rfl, rfl⟩ := q31
      refine v_if_eq (pc := 34) C 39 (by first | omega | assumption) dX6_append_34 (by decide) (fun _ => ?_) (fun h => absurd h (by decide))
      refine v_aload_n (pc := 39) C 0 rfl dX6_append_39 ?_
      refine v_getr (pc := 40) C inX6 goX6 (ci := 4) rfl 1 (by decide) (wF_X6_7 G) rfl sh_255 (256) rfl dX6_append_40 ?_
      refine v_aload_n (pc := 43) C 0 rfl dX6_append_43 ?_
      refine v_geti (pc := 44) C inX6 goX6 (ci := 4) rfl 2 (by decide) (wF_X6_121 G) rfl sh_255 2 rfl dX6_append_44 (fun z44 ez44 rz44 => ?_)
      rw [mS_s] at ez44
      refine v_iload_n (pc := 47) C 1 rfl dX6_append_47 ?_
      refine v_iast (pc := 48) C sh_256 (by decide) (by first | omega | assumption) (by first | omega | assumption) dX6_append_48 ?_
      rw [mS_o256, mS_t]
      refine v_aload_n (pc := 49) C 0 rfl dX6_append_49 ?_
      refine v_dup (pc := 50) C rfl dX6_append_50 ?_
      refine v_geti (pc := 51) C inX6 goX6 (ci := 4) rfl 2 (by decide) (wF_X6_121 G) rfl sh_255 2 rfl dX6_append_51 (fun z51 ez51 rz51 => ?_)
      rw [mS_s] at ez51
      refine v_iconst (pc := 54) C dX6_append_54 ?_
      refine v_iadd (pc := 55) C dX6_append_55 ?_
      refine v_puti (pc := 56) C inX6 goX6 (ci := 4) rfl 2 (by decide) (wF_X6_121 G) rfl sh_255 tyX6 tyX6_ok nmX6 rfl rfl (fun _ => Nat.le_of_ble_eq_true rfl) (fun _ _ => ob_set_X6_2) (by first | omega | assumption) dX6_append_56 ?_
      refine v_st (mS_f2 _ _ _ _ _ _ _ _ _ _ _ _ _ _ ) ?_
      refine v_aload_n (pc := 59) C 0 rfl dX6_append_59 ?_
      refine v_geti (pc := 60) C inX6 goX6 (ci := 4) rfl 2 (by decide) (wF_X6_121 G) rfl sh_255 2 rfl dX6_append_60 (fun z60 ez60 rz60 => ?_)
      rw [mS_s] at ez60
      exact v_iret (pc := 63) C hr (rfl) dX6_append_63 (⟨_, rfl, mQ_ok (z' := s + 1) (by unfold op_append; rw [if_neg (by omega), if_neg (by omega)]; rw [show z51 = s by omega, show z44 = s by omega]) (by omega)⟩)
    · refine v_iconst (pc := 26) C dX6_append_26 ?_
      refine v_goto (pc := 27) C 31 dX6_append_27 (by decide) ?_
      refine v_cv (pc := 31) (as := [.int (iI 2)]) C (cy_X6_refused G) (wM_X6_124 G) sh_255 (ci := 4) rfl rfl (refY G (by decide)) dX6_append_31 rfl rfl (by decide) (by decide) (Nat.le_of_ble_eq_true rfl) zc (k_I (fun z31_1 s31_1 q31_1 => ?_))
      obtain ⟨rfl, rfl⟩ := q31_1
      refine v_if_eq (pc := 34) C 39 (by first | omega | assumption) dX6_append_34 (by decide) (fun h => absurd h (by decide)) (fun _ => ?_)
      refine v_iconst (pc := 37) C dX6_append_37 ?_
      exact v_iret (pc := 38) C hr (rfl) dX6_append_38 (⟨_, rfl, mQ_no (by unfold op_append; rw [if_neg (by omega), if_pos (by omega)]) (by decide)⟩)
  · refine v_if_ne (pc := 10) C 17 (by first | omega | assumption) dX6_append_10 (by decide) (fun h => absurd h (by decide)) (fun _ => ?_)
    refine v_iconst (pc := 13) C dX6_append_13 ?_
    refine v_goto (pc := 14) C 31 dX6_append_14 (by decide) ?_
    refine v_cv (pc := 31) (as := [.int (iI 1)]) C (cy_X6_refused G) (wM_X6_124 G) sh_255 (ci := 4) rfl rfl (refY G (by decide)) dX6_append_31 rfl rfl (by decide) (by decide) (Nat.le_of_ble_eq_true rfl) zc (k_I (fun z31_2 s31_2 q31_2 => ?_))
    obtain ⟨rfl, rfl⟩ := q31_2
    refine v_if_eq (pc := 34) C 39 (by first | omega | assumption) dX6_append_34 (by decide) (fun h => absurd h (by decide)) (fun _ => ?_)
    refine v_iconst (pc := 37) C dX6_append_37 ?_
    exact v_iret (pc := 38) C hr (rfl) dX6_append_38 (⟨_, rfl, mQ_no (by unfold op_append; rw [if_pos (by omega)]) (by decide)⟩)

set_option maxHeartbeats 4000000 in
set_option maxRecDepth 100000 in
theorem k_X6_clearText {γ : Gm} (G : Glo γ) {σ : St} {w s a p u : Int} {t n x f d k i : Int → Int}  (hs : 0 ≤ s ∧ s ≤ 120) : Ct γ yX6_clearText cX6_clearText 2 (some .int) 1 [.ref (bs γ + 255)] (mS σ w s a p u t n x f d k i) (pI (fun z σ2 => mQ σ (op_clearText s a t n d k i) z σ2)) := by
  refine Ct.of G (by decide +kernel) (Nat.le_of_ble_eq_true rfl) (fun φ C hr => ?_)
  have C : Cx γ φ RX6 cX6_clearText 2 1 := C
  refine v_lv [(0, .ref (bs γ + 255))] [0] rfl ?_
  refine v_aload_n (pc := 0) C 0 rfl dX6_clearText_0 ?_
  refine v_iconst (pc := 1) C dX6_clearText_1 ?_
  refine v_puti (pc := 2) C inX6 goX6 (ci := 4) rfl 0 (by decide) (wF_X6_36 G) rfl sh_255 tyX6 tyX6_ok nmX6 rfl rfl (fun _ => Nat.le_of_ble_eq_true rfl) (fun _ _ => ob_set_X6_0) (by first | omega | assumption) dX6_clearText_2 ?_
  refine v_st (mS_f0 _ _ _ _ _ _ _ _ _ _ _ _ _ _ ) ?_
  refine v_aload_n (pc := 5) C 0 rfl dX6_clearText_5 ?_
  refine v_geti (pc := 6) C inX6 goX6 (ci := 4) rfl 2 (by decide) (wF_X6_121 G) rfl sh_255 2 rfl dX6_clearText_6 (fun z6 ez6 rz6 => ?_)
  rw [mS_s] at ez6
  refine v_istore_n (pc := 9) C [(1, .int (iI z6)), (0, .ref (bs γ + 255))] dX6_clearText_9 rfl (by decide) rfl ?_
  refine v_aload_n (pc := 10) C 1 rfl dX6_clearText_10 ?_
  refine v_iconst (pc := 11) C dX6_clearText_11 ?_
  refine v_puti (pc := 12) C inX6 goX6 (ci := 4) rfl 2 (by decide) (wF_X6_121 G) rfl sh_255 tyX6 tyX6_ok nmX6 rfl rfl (fun _ => Nat.le_of_ble_eq_true rfl) (fun _ _ => ob_set_X6_2) (by first | omega | assumption) dX6_clearText_12 ?_
  refine v_st (mS_f2 _ _ _ _ _ _ _ _ _ _ _ _ _ _ ) ?_
  refine v_iload_n (pc := 15) C 0 rfl dX6_clearText_15 ?_
  exact v_iret (pc := 16) C hr (rfl) dX6_clearText_16 (⟨_, rfl, mQ_ok (z' := s) (by unfold op_clearText; rfl) (by omega)⟩)
