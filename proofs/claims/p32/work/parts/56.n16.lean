theorem CRep.save {σ α9 : St} {s a q : Int} {t n d k i : Int → Int} (h : CRep σ s a t n d k i) (hW : Wf n) (hq : q = 0 ∨ q = 1) (hR : Rep α9 n) {N0 : Nat} (hN : N0 = 229 + 13 * q.toNat) : CRep (setc (setN σ N0 α9) 202 (upr (σ 202) q 1)) s a t n d (cpyr n k 0 (268 * q) 268) (upr i q 1) := by
  obtain ⟨h1, h2, h3, h4, h5⟩ := h
  have key : ∀ c, c < 202 → setc (setN σ N0 α9) 202 (upr (σ 202) q 1) c = σ c := fun c hc => by
    rw [setc_ne _ _ (by omega), setN_out _ _ _ (by omega)]
  refine ⟨by rw [key 1 (by omega)]; exact h1, fun j a b => by rw [key 2 (by omega)]; exact h2 j a b, ?_, h4.cong (fun c a b => key c (by omega)), fun j hj => ?_⟩
  · rw [getN_cong (σ := σ) (fun k hk => key _ (by omega))]; exact h3
  · rw [setc_at, upr_if, upr_if, getN_setc _ _ (by omega)]
    by_cases e : j = q
    · subst e
      rw [if_pos rfl, if_pos rfl]
      refine ⟨rfl, fun _ => ?_⟩
      rw [← hN]
      exact (getN_at σ N0 α9 hR).congr hW.1.2 hW.2.1.2 (fun i a b => cpy_hit n k i rfl ⟨a, b⟩)
    · rw [if_neg e, if_neg e]
      refine ⟨(h5 j hj).1, fun hi => ?_⟩
      have hb : blk (cpyr n k 0 (268 * q) 268) (268 * j) = blk k (268 * j) := by
        rcases (show j < q ∨ q < j by omega) with g | g
        · exact cpy_miss _ _ (by omega)
        · exact cpy_miss2 _ _ (by omega)
      rw [getN_out _ _ (by omega), hb]
      exact (h5 j hj).2 hi
theorem CRep.empt {σ : St} {s a : Int} {t n d k i : Int → Int} (h : CRep σ s a t n d k i) : CRep (setc σ 202 (upr (upr (σ 202) 0 0) 1 0)) s a t n d k (upr (upr i 0 0) 1 0) := by
  obtain ⟨h1, h2, h3, h4, h5⟩ := h
  have key : ∀ c, c < 202 → setc σ 202 (upr (upr (σ 202) 0 0) 1 0) c = σ c := fun c hc => setc_ne _ _ (by omega)
  refine ⟨by rw [key 1 (by omega)]; exact h1, fun j a b => by rw [key 2 (by omega)]; exact h2 j a b, ?_, h4.cong (fun c a b => key c (by omega)), fun j hj => ?_⟩
  · rw [getN_cong (σ := σ) (fun k hk => key _ (by omega))]; exact h3
  · rw [setc_at]
    have e : ∀ r : Int → Int, upr (upr r 0 0) 1 0 j = 0 := fun r => by
      rw [upr_if, upr_if]
      rcases hj with rfl | rfl
      · rfl
      · rfl
    rw [e, e]
    exact ⟨rfl, fun x => absurd x (by decide)⟩
theorem tS_hi (σ : St) (p l : Int) (N : Int → Int) {c : Nat} (h : 255 ≤ c) : tS σ p l N c = σ c := by
  unfold tS
  rw [if_neg (by omega), if_neg (by omega)]

set_option maxHeartbeats 4000000 in
set_option maxRecDepth 100000 in
theorem k_X5_save {γ : Gm} (G : Glo γ) {σ : St} {s a : Int} {t n d k i : Int → Int} {q : Int} (hC : CRep σ s a t n d k i) (hO : AOk s a t n d k i) (hq : R3 q)  : Cxx γ yX5_save cX5_save 2 (some .int) 3 [.ref (bs γ + 0), .int (iI q)] σ (pI (fun z σ2 => cQ σ (op_save s a t n d k i q) z σ2)) (fun E σ2 => (E = eI ∧ cX σ (op_save s a t n d k i q) 1 σ2)) := by
  refine Cxx.of G (by decide +kernel) (Nat.le_of_ble_eq_true rfl) (fun φ C hq hr => ?_)
  have C : Cx γ φ RX5 cX5_save 2 3 := C
  obtain ⟨hO1, hO2, hO3, h, hO5, hO6⟩ := id hO
  have hC0 : CRep σ s a t n d k i := hC
  have hF0 : ∀ c, 255 ≤ c → σ c = σ c := fun _ _ => rfl
  refine v_lv [(0, .ref (bs γ + 0)), (1, .int (iI q))] [0, 1] rfl ?_
  refine v_iload_n (pc := 0) C 1 rfl dX5_save_0 ?_
  refine v_iconst (pc := 1) C dX5_save_1 ?_
  refine v_iconst (pc := 2) C dX5_save_2 ?_
  refine v_cs (pc := 3) (as := [.int (iI q), .int (iI 0), .int (iI 1)]) C (cy_X5_isIn G) (wM_X5_44 G) (k_X5_isIn G (by first | omega | assumption) (by first | omega | assumption) (by first | omega | assumption)) dX5_save_3 rfl rfl (by decide) (by decide) (Nat.le_of_ble_eq_true rfl) zc (k_I (fun z3 s3 q3 => ?_))
  rcases q3 with ⟨⟨rfl, q3⟩ | ⟨rfl, q3⟩, rfl⟩
  · refine v_if_ne (pc := 6) C 17 (by first | omega | assumption) dX5_save_6 (by decide) (fun _ => ?_) (fun h => absurd h (by decide))
    refine v_aload_n (pc := 17) C 0 rfl dX5_save_17 ?_
    refine v_getr (pc := 18) C inX5 goX5 (ci := 3) rfl 3 (by decide) (wF_X5_30 G) rfl sh_0 (201) rfl dX5_save_18 ?_
    refine v_iload_n (pc := 21) C 1 rfl dX5_save_21 ?_
    refine v_aald (pc := 22) C sh_201 (by decide) (by first | omega | assumption) dX5_save_22 ?_
    obtain ⟨N0, hN0⟩ : ∃ N0, N0 = nref 201 q.toNat := ⟨_, rfl⟩
    rw [← hN0]
    have hN19 : N0 = 229 + 13 * q.toNat := hN0
    have hNB : NetB N0 := by
      rw [hN19]
      rcases (show q = 0 ∨ q = 1 by omega) with rfl | rfl
      · exact Or.inr (Or.inr (Or.inr (Or.inl rfl)))
      · exact Or.inr (Or.inr (Or.inr (Or.inr (Or.inl rfl))))
    refine v_aload_n (pc := 23) C 0 rfl dX5_save_23 ?_
    refine v_getr (pc := 24) C inX5 goX5 (ci := 3) rfl 1 (by decide) (wF_X5_19 G) rfl sh_0 (4) rfl dX5_save_24 ?_
    refine v_cv (pc := 27) (as := [.ref (bs γ + 4)]) C (cy_X2_copyFrom G) (wM_X5_237 G) (show sh N0 = (5, 1) from hNB.sh (k := 0) (by decide)) (ci := 1) rfl rfl (k_X2_copyFrom G hNB (Or.inl rfl : NetB 4) (by omega)) dX5_save_27 rfl rfl (by decide) (by decide) (Nat.le_of_ble_eq_true rfl) zc (k_V (fun s27 q27 => ?_))
    obtain ⟨α9, c0, c1, rfl⟩ := q27
    have hR9 : Rep α9 n := Rep_of_copy (n := 0) (m := 4) hC.2.2.1 h (fun k hk => (if_pos hk : getN _ 4 k = _).symm) c0 c1
    refine v_aload_n (pc := 30) C 0 rfl dX5_save_30 ?_
    refine v_getr (pc := 31) C inX5 goX5 (ci := 3) rfl 4 (by decide) (wF_X5_34 G) rfl sh_0 (202) rfl dX5_save_31 ?_
    refine v_iload_n (pc := 34) C 1 rfl dX5_save_34 ?_
    refine v_iconst (pc := 35) C dX5_save_35 ?_
    refine v_zast (pc := 36) C sh_202 (by decide) (by first | omega | assumption) (by first | omega | assumption) dX5_save_36 ?_
    rw [setN_out _ _ _ (by omega)]
    refine v_aload_n (pc := 37) C 0 rfl dX5_save_37 ?_
    refine v_getr (pc := 38) C inX5 goX5 (ci := 3) rfl 1 (by decide) (wF_X5_19 G) rfl sh_0 (4) rfl dX5_save_38 ?_
    refine v_geti (pc := 41) C inX2 goX2 (ci := 1) rfl 0 (by decide) (wF_X5_95 G) rfl sh_4 0 rfl dX5_save_41 (fun z41 ez41 rz41 => ?_)
    have wz41 : z41 = n 2 := by rw [ez41, setc_ne _ _ (by omega), setN_out _ _ _ (by omega)]; exact hC.2.2.1.1.1
    exact v_iretX (pc := 44) C hr (rfl) dX5_save_44 (⟨_, rfl, cQ_ok (z' := n 2) (by unfold op_save; rw [if_neg (by omega)]) (by assumption) (hC.save h (by omega) hR9 hN19) (fun c hc => (setc_ne _ _ (by omega)).trans (setN_out _ _ _ (by omega)))⟩)
  · refine v_if_ne (pc := 6) C 17 (by first | omega | assumption) dX5_save_6 (by decide) (fun h => absurd h (by decide)) (fun _ => ?_)
    exact v_tI (pc := 9) C hq dX5_save_9 dX5_save_12 dX5_save_13 dX5_save_16 (Nat.le_of_ble_eq_true rfl) (⟨rfl, cX_no (by unfold op_save; rw [if_pos (by omega)]) (hC0) (hF0)⟩)

set_option maxHeartbeats 4000000 in
set_option maxRecDepth 100000 in
theorem k_X5_restore {γ : Gm} (G : Glo γ) {σ : St} {s a : Int} {t n d k i : Int → Int} {q : Int} (hC : CRep σ s a t n d k i) (hO : AOk s a t n d k i) (hq : R3 q)  : Cxx γ yX5_restore cX5_restore 2 (some .int) 3 [.ref (bs γ + 0), .int (iI q)] σ (pI (fun z σ2 => cQ σ (op_restore s a t n d k i q) z σ2)) (fun E σ2 => (E = eI ∧ cX σ (op_restore s a t n d k i q) 1 σ2) ∨ (E = eS ∧ cX σ (op_restore s a t n d k i q) 2 σ2)) := by
  refine Cxx.of G (by decide +kernel) (Nat.le_of_ble_eq_true rfl) (fun φ C hq hr => ?_)
  have C : Cx γ φ RX5 cX5_restore 2 3 := C
  obtain ⟨hO1, hO2, hO3, h, hO5, hO6⟩ := id hO
  have hC0 : CRep σ s a t n d k i := hC
  have hF0 : ∀ c, 255 ≤ c → σ c = σ c := fun _ _ => rfl
  refine v_lv [(0, .ref (bs γ + 0)), (1, .int (iI q))] [0, 1] rfl ?_
  refine v_iload_n (pc := 0) C 1 rfl dX5_restore_0 ?_
  refine v_iconst (pc := 1) C dX5_restore_1 ?_
  refine v_iconst (pc := 2) C dX5_restore_2 ?_
  refine v_cs (pc := 3) (as := [.int (iI q), .int (iI 0), .int (iI 1)]) C (cy_X5_isIn G) (wM_X5_44 G) (k_X5_isIn G (by first | omega | assumption) (by first | omega | assumption) (by first | omega | assumption)) dX5_restore_3 rfl rfl (by decide) (by decide) (Nat.le_of_ble_eq_true rfl) zc (k_I (fun z3 s3 q3 => ?_))
  rcases q3 with ⟨⟨rfl, q3⟩ | ⟨rfl, q3⟩, rfl⟩
  · refine v_if_ne (pc := 6) C 17 (by first | omega | assumption) dX5_restore_6 (by decide) (fun _ => ?_) (fun h => absurd h (by decide))
    refine v_aload_n (pc := 17) C 0 rfl dX5_restore_17 ?_
    refine v_getr (pc := 18) C inX5 goX5 (ci := 3) rfl 4 (by decide) (wF_X5_34 G) rfl sh_0 (202) rfl dX5_restore_18 ?_
    refine v_iload_n (pc := 21) C 1 rfl dX5_restore_21 ?_
    refine v_zald (pc := 22) C sh_202 (by decide) (by first | omega | assumption) dX5_restore_22 (fun z22 ez22 rz22 => ?_)
    have wz22 : z22 = i q := ez22.trans (hC.2.2.2.2 q (by omega)).1
    have hq6 := hO6 q (by omega)
    refine v_if_ne (pc := 23) C 34 (by first | omega | assumption) dX5_restore_23 (by decide) (fun h23 => ?_) (fun h23 => ?_)
    · refine v_aload_n (pc := 34) C 0 rfl dX5_restore_34 ?_
      refine v_getr (pc := 35) C inX5 goX5 (ci := 3) rfl 1 (by decide) (wF_X5_19 G) rfl sh_0 (4) rfl dX5_restore_35 ?_
      refine v_aload_n (pc := 38) C 0 rfl dX5_restore_38 ?_
      refine v_getr (pc := 39) C inX5 goX5 (ci := 3) rfl 3 (by decide) (wF_X5_30 G) rfl sh_0 (201) rfl dX5_restore_39 ?_
      refine v_iload_n (pc := 42) C 1 rfl dX5_restore_42 ?_
      refine v_aald (pc := 43) C sh_201 (by decide) (by first | omega | assumption) dX5_restore_43 ?_
      obtain ⟨N0, hN0⟩ : ∃ N0, N0 = nref 201 q.toNat := ⟨_, rfl⟩
      rw [← hN0]
      have hN19 : N0 = 229 + 13 * q.toNat := hN0
      have hNB : NetB N0 := by
        rw [hN19]
        rcases (show q = 0 ∨ q = 1 by omega) with rfl | rfl
        · exact Or.inr (Or.inr (Or.inr (Or.inl rfl)))
        · exact Or.inr (Or.inr (Or.inr (Or.inr (Or.inl rfl))))
      refine v_cv (pc := 44) (as := [.ref (bs γ + N0)]) C (cy_X2_copyFrom G) (wM_X5_237 G) sh_4 (ci := 1) rfl rfl (k_X2_copyFrom G (Or.inl rfl : NetB 4) hNB (by omega)) dX5_restore_44 rfl rfl (by decide) (by decide) (Nat.le_of_ble_eq_true rfl) zc (k_V (fun s44 q44 => ?_))
      obtain ⟨α9, c0, c1, rfl⟩ := q44
      have hi1 : i q = 1 := by omega
      have hRb := (hC.2.2.2.2 q (by omega)).2 hi1
      rw [← hN19] at hRb
      have hR9 : Rep α9 (blk k (268 * q)) := Rep_of_copy (n := 0) (m := N0) hRb (hq6.2 hi1) (fun k hk => (if_pos hk : getN _ N0 k = _).symm) c0 c1
      refine v_aload_n (pc := 47) C 0 rfl dX5_restore_47 ?_
      refine v_getr (pc := 48) C inX5 goX5 (ci := 3) rfl 2 (by decide) (wF_X5_26 G) rfl sh_0 (17) rfl dX5_restore_48 ?_
      refine v_cv (pc := 51) (as := []) C (cy_X1_forgetAll G) (wM_X5_69 G) sh_17 (ci := 0) rfl rfl (k_X1_forgetAll G) dX5_restore_51 rfl rfl (by decide) (by decide) (Nat.le_of_ble_eq_true rfl) zc (k_V (fun s51 q51 => ?_))
      obtain ⟨hM9, hF9⟩ := q51
      refine v_aload_n (pc := 54) C 0 rfl dX5_restore_54 ?_
      refine v_getr (pc := 55) C inX5 goX5 (ci := 3) rfl 1 (by decide) (wF_X5_19 G) rfl sh_0 (4) rfl dX5_restore_55 ?_
      refine v_geti (pc := 58) C inX2 goX2 (ci := 1) rfl 0 (by decide) (wF_X5_95 G) rfl sh_4 0 rfl dX5_restore_58 (fun z58 ez58 rz58 => ?_)
      have wz58 : z58 = blk k (268 * q) 2 := by rw [ez58, hF9 _ (by omega)]; exact (congrFun (setN_at _ 4 α9 (k := 0) (by decide)) 0).trans hR9.1.1
      exact v_iretX (pc := 61) C hr (rfl) dX5_restore_61 (⟨_, rfl, cQ_ok (z' := blk k (268 * q) 2) (by unfold op_restore; rw [if_neg (by omega), if_neg (by omega)]) (by assumption) ((hC.now hR9).mem (hM9 d) (fun c hc => hF9 c (by omega))) (fun c hc => (hF9 c (by omega)).trans (setN_out _ _ _ (by omega)))⟩)
    · exact v_tS (pc := 26) C hq dX5_restore_26 dX5_restore_29 dX5_restore_30 dX5_restore_33 (Nat.le_of_ble_eq_true rfl) (Or.inr (⟨rfl, cX_no (by unfold op_restore; rw [if_neg (by omega), if_pos (by omega)]) (hC0) (hF0)⟩))
  · refine v_if_ne (pc := 6) C 17 (by first | omega | assumption) dX5_restore_6 (by decide) (fun h => absurd h (by decide)) (fun _ => ?_)
    exact v_tI (pc := 9) C hq dX5_restore_9 dX5_restore_12 dX5_restore_13 dX5_restore_16 (Nat.le_of_ble_eq_true rfl) (Or.inl (⟨rfl, cX_no (by unfold op_restore; rw [if_pos (by omega)]) (hC0) (hF0)⟩))

set_option maxHeartbeats 4000000 in
set_option maxRecDepth 100000 in
theorem k_X5_load {γ : Gm} (G : Glo γ) {σ : St} {s a : Int} {t n d k i : Int → Int} (hC : CRep σ s a t n d k i) (hO : AOk s a t n d k i)   : Cxx γ yX5_load cX5_load 3 (some .int) 7 [.ref (bs γ + 0)] σ (pI (fun z σ2 => cQ σ (op_load s a t n d k i) z σ2)) (fun E σ2 => (E = eS ∧ cX σ (op_load s a t n d k i) 1 σ2)) := by
  refine Cxx.of G (by decide +kernel) (Nat.le_of_ble_eq_true rfl) (fun φ C hq hr => ?_)
  have C : Cx γ φ RX5 cX5_load 3 7 := C
  obtain ⟨hO1, hO2, hO3, h, hO5, hO6⟩ := id hO
  have hC0 : CRep σ s a t n d k i := hC
  have hF0 : ∀ c, 255 ≤ c → σ c = σ c := fun _ _ => rfl
  have hN : NetB 4 := Or.inl rfl
  refine v_lv [(0, .ref (bs γ + 0))] [0] rfl ?_
  refine v_aload_n (pc := 0) C 0 rfl dX5_load_0 ?_
  refine v_getr (pc := 1) C inX5 goX5 (ci := 3) rfl 0 (by decide) (wF_X5_10 G) rfl sh_0 (1) rfl dX5_load_1 ?_
  refine v_st (tS_eta σ).symm ?_
  refine v_cv (pc := 4) (as := []) C (cy_X4_firstError G) (wM_X5_62 G) sh_1 (ci := 2) rfl rfl (k_X4_firstError G hO1 hC.1 hC.2.1 hO3) dX5_load_4 rfl rfl (by decide) (by decide) (Nat.le_of_ble_eq_true rfl) zc (k_I (fun z4 s4 q4 => ?_))
  obtain ⟨ez4, rz4, p9, l9, N9, rfl⟩ := q4
  refine v_iconst (pc := 7) C dX5_load_7 ?_
  refine v_icmp_eq (pc := 8) C 19 (by first | omega | assumption) (by first | omega | assumption) dX5_load_8 (by decide) (fun h8 => ?_) (fun h8 => ?_)
  · have hE : errR t s = -1 := by omega
    refine v_aload_n (pc := 19) C 0 rfl dX5_load_19 ?_
    refine v_getr (pc := 20) C inX5 goX5 (ci := 3) rfl 1 (by decide) (wF_X5_19 G) rfl sh_0 (4) rfl dX5_load_20 ?_
    refine v_st (setN_eta (tS σ p9 l9 N9) 4).symm ?_
    refine v_cv (pc := 23) (as := []) C (cy_X2_startAnew G) (wM_X5_66 G) sh_4 (ci := 1) rfl rfl (k_X2_startAnew G hN hC.txt.2.2.1 h) dX5_load_23 rfl rfl (by decide) (by decide) (Nat.le_of_ble_eq_true rfl) zc (k_V (fun s23 q23 => ?_))
    obtain ⟨α9, hR9, rfl⟩ := q23
    refine v_aload_n (pc := 26) C 0 rfl dX5_load_26 ?_
    refine v_getr (pc := 27) C inX5 goX5 (ci := 3) rfl 2 (by decide) (wF_X5_26 G) rfl sh_0 (17) rfl dX5_load_27 ?_
    refine v_cv (pc := 30) (as := []) C (cy_X1_forgetAll G) (wM_X5_69 G) sh_17 (ci := 0) rfl rfl (k_X1_forgetAll G) dX5_load_30 rfl rfl (by decide) (by decide) (Nat.le_of_ble_eq_true rfl) zc (k_V (fun s30 q30 => ?_))
    obtain ⟨hM9, hF9⟩ := q30
    refine v_aload_n (pc := 33) C 0 rfl dX5_load_33 ?_
    refine v_cv (pc := 34) (as := []) C (cy_X5_emptySlots G) (wM_X5_72 G) sh_0 (ci := 3) rfl rfl (k_X5_emptySlots G) dX5_load_34 rfl rfl (by decide) (by decide) (Nat.le_of_ble_eq_true rfl) zc (k_V (fun s34 q34 => ?_))
    subst q34
    have hC1 : CRep (setc s30 202 (upr (upr (s30 202) 0 0) 1 0)) s 0 t newR d k (upr (upr i 0 0) 1 0) := CRep.empt ((hC.txt.now hR9).mem (hM9 d) (fun c hc => hF9 c (by omega)))
    have hF1 : ∀ c, 255 ≤ c → setc s30 202 (upr (upr (s30 202) 0 0) 1 0) c = σ c := fun c hc => (setc_ne _ _ (by omega)).trans ((hF9 c (by omega)).trans ((setN_out _ _ _ (by omega)).trans (tS_hi _ _ _ _ hc)))
    obtain ⟨τ, hτ⟩ : ∃ τ, τ = setc s30 202 (upr (upr (s30 202) 0 0) 1 0) := ⟨_, rfl⟩
    rw [← hτ] at hC1 hF1 ⊢
    refine v_iconst (pc := 37) C dX5_load_37 ?_
    refine v_istore_n (pc := 38) C [(1, .int (iI 0)), (0, .ref (bs γ + 0))] dX5_load_38 rfl (by decide) rfl ?_
    refine v_aload_n (pc := 39) C 1 rfl dX5_load_39 ?_
    refine v_getr (pc := 40) C inX5 goX5 (ci := 3) rfl 0 (by decide) (wF_X5_10 G) rfl sh_0 (1) rfl dX5_load_40 ?_
    refine v_st (tS_eta τ).symm ?_
    refine v_cv (pc := 43) (as := []) C (cy_X4_readStart G) (wM_X5_75 G) sh_1 (ci := 2) rfl rfl (k_X4_readStart G hO1 hC1.1 hC1.2.1 hO3) dX5_load_43 rfl rfl (by decide) (by decide) (Nat.le_of_ble_eq_true rfl) zc (k_I (fun z43 s43 q43 => ?_))
    rcases q43 with ⟨rfl, q43, rfl⟩ | ⟨rfl, q43, rfl⟩
    · refine v_pop (pc := 46) C rfl dX5_load_46 ?_
      refine v_iconst (pc := 47) C dX5_load_47 ?_
      refine v_istore_n (pc := 48) C [(2, .int (iI 0)), (1, .int (iI 0)), (0, .ref (bs γ + 0))] dX5_load_48 rfl (by decide) rfl ?_
      have L49 : ∀ (fu : Nat) (j fl : Nat) (x l1 b : Int) (N1 r : Int → Int) (α1 : St), (hrr : readT t s = runT t s fl x r b) → (hx : 1 ≤ x ∧ x ≤ 131 ∧ s - x ≤ fl) → (hj : j + fl = 120) → (hb : 0 ≤ b ∧ b ≤ j) → (hW1 : Wf r) → (hR1 : Rep α1 r) → fl < fu → Vw γ φ 3 0 0 (QX γ φ (pI (fun z σ2 => cQ σ (op_load s a t n d k i) z σ2)) (fun E σ2 => (E = eS ∧ cX σ (op_load s a t n d k i) 1 σ2))) (tS (setN τ 4 α1) x l1 N1) 49 [(2, .int (iI (j : Int))), (1, .int (iI b)), (0, .ref (bs γ + 0))] [] := by
        intro fu
        induction fu with
        | zero => intro j fl x l1 b N1 r α1 hrr hx hj hb hW1 hR1 hz; exact absurd hz (Nat.not_lt_zero _)
        | succ fu ih =>
          intro j fl x l1 b N1 r α1 hrr hx hj hb hW1 hR1 hz
          have h1q : setN τ 4 α1 1 1 = s := by rw [setN_out _ _ _ (by omega)]; exact hC1.1
          have h2q : ∀ j, 0 ≤ j → j < s → setN τ 4 α1 2 j = t j := fun j j0 j1 => by rw [setN_out _ _ _ (by omega)]; exact hC1.2.1 j j0 j1
          refine v_iload_n (pc := 49) C 0 rfl dX5_load_49 ?_
          refine v_bipush (pc := 50) C (by decide +kernel) dX5_load_50 ?_
          refine v_icmp_ge (pc := 52) C 96 (by first | omega | assumption) (by first | omega | assumption) dX5_load_52 (by decide) (fun h52 => ?_) (fun h52 => ?_)
          · have hend : readT t s = (-1, r, b) := by rw [hrr, show fl = 0 by omega]; rfl
            refine v_iload_n (pc := 96) C 1 rfl dX5_load_96 ?_
            exact v_iretX (pc := 97) C hr (rfl) dX5_load_97 (⟨_, rfl, cQ_ok (z' := (readT t s).2.2) (by unfold op_load; rw [if_neg (by omega)]) (by rw [hend]) (by rw [show (readT t s).2.1 = r from by rw [hend]]; exact (hC1.now hR1).txt) (fun c hc => (tS_hi _ _ _ _ hc).trans ((setN_out _ _ _ (by omega)).trans (hF1 c hc)))⟩)
          · refine v_aload_n (pc := 55) C 2 rfl dX5_load_55 ?_
            refine v_getr (pc := 56) C inX5 goX5 (ci := 3) rfl 0 (by decide) (wF_X5_10 G) rfl sh_0 (1) rfl dX5_load_56 ?_
            refine v_cv (pc := 59) (as := []) C (cy_X4_hasMore G) (wM_X5_79 G) sh_1 (ci := 2) rfl rfl (k_X4_hasMore G hO1 h1q h2q hO3) dX5_load_59 rfl rfl (by decide) (by decide) (Nat.le_of_ble_eq_true rfl) zc (k_I (fun z59 s59 q59 => ?_))
            rcases q59 with ⟨⟨rfl, q59⟩ | ⟨rfl, q59⟩, rfl⟩
            · obtain ⟨fl2, rfl⟩ : ∃ g, fl = g + 1 := ⟨fl - 1, by omega⟩
              unfold runT at hrr
              rw [if_pos q59] at hrr
              have hcp := cmdP_r t s x
              refine v_if_eq (pc := 62) C 96 (by first | omega | assumption) dX5_load_62 (by decide) (fun h => absurd h (by decide)) (fun _ => ?_)
              refine v_aload_n (pc := 65) C 2 rfl dX5_load_65 ?_
              refine v_getr (pc := 66) C inX5 goX5 (ci := 3) rfl 0 (by decide) (wF_X5_10 G) rfl sh_0 (1) rfl dX5_load_66 ?_
              refine v_cv (pc := 69) (as := []) C (cy_X4_readCommand G) (wM_X5_82 G) sh_1 (ci := 2) rfl rfl (k_X4_readCommand G hO1 h1q h2q hO3 (by omega)) dX5_load_69 rfl rfl (by decide) (by decide) (Nat.le_of_ble_eq_true rfl) zc (k_I (fun z69 s69 q69 => ?_))
              rcases q69 with ⟨rfl, q69, N9, hN9, rfl⟩ | ⟨rfl, q69, l9, N9, rfl⟩
              · rw [if_pos q69] at hrr
                refine v_pop (pc := 72) C rfl dX5_load_72 ?_
                refine v_aload_n (pc := 73) C 2 rfl dX5_load_73 ?_
                refine v_getr (pc := 74) C inX5 goX5 (ci := 3) rfl 0 (by decide) (wF_X5_10 G) rfl sh_0 (1) rfl dX5_load_74 ?_
                refine v_aload_n (pc := 77) C 2 rfl dX5_load_77 ?_
                refine v_getr (pc := 78) C inX5 goX5 (ci := 3) rfl 1 (by decide) (wF_X5_19 G) rfl sh_0 (4) rfl dX5_load_78 ?_
                refine v_st (tS_setN τ _ _ _ α1).symm ?_
                refine v_cv (pc := 81) (as := [.ref (bs γ + 4)]) C (cy_X4_doCommand G) (wM_X5_85 G) sh_1 (ci := 2) rfl rfl (k_X4_doCommand G rfl (hO3 _ (by omega) (by omega)) q69 hN9 hR1 hW1) dX5_load_81 rfl rfl (by decide) (by decide) (Nat.le_of_ble_eq_true rfl) zc (k_I (fun z81 s81 q81 => ?_))
                rcases q81 with ⟨⟨rfl, q81⟩ | ⟨rfl, q81⟩, α9, hR9, rfl⟩
                · refine v_st (tS_setN τ _ _ _ α9) ?_
                  refine v_if_ne (pc := 84) C 90 (by first | omega | assumption) dX5_load_84 (by decide) (fun _ => ?_) (fun h => absurd h (by decide))
                  refine v_iinc (pc := 90) C 0 [(2, .int (iI ((j : Int) + 1))), (1, .int (iI b)), (0, .ref (bs γ + 0))] dX5_load_90 rfl (by decide) rfl ?_
                  refine v_goto (pc := 93) C 49 dX5_load_93 (by decide) ?_
                  have hw2 := Wf_cmdDo hW1 q69
                  rw [q81, Int.add_zero] at hrr
                  exact v_lv _ [0, 1, 2] rfl (ih (j + 1) fl2 _ _ _ _ _ _ hrr (by have := hcp.2.2 q69.1; omega) (by omega) (by omega) hw2 hR9 (by omega))
                · refine v_st (tS_setN τ _ _ _ α9) ?_
                  refine v_if_ne (pc := 84) C 90 (by first | omega | assumption) dX5_load_84 (by decide) (fun h => absurd h (by decide)) (fun _ => ?_)
                  refine v_iinc (pc := 87) C 1 [(1, .int (iI (b + 1))), (2, .int (iI (j : Int))), (0, .ref (bs γ + 0))] dX5_load_87 rfl (by decide) rfl ?_
                  refine v_iinc (pc := 90) C 1 [(2, .int (iI ((j : Int) + 1))), (1, .int (iI (b + 1))), (0, .ref (bs γ + 0))] dX5_load_90 rfl (by decide) rfl ?_
                  refine v_goto (pc := 93) C 49 dX5_load_93 (by decide) ?_
                  have hw2 := Wf_cmdDo hW1 q69
                  rw [q81] at hrr
                  exact v_lv _ [0, 1, 2] rfl (ih (j + 1) fl2 _ _ _ _ _ _ hrr (by have := hcp.2.2 q69.1; omega) (by omega) (by omega) hw2 hR9 (by omega))
              · have h9 := readT_err t s
                rw [hrr, if_neg q69, hE] at h9
                have h9 : cmdP t s x = -1 := h9
                omega
            · have hend : readT t s = (-1, r, b) := by
                rw [hrr]
                cases fl with
                | zero => rfl
                | succ fl2 => unfold runT; rw [if_neg q59]
              refine v_if_eq (pc := 62) C 96 (by first | omega | assumption) dX5_load_62 (by decide) (fun _ => ?_) (fun h => absurd h (by decide))
              refine v_iload_n (pc := 96) C 1 rfl dX5_load_96 ?_
              exact v_iretX (pc := 97) C hr (rfl) dX5_load_97 (⟨_, rfl, cQ_ok (z' := (readT t s).2.2) (by unfold op_load; rw [if_neg (by omega)]) (by rw [hend]) (by rw [show (readT t s).2.1 = r from by rw [hend]]; exact (hC1.now hR1).txt) (fun c hc => (tS_hi _ _ _ _ hc).trans ((setN_out _ _ _ (by omega)).trans (hF1 c hc)))⟩)
      have hr0 : readT t s = runT t s 120 1 newR 0 := by unfold readT; rw [if_neg q43]
      refine v_st (show _ = tS (setN τ 4 (getN τ 4)) 1 (τ 1 3) (τ 3) from by rw [setN_eta]) ?_
      exact v_lv _ [0, 1, 2] rfl (L49 121 0 120 1 _ 0 _ newR (getN τ 4) hr0 (by omega) (by omega) (by omega) Wf_newR hC1.2.2.1 (by omega))
    · exact absurd hE (by unfold errR; rw [if_pos q43]; decide)
  · exact v_tS (pc := 11) C hq dX5_load_11 dX5_load_14 dX5_load_15 dX5_load_18 (Nat.le_of_ble_eq_true rfl) (⟨rfl, cX_no (by unfold op_load; rw [if_pos (by omega)]) (hC.txt) (fun c hc => tS_hi _ _ _ _ hc)⟩)
