set_option maxHeartbeats 4000000 in
set_option maxRecDepth 100000 in
theorem k_X1_keep {γ : Gm} (G : Glo γ) {σ : St} {a : Int} {n d : Int → Int} (hM : MemR σ a d) (ha : 0 ≤ a ∧ a ≤ 14) (hR : Rep (getN σ 4) n) (hW : Wf n) : Ct γ yX1_keep cX1_keep 2 none 2 [.ref (bs γ + 17), .ref (bs γ + 4)] σ (pV (fun σ2 => MemR σ2 (remA a) (remD a n d) ∧ ∀ c, c < 17 ∨ 201 ≤ c → σ2 c = σ c)) := by
  refine Ct.of G (by decide +kernel) (Nat.le_of_ble_eq_true rfl) (fun φ C hr => ?_)
  have C : Cx γ φ RX1 cX1_keep 2 2 := C
  have hm0 := hM.1
  have hm1 := hM.2.1
  refine v_lv [(0, .ref (bs γ + 17)), (1, .ref (bs γ + 4))] [0, 1] rfl ?_
  refine v_aload_n (pc := 0) C 0 rfl dX1_keep_0 ?_
  refine v_getr (pc := 1) C inX1 goX1 (ci := 0) rfl 2 (by decide) (wF_X1_11 G) rfl sh_17 (18) rfl dX1_keep_1 ?_
  refine v_aload_n (pc := 4) C 0 rfl dX1_keep_4 ?_
  refine v_geti (pc := 5) C inX1 goX1 (ci := 0) rfl 1 (by decide) (wF_X1_18 G) rfl sh_17 1 rfl dX1_keep_5 (fun z5 ez5 rz5 => ?_)
  refine v_aload_n (pc := 8) C 0 rfl dX1_keep_8 ?_
  refine v_geti (pc := 9) C inX1 goX1 (ci := 0) rfl 0 (by decide) (wF_X1_22 G) rfl sh_17 0 rfl dX1_keep_9 (fun z9 ez9 rz9 => ?_)
  refine v_iadd (pc := 12) C dX1_keep_12 ?_
  refine v_bipush (pc := 13) C (by decide +kernel) dX1_keep_13 ?_
  refine v_irem (pc := 15) C (by first | omega | assumption) (by first | omega | assumption) dX1_keep_15 ?_
  refine v_aald (pc := 16) C sh_18 (by decide) (by first | omega | assumption) dX1_keep_16 ?_
  obtain ⟨N0, hN0⟩ : ∃ N0, N0 = nref 18 ((z5 + z9) % 14).toNat := ⟨_, rfl⟩
  rw [← hN0]
  have hNB : NetB N0 := by rw [hN0]; exact Or.inr (Or.inr (Or.inr (Or.inr (Or.inr ⟨(((z5 + z9) % 14).toNat), by omega, rfl⟩))))
  have hN19 : N0 = 19 + 13 * (((z5 + z9) % 14).toNat) := hN0
  refine v_aload_n (pc := 17) C 1 rfl dX1_keep_17 ?_
  refine v_cv (pc := 18) (as := [.ref (bs γ + 4)]) C (cy_X2_copyFrom G) (wM_X1_25 G) (show sh N0 = (5, 1) from hNB.sh (k := 0) (by decide)) (ci := 1) rfl rfl (k_X2_copyFrom G hNB (Or.inl rfl : NetB 4) (by omega)) dX1_keep_18 rfl rfl (by decide) (by decide) (Nat.le_of_ble_eq_true rfl) zc (k_V (fun s18 q18 => ?_))
  obtain ⟨α9, c0, c1, rfl⟩ := q18
  have hR9 : Rep α9 n := Rep_of_copy (n := 0) (m := 4) hR hW (fun k hk => (if_pos hk : getN σ 4 k = σ (4 + k)).symm) c0 c1
  have e17 : setN σ N0 α9 17 = σ 17 := setN_out _ _ _ (by omega)
  refine v_aload_n (pc := 21) C 0 rfl dX1_keep_21 ?_
  refine v_geti (pc := 22) C inX1 goX1 (ci := 0) rfl 0 (by decide) (wF_X1_22 G) rfl sh_17 0 rfl dX1_keep_22 (fun z22 ez22 rz22 => ?_)
  rw [e17, hm0] at ez22
  refine v_bipush (pc := 25) C (by decide +kernel) dX1_keep_25 ?_
  refine v_icmp_ge (pc := 27) C 43 (by first | omega | assumption) (by first | omega | assumption) dX1_keep_27 (by decide) (fun h27 => ?_) (fun h27 => ?_)
  · refine v_aload_n (pc := 43) C 0 rfl dX1_keep_43 ?_
    refine v_aload_n (pc := 44) C 0 rfl dX1_keep_44 ?_
    refine v_geti (pc := 45) C inX1 goX1 (ci := 0) rfl 1 (by decide) (wF_X1_18 G) rfl sh_17 1 rfl dX1_keep_45 (fun z45 ez45 rz45 => ?_)
    rw [e17] at ez45
    refine v_iconst (pc := 48) C dX1_keep_48 ?_
    refine v_iadd (pc := 49) C dX1_keep_49 ?_
    refine v_bipush (pc := 50) C (by decide +kernel) dX1_keep_50 ?_
    refine v_irem (pc := 52) C (by first | omega | assumption) (by first | omega | assumption) dX1_keep_52 ?_
    refine v_puti (pc := 53) C inX1 goX1 (ci := 0) rfl 1 (by decide) (wF_X1_18 G) rfl sh_17 tyX1 tyX1_ok nmX1 rfl rfl (fun _ => Nat.le_of_ble_eq_true rfl) (fun _ _ => ob_set_X1_1) (by first | omega | assumption) dX1_keep_53 ?_
    rw [e17]
    exact v_vret (pc := 56) C hr dX1_keep_56 ⟨rfl, by subst ez5 ez45; exact hM.keep2 (by omega) hW hR9 rfl (by rw [hN19, ez9, hm0]), fun c hc => by rw [setc_ne _ _ (by omega), setN_out _ _ _ (by omega)]⟩
  · refine v_aload_n (pc := 30) C 0 rfl dX1_keep_30 ?_
    refine v_dup (pc := 31) C rfl dX1_keep_31 ?_
    refine v_geti (pc := 32) C inX1 goX1 (ci := 0) rfl 0 (by decide) (wF_X1_22 G) rfl sh_17 0 rfl dX1_keep_32 (fun z32 ez32 rz32 => ?_)
    rw [e17, hm0] at ez32
    refine v_iconst (pc := 35) C dX1_keep_35 ?_
    refine v_iadd (pc := 36) C dX1_keep_36 ?_
    refine v_puti (pc := 37) C inX1 goX1 (ci := 0) rfl 0 (by decide) (wF_X1_22 G) rfl sh_17 tyX1 tyX1_ok nmX1 rfl rfl (fun _ => Nat.le_of_ble_eq_true rfl) (fun _ _ => ob_set_X1_0) (by first | omega | assumption) dX1_keep_37 ?_
    rw [e17]
    refine v_goto (pc := 40) C 56 dX1_keep_40 (by decide) ?_
    exact v_vret (pc := 56) C hr dX1_keep_56 ⟨rfl, by subst ez5; rw [ez32]; exact hM.keep1 (by omega) hW hR9 rfl (by rw [hN19, ez9, hm0]), fun c hc => by rw [setc_ne _ _ (by omega), setN_out _ _ _ (by omega)]⟩

set_option maxHeartbeats 4000000 in
set_option maxRecDepth 100000 in
theorem k_X1_takeBack {γ : Gm} (G : Glo γ) {σ : St} {a : Int} {d : Int → Int} (hM : MemR σ a d) (ha : 1 ≤ a ∧ a ≤ 14) (hW : Wf (blk d (268 * (a - 1)))) : Ct γ yX1_takeBack cX1_takeBack 2 none 2 [.ref (bs γ + 17), .ref (bs γ + 4)] σ (pV (fun σ2 => ∃ α2, Rep α2 (blk d (268 * (a - 1))) ∧ σ2 = setN (setc σ 17 (upr (σ 17) 0 (a - 1))) 4 α2)) := by
  refine Ct.of G (by decide +kernel) (Nat.le_of_ble_eq_true rfl) (fun φ C hr => ?_)
  have C : Cx γ φ RX1 cX1_takeBack 2 2 := C
  have hm0 := hM.1
  have hm1 := hM.2.1
  refine v_lv [(0, .ref (bs γ + 17)), (1, .ref (bs γ + 4))] [0, 1] rfl ?_
  refine v_aload_n (pc := 0) C 0 rfl dX1_takeBack_0 ?_
  refine v_dup (pc := 1) C rfl dX1_takeBack_1 ?_
  refine v_geti (pc := 2) C inX1 goX1 (ci := 0) rfl 0 (by decide) (wF_X1_22 G) rfl sh_17 0 rfl dX1_takeBack_2 (fun z2 ez2 rz2 => ?_)
  refine v_iconst (pc := 5) C dX1_takeBack_5 ?_
  refine v_isub (pc := 6) C dX1_takeBack_6 ?_
  rw [show z2 - 1 = a - 1 by omega]
  refine v_puti (pc := 7) C inX1 goX1 (ci := 0) rfl 0 (by decide) (wF_X1_22 G) rfl sh_17 tyX1 tyX1_ok nmX1 rfl rfl (fun _ => Nat.le_of_ble_eq_true rfl) (fun _ _ => ob_set_X1_0) (by first | omega | assumption) dX1_takeBack_7 ?_
  refine v_aload_n (pc := 10) C 1 rfl dX1_takeBack_10 ?_
  refine v_aload_n (pc := 11) C 0 rfl dX1_takeBack_11 ?_
  refine v_getr (pc := 12) C inX1 goX1 (ci := 0) rfl 2 (by decide) (wF_X1_11 G) rfl sh_17 (18) rfl dX1_takeBack_12 ?_
  refine v_aload_n (pc := 15) C 0 rfl dX1_takeBack_15 ?_
  refine v_geti (pc := 16) C inX1 goX1 (ci := 0) rfl 1 (by decide) (wF_X1_18 G) rfl sh_17 1 rfl dX1_takeBack_16 (fun z16 ez16 rz16 => ?_)
  rw [setc_at, upr_ne _ _ (by omega)] at ez16
  refine v_aload_n (pc := 19) C 0 rfl dX1_takeBack_19 ?_
  refine v_geti (pc := 20) C inX1 goX1 (ci := 0) rfl 0 (by decide) (wF_X1_22 G) rfl sh_17 0 rfl dX1_takeBack_20 (fun z20 ez20 rz20 => ?_)
  have ez20 : z20 = a - 1 := ez20.trans (by rw [setc_at]; exact upr_at _ _ _)
  refine v_iadd (pc := 23) C dX1_takeBack_23 ?_
  refine v_bipush (pc := 24) C (by decide +kernel) dX1_takeBack_24 ?_
  refine v_irem (pc := 26) C (by first | omega | assumption) (by first | omega | assumption) dX1_takeBack_26 ?_
  refine v_aald (pc := 27) C sh_18 (by decide) (by first | omega | assumption) dX1_takeBack_27 ?_
  obtain ⟨N0, hN0⟩ : ∃ N0, N0 = nref 18 ((z16 + z20) % 14).toNat := ⟨_, rfl⟩
  rw [← hN0]
  have hNB : NetB N0 := by rw [hN0]; exact Or.inr (Or.inr (Or.inr (Or.inr (Or.inr ⟨(((z16 + z20) % 14).toNat), by omega, rfl⟩))))
  have hN19 : N0 = 19 + 13 * (((z16 + z20) % 14).toNat) := hN0
  have hRb : Rep (getN (setc σ 17 (upr (σ 17) 0 (a - 1))) N0) (blk d (268 * (a - 1))) := by
    rw [getN_setc _ _ (by omega), hN19, ez16, ez20]
    exact hM.2.2 (a - 1) (by omega) (by omega)
  refine v_cv (pc := 28) (as := [.ref (bs γ + N0)]) C (cy_X2_copyFrom G) (wM_X1_25 G) sh_4 (ci := 1) rfl rfl (k_X2_copyFrom G (Or.inl rfl : NetB 4) hNB (by omega)) dX1_takeBack_28 rfl rfl (by decide) (by decide) (Nat.le_of_ble_eq_true rfl) zc (k_V (fun s28 q28 => ?_))
  obtain ⟨α9, c0, c1, rfl⟩ := q28
  exact v_vret (pc := 31) C hr dX1_takeBack_31 ⟨rfl, α9, Rep_of_copy (n := 0) (m := N0) hRb hW (fun k hk => (if_pos hk : getN _ N0 k = _).symm) c0 c1, rfl⟩

set_option maxHeartbeats 4000000 in
set_option maxRecDepth 100000 in
theorem k_X1_forgetAll {γ : Gm} (G : Glo γ) {σ : St}  : Ct γ yX1_forgetAll cX1_forgetAll 1 none 1 [.ref (bs γ + 17)] σ (pV (fun σ2 => (∀ d, MemR σ2 0 d) ∧ ∀ c, c ≠ 17 → σ2 c = σ c)) := by
  refine Ct.of G (by decide +kernel) (Nat.le_of_ble_eq_true rfl) (fun φ C hr => ?_)
  have C : Cx γ φ RX1 cX1_forgetAll 1 1 := C
  refine v_lv [(0, .ref (bs γ + 17))] [0] rfl ?_
  refine v_aload_n (pc := 0) C 0 rfl dX1_forgetAll_0 ?_
  refine v_iconst (pc := 1) C dX1_forgetAll_1 ?_
  refine v_puti (pc := 2) C inX1 goX1 (ci := 0) rfl 0 (by decide) (wF_X1_22 G) rfl sh_17 tyX1 tyX1_ok nmX1 rfl rfl (fun _ => Nat.le_of_ble_eq_true rfl) (fun _ _ => ob_set_X1_0) (by first | omega | assumption) dX1_forgetAll_2 ?_
  refine v_aload_n (pc := 5) C 0 rfl dX1_forgetAll_5 ?_
  refine v_iconst (pc := 6) C dX1_forgetAll_6 ?_
  refine v_puti (pc := 7) C inX1 goX1 (ci := 0) rfl 1 (by decide) (wF_X1_18 G) rfl sh_17 tyX1 tyX1_ok nmX1 rfl rfl (fun _ => Nat.le_of_ble_eq_true rfl) (fun _ _ => ob_set_X1_1) (by first | omega | assumption) dX1_forgetAll_7 ?_
  rw [setc_at, setc_setc]
  exact v_vret (pc := 10) C hr dX1_forgetAll_10 ⟨rfl, fun d => MemR.zero d (by rw [setc_at]; rfl) (by rw [setc_at]; rfl), fun c hc => setc_ne _ _ hc⟩
