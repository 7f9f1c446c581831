def PoM (γ : Gm) (E : Nat → va_E) (E' : Nat → va_E) : Prop := FN γ E' 17 201 ∧ ∀ q, q < 17 → E' q = E q
set_option maxHeartbeats 4000000 in
set_option maxRecDepth 100000 in
theorem k_X1_init {γ : Gm} (G : Glo γ) {E : Nat → va_E} (ho : E 17 = .inr (0, [.int 0, .int 0, .null])) : Cn γ yX1_init cX1_init 2 2 183 3766 [.ref (bs γ + 17)] E (18) (PoM γ E) := by
  refine Cn.of G (by decide +kernel) (Nat.le_of_ble_eq_true rfl) (fun φ C hcr hname hr => ?_)
  have C : Cx γ φ RX1 cX1_init 2 2 := C
  have hi9 : φ.2.2.2.2.2.2.2.1.name = "<init>" := hname
  refine p_lv [(0, .ref (bs γ + 17))] [0] rfl ?_
  have loop : ∀ (k i : Nat), i + k = 14 → ∀ (E1 : Nat → va_E) (f1 : Nat → Option Nat), E1 17 = .inr (0, [.int 0, .int 0, .ref (bs γ + (18))]) → E1 18 = .inl (γ.2.2.2.2.1 4, 14, .inr (.inr (.inr (.inr f1)))) → (∀ j : Nat, j < i → f1 j = some (bs γ + nref 18 j)) → FN γ E1 19 (19 + 13 * i) → (∀ q, q < 17 → E1 q = E q) → Vp γ φ 2 (1 + 13 * i) (14 + 268 * i) (QP γ φ (18 + 183) 183 3766 (PoM γ E)) E1 (19 + 13 * i) 15 [(1, .int (iI (i : Int))), (0, .ref (bs γ + 17))] [] := by
    intro k
    induction k with
    | zero =>
      intro i hi E1 f1 ho h18 hz hF hK
      obtain rfl : i = 14 := by omega
      refine p_iload_n (pc := 15) C 0 rfl dX1_init_15 ?_
      refine p_bipush (pc := 16) C (by decide +kernel) dX1_init_16 ?_
      refine p_icmp_ge (pc := 18) C 40 (by omega) (by omega) dX1_init_18 (by decide) (fun _ => ?_) (fun h => absurd (by omega) h)
      refine p_m (m' := 18 + 183) rfl ?_
      refine p_vret (pc := 40) C ⟨by omega, by omega⟩ hr dX1_init_40 ⟨fun q q1 q2 => ?_, hK⟩
      rcases (show q = 17 ∨ q = 18 ∨ 19 ≤ q by omega) with rfl | rfl | q3
      · rw [ho]
        refine ft_o sh_17 ?_
        rw [σ0_z (by decide) (by rw [sh_17]; decide)]
        rfl
      · rw [h18]
        exact ft_q sh_18 hz
      · exact hF q q3 (by omega)
    | succ k ih =>
      intro i hi E1 f1 ho h18 hz hF hK
      refine p_iload_n (pc := 15) C 0 rfl dX1_init_15 ?_
      refine p_bipush (pc := 16) C (by decide +kernel) dX1_init_16 ?_
      refine p_icmp_ge (pc := 18) C 40 (by omega) (by omega) dX1_init_18 (by decide) (fun h => absurd h (by omega)) (fun _ => ?_)
      refine p_aload_n (pc := 21) C 1 rfl dX1_init_21 ?_
      refine p_getr (pc := 22) C inX1 goX1 (ci := 0) rfl 2 (by decide) (wF_X1_11 G) rfl (by omega) ho rfl dX1_init_22 ?_
      refine p_iload_n (pc := 25) C 0 rfl dX1_init_25 ?_
      refine p_new (pc := 26) C inX2 goX2 tyX2 tyX2_ok (ci := 1) rfl (wCl_X1_9 G) (wIn_X2 G) (wIz_X2 G) (fs := [.int 0, .int 0, .int 0, .int 0, .null, .null, .null, .null, .null, .null, .null, .null, .null, .null, .null, .null]) df_X2 ⟨by omega, by omega⟩ dX1_init_26 (fun E2 hE2 hO2 => ?_)
      have ho := (hO2 _ (by omega)).trans ho
      have h18 := (hO2 _ (by omega)).trans h18
      have hK : ∀ q, q < 17 → E2 q = E q := fun q hq => (hO2 q (by omega)).trans (hK q hq)
      have hF := hF.kept (E' := E2) (fun q a b => hO2 q (by omega))
      have n2 := hE2
      refine p_m (m' := 19 + 13 * i + 1) (by omega) ?_
      refine p_dup (pc := 29) C rfl dX1_init_29 ?_
      refine p_ciN (pc := 30) (c := 19 + 13 * i) (as := []) C (cy_X2_init G) rfl (wN_X1_17 G) (k_X2_init G (n := 19 + 13 * i) (Or.inr (Or.inr (Or.inr (Or.inr (Or.inr ⟨i, by omega, by omega⟩))))) n2) dX1_init_30 rfl rfl (by decide) (by decide) (Nat.le_of_ble_eq_true rfl) ⟨by omega, by omega⟩ (fun E3 hp3 => ?_)
      obtain ⟨hN3, hvs, hO3⟩ := hp3
      have ho := (hO3 _ (by omega)).trans ho
      have h18 := (hO3 _ (by omega)).trans h18
      have hK : ∀ q, q < 17 → E3 q = E q := fun q hq => (hO3 q (by omega)).trans (hK q hq)
      have hF := hF.kept (E' := E3) (fun q a b => hO3 q (by omega))
      refine p_m (m' := 19 + 13 * i + 13) (by omega) ?_
      obtain ⟨vs4, hv4⟩ := hvs
      refine p_aast (pc := 33) C (by omega) h18 (by omega) hv4 (by omega) (by decide) dX1_init_33 (fun E4 hE4 hO4 => ?_)
      have ho := (hO4 _ (by omega)).trans ho
      have hK : ∀ q, q < 17 → E4 q = E q := fun q hq => (hO4 q (by omega)).trans (hK q hq)
      have hF := hF.kept (E' := E4) (fun q a b => hO4 q (by omega))
      have hN3 := hN3.kept (E' := E4) (fun q a b => hO4 q (by omega))
      have h18 := hE4
      refine p_iinc (pc := 34) C 0 [(1, .int (iI ((i : Int) + 1))), (0, .ref (bs γ + 17))] dX1_init_34 rfl (by decide) rfl ?_
      refine p_goto (pc := 37) C 15 dX1_init_37 (by decide) ?_
      rw [show ((i : Int) + 1) = ((i + 1 : Nat) : Int) from by omega]
      refine p_m (m' := 19 + 13 * (i + 1)) (by omega) ?_
      refine p_wide (a' := 1 + 13 * (i + 1)) (b' := 14 + 268 * (i + 1)) (by omega) (by omega) ?_
      refine ih (i + 1) (by omega) _ _ ho h18 (fun j hj => ?_) (fun q q1 q2 => (hF.cat hN3) q q1 (by omega)) hK
      unfold va_up
      rw [Int.toNat_natCast]
      by_cases ji : j = i
      · subst ji
        rw [if_pos rfl]
        rfl
      · rw [if_neg ji]
        exact hz j (by omega)
  have hK : ∀ q, q < 17 → E q = E q := fun _ _ => rfl
  refine p_aload_n (pc := 0) C 0 rfl dX1_init_0 ?_
  refine p_obj (pc := 1) C (wM_X1_3 G) (wO_I G) (wO_C G) dX1_init_1 (Nat.le_of_ble_eq_true rfl) ?_
  refine p_aload_n (pc := 4) C 0 rfl dX1_init_4 ?_
  refine p_bipush (pc := 5) C (by decide +kernel) dX1_init_5 ?_
  refine p_anew (pc := 7) C (wCl_X1_9 G) (wAO_X2 G) (N := 14) (by decide) ⟨by omega, by omega⟩ dX1_init_7 (fun E2 hE2 hO2 => ?_)
  have ho := (hO2 _ (by omega)).trans ho
  have hK : ∀ q, q < 17 → E2 q = E q := fun q hq => (hO2 q (by omega)).trans (hK q hq)
  have h18 := hE2
  refine p_m (m' := 19) (by omega) ?_
  refine p_putF (pc := 10) C hi9 inX1 goX1 (ci := 0) rfl 2 (by decide) (wF_X1_11 G) rfl tyX1 tyX1_ok nmX1 rfl rfl rfl rfl (by omega) ho (Nat.le_of_ble_eq_true rfl) dX1_init_10 (fun E3 hE3 hO3 => ?_)
  have h18 := (hO3 _ (by omega)).trans h18
  have hK : ∀ q, q < 17 → E3 q = E q := fun q hq => (hO3 q (by omega)).trans (hK q hq)
  have ho : E3 17 = .inr (0, [.int 0, .int 0, .ref (bs γ + (18))]) := hE3
  refine p_iconst (pc := 13) C dX1_init_13 ?_
  refine p_istore_n (pc := 14) C [(1, .int (iI 0)), (0, .ref (bs γ + 17))] dX1_init_14 rfl (by decide) rfl ?_
  refine p_m (m' := 19 + 13 * 0) rfl ?_
  refine p_wide (a' := 1 + 13 * 0) (b' := 14 + 268 * 0) (by omega) (by omega) ?_
  exact loop 14 0 rfl _ _ ho h18 (fun j hj => absurd hj (by omega)) (fun q q1 q2 => absurd q2 (by omega)) hK
set_option maxHeartbeats 4000000 in
set_option maxRecDepth 100000 in
theorem k_X5_init {γ : Gm} (G : Glo γ) {E : Nat → va_E} (ho : E 0 = .inr (3, [.null, .null, .null, .null, .null, .null, .null])) : Cn γ yX5_init cX5_init 2 3 254 5243 [.ref (bs γ + 0)] E (1) (fun E' => FN γ E' 0 255) := by
  refine Cn.of G (by decide +kernel) (Nat.le_of_ble_eq_true rfl) (fun φ C hcr hname hr => ?_)
  have C : Cx γ φ RX5 cX5_init 2 3 := C
  have hi9 : φ.2.2.2.2.2.2.2.1.name = "<init>" := hname
  refine p_lv [(0, .ref (bs γ + 0))] [0] rfl ?_
  refine p_aload_n (pc := 0) C 0 rfl dX5_init_0 ?_
  refine p_obj (pc := 1) C (wM_X5_1 G) (wO_I G) (wO_C G) dX5_init_1 (Nat.le_of_ble_eq_true rfl) ?_
  refine p_aload_n (pc := 4) C 0 rfl dX5_init_4 ?_
  refine p_new (pc := 5) C inX4 goX4 tyX4 tyX4_ok (ci := 2) rfl (wCl_X5_7 G) (wIn_X4 G) (wIz_X4 G) (fs := [.null, .int 0, .int 0, .int 0, .null]) df_X4 ⟨by omega, by omega⟩ dX5_init_5 (fun E1 hE1 hO1 => ?_)
  have ho := (hO1 _ (by omega)).trans ho
  have n1 := hE1
  refine p_m (m' := 2) (by omega) ?_
  refine p_dup (pc := 8) C rfl dX5_init_8 ?_
  refine p_ciN (pc := 9) (c := 1) (as := []) C (cy_X4_init G) rfl (wN_X5_9 G) (k_X4_init G n1) dX5_init_9 rfl rfl (by decide) (by decide) (Nat.le_of_ble_eq_true rfl) ⟨by omega, by omega⟩ (fun E2 hp2 => ?_)
  obtain ⟨hN2, hO2⟩ := hp2
  have ho := (hO2 _ (by omega)).trans ho
  refine p_m (m' := 4) (by omega) ?_
  refine p_putF (pc := 12) C hi9 inX5 goX5 (ci := 3) rfl 0 (by decide) (wF_X5_10 G) rfl tyX5 tyX5_ok nmX5 rfl rfl rfl rfl (by omega) ho (Nat.le_of_ble_eq_true rfl) dX5_init_12 (fun E3 hE3 hO3 => ?_)
  have hN2 := hN2.kept (E' := E3) (fun q a b => hO3 q (by omega))
  have ho : E3 0 = .inr (3, [.ref (bs γ + (1)), .null, .null, .null, .null, .null, .null]) := hE3
  refine p_aload_n (pc := 15) C 0 rfl dX5_init_15 ?_
  refine p_new (pc := 16) C inX2 goX2 tyX2 tyX2_ok (ci := 1) rfl (wCl_X5_16 G) (wIn_X2 G) (wIz_X2 G) (fs := [.int 0, .int 0, .int 0, .int 0, .null, .null, .null, .null, .null, .null, .null, .null, .null, .null, .null, .null]) df_X2 ⟨by omega, by omega⟩ dX5_init_16 (fun E4 hE4 hO4 => ?_)
  have ho := (hO4 _ (by omega)).trans ho
  have hN2 := hN2.kept (E' := E4) (fun q a b => hO4 q (by omega))
  have n4 := hE4
  refine p_m (m' := 5) (by omega) ?_
  refine p_dup (pc := 19) C rfl dX5_init_19 ?_
  refine p_ciN (pc := 20) (c := 4) (as := []) C (cy_X2_init G) rfl (wN_X5_18 G) (k_X2_init G (n := 4) (Or.inl rfl) n4) dX5_init_20 rfl rfl (by decide) (by decide) (Nat.le_of_ble_eq_true rfl) ⟨by omega, by omega⟩ (fun E5 hp5 => ?_)
  obtain ⟨hN5, hvs, hO5⟩ := hp5
  have ho := (hO5 _ (by omega)).trans ho
  have hN2 := hN2.kept (E' := E5) (fun q a b => hO5 q (by omega))
  refine p_m (m' := 17) (by omega) ?_
  refine p_putF (pc := 23) C hi9 inX5 goX5 (ci := 3) rfl 1 (by decide) (wF_X5_19 G) rfl tyX5 tyX5_ok nmX5 rfl rfl rfl rfl (by omega) ho (Nat.le_of_ble_eq_true rfl) dX5_init_23 (fun E6 hE6 hO6 => ?_)
  have hN2 := hN2.kept (E' := E6) (fun q a b => hO6 q (by omega))
  have hN5 := hN5.kept (E' := E6) (fun q a b => hO6 q (by omega))
  have ho : E6 0 = .inr (3, [.ref (bs γ + (1)), .ref (bs γ + (4)), .null, .null, .null, .null, .null]) := hE6
  refine p_aload_n (pc := 26) C 0 rfl dX5_init_26 ?_
  refine p_new (pc := 27) C inX1 goX1 tyX1 tyX1_ok (ci := 0) rfl (wCl_X5_23 G) (wIn_X1 G) (wIz_X1 G) (fs := [.int 0, .int 0, .null]) df_X1 ⟨by omega, by omega⟩ dX5_init_27 (fun E7 hE7 hO7 => ?_)
  have ho := (hO7 _ (by omega)).trans ho
  have hN2 := hN2.kept (E' := E7) (fun q a b => hO7 q (by omega))
  have hN5 := hN5.kept (E' := E7) (fun q a b => hO7 q (by omega))
  have n7 := hE7
  refine p_m (m' := 18) (by omega) ?_
  refine p_dup (pc := 30) C rfl dX5_init_30 ?_
  refine p_ci (pc := 31) (c := 17) (as := []) C (cy_X1_init G) rfl (wM_X5_25 G) (k_X1_init G n7) dX5_init_31 rfl rfl (by decide) (by decide) (Nat.le_of_ble_eq_true rfl) ⟨by omega, by omega⟩ (fun E8 hp8 => ?_)
  obtain ⟨hN8, hO8⟩ := hp8
  have ho := (hO8 _ (by omega)).trans ho
  have hN2 := hN2.kept (E' := E8) (fun q a b => hO8 q (by omega))
  have hN5 := hN5.kept (E' := E8) (fun q a b => hO8 q (by omega))
  refine p_m (m' := 201) (by omega) ?_
  refine p_putF (pc := 34) C hi9 inX5 goX5 (ci := 3) rfl 2 (by decide) (wF_X5_26 G) rfl tyX5 tyX5_ok nmX5 rfl rfl rfl rfl (by omega) ho (Nat.le_of_ble_eq_true rfl) dX5_init_34 (fun E9 hE9 hO9 => ?_)
  have hN2 := hN2.kept (E' := E9) (fun q a b => hO9 q (by omega))
  have hN5 := hN5.kept (E' := E9) (fun q a b => hO9 q (by omega))
  have hN8 := hN8.kept (E' := E9) (fun q a b => hO9 q (by omega))
  have ho : E9 0 = .inr (3, [.ref (bs γ + (1)), .ref (bs γ + (4)), .ref (bs γ + (17)), .null, .null, .null, .null]) := hE9
  refine p_aload_n (pc := 37) C 0 rfl dX5_init_37 ?_
  refine p_iconst (pc := 38) C dX5_init_38 ?_
  refine p_anew (pc := 39) C (wCl_X5_16 G) (wAO_X2 G) (N := 2) (by decide) ⟨by omega, by omega⟩ dX5_init_39 (fun E10 hE10 hO10 => ?_)
  have ho := (hO10 _ (by omega)).trans ho
  have hN2 := hN2.kept (E' := E10) (fun q a b => hO10 q (by omega))
  have hN5 := hN5.kept (E' := E10) (fun q a b => hO10 q (by omega))
  have hN8 := hN8.kept (E' := E10) (fun q a b => hO10 q (by omega))
  have h201 := hE10
  refine p_m (m' := 202) (by omega) ?_
  refine p_putF (pc := 42) C hi9 inX5 goX5 (ci := 3) rfl 3 (by decide) (wF_X5_30 G) rfl tyX5 tyX5_ok nmX5 rfl rfl rfl rfl (by omega) ho (Nat.le_of_ble_eq_true rfl) dX5_init_42 (fun E11 hE11 hO11 => ?_)
  have h201 := (hO11 _ (by omega)).trans h201
  have hN2 := hN2.kept (E' := E11) (fun q a b => hO11 q (by omega))
  have hN5 := hN5.kept (E' := E11) (fun q a b => hO11 q (by omega))
  have hN8 := hN8.kept (E' := E11) (fun q a b => hO11 q (by omega))
  have ho : E11 0 = .inr (3, [.ref (bs γ + (1)), .ref (bs γ + (4)), .ref (bs γ + (17)), .ref (bs γ + (201)), .null, .null, .null]) := hE11
  refine p_aload_n (pc := 45) C 0 rfl dX5_init_45 ?_
  refine p_iconst (pc := 46) C dX5_init_46 ?_
  refine p_newa (pc := 47) C (ty := .boolean) rfl (wAC_boolean G) 2 rfl (fun _ _ h => h) (N := 2) (a0 := (2, .inl (fun _ => 0))) (fun _ => rfl) (by decide) (by decide) ⟨by omega, by omega⟩ dX5_init_47 (fun E12 hE12 hO12 => ?_)
  have ho := (hO12 _ (by omega)).trans ho
  have h201 := (hO12 _ (by omega)).trans h201
  have hN2 := hN2.kept (E' := E12) (fun q a b => hO12 q (by omega))
  have hN5 := hN5.kept (E' := E12) (fun q a b => hO12 q (by omega))
  have hN8 := hN8.kept (E' := E12) (fun q a b => hO12 q (by omega))
  have h202 := hE12
  refine p_m (m' := 203) (by omega) ?_
  refine p_putF (pc := 49) C hi9 inX5 goX5 (ci := 3) rfl 4 (by decide) (wF_X5_34 G) rfl tyX5 tyX5_ok nmX5 rfl rfl rfl rfl (by omega) ho (Nat.le_of_ble_eq_true rfl) dX5_init_49 (fun E13 hE13 hO13 => ?_)
  have h201 := (hO13 _ (by omega)).trans h201
  have h202 := (hO13 _ (by omega)).trans h202
  have hN2 := hN2.kept (E' := E13) (fun q a b => hO13 q (by omega))
  have hN5 := hN5.kept (E' := E13) (fun q a b => hO13 q (by omega))
  have hN8 := hN8.kept (E' := E13) (fun q a b => hO13 q (by omega))
  have ho : E13 0 = .inr (3, [.ref (bs γ + (1)), .ref (bs γ + (4)), .ref (bs γ + (17)), .ref (bs γ + (201)), .ref (bs γ + (202)), .null, .null]) := hE13
  refine p_aload_n (pc := 52) C 0 rfl dX5_init_52 ?_
  refine p_new (pc := 53) C inX2 goX2 tyX2 tyX2_ok (ci := 1) rfl (wCl_X5_16 G) (wIn_X2 G) (wIz_X2 G) (fs := [.int 0, .int 0, .int 0, .int 0, .null, .null, .null, .null, .null, .null, .null, .null, .null, .null, .null, .null]) df_X2 ⟨by omega, by omega⟩ dX5_init_53 (fun E14 hE14 hO14 => ?_)
  have ho := (hO14 _ (by omega)).trans ho
  have h201 := (hO14 _ (by omega)).trans h201
  have h202 := (hO14 _ (by omega)).trans h202
  have hN2 := hN2.kept (E' := E14) (fun q a b => hO14 q (by omega))
  have hN5 := hN5.kept (E' := E14) (fun q a b => hO14 q (by omega))
  have hN8 := hN8.kept (E' := E14) (fun q a b => hO14 q (by omega))
  have n14 := hE14
  refine p_m (m' := 204) (by omega) ?_
  refine p_dup (pc := 56) C rfl dX5_init_56 ?_
  refine p_ciN (pc := 57) (c := 203) (as := []) C (cy_X2_init G) rfl (wN_X5_18 G) (k_X2_init G (n := 203) (Or.inr (Or.inl rfl)) n14) dX5_init_57 rfl rfl (by decide) (by decide) (Nat.le_of_ble_eq_true rfl) ⟨by omega, by omega⟩ (fun E15 hp15 => ?_)
  obtain ⟨hN15, hvs, hO15⟩ := hp15
  have ho := (hO15 _ (by omega)).trans ho
  have h201 := (hO15 _ (by omega)).trans h201
  have h202 := (hO15 _ (by omega)).trans h202
  have hN2 := hN2.kept (E' := E15) (fun q a b => hO15 q (by omega))
  have hN5 := hN5.kept (E' := E15) (fun q a b => hO15 q (by omega))
  have hN8 := hN8.kept (E' := E15) (fun q a b => hO15 q (by omega))
  refine p_m (m' := 216) (by omega) ?_
  refine p_putF (pc := 60) C hi9 inX5 goX5 (ci := 3) rfl 5 (by decide) (wF_X5_38 G) rfl tyX5 tyX5_ok nmX5 rfl rfl rfl rfl (by omega) ho (Nat.le_of_ble_eq_true rfl) dX5_init_60 (fun E16 hE16 hO16 => ?_)
  have h201 := (hO16 _ (by omega)).trans h201
  have h202 := (hO16 _ (by omega)).trans h202
  have hN2 := hN2.kept (E' := E16) (fun q a b => hO16 q (by omega))
  have hN5 := hN5.kept (E' := E16) (fun q a b => hO16 q (by omega))
  have hN8 := hN8.kept (E' := E16) (fun q a b => hO16 q (by omega))
  have hN15 := hN15.kept (E' := E16) (fun q a b => hO16 q (by omega))
  have ho : E16 0 = .inr (3, [.ref (bs γ + (1)), .ref (bs γ + (4)), .ref (bs γ + (17)), .ref (bs γ + (201)), .ref (bs γ + (202)), .ref (bs γ + (203)), .null]) := hE16
  refine p_aload_n (pc := 63) C 0 rfl dX5_init_63 ?_
  refine p_new (pc := 64) C inX2 goX2 tyX2 tyX2_ok (ci := 1) rfl (wCl_X5_16 G) (wIn_X2 G) (wIz_X2 G) (fs := [.int 0, .int 0, .int 0, .int 0, .null, .null, .null, .null, .null, .null, .null, .null, .null, .null, .null, .null]) df_X2 ⟨by omega, by omega⟩ dX5_init_64 (fun E17 hE17 hO17 => ?_)
  have ho := (hO17 _ (by omega)).trans ho
  have h201 := (hO17 _ (by omega)).trans h201
  have h202 := (hO17 _ (by omega)).trans h202
  have hN2 := hN2.kept (E' := E17) (fun q a b => hO17 q (by omega))
  have hN5 := hN5.kept (E' := E17) (fun q a b => hO17 q (by omega))
  have hN8 := hN8.kept (E' := E17) (fun q a b => hO17 q (by omega))
  have hN15 := hN15.kept (E' := E17) (fun q a b => hO17 q (by omega))
  have n17 := hE17
  refine p_m (m' := 217) (by omega) ?_
  refine p_dup (pc := 67) C rfl dX5_init_67 ?_
  refine p_ciN (pc := 68) (c := 216) (as := []) C (cy_X2_init G) rfl (wN_X5_18 G) (k_X2_init G (n := 216) (Or.inr (Or.inr (Or.inl rfl))) n17) dX5_init_68 rfl rfl (by decide) (by decide) (Nat.le_of_ble_eq_true rfl) ⟨by omega, by omega⟩ (fun E18 hp18 => ?_)
  obtain ⟨hN18, hvs, hO18⟩ := hp18
  have ho := (hO18 _ (by omega)).trans ho
  have h201 := (hO18 _ (by omega)).trans h201
  have h202 := (hO18 _ (by omega)).trans h202
  have hN2 := hN2.kept (E' := E18) (fun q a b => hO18 q (by omega))
  have hN5 := hN5.kept (E' := E18) (fun q a b => hO18 q (by omega))
  have hN8 := hN8.kept (E' := E18) (fun q a b => hO18 q (by omega))
  have hN15 := hN15.kept (E' := E18) (fun q a b => hO18 q (by omega))
  refine p_m (m' := 229) (by omega) ?_
  refine p_putF (pc := 71) C hi9 inX5 goX5 (ci := 3) rfl 6 (by decide) (wF_X5_41 G) rfl tyX5 tyX5_ok nmX5 rfl rfl rfl rfl (by omega) ho (Nat.le_of_ble_eq_true rfl) dX5_init_71 (fun E19 hE19 hO19 => ?_)
  have h201 := (hO19 _ (by omega)).trans h201
  have h202 := (hO19 _ (by omega)).trans h202
  have hN2 := hN2.kept (E' := E19) (fun q a b => hO19 q (by omega))
  have hN5 := hN5.kept (E' := E19) (fun q a b => hO19 q (by omega))
  have hN8 := hN8.kept (E' := E19) (fun q a b => hO19 q (by omega))
  have hN15 := hN15.kept (E' := E19) (fun q a b => hO19 q (by omega))
  have hN18 := hN18.kept (E' := E19) (fun q a b => hO19 q (by omega))
  have ho : E19 0 = .inr (3, [.ref (bs γ + (1)), .ref (bs γ + (4)), .ref (bs γ + (17)), .ref (bs γ + (201)), .ref (bs γ + (202)), .ref (bs γ + (203)), .ref (bs γ + (216))]) := hE19
  refine p_iconst (pc := 74) C dX5_init_74 ?_
  refine p_istore_n (pc := 75) C [(1, .int (iI 0)), (0, .ref (bs γ + 0))] dX5_init_75 rfl (by decide) rfl ?_
  refine p_iload_n (pc := 76) C 0 rfl dX5_init_76 ?_
  refine p_iconst (pc := 77) C dX5_init_77 ?_
  refine p_icmp_ge (pc := 78) C 100 (by decide) (by decide) dX5_init_78 (by decide) (fun h => absurd h (by decide)) (fun _ => ?_)
  refine p_aload_n (pc := 81) C 1 rfl dX5_init_81 ?_
  refine p_getr (pc := 82) C inX5 goX5 (ci := 3) rfl 3 (by decide) (wF_X5_30 G) rfl (by omega) ho rfl dX5_init_82 ?_
  refine p_iload_n (pc := 85) C 0 rfl dX5_init_85 ?_
  refine p_new (pc := 86) C inX2 goX2 tyX2 tyX2_ok (ci := 1) rfl (wCl_X5_16 G) (wIn_X2 G) (wIz_X2 G) (fs := [.int 0, .int 0, .int 0, .int 0, .null, .null, .null, .null, .null, .null, .null, .null, .null, .null, .null, .null]) df_X2 ⟨by omega, by omega⟩ dX5_init_86 (fun E20 hE20 hO20 => ?_)
  have ho := (hO20 _ (by omega)).trans ho
  have h201 := (hO20 _ (by omega)).trans h201
  have h202 := (hO20 _ (by omega)).trans h202
  have hN2 := hN2.kept (E' := E20) (fun q a b => hO20 q (by omega))
  have hN5 := hN5.kept (E' := E20) (fun q a b => hO20 q (by omega))
  have hN8 := hN8.kept (E' := E20) (fun q a b => hO20 q (by omega))
  have hN15 := hN15.kept (E' := E20) (fun q a b => hO20 q (by omega))
  have hN18 := hN18.kept (E' := E20) (fun q a b => hO20 q (by omega))
  have n20 := hE20
  refine p_m (m' := 230) (by omega) ?_
  refine p_dup (pc := 89) C rfl dX5_init_89 ?_
  refine p_ciN (pc := 90) (c := 229) (as := []) C (cy_X2_init G) rfl (wN_X5_18 G) (k_X2_init G (n := 229) (Or.inr (Or.inr (Or.inr (Or.inl rfl)))) n20) dX5_init_90 rfl rfl (by decide) (by decide) (Nat.le_of_ble_eq_true rfl) ⟨by omega, by omega⟩ (fun E21 hp21 => ?_)
  obtain ⟨hN21, hvs, hO21⟩ := hp21
  have ho := (hO21 _ (by omega)).trans ho
  have h201 := (hO21 _ (by omega)).trans h201
  have h202 := (hO21 _ (by omega)).trans h202
  have hN2 := hN2.kept (E' := E21) (fun q a b => hO21 q (by omega))
  have hN5 := hN5.kept (E' := E21) (fun q a b => hO21 q (by omega))
  have hN8 := hN8.kept (E' := E21) (fun q a b => hO21 q (by omega))
  have hN15 := hN15.kept (E' := E21) (fun q a b => hO21 q (by omega))
  have hN18 := hN18.kept (E' := E21) (fun q a b => hO21 q (by omega))
  refine p_m (m' := 242) (by omega) ?_
  obtain ⟨vs22, hv22⟩ := hvs
  refine p_aast (pc := 93) C (by omega) h201 (by omega) hv22 (by omega) (by decide) dX5_init_93 (fun E22 hE22 hO22 => ?_)
  have ho := (hO22 _ (by omega)).trans ho
  have h202 := (hO22 _ (by omega)).trans h202
  have hN2 := hN2.kept (E' := E22) (fun q a b => hO22 q (by omega))
  have hN5 := hN5.kept (E' := E22) (fun q a b => hO22 q (by omega))
  have hN8 := hN8.kept (E' := E22) (fun q a b => hO22 q (by omega))
  have hN15 := hN15.kept (E' := E22) (fun q a b => hO22 q (by omega))
  have hN18 := hN18.kept (E' := E22) (fun q a b => hO22 q (by omega))
  have hN21 := hN21.kept (E' := E22) (fun q a b => hO22 q (by omega))
  have h201 := hE22
  refine p_iinc (pc := 94) C 0 [(1, .int (iI 1)), (0, .ref (bs γ + 0))] dX5_init_94 rfl (by decide) rfl ?_
  refine p_goto (pc := 97) C 76 dX5_init_97 (by decide) ?_
  refine p_iload_n (pc := 76) C 0 rfl dX5_init_76 ?_
  refine p_iconst (pc := 77) C dX5_init_77 ?_
  refine p_icmp_ge (pc := 78) C 100 (by decide) (by decide) dX5_init_78 (by decide) (fun h => absurd h (by decide)) (fun _ => ?_)
  refine p_aload_n (pc := 81) C 1 rfl dX5_init_81 ?_
  refine p_getr (pc := 82) C inX5 goX5 (ci := 3) rfl 3 (by decide) (wF_X5_30 G) rfl (by omega) ho rfl dX5_init_82 ?_
  refine p_iload_n (pc := 85) C 0 rfl dX5_init_85 ?_
  refine p_new (pc := 86) C inX2 goX2 tyX2 tyX2_ok (ci := 1) rfl (wCl_X5_16 G) (wIn_X2 G) (wIz_X2 G) (fs := [.int 0, .int 0, .int 0, .int 0, .null, .null, .null, .null, .null, .null, .null, .null, .null, .null, .null, .null]) df_X2 ⟨by omega, by omega⟩ dX5_init_86 (fun E23 hE23 hO23 => ?_)
  have ho := (hO23 _ (by omega)).trans ho
  have h201 := (hO23 _ (by omega)).trans h201
  have h202 := (hO23 _ (by omega)).trans h202
  have hN2 := hN2.kept (E' := E23) (fun q a b => hO23 q (by omega))
  have hN5 := hN5.kept (E' := E23) (fun q a b => hO23 q (by omega))
  have hN8 := hN8.kept (E' := E23) (fun q a b => hO23 q (by omega))
  have hN15 := hN15.kept (E' := E23) (fun q a b => hO23 q (by omega))
  have hN18 := hN18.kept (E' := E23) (fun q a b => hO23 q (by omega))
  have hN21 := hN21.kept (E' := E23) (fun q a b => hO23 q (by omega))
  have n23 := hE23
  refine p_m (m' := 243) (by omega) ?_
  refine p_dup (pc := 89) C rfl dX5_init_89 ?_
  refine p_ciN (pc := 90) (c := 242) (as := []) C (cy_X2_init G) rfl (wN_X5_18 G) (k_X2_init G (n := 242) (Or.inr (Or.inr (Or.inr (Or.inr (Or.inl rfl))))) n23) dX5_init_90 rfl rfl (by decide) (by decide) (Nat.le_of_ble_eq_true rfl) ⟨by omega, by omega⟩ (fun E24 hp24 => ?_)
  obtain ⟨hN24, hvs, hO24⟩ := hp24
  have ho := (hO24 _ (by omega)).trans ho
  have h201 := (hO24 _ (by omega)).trans h201
  have h202 := (hO24 _ (by omega)).trans h202
  have hN2 := hN2.kept (E' := E24) (fun q a b => hO24 q (by omega))
  have hN5 := hN5.kept (E' := E24) (fun q a b => hO24 q (by omega))
  have hN8 := hN8.kept (E' := E24) (fun q a b => hO24 q (by omega))
  have hN15 := hN15.kept (E' := E24) (fun q a b => hO24 q (by omega))
  have hN18 := hN18.kept (E' := E24) (fun q a b => hO24 q (by omega))
  have hN21 := hN21.kept (E' := E24) (fun q a b => hO24 q (by omega))
  refine p_m (m' := 255) (by omega) ?_
  obtain ⟨vs25, hv25⟩ := hvs
  refine p_aast (pc := 93) C (by omega) h201 (by omega) hv25 (by omega) (by decide) dX5_init_93 (fun E25 hE25 hO25 => ?_)
  have ho := (hO25 _ (by omega)).trans ho
  have h202 := (hO25 _ (by omega)).trans h202
  have hN2 := hN2.kept (E' := E25) (fun q a b => hO25 q (by omega))
  have hN5 := hN5.kept (E' := E25) (fun q a b => hO25 q (by omega))
  have hN8 := hN8.kept (E' := E25) (fun q a b => hO25 q (by omega))
  have hN15 := hN15.kept (E' := E25) (fun q a b => hO25 q (by omega))
  have hN18 := hN18.kept (E' := E25) (fun q a b => hO25 q (by omega))
  have hN21 := hN21.kept (E' := E25) (fun q a b => hO25 q (by omega))
  have hN24 := hN24.kept (E' := E25) (fun q a b => hO25 q (by omega))
  have h201 := hE25
  refine p_iinc (pc := 94) C 0 [(1, .int (iI 2)), (0, .ref (bs γ + 0))] dX5_init_94 rfl (by decide) rfl ?_
  refine p_goto (pc := 97) C 76 dX5_init_97 (by decide) ?_
  refine p_iload_n (pc := 76) C 0 rfl dX5_init_76 ?_
  refine p_iconst (pc := 77) C dX5_init_77 ?_
  refine p_icmp_ge (pc := 78) C 100 (by decide) (by decide) dX5_init_78 (by decide) (fun _ => ?_) (fun h => absurd (by decide) h)
  refine p_vret (pc := 100) C ⟨by omega, by omega⟩ hr dX5_init_100 ?_
  have q1 : FN γ E25 0 1 := FN.one (q := 0) (by
    rw [ho]
    refine ft_o sh_0 ?_
    rw [σ0_z (by decide) (by rw [sh_0]; decide)]
    rfl)
  have q2 : FN γ E25 201 202 := FN.one (q := 201) (by
    rw [h201]
    refine ft_q sh_201 (fun j hj => ?_)
    rcases (show j = 0 ∨ j = 1 by omega) with rfl | rfl <;> rfl)
  have q3 : FN γ E25 202 203 := FN.one (q := 202) (by
    rw [h202]
    refine ft_b sh_202 (fun j hj => ?_)
    rw [σ0_z (by decide) (by rw [sh_202]; decide)]
    rfl)
  exact ((((((((q1.cat hN2).cat hN5).cat hN8).cat q2).cat q3).cat hN15).cat hN18).cat hN21).cat hN24
