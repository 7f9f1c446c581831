set_option maxHeartbeats 4000000 in
set_option maxRecDepth 100000 in
theorem k_X6_copyState {γ : Gm} (G : Glo γ) {σ : St} {c0 c1 n0 n1 : Nat} {fa ta : Int} (hs0 : sh c0 = (0, n0) ∧ n0 ≤ 4000) (hs1 : sh c1 = (0, n1) ∧ n1 ≤ 4000) (hne : c0 ≠ c1) (h0 : 0 ≤ fa ∧ fa + 268 ≤ n0) (h1 : 0 ≤ ta ∧ ta + 268 ≤ n1) : Ct γ yX6_copyState cX6_copyState 5 none 1 [.ref (bs γ + c0), .int (iI fa), .ref (bs γ + c1), .int (iI ta)] σ (pV (fun σ2 => σ2 = setc σ c1 (cpyr (σ c0) (σ c1) fa ta 268))) := by
  refine Ct.of G (by decide +kernel) (Nat.le_of_ble_eq_true rfl) (fun φ C hr => ?_)
  have C : Cx γ φ RX6 cX6_copyState 5 1 := C
  have hrow : ∀ k : Nat, upr (cpyr (σ c0) (σ c1) fa ta (k : Int)) (ta + (k : Int)) (σ c0 (fa + (k : Int))) = cpyr (σ c0) (σ c1) fa ta ((k : Int) + 1) := by
    intro k; funext i; unfold upr cpyr
    by_cases e1 : i = ta + (k : Int)
    · rw [if_pos e1, if_pos (by omega), show fa + (i - ta) = fa + (k : Int) by omega]
    · rw [if_neg e1]
      by_cases e2 : ta ≤ i ∧ i < ta + (k : Int)
      · rw [if_pos e2, if_pos (by omega)]
      · rw [if_neg e2, if_neg (by omega)]
  refine v_lv [(0, .ref (bs γ + c0)), (1, .int (iI fa)), (2, .ref (bs γ + c1)), (3, .int (iI ta))] [0, 1, 2, 3] rfl ?_
  refine v_iconst (pc := 0) C dX6_copyState_0 ?_
  refine v_istore (pc := 1) C [(4, .int (iI 0)), (0, .ref (bs γ + c0)), (1, .int (iI fa)), (2, .ref (bs γ + c1)), (3, .int (iI ta))] dX6_copyState_1 (by decide) rfl ?_
  have L3 : ∀ (fu : Nat) (i : Nat), (hi : i ≤ 268) → 268 - i < fu → Vw γ φ 5 0 0 (QE γ φ (pV (fun σ2 => σ2 = setc σ c1 (cpyr (σ c0) (σ c1) fa ta 268)))) (setc σ c1 (cpyr (σ c0) (σ c1) fa ta (i : Int))) 3 [(4, .int (iI (i : Int))), (3, .int (iI ta)), (2, .ref (bs γ + c1)), (1, .int (iI fa)), (0, .ref (bs γ + c0))] [] := by
    intro fu
    induction fu with
    | zero => intro i hi hz; exact absurd hz (Nat.not_lt_zero _)
    | succ fu ih =>
      intro i hi hz
      refine v_iload (pc := 3) C 0 rfl dX6_copyState_3 ?_
      refine v_sipush (pc := 5) C (by decide +kernel) dX6_copyState_5 ?_
      refine v_icmp_ge (pc := 8) C 29 (by omega) (by omega) dX6_copyState_8 (by decide) (fun h8 => ?_) (fun h8 => ?_)
      · exact v_vret (pc := 29) C hr dX6_copyState_29 ⟨rfl, by rw [show (i : Int) = 268 by omega]⟩
      · refine v_aload_n (pc := 11) C 2 rfl dX6_copyState_11 ?_
        refine v_iload_n (pc := 12) C 1 rfl dX6_copyState_12 ?_
        refine v_iload (pc := 13) C 0 rfl dX6_copyState_13 ?_
        refine v_iadd (pc := 15) C dX6_copyState_15 ?_
        refine v_aload_n (pc := 16) C 4 rfl dX6_copyState_16 ?_
        refine v_iload_n (pc := 17) C 3 rfl dX6_copyState_17 ?_
        refine v_iload (pc := 18) C 0 rfl dX6_copyState_18 ?_
        refine v_iadd (pc := 20) C dX6_copyState_20 ?_
        refine v_iald (pc := 21) C hs0.1 (hs0.2) (by omega) dX6_copyState_21 (fun z21 ez21 rz21 => ?_)
        rw [setc_ne _ _ hne] at ez21
        refine v_iastR (pc := 22) C hs1 (by omega) (by omega) dX6_copyState_22 ?_
        refine v_iinc (pc := 23) C 0 [(4, .int (iI ((i : Int) + 1))), (3, .int (iI ta)), (2, .ref (bs γ + c1)), (1, .int (iI fa)), (0, .ref (bs γ + c0))] dX6_copyState_23 rfl (by decide) rfl ?_
        refine v_goto (pc := 26) C 3 dX6_copyState_26 (by decide) ?_
        refine v_st (show _ = setc σ c1 (cpyr (σ c0) (σ c1) fa ta ((i + 1 : Nat) : Int)) from by rw [ez21, hrow i]; rfl) ?_
        exact v_lv _ [0, 1, 2, 3, 4] rfl (ih (i + 1) (by omega) (by omega))
  refine v_st (show _ = setc σ c1 (cpyr (σ c0) (σ c1) fa ta ((0 : Nat) : Int)) from by rw [show cpyr (σ c0) (σ c1) fa ta ((0 : Nat) : Int) = σ c1 from funext (fun i => if_neg (by omega)), setc_eta]) ?_
  exact v_lv _ [0, 4, 3, 2, 1] rfl (L3 269 0 (by omega) (by omega))

theorem copyR {γ : Gm} (G : Glo γ) {σ : St} {c0 c1 n0 : Nat} {fa : Int} (hs0 : sh c0 = (0, n0) ∧ n0 ≤ 4000) (hs1 : sh c1 = (0, 268) ∧ 268 ≤ 4000) (hne : c0 ≠ c1) (h0 : 0 ≤ fa ∧ fa + 268 ≤ n0) (hz : Ok σ) : Ct γ yX6_copyState cX6_copyState 5 none 1 [.ref (bs γ + c0), .int (iI fa), .ref (bs γ + c1), .int (iI 0)] σ (pV (fun σ2 => σ2 = setc σ c1 (blk (σ c0) fa))) := by
  refine (k_X6_copyState G (σ := σ) hs0 hs1 hne h0 (ta := 0) (by omega)).weak ?_
  rintro v σ' ⟨rfl, rfl⟩
  refine ⟨rfl, ?_⟩
  congr 1
  funext k
  unfold cpyr blk
  by_cases hk : 0 ≤ k ∧ k < 268
  · rw [if_pos hk, if_pos (by omega), show fa + (k - 0) = fa + k by omega]
  · rw [if_neg hk, if_neg (by omega)]
    exact hz.2 c1 k (by rw [hs1.1]; decide) (by rw [hs1.1]; show k < 0 ∨ (268 : Int) ≤ k; omega)
theorem blk0 {σ : St} (hz : Ok σ) {c0 : Nat} (hs0 : sh c0 = (0, 268)) : blk (σ c0) 0 = σ c0 := by
  funext k
  unfold blk
  by_cases hk : 0 ≤ k ∧ k < 268
  · rw [if_pos hk, show 0 + k = k by omega]
  · rw [if_neg hk]
    exact (hz.2 c0 k (by rw [hs0]; decide) (by rw [hs0]; show k < 0 ∨ (268 : Int) ≤ k; omega)).symm

set_option maxHeartbeats 4000000 in
set_option maxRecDepth 100000 in
theorem k_X6_clear {γ : Gm} (G : Glo γ) {σ : St} {c : Nat} (hc : sh c = (0, 268) ∧ 268 ≤ 4000) : Ct γ yX6_clear cX6_clear 2 none 1 [.ref (bs γ + c)] σ (pV (fun σ2 => σ2 = setc σ c (upr (upr (clr (σ c) 0 268) 4 2) 5 30))) := by
  refine Ct.of G (by decide +kernel) (Nat.le_of_ble_eq_true rfl) (fun φ C hr => ?_)
  have C : Cx γ φ RX6 cX6_clear 2 1 := C
  refine v_lv [(0, .ref (bs γ + c))] [0] rfl ?_
  refine v_iconst (pc := 0) C dX6_clear_0 ?_
  refine v_istore_n (pc := 1) C [(1, .int (iI 0)), (0, .ref (bs γ + c))] dX6_clear_1 rfl (by decide) rfl ?_
  have L2 : ∀ (fu : Nat) (i : Nat), (hi : i ≤ 268) → 268 - i < fu → Vw γ φ 2 0 0 (QE γ φ (pV (fun σ2 => σ2 = setc σ c (upr (upr (clr (σ c) 0 268) 4 2) 5 30)))) (setc σ c (clr (σ c) 0 i)) 2 [(1, .int (iI (i : Int))), (0, .ref (bs γ + c))] [] := by
    intro fu
    induction fu with
    | zero => intro i hi hz; exact absurd hz (Nat.not_lt_zero _)
    | succ fu ih =>
      intro i hi hz
      refine v_iload_n (pc := 2) C 0 rfl dX6_clear_2 ?_
      refine v_sipush (pc := 3) C (by decide +kernel) dX6_clear_3 ?_
      refine v_icmp_ge (pc := 6) C 19 (by omega) (by omega) dX6_clear_6 (by decide) (fun h6 => ?_) (fun h6 => ?_)
      · refine v_aload_n (pc := 19) C 1 rfl dX6_clear_19 ?_
        refine v_iconst (pc := 20) C dX6_clear_20 ?_
        refine v_iconst (pc := 21) C dX6_clear_21 ?_
        refine v_iastR (pc := 22) C hc (by omega) (by omega) dX6_clear_22 ?_
        refine v_aload_n (pc := 23) C 1 rfl dX6_clear_23 ?_
        refine v_iconst (pc := 24) C dX6_clear_24 ?_
        refine v_bipush (pc := 25) C (by decide +kernel) dX6_clear_25 ?_
        refine v_iastR (pc := 27) C hc (by omega) (by omega) dX6_clear_27 ?_
        exact v_vret (pc := 28) C hr dX6_clear_28 ⟨rfl, by rw [show i = 268 by omega]⟩
      · refine v_aload_n (pc := 9) C 1 rfl dX6_clear_9 ?_
        refine v_iload_n (pc := 10) C 0 rfl dX6_clear_10 ?_
        refine v_iconst (pc := 11) C dX6_clear_11 ?_
        refine v_iastR (pc := 12) C hc (by omega) (by omega) dX6_clear_12 ?_
        refine v_iinc (pc := 13) C 0 [(1, .int (iI ((i : Int) + 1))), (0, .ref (bs γ + c))] dX6_clear_13 rfl (by decide) rfl ?_
        refine v_goto (pc := 16) C 2 dX6_clear_16 (by decide) ?_
        refine v_st (show _ = setc σ c (clr (σ c) 0 (i + 1)) from by rw [clr, show (0 : Int) + (i : Int) = i by omega]) ?_
        exact v_lv _ [0, 1] rfl (ih (i + 1) (by omega) (by omega))
  refine v_st (show _ = setc σ c (clr (σ c) 0 0) from (setc_eta σ c).symm) ?_
  exact v_lv _ [0, 1] rfl (L2 269 0 (by omega) (by omega))

theorem clearR {γ : Gm} (G : Glo γ) {σ : St} {c : Nat} (hc : sh c = (0, 268) ∧ 268 ≤ 4000) (hz : Ok σ) : Ct γ yX6_clear cX6_clear 2 none 1 [.ref (bs γ + c)] σ (pV (fun σ2 => σ2 = setc σ c newR)) := by
  refine (k_X6_clear G (σ := σ) hc).weak ?_
  rintro v σ' ⟨rfl, rfl⟩
  refine ⟨rfl, ?_⟩
  congr 1
  funext k
  unfold newR
  rw [upr_if, upr_if]
  by_cases h5 : k = 5
  · rw [if_pos h5, if_neg (by omega), if_pos h5]
  · rw [if_neg h5, if_neg h5]
    by_cases h4 : k = 4
    · rw [if_pos h4, if_pos h4]
    · rw [if_neg h4, if_neg h4]
      by_cases hk : 0 ≤ k ∧ k < 268
      · exact clr_in _ _ _ (by omega) (by omega)
      · rw [clr_out _ _ _ (by omega)]
        exact hz.2 c k (by rw [hc.1]; decide) (by rw [hc.1]; show k < 0 ∨ (268 : Int) ≤ k; omega)

set_option maxHeartbeats 4000000 in
set_option maxRecDepth 100000 in
theorem k_X6_valveOn {γ : Gm} (G : Glo γ) {σ : St} {c : Nat} {r : Int → Int} {k s : Int} (hc : sh c = (0, 268) ∧ 268 ≤ 4000) (hn : 0 ≤ r 0 ∧ r 0 < 10) (hk : R3 k) (hs : R3 s) : Ct γ yX6_valveOn cX6_valveOn 6 (some .int) 1 [.ref (bs γ + c), .int (iI k), .int (iI s)] (setc σ c r) (pI (fun z σ2 => z = r 0 ∧ σ2 = setc σ c (valveR r k s))) := by
  refine Ct.of G (by decide +kernel) (Nat.le_of_ble_eq_true rfl) (fun φ C hr => ?_)
  have C : Cx γ φ RX6 cX6_valveOn 6 1 := C
  refine v_lv [(0, .ref (bs γ + c)), (1, .int (iI k)), (2, .int (iI s))] [0, 1, 2] rfl ?_
  refine v_aload_n (pc := 0) C 0 rfl dX6_valveOn_0 ?_
  refine v_iconst (pc := 1) C dX6_valveOn_1 ?_
  refine v_ialdR (pc := 2) C hc (by first | omega | assumption) dX6_valveOn_2 (fun z2 ez2 rz2 => ?_)
  refine v_istore_n (pc := 3) C [(3, .int (iI z2)), (0, .ref (bs γ + c)), (1, .int (iI k)), (2, .int (iI s))] dX6_valveOn_3 rfl (by decide) rfl ?_
  refine v_bipush (pc := 4) C (by decide +kernel) dX6_valveOn_4 ?_
  refine v_bipush (pc := 6) C (by decide +kernel) dX6_valveOn_6 ?_
  refine v_iload_n (pc := 8) C 0 rfl dX6_valveOn_8 ?_
  refine v_imul (pc := 9) C dX6_valveOn_9 ?_
  refine v_iadd (pc := 10) C dX6_valveOn_10 ?_
  refine v_nm (fun at0 eat0 => ?_)
  refine v_istore (pc := 11) C [(4, .int (iI at0)), (3, .int (iI z2)), (0, .ref (bs γ + c)), (1, .int (iI k)), (2, .int (iI s))] dX6_valveOn_11 (by decide) rfl ?_
  refine v_iconst (pc := 13) C dX6_valveOn_13 ?_
  refine v_istore (pc := 14) C [(5, .int (iI 0)), (4, .int (iI at0)), (3, .int (iI z2)), (0, .ref (bs γ + c)), (1, .int (iI k)), (2, .int (iI s))] dX6_valveOn_14 (by decide) rfl ?_
  have L16 : ∀ (fu : Nat) (i : Nat), (hi : i ≤ 7) → 7 - i < fu → Vw γ φ 6 0 0 (QE γ φ (pI (fun z σ2 => z = r 0 ∧ σ2 = setc σ c (valveR r k s)))) (setc σ c (clr r at0 i)) 16 [(5, .int (iI (i : Int))), (4, .int (iI at0)), (3, .int (iI z2)), (2, .int (iI s)), (1, .int (iI k)), (0, .ref (bs γ + c))] [] := by
    intro fu
    induction fu with
    | zero => intro i hi hz; exact absurd hz (Nat.not_lt_zero _)
    | succ fu ih =>
      intro i hi hz
      refine v_iload (pc := 16) C 0 rfl dX6_valveOn_16 ?_
      refine v_bipush (pc := 18) C (by decide +kernel) dX6_valveOn_18 ?_
      refine v_icmp_ge (pc := 20) C 37 (by first | omega | assumption) (by first | omega | assumption) dX6_valveOn_20 (by decide) (fun h20 => ?_) (fun h20 => ?_)
      · obtain rfl : i = 7 := by omega
        refine v_aload_n (pc := 37) C 5 rfl dX6_valveOn_37 ?_
        refine v_iload (pc := 38) C 1 rfl dX6_valveOn_38 ?_
        refine v_iconst (pc := 40) C dX6_valveOn_40 ?_
        refine v_iadd (pc := 41) C dX6_valveOn_41 ?_
        refine v_iload_n (pc := 42) C 4 rfl dX6_valveOn_42 ?_
        refine v_iastR (pc := 43) C hc (by first | omega | assumption) (by first | omega | assumption) dX6_valveOn_43 ?_
        refine v_aload_n (pc := 44) C 5 rfl dX6_valveOn_44 ?_
        refine v_iload (pc := 45) C 1 rfl dX6_valveOn_45 ?_
        refine v_iconst (pc := 47) C dX6_valveOn_47 ?_
        refine v_iadd (pc := 48) C dX6_valveOn_48 ?_
        refine v_iload_n (pc := 49) C 3 rfl dX6_valveOn_49 ?_
        refine v_iastR (pc := 50) C hc (by first | omega | assumption) (by first | omega | assumption) dX6_valveOn_50 ?_
        refine v_aload_n (pc := 51) C 5 rfl dX6_valveOn_51 ?_
        refine v_iconst (pc := 52) C dX6_valveOn_52 ?_
        refine v_dup2 (pc := 53) C rfl rfl dX6_valveOn_53 ?_
        refine v_ialdR (pc := 54) C hc (by first | omega | assumption) dX6_valveOn_54 (fun z54 ez54 rz54 => ?_)
        rw [upr_ne _ _ (by omega), upr_ne _ _ (by omega), clr_out _ _ _ (by omega)] at ez54
        refine v_iconst (pc := 55) C dX6_valveOn_55 ?_
        refine v_iadd (pc := 56) C dX6_valveOn_56 ?_
        refine v_iastR (pc := 57) C hc (by first | omega | assumption) (by first | omega | assumption) dX6_valveOn_57 ?_
        refine v_iload_n (pc := 58) C 2 rfl dX6_valveOn_58 ?_
        exact v_iret (pc := 59) C hr (rfl) dX6_valveOn_59 (⟨_, rfl, ez2, by unfold valveR; rw [← ez2, ← eat0, ez54, ← ez2]⟩)
      · refine v_aload_n (pc := 23) C 5 rfl dX6_valveOn_23 ?_
        refine v_iload (pc := 24) C 1 rfl dX6_valveOn_24 ?_
        refine v_iload (pc := 26) C 0 rfl dX6_valveOn_26 ?_
        refine v_iadd (pc := 28) C dX6_valveOn_28 ?_
        refine v_iconst (pc := 29) C dX6_valveOn_29 ?_
        refine v_iastR (pc := 30) C hc (by first | omega | assumption) (by first | omega | assumption) dX6_valveOn_30 ?_
        refine v_iinc (pc := 31) C 0 [(5, .int (iI ((i : Int) + 1))), (4, .int (iI at0)), (3, .int (iI z2)), (2, .int (iI s)), (1, .int (iI k)), (0, .ref (bs γ + c))] dX6_valveOn_31 rfl (by decide) rfl ?_
        refine v_goto (pc := 34) C 16 dX6_valveOn_34 (by decide) ?_
        exact v_lv _ [0, 1, 2, 3, 4, 5] rfl (ih (i + 1) (by omega) (by omega))
  exact v_lv _ [0, 1, 2, 5, 4, 3] rfl (L16 8 0 (by omega) (by omega))

set_option maxHeartbeats 4000000 in
set_option maxRecDepth 100000 in
theorem k_X6_ductOn {γ : Gm} (G : Glo γ) {σ : St} {c : Nat} {r : Int → Int} {f l t p n : Int} (hc : sh c = (0, 268) ∧ 268 ≤ 4000) (hn : 0 ≤ r 1 ∧ r 1 < 16) (hf : R3 f) (hl : R3 l) (ht : R3 t) (hp : R3 p) (hnn : R3 n) : Ct γ yX6_ductOn cX6_ductOn 9 (some .int) 1 [.ref (bs γ + c), .int (iI f), .int (iI l), .int (iI t), .int (iI p), .int (iI n)] (setc σ c r) (pI (fun z σ2 => z = r 1 ∧ σ2 = setc σ c (ductR r f l t p n))) := by
  refine Ct.of G (by decide +kernel) (Nat.le_of_ble_eq_true rfl) (fun φ C hr => ?_)
  have C : Cx γ φ RX6 cX6_ductOn 9 1 := C
  refine v_lv [(0, .ref (bs γ + c)), (1, .int (iI f)), (2, .int (iI l)), (3, .int (iI t)), (4, .int (iI p)), (5, .int (iI n))] [0, 1, 2, 3, 4, 5] rfl ?_
  refine v_aload_n (pc := 0) C 0 rfl dX6_ductOn_0 ?_
  refine v_iconst (pc := 1) C dX6_ductOn_1 ?_
  refine v_ialdR (pc := 2) C hc (by first | omega | assumption) dX6_ductOn_2 (fun z2 ez2 rz2 => ?_)
  refine v_istore (pc := 3) C [(6, .int (iI z2)), (0, .ref (bs γ + c)), (1, .int (iI f)), (2, .int (iI l)), (3, .int (iI t)), (4, .int (iI p)), (5, .int (iI n))] dX6_ductOn_3 (by decide) rfl ?_
  refine v_bipush (pc := 5) C (by decide +kernel) dX6_ductOn_5 ?_
  refine v_bipush (pc := 7) C (by decide +kernel) dX6_ductOn_7 ?_
  refine v_iload (pc := 9) C 0 rfl dX6_ductOn_9 ?_
  refine v_imul (pc := 11) C dX6_ductOn_11 ?_
  refine v_iadd (pc := 12) C dX6_ductOn_12 ?_
  refine v_nm (fun at0 eat0 => ?_)
  refine v_istore (pc := 13) C [(7, .int (iI at0)), (6, .int (iI z2)), (0, .ref (bs γ + c)), (1, .int (iI f)), (2, .int (iI l)), (3, .int (iI t)), (4, .int (iI p)), (5, .int (iI n))] dX6_ductOn_13 (by decide) rfl ?_
  refine v_iconst (pc := 15) C dX6_ductOn_15 ?_
  refine v_istore (pc := 16) C [(8, .int (iI 0)), (7, .int (iI at0)), (6, .int (iI z2)), (0, .ref (bs γ + c)), (1, .int (iI f)), (2, .int (iI l)), (3, .int (iI t)), (4, .int (iI p)), (5, .int (iI n))] dX6_ductOn_16 (by decide) rfl ?_
  have L18 : ∀ (fu : Nat) (i : Nat), (hi : i ≤ 12) → 12 - i < fu → Vw γ φ 9 0 0 (QE γ φ (pI (fun z σ2 => z = r 1 ∧ σ2 = setc σ c (ductR r f l t p n)))) (setc σ c (clr r at0 i)) 18 [(8, .int (iI (i : Int))), (7, .int (iI at0)), (6, .int (iI z2)), (5, .int (iI n)), (4, .int (iI p)), (3, .int (iI t)), (2, .int (iI l)), (1, .int (iI f)), (0, .ref (bs γ + c))] [] := by
    intro fu
    induction fu with
    | zero => intro i hi hz; exact absurd hz (Nat.not_lt_zero _)
    | succ fu ih =>
      intro i hi hz
      refine v_iload (pc := 18) C 0 rfl dX6_ductOn_18 ?_
      refine v_bipush (pc := 20) C (by decide +kernel) dX6_ductOn_20 ?_
      refine v_icmp_ge (pc := 22) C 39 (by first | omega | assumption) (by first | omega | assumption) dX6_ductOn_22 (by decide) (fun h22 => ?_) (fun h22 => ?_)
      · obtain rfl : i = 12 := by omega
        refine v_aload_n (pc := 39) C 8 rfl dX6_ductOn_39 ?_
        refine v_iload (pc := 40) C 1 rfl dX6_ductOn_40 ?_
        refine v_iconst (pc := 42) C dX6_ductOn_42 ?_
        refine v_iadd (pc := 43) C dX6_ductOn_43 ?_
        refine v_iload_n (pc := 44) C 7 rfl dX6_ductOn_44 ?_
        refine v_iastR (pc := 45) C hc (by first | omega | assumption) (by first | omega | assumption) dX6_ductOn_45 ?_
        refine v_aload_n (pc := 46) C 8 rfl dX6_ductOn_46 ?_
        refine v_iload (pc := 47) C 1 rfl dX6_ductOn_47 ?_
        refine v_iconst (pc := 49) C dX6_ductOn_49 ?_
        refine v_iadd (pc := 50) C dX6_ductOn_50 ?_
        refine v_iload_n (pc := 51) C 6 rfl dX6_ductOn_51 ?_
        refine v_iastR (pc := 52) C hc (by first | omega | assumption) (by first | omega | assumption) dX6_ductOn_52 ?_
        refine v_aload_n (pc := 53) C 8 rfl dX6_ductOn_53 ?_
        refine v_iload (pc := 54) C 1 rfl dX6_ductOn_54 ?_
        refine v_iconst (pc := 56) C dX6_ductOn_56 ?_
        refine v_iadd (pc := 57) C dX6_ductOn_57 ?_
        refine v_iload_n (pc := 58) C 5 rfl dX6_ductOn_58 ?_
        refine v_iastR (pc := 59) C hc (by first | omega | assumption) (by first | omega | assumption) dX6_ductOn_59 ?_
        refine v_aload_n (pc := 60) C 8 rfl dX6_ductOn_60 ?_
        refine v_iload (pc := 61) C 1 rfl dX6_ductOn_61 ?_
        refine v_iconst (pc := 63) C dX6_ductOn_63 ?_
        refine v_iadd (pc := 64) C dX6_ductOn_64 ?_
        refine v_iload (pc := 65) C 4 rfl dX6_ductOn_65 ?_
        refine v_iastR (pc := 67) C hc (by first | omega | assumption) (by first | omega | assumption) dX6_ductOn_67 ?_
        refine v_aload_n (pc := 68) C 8 rfl dX6_ductOn_68 ?_
        refine v_iload (pc := 69) C 1 rfl dX6_ductOn_69 ?_
        refine v_iconst (pc := 71) C dX6_ductOn_71 ?_
        refine v_iadd (pc := 72) C dX6_ductOn_72 ?_
        refine v_iload (pc := 73) C 3 rfl dX6_ductOn_73 ?_
        refine v_iastR (pc := 75) C hc (by first | omega | assumption) (by first | omega | assumption) dX6_ductOn_75 ?_
        refine v_aload_n (pc := 76) C 8 rfl dX6_ductOn_76 ?_
        refine v_iconst (pc := 77) C dX6_ductOn_77 ?_
        refine v_dup2 (pc := 78) C rfl rfl dX6_ductOn_78 ?_
        refine v_ialdR (pc := 79) C hc (by first | omega | assumption) dX6_ductOn_79 (fun z79 ez79 rz79 => ?_)
        rw [upr_ne _ _ (by omega), upr_ne _ _ (by omega), upr_ne _ _ (by omega), upr_ne _ _ (by omega), upr_ne _ _ (by omega), clr_out _ _ _ (by omega)] at ez79
        refine v_iconst (pc := 80) C dX6_ductOn_80 ?_
        refine v_iadd (pc := 81) C dX6_ductOn_81 ?_
        refine v_iastR (pc := 82) C hc (by first | omega | assumption) (by first | omega | assumption) dX6_ductOn_82 ?_
        refine v_iload (pc := 83) C 2 rfl dX6_ductOn_83 ?_
        exact v_iret (pc := 85) C hr (rfl) dX6_ductOn_85 (⟨_, rfl, ez2, by unfold ductR; rw [← ez2, ← eat0, ez79, ← ez2]⟩)
      · refine v_aload_n (pc := 25) C 8 rfl dX6_ductOn_25 ?_
        refine v_iload (pc := 26) C 1 rfl dX6_ductOn_26 ?_
        refine v_iload (pc := 28) C 0 rfl dX6_ductOn_28 ?_
        refine v_iadd (pc := 30) C dX6_ductOn_30 ?_
        refine v_iconst (pc := 31) C dX6_ductOn_31 ?_
        refine v_iastR (pc := 32) C hc (by first | omega | assumption) (by first | omega | assumption) dX6_ductOn_32 ?_
        refine v_iinc (pc := 33) C 0 [(8, .int (iI ((i : Int) + 1))), (7, .int (iI at0)), (6, .int (iI z2)), (5, .int (iI n)), (4, .int (iI p)), (3, .int (iI t)), (2, .int (iI l)), (1, .int (iI f)), (0, .ref (bs γ + c))] dX6_ductOn_33 rfl (by decide) rfl ?_
        refine v_goto (pc := 36) C 18 dX6_ductOn_36 (by decide) ?_
        exact v_lv _ [0, 1, 2, 3, 4, 5, 6, 7, 8] rfl (ih (i + 1) (by omega) (by omega))
  exact v_lv _ [0, 1, 2, 8, 7, 6, 5, 4, 3] rfl (L18 13 0 (by omega) (by omega))

set_option maxHeartbeats 4000000 in
set_option maxRecDepth 100000 in
theorem k_X6_removeOn {γ : Gm} (G : Glo γ) {σ : St} {c : Nat} {r : Int → Int} {d : Int} (hc : sh c = (0, 268) ∧ 268 ≤ 4000) (hn : 0 ≤ r 1 ∧ r 1 ≤ 16) (hd : 0 ≤ d ∧ d < r 1) : Ct γ yX6_removeOn cX6_removeOn 4 (some .int) 1 [.ref (bs γ + c), .int (iI d)] (setc σ c r) (pI (fun z σ2 => z = r 1 - 1 ∧ σ2 = setc σ c (removeR r d))) := by
  refine Ct.of G (by decide +kernel) (Nat.le_of_ble_eq_true rfl) (fun φ C hr => ?_)
  have C : Cx γ φ RX6 cX6_removeOn 4 1 := C
  refine v_lv [(0, .ref (bs γ + c)), (1, .int (iI d))] [0, 1] rfl ?_
  refine v_aload_n (pc := 0) C 0 rfl dX6_removeOn_0 ?_
  refine v_iconst (pc := 1) C dX6_removeOn_1 ?_
  refine v_dup2 (pc := 2) C rfl rfl dX6_removeOn_2 ?_
  refine v_ialdR (pc := 3) C hc (by first | omega | assumption) dX6_removeOn_3 (fun z3 ez3 rz3 => ?_)
  refine v_iconst (pc := 4) C dX6_removeOn_4 ?_
  refine v_isub (pc := 5) C dX6_removeOn_5 ?_
  refine v_iastR (pc := 6) C hc (by first | omega | assumption) (by first | omega | assumption) dX6_removeOn_6 ?_
  refine v_bipush (pc := 7) C (by decide +kernel) dX6_removeOn_7 ?_
  refine v_bipush (pc := 9) C (by decide +kernel) dX6_removeOn_9 ?_
  refine v_aload_n (pc := 11) C 0 rfl dX6_removeOn_11 ?_
  refine v_iconst (pc := 12) C dX6_removeOn_12 ?_
  refine v_ialdR (pc := 13) C hc (by first | omega | assumption) dX6_removeOn_13 (fun z13 ez13 rz13 => ?_)
  have e13 : z13 = r 1 - 1 := by rw [ez13, upr_at, ez3]
  refine v_imul (pc := 14) C dX6_removeOn_14 ?_
  refine v_iadd (pc := 15) C dX6_removeOn_15 ?_
  refine v_nm (fun en een => ?_)
  refine v_istore_n (pc := 16) C [(2, .int (iI en)), (0, .ref (bs γ + c)), (1, .int (iI d))] dX6_removeOn_16 rfl (by decide) rfl ?_
  refine v_bipush (pc := 17) C (by decide +kernel) dX6_removeOn_17 ?_
  refine v_bipush (pc := 19) C (by decide +kernel) dX6_removeOn_19 ?_
  refine v_iload_n (pc := 21) C 2 rfl dX6_removeOn_21 ?_
  refine v_imul (pc := 22) C dX6_removeOn_22 ?_
  refine v_iadd (pc := 23) C dX6_removeOn_23 ?_
  have een2 : en = 76 + 12 * (r 1 - 1) := by rw [een, e13]
  refine v_nm (fun at0 eat0 => ?_)
  refine v_istore_n (pc := 24) C [(3, .int (iI at0)), (2, .int (iI en)), (0, .ref (bs γ + c)), (1, .int (iI d))] dX6_removeOn_24 rfl (by decide) rfl ?_
  have L25 : ∀ (fu : Nat) (i : Nat), (hi : 76 + 12 * d + (i : Int) ≤ 76 + 12 * (r 1 - 1)) → (12 * (r 1 - 1 - d)).toNat - i < fu → Vw γ φ 4 0 0 (QE γ φ (pI (fun z σ2 => z = r 1 - 1 ∧ σ2 = setc σ c (removeR r d)))) (setc σ c (sh12 (upr r 1 (r 1 - 1)) (76 + 12 * d) i)) 25 [(3, .int (iI (76 + 12 * d + (i : Int)))), (2, .int (iI en)), (1, .int (iI d)), (0, .ref (bs γ + c))] [] := by
    intro fu
    induction fu with
    | zero => intro i hi hz; exact absurd hz (Nat.not_lt_zero _)
    | succ fu ih =>
      intro i hi hz
      refine v_iload_n (pc := 25) C 0 rfl dX6_removeOn_25 ?_
      refine v_iload_n (pc := 26) C 1 rfl dX6_removeOn_26 ?_
      refine v_icmp_ge (pc := 27) C 45 (by first | omega | assumption) (by first | omega | assumption) dX6_removeOn_27 (by decide) (fun h27 => ?_) (fun h27 => ?_)
      · obtain rfl : i = (12 * (r 1 - 1 - d)).toNat := by omega
        obtain ⟨w, hw⟩ : ∃ w, w = sh12 (upr r 1 (r 1 - 1)) (76 + 12 * d) (12 * (r 1 - 1 - d)).toNat := ⟨_, rfl⟩
        have hw1 : w 1 = r 1 - 1 := by rw [hw, sh12_out _ _ _ (by omega), upr_at]
        rw [← hw]
        refine v_iload_n (pc := 45) C 1 rfl dX6_removeOn_45 ?_
        refine v_istore_n (pc := 46) C [(3, .int (iI en)), (2, .int (iI en)), (1, .int (iI d)), (0, .ref (bs γ + c))] dX6_removeOn_46 rfl (by decide) rfl ?_
        have L47 : ∀ (fu : Nat) (i : Nat), (hi : i ≤ 12) → 12 - i < fu → Vw γ φ 4 0 0 (QE γ φ (pI (fun z σ2 => z = r 1 - 1 ∧ σ2 = setc σ c (removeR r d)))) (setc σ c (clr w en i)) 47 [(3, .int (iI (en + (i : Int)))), (2, .int (iI en)), (1, .int (iI d)), (0, .ref (bs γ + c))] [] := by
          intro fu
          induction fu with
          | zero => intro i hi hz; exact absurd hz (Nat.not_lt_zero _)
          | succ fu ih =>
            intro i hi hz
            refine v_iload_n (pc := 47) C 0 rfl dX6_removeOn_47 ?_
            refine v_iload_n (pc := 48) C 1 rfl dX6_removeOn_48 ?_
            refine v_bipush (pc := 49) C (by decide +kernel) dX6_removeOn_49 ?_
            refine v_iadd (pc := 51) C dX6_removeOn_51 ?_
            refine v_icmp_ge (pc := 52) C 65 (by first | omega | assumption) (by first | omega | assumption) dX6_removeOn_52 (by decide) (fun h52 => ?_) (fun h52 => ?_)
            · refine v_aload_n (pc := 65) C 3 rfl dX6_removeOn_65 ?_
              refine v_iconst (pc := 66) C dX6_removeOn_66 ?_
              refine v_ialdR (pc := 67) C hc (by first | omega | assumption) dX6_removeOn_67 (fun z67 ez67 rz67 => ?_)
              rw [clr_out _ _ _ (by omega), hw1] at ez67
              exact v_iret (pc := 68) C hr (rfl) dX6_removeOn_68 (⟨_, rfl, ez67, by rw [show i = 12 by omega]; unfold removeR; rw [← hw, een2]⟩)
            · refine v_aload_n (pc := 55) C 3 rfl dX6_removeOn_55 ?_
              refine v_iload_n (pc := 56) C 0 rfl dX6_removeOn_56 ?_
              refine v_iconst (pc := 57) C dX6_removeOn_57 ?_
              refine v_iastR (pc := 58) C hc (by first | omega | assumption) (by first | omega | assumption) dX6_removeOn_58 ?_
              refine v_iinc (pc := 59) C 0 [(3, .int (iI ((en + (i : Int)) + 1))), (2, .int (iI en)), (1, .int (iI d)), (0, .ref (bs γ + c))] dX6_removeOn_59 rfl (by decide) rfl ?_
              refine v_goto (pc := 62) C 47 dX6_removeOn_62 (by decide) ?_
              exact v_lv _ [0, 1, 2, 3] (by rw [show (en + ((i + 1 : Nat) : Int)) = en + (i : Int) + 1 by omega]; rfl) (ih (i + 1) (by omega) (by omega))
        exact v_lv _ [0, 1, 2, 3] (by rw [show (en + ((0 : Nat) : Int)) = en by omega]; rfl) (L47 13 0 (by omega) (by omega))
      · refine v_aload_n (pc := 30) C 3 rfl dX6_removeOn_30 ?_
        refine v_iload_n (pc := 31) C 0 rfl dX6_removeOn_31 ?_
        refine v_aload_n (pc := 32) C 3 rfl dX6_removeOn_32 ?_
        refine v_iload_n (pc := 33) C 0 rfl dX6_removeOn_33 ?_
        refine v_bipush (pc := 34) C (by decide +kernel) dX6_removeOn_34 ?_
        refine v_iadd (pc := 36) C dX6_removeOn_36 ?_
        refine v_ialdR (pc := 37) C hc (by first | omega | assumption) dX6_removeOn_37 (fun z37 ez37 rz37 => ?_)
        refine v_iastR (pc := 38) C hc (by first | omega | assumption) (by first | omega | assumption) dX6_removeOn_38 ?_
        refine v_iinc (pc := 39) C 0 [(3, .int (iI ((76 + 12 * d + (i : Int)) + 1))), (2, .int (iI en)), (1, .int (iI d)), (0, .ref (bs γ + c))] dX6_removeOn_39 rfl (by decide) rfl ?_
        refine v_goto (pc := 42) C 25 dX6_removeOn_42 (by decide) ?_
        refine v_st (show _ = setc σ c (sh12 (upr r 1 (r 1 - 1)) (76 + 12 * d) (i + 1)) from by rw [ez37]; rfl) ?_
        exact v_lv _ [0, 1, 2, 3] (by rw [show (76 + 12 * d + ((i + 1 : Nat) : Int)) = 76 + 12 * d + (i : Int) + 1 by omega]; rfl) (ih (i + 1) (by omega) (by omega))
  obtain rfl : at0 = 76 + 12 * d := eat0
  refine v_st (show _ = setc σ c (sh12 (upr r 1 (r 1 - 1)) (76 + 12 * d) 0) from by rw [sh12, ez3]) ?_
  exact v_lv _ [0, 1, 3, 2] (by rw [show (76 + 12 * d + ((0 : Nat) : Int)) = 76 + 12 * d by omega]; rfl) (L25 ((12 * (r 1 - 1 - d)).toNat + 1) 0 (by omega) (by omega))

set_option maxHeartbeats 4000000 in
set_option maxRecDepth 100000 in
theorem k_X6_change {γ : Gm} (G : Glo γ) {σ : St} {c : Nat} {r : Int → Int} {j x : Int} (hc : sh c = (0, 268) ∧ 268 ≤ 4000) (h0 : 0 ≤ j ∧ j < 268) (hx : R3 x) : Ct γ yX6_change cX6_change 4 (some .int) 1 [.ref (bs γ + c), .int (iI j), .int (iI x)] (setc σ c r) (pI (fun z σ2 => (z = r j ∧ R3 z) ∧ σ2 = setc σ c (upr r j x))) := by
  refine Ct.of G (by decide +kernel) (Nat.le_of_ble_eq_true rfl) (fun φ C hr => ?_)
  have C : Cx γ φ RX6 cX6_change 4 1 := C
  refine v_lv [(0, .ref (bs γ + c)), (1, .int (iI j)), (2, .int (iI x))] [0, 1, 2] rfl ?_
  refine v_aload_n (pc := 0) C 0 rfl dX6_change_0 ?_
  refine v_iload_n (pc := 1) C 1 rfl dX6_change_1 ?_
  refine v_ialdR (pc := 2) C hc (by first | omega | assumption) dX6_change_2 (fun z2 ez2 rz2 => ?_)
  refine v_istore_n (pc := 3) C [(3, .int (iI z2)), (0, .ref (bs γ + c)), (1, .int (iI j)), (2, .int (iI x))] dX6_change_3 rfl (by decide) rfl ?_
  refine v_aload_n (pc := 4) C 1 rfl dX6_change_4 ?_
  refine v_iload_n (pc := 5) C 2 rfl dX6_change_5 ?_
  refine v_iload_n (pc := 6) C 3 rfl dX6_change_6 ?_
  refine v_iastR (pc := 7) C hc (by first | omega | assumption) (by first | omega | assumption) dX6_change_7 ?_
  refine v_iload_n (pc := 8) C 0 rfl dX6_change_8 ?_
  exact v_iret (pc := 9) C hr (rfl) dX6_change_9 (⟨_, rfl, ⟨by assumption, by assumption⟩, rfl⟩)

set_option maxHeartbeats 4000000 in
set_option maxRecDepth 100000 in
theorem k_X6_pressOn {γ : Gm} (G : Glo γ) {σ : St} {c : Nat} {r : Int → Int} {v b : Int} (hc : sh c = (0, 268) ∧ 268 ≤ 4000) (h0 : 0 ≤ v ∧ v < 10) (hb : b = 0 ∨ b = 1) : Ct γ yX6_pressOn cX6_pressOn 3 (some .int) 2 [.ref (bs γ + c), .int (iI v), .int (iI b)] (setc σ c r) (pI (fun z σ2 => z = (if r (6 + 7 * v + 2) = b then 0 else 1) ∧ σ2 = setc σ c (upr r (6 + 7 * v + 2) b))) := by
  refine Ct.of G (by decide +kernel) (Nat.le_of_ble_eq_true rfl) (fun φ C hr => ?_)
  have C : Cx γ φ RX6 cX6_pressOn 3 2 := C
  refine v_lv [(0, .ref (bs γ + c)), (1, .int (iI v)), (2, .int (iI b))] [0, 1, 2] rfl ?_
  refine v_aload_n (pc := 0) C 0 rfl dX6_pressOn_0 ?_
  refine v_bipush (pc := 1) C (by decide +kernel) dX6_pressOn_1 ?_
  refine v_bipush (pc := 3) C (by decide +kernel) dX6_pressOn_3 ?_
  refine v_iload_n (pc := 5) C 1 rfl dX6_pressOn_5 ?_
  refine v_imul (pc := 6) C dX6_pressOn_6 ?_
  refine v_iadd (pc := 7) C dX6_pressOn_7 ?_
  refine v_iconst (pc := 8) C dX6_pressOn_8 ?_
  refine v_iadd (pc := 9) C dX6_pressOn_9 ?_
  refine v_iload_n (pc := 10) C 2 rfl dX6_pressOn_10 ?_
  refine v_if_eq (pc := 11) C 18 (by first | omega | assumption) dX6_pressOn_11 (by decide) (fun h11 => ?_) (fun h11 => ?_)
  · refine v_iconst (pc := 18) C dX6_pressOn_18 ?_
    refine v_cs (pc := 19) (as := [.ref (bs γ + c), .int (iI ((6 + (7 * v)) + 2)), .int (iI 0)]) C (cy_X6_change G) (wM_X6_116 G) (k_X6_change G hc (by omega) (by first | omega | assumption)) dX6_pressOn_19 rfl rfl (by decide) (by decide) (Nat.le_of_ble_eq_true rfl) zc (k_I (fun z19 s19 q19 => ?_))
    obtain ⟨⟨ez19, rz19⟩, rfl⟩ := q19
    refine v_iload_n (pc := 22) C 2 rfl dX6_pressOn_22 ?_
    refine v_if_eq (pc := 23) C 30 (by first | omega | assumption) dX6_pressOn_23 (by decide) (fun h23 => ?_) (fun h23 => ?_)
    · refine v_iconst (pc := 30) C dX6_pressOn_30 ?_
      refine v_icmp_ne (pc := 31) C 38 (by first | omega | assumption) (by first | omega | assumption) dX6_pressOn_31 (by decide) (fun h31 => ?_) (fun h31 => ?_)
      · refine v_iconst (pc := 38) C dX6_pressOn_38 ?_
        exact v_iret (pc := 39) C hr (rfl) dX6_pressOn_39 (⟨_, rfl, by split <;> first | rfl | (exfalso; omega), by first | rfl | (exfalso; omega) | (congr 2; omega)⟩)
      · refine v_iconst (pc := 34) C dX6_pressOn_34 ?_
        refine v_goto (pc := 35) C 39 dX6_pressOn_35 (by decide) ?_
        exact v_iret (pc := 39) C hr (rfl) dX6_pressOn_39 (⟨_, rfl, by split <;> first | rfl | (exfalso; omega), by first | rfl | (exfalso; omega) | (congr 2; omega)⟩)
    · refine v_iconst (pc := 26) C dX6_pressOn_26 ?_
      refine v_goto (pc := 27) C 31 dX6_pressOn_27 (by decide) ?_
      refine v_icmp_ne (pc := 31) C 38 (by first | omega | assumption) (by first | omega | assumption) dX6_pressOn_31 (by decide) (fun h31_1 => ?_) (fun h31_1 => ?_)
      · refine v_iconst (pc := 38) C dX6_pressOn_38 ?_
        exact v_iret (pc := 39) C hr (rfl) dX6_pressOn_39 (⟨_, rfl, by split <;> first | rfl | (exfalso; omega), by first | rfl | (exfalso; omega) | (congr 2; omega)⟩)
      · refine v_iconst (pc := 34) C dX6_pressOn_34 ?_
        refine v_goto (pc := 35) C 39 dX6_pressOn_35 (by decide) ?_
        exact v_iret (pc := 39) C hr (rfl) dX6_pressOn_39 (⟨_, rfl, by split <;> first | rfl | (exfalso; omega), by first | rfl | (exfalso; omega) | (congr 2; omega)⟩)
  · refine v_iconst (pc := 14) C dX6_pressOn_14 ?_
    refine v_goto (pc := 15) C 19 dX6_pressOn_15 (by decide) ?_
    refine v_cs (pc := 19) (as := [.ref (bs γ + c), .int (iI ((6 + (7 * v)) + 2)), .int (iI 1)]) C (cy_X6_change G) (wM_X6_116 G) (k_X6_change G hc (by omega) (by first | omega | assumption)) dX6_pressOn_19 rfl rfl (by decide) (by decide) (Nat.le_of_ble_eq_true rfl) zc (k_I (fun z19_1 s19_1 q19_1 => ?_))
    obtain ⟨⟨ez19_1, rz19_1⟩, rfl⟩ := q19_1
    refine v_iload_n (pc := 22) C 2 rfl dX6_pressOn_22 ?_
    refine v_if_eq (pc := 23) C 30 (by first | omega | assumption) dX6_pressOn_23 (by decide) (fun h23_1 => ?_) (fun h23_1 => ?_)
    · refine v_iconst (pc := 30) C dX6_pressOn_30 ?_
      refine v_icmp_ne (pc := 31) C 38 (by first | omega | assumption) (by first | omega | assumption) dX6_pressOn_31 (by decide) (fun h31_2 => ?_) (fun h31_2 => ?_)
      · refine v_iconst (pc := 38) C dX6_pressOn_38 ?_
        exact v_iret (pc := 39) C hr (rfl) dX6_pressOn_39 (⟨_, rfl, by split <;> first | rfl | (exfalso; omega), by first | rfl | (exfalso; omega) | (congr 2; omega)⟩)
      · refine v_iconst (pc := 34) C dX6_pressOn_34 ?_
        refine v_goto (pc := 35) C 39 dX6_pressOn_35 (by decide) ?_
        exact v_iret (pc := 39) C hr (rfl) dX6_pressOn_39 (⟨_, rfl, by split <;> first | rfl | (exfalso; omega), by first | rfl | (exfalso; omega) | (congr 2; omega)⟩)
    · refine v_iconst (pc := 26) C dX6_pressOn_26 ?_
      refine v_goto (pc := 27) C 31 dX6_pressOn_27 (by decide) ?_
      refine v_icmp_ne (pc := 31) C 38 (by first | omega | assumption) (by first | omega | assumption) dX6_pressOn_31 (by decide) (fun h31_3 => ?_) (fun h31_3 => ?_)
      · refine v_iconst (pc := 38) C dX6_pressOn_38 ?_
        exact v_iret (pc := 39) C hr (rfl) dX6_pressOn_39 (⟨_, rfl, by split <;> first | rfl | (exfalso; omega), by first | rfl | (exfalso; omega) | (congr 2; omega)⟩)
      · refine v_iconst (pc := 34) C dX6_pressOn_34 ?_
        refine v_goto (pc := 35) C 39 dX6_pressOn_35 (by decide) ?_
        exact v_iret (pc := 39) C hr (rfl) dX6_pressOn_39 (⟨_, rfl, by split <;> first | rfl | (exfalso; omega), by first | rfl | (exfalso; omega) | (congr 2; omega)⟩)

set_option maxHeartbeats 4000000 in
set_option maxRecDepth 100000 in
theorem k_X6_isValveWord {γ : Gm} (G : Glo γ) {σ : St} {k s : Int} (hk : R3 k) (hs : R3 s) : Ct γ yX6_isValveWord cX6_isValveWord 2 (some .boolean) 2 [.int (iI k), .int (iI s)] σ (pI (fun z σ2 => (z = 1 ∧ ((0 ≤ k ∧ k ≤ 4) ∧ (10 ≤ s ∧ s ≤ 99)) ∨ z = 0 ∧ ¬ ((0 ≤ k ∧ k ≤ 4) ∧ (10 ≤ s ∧ s ≤ 99))) ∧ σ2 = σ)) := by
  refine Ct.of G (by decide +kernel) (Nat.le_of_ble_eq_true rfl) (fun φ C hr => ?_)
  have C : Cx γ φ RX6 cX6_isValveWord 2 2 := C
  refine v_lv [(0, .int (iI k)), (1, .int (iI s))] [0, 1] rfl ?_
  refine v_iload_n (pc := 0) C 0 rfl dX6_isValveWord_0 ?_
  refine v_i2l (pc := 1) C (by first | omega | assumption) dX6_isValveWord_1 ?_
  refine v_lconst (pc := 2) C (z := 0) rfl dX6_isValveWord_2 ?_
  refine v_ldc2 (pc := 3) C (wCL_X6_100 G) dX6_isValveWord_3 ?_
  refine v_cs (pc := 6) (as := [.long (lI k), .long (lI 0), .long (lI 4)]) C (cy_X6_in G) (wM_X6_40 G) (k_X6_in G (by first | omega | assumption) (by first | omega | assumption) (by first | omega | assumption)) dX6_isValveWord_6 rfl rfl (by decide) (by decide) (Nat.le_of_ble_eq_true rfl) zc (k_I (fun z6 s6 q6 => ?_))
  rcases q6 with ⟨⟨rfl, q6⟩ | ⟨rfl, q6⟩, rfl⟩
  · refine v_if_eq (pc := 9) C 30 (by first | omega | assumption) dX6_isValveWord_9 (by decide) (fun h => absurd h (by decide)) (fun _ => ?_)
    refine v_iload_n (pc := 12) C 1 rfl dX6_isValveWord_12 ?_
    refine v_i2l (pc := 13) C (by first | omega | assumption) dX6_isValveWord_13 ?_
    refine v_ldc2 (pc := 14) C (wCL_X6_102 G) dX6_isValveWord_14 ?_
    refine v_ldc2 (pc := 17) C (wCL_X6_104 G) dX6_isValveWord_17 ?_
    refine v_cs (pc := 20) (as := [.long (lI s), .long (lI 10), .long (lI 99)]) C (cy_X6_in G) (wM_X6_40 G) (k_X6_in G (by first | omega | assumption) (by first | omega | assumption) (by first | omega | assumption)) dX6_isValveWord_20 rfl rfl (by decide) (by decide) (Nat.le_of_ble_eq_true rfl) zc (k_I (fun z20 s20 q20 => ?_))
    rcases q20 with ⟨⟨rfl, q20⟩ | ⟨rfl, q20⟩, rfl⟩
    · refine v_if_eq (pc := 23) C 30 (by first | omega | assumption) dX6_isValveWord_23 (by decide) (fun h => absurd h (by decide)) (fun _ => ?_)
      refine v_iconst (pc := 26) C dX6_isValveWord_26 ?_
      refine v_goto (pc := 27) C 31 dX6_isValveWord_27 (by decide) ?_
      exact v_iret (pc := 31) C hr (rfl) dX6_isValveWord_31 (⟨_, rfl, Or.inl ⟨rfl, by omega⟩, rfl⟩)
    · refine v_if_eq (pc := 23) C 30 (by first | omega | assumption) dX6_isValveWord_23 (by decide) (fun _ => ?_) (fun h => absurd h (by decide))
      refine v_iconst (pc := 30) C dX6_isValveWord_30 ?_
      exact v_iret (pc := 31) C hr (rfl) dX6_isValveWord_31 (⟨_, rfl, Or.inr ⟨rfl, by omega⟩, rfl⟩)
  · refine v_if_eq (pc := 9) C 30 (by first | omega | assumption) dX6_isValveWord_9 (by decide) (fun _ => ?_) (fun h => absurd h (by decide))
    refine v_iconst (pc := 30) C dX6_isValveWord_30 ?_
    exact v_iret (pc := 31) C hr (rfl) dX6_isValveWord_31 (⟨_, rfl, Or.inr ⟨rfl, by omega⟩, rfl⟩)

set_option maxHeartbeats 4000000 in
set_option maxRecDepth 100000 in
theorem k_X6_areEnds {γ : Gm} (G : Glo γ) {σ : St} {c : Nat} {r : Int → Int} {f l t p : Int} (hc : sh c = (0, 268) ∧ 268 ≤ 4000) (hf : R3 f) (hl : R3 l) (ht : R3 t) (hp : R3 p) (h0 : 0 ≤ r 0 ∧ r 0 ≤ 10) : Ct γ yX6_areEnds cX6_areEnds 5 (some .boolean) 3 [.ref (bs γ + c), .int (iI f), .int (iI l), .int (iI t), .int (iI p)] (setc σ c r) (pI (fun z σ2 => (z = 1 ∧ (((0 ≤ f ∧ f < r 0) ∧ (0 ≤ l ∧ l ≤ 1)) ∧ ((0 ≤ t ∧ t < r 0) ∧ (0 ≤ p ∧ p ≤ 1))) ∨ z = 0 ∧ ¬ (((0 ≤ f ∧ f < r 0) ∧ (0 ≤ l ∧ l ≤ 1)) ∧ ((0 ≤ t ∧ t < r 0) ∧ (0 ≤ p ∧ p ≤ 1)))) ∧ σ2 = setc σ c r)) := by
  refine Ct.of G (by decide +kernel) (Nat.le_of_ble_eq_true rfl) (fun φ C hr => ?_)
  have C : Cx γ φ RX6 cX6_areEnds 5 3 := C
  refine v_lv [(0, .ref (bs γ + c)), (1, .int (iI f)), (2, .int (iI l)), (3, .int (iI t)), (4, .int (iI p))] [0, 1, 2, 3, 4] rfl ?_
  refine v_aload_n (pc := 0) C 0 rfl dX6_areEnds_0 ?_
  refine v_iload_n (pc := 1) C 1 rfl dX6_areEnds_1 ?_
  refine v_cs (pc := 2) (as := [.ref (bs γ + c), .int (iI f)]) C (cy_X6_isValve G) (wM_X6_44 G) (k_X6_isValve G hc (by first | omega | assumption) (by first | omega | assumption)) dX6_areEnds_2 rfl rfl (by decide) (by decide) (Nat.le_of_ble_eq_true rfl) zc (k_I (fun z2 s2 q2 => ?_))
  rcases q2 with ⟨⟨rfl, q2⟩ | ⟨rfl, q2⟩, rfl⟩
  · refine v_if_eq (pc := 5) C 35 (by omega) dX6_areEnds_5 (by decide) (fun h => absurd h (by decide)) (fun _ => ?_)
    refine v_iload_n (pc := 8) C 2 rfl dX6_areEnds_8 ?_
    refine v_cs (pc := 9) (as := [.int (iI l)]) C (cy_X6_isSide G) (wM_X6_106 G) (k_X6_isSide G (by first | omega | assumption)) dX6_areEnds_9 rfl rfl (by decide) (by decide) (Nat.le_of_ble_eq_true rfl) zc (k_I (fun z9 s9 q9 => ?_))
    rcases q9 with ⟨⟨rfl, q9⟩ | ⟨rfl, q9⟩, rfl⟩
    · refine v_if_eq (pc := 12) C 35 (by omega) dX6_areEnds_12 (by decide) (fun h => absurd h (by decide)) (fun _ => ?_)
      refine v_aload_n (pc := 15) C 0 rfl dX6_areEnds_15 ?_
      refine v_iload_n (pc := 16) C 3 rfl dX6_areEnds_16 ?_
      refine v_cs (pc := 17) (as := [.ref (bs γ + c), .int (iI t)]) C (cy_X6_isValve G) (wM_X6_44 G) (k_X6_isValve G hc (by first | omega | assumption) (by first | omega | assumption)) dX6_areEnds_17 rfl rfl (by decide) (by decide) (Nat.le_of_ble_eq_true rfl) zc (k_I (fun z17 s17 q17 => ?_))
      rcases q17 with ⟨⟨rfl, q17⟩ | ⟨rfl, q17⟩, rfl⟩
      · refine v_if_eq (pc := 20) C 35 (by omega) dX6_areEnds_20 (by decide) (fun h => absurd h (by decide)) (fun _ => ?_)
        refine v_iload (pc := 23) C 4 rfl dX6_areEnds_23 ?_
        refine v_cs (pc := 25) (as := [.int (iI p)]) C (cy_X6_isSide G) (wM_X6_106 G) (k_X6_isSide G (by first | omega | assumption)) dX6_areEnds_25 rfl rfl (by decide) (by decide) (Nat.le_of_ble_eq_true rfl) zc (k_I (fun z25 s25 q25 => ?_))
        rcases q25 with ⟨⟨rfl, q25⟩ | ⟨rfl, q25⟩, rfl⟩
        · refine v_if_eq (pc := 28) C 35 (by omega) dX6_areEnds_28 (by decide) (fun h => absurd h (by decide)) (fun _ => ?_)
          refine v_iconst (pc := 31) C dX6_areEnds_31 ?_
          refine v_goto (pc := 32) C 36 dX6_areEnds_32 (by decide) ?_
          exact v_iret (pc := 36) C hr (rfl) dX6_areEnds_36 (⟨_, rfl, Or.inl ⟨rfl, by omega⟩, rfl⟩)
        · refine v_if_eq (pc := 28) C 35 (by omega) dX6_areEnds_28 (by decide) (fun _ => ?_) (fun h => absurd h (by decide))
          refine v_iconst (pc := 35) C dX6_areEnds_35 ?_
          exact v_iret (pc := 36) C hr (rfl) dX6_areEnds_36 (⟨_, rfl, Or.inr ⟨rfl, by omega⟩, rfl⟩)
      · refine v_if_eq (pc := 20) C 35 (by omega) dX6_areEnds_20 (by decide) (fun _ => ?_) (fun h => absurd h (by decide))
        refine v_iconst (pc := 35) C dX6_areEnds_35 ?_
        exact v_iret (pc := 36) C hr (rfl) dX6_areEnds_36 (⟨_, rfl, Or.inr ⟨rfl, by omega⟩, rfl⟩)
    · refine v_if_eq (pc := 12) C 35 (by omega) dX6_areEnds_12 (by decide) (fun _ => ?_) (fun h => absurd h (by decide))
      refine v_iconst (pc := 35) C dX6_areEnds_35 ?_
      exact v_iret (pc := 36) C hr (rfl) dX6_areEnds_36 (⟨_, rfl, Or.inr ⟨rfl, by omega⟩, rfl⟩)
  · refine v_if_eq (pc := 5) C 35 (by omega) dX6_areEnds_5 (by decide) (fun _ => ?_) (fun h => absurd h (by decide))
    refine v_iconst (pc := 35) C dX6_areEnds_35 ?_
    exact v_iret (pc := 36) C hr (rfl) dX6_areEnds_36 (⟨_, rfl, Or.inr ⟨rfl, by omega⟩, rfl⟩)

set_option maxHeartbeats 4000000 in
set_option maxRecDepth 100000 in
theorem k_X6_canDuct {γ : Gm} (G : Glo γ) {σ : St} {c : Nat} {r : Int → Int} {f l t p n : Int} (hc : sh c = (0, 268) ∧ 268 ≤ 4000) (hf : R3 f) (hl : R3 l) (ht : R3 t) (hp : R3 p) (hn : R3 n) (h0 : 0 ≤ r 0 ∧ r 0 ≤ 10) : Ct γ yX6_canDuct cX6_canDuct 6 (some .boolean) 4 [.ref (bs γ + c), .int (iI f), .int (iI l), .int (iI t), .int (iI p), .int (iI n)] (setc σ c r) (pI (fun z σ2 => (z = 1 ∧ ((((0 ≤ f ∧ f < r 0) ∧ (0 ≤ l ∧ l ≤ 1)) ∧ ((0 ≤ t ∧ t < r 0) ∧ (0 ≤ p ∧ p ≤ 1))) ∧ (1 ≤ n ∧ n ≤ 6) ∧ r 1 < 16) ∨ z = 0 ∧ ¬ ((((0 ≤ f ∧ f < r 0) ∧ (0 ≤ l ∧ l ≤ 1)) ∧ ((0 ≤ t ∧ t < r 0) ∧ (0 ≤ p ∧ p ≤ 1))) ∧ (1 ≤ n ∧ n ≤ 6) ∧ r 1 < 16)) ∧ σ2 = setc σ c r)) := by
  refine Ct.of G (by decide +kernel) (Nat.le_of_ble_eq_true rfl) (fun φ C hr => ?_)
  have C : Cx γ φ RX6 cX6_canDuct 6 4 := C
  refine v_lv [(0, .ref (bs γ + c)), (1, .int (iI f)), (2, .int (iI l)), (3, .int (iI t)), (4, .int (iI p)), (5, .int (iI n))] [0, 1, 2, 3, 4, 5] rfl ?_
  refine v_aload_n (pc := 0) C 0 rfl dX6_canDuct_0 ?_
  refine v_iload_n (pc := 1) C 1 rfl dX6_canDuct_1 ?_
  refine v_iload_n (pc := 2) C 2 rfl dX6_canDuct_2 ?_
  refine v_iload_n (pc := 3) C 3 rfl dX6_canDuct_3 ?_
  refine v_iload (pc := 4) C 4 rfl dX6_canDuct_4 ?_
  refine v_cs (pc := 6) (as := [.ref (bs γ + c), .int (iI f), .int (iI l), .int (iI t), .int (iI p)]) C (cy_X6_areEnds G) (wM_X6_110 G) (k_X6_areEnds G hc (by first | omega | assumption) (by first | omega | assumption) (by first | omega | assumption) (by first | omega | assumption) (by first | omega | assumption)) dX6_canDuct_6 rfl rfl (by decide) (by decide) (Nat.le_of_ble_eq_true rfl) zc (k_I (fun z6 s6 q6 => ?_))
  rcases q6 with ⟨⟨rfl, q6⟩ | ⟨rfl, q6⟩, rfl⟩
  · refine v_if_eq (pc := 9) C 37 (by first | omega | assumption) dX6_canDuct_9 (by decide) (fun h => absurd h (by decide)) (fun _ => ?_)
    refine v_iload (pc := 12) C 5 rfl dX6_canDuct_12 ?_
    refine v_i2l (pc := 14) C (by first | omega | assumption) dX6_canDuct_14 ?_
    refine v_lconst (pc := 15) C (z := 1) rfl dX6_canDuct_15 ?_
    refine v_ldc2 (pc := 16) C (wCL_X6_114 G) dX6_canDuct_16 ?_
    refine v_cs (pc := 19) (as := [.long (lI n), .long (lI 1), .long (lI 6)]) C (cy_X6_in G) (wM_X6_40 G) (k_X6_in G (by first | omega | assumption) (by first | omega | assumption) (by first | omega | assumption)) dX6_canDuct_19 rfl rfl (by decide) (by decide) (Nat.le_of_ble_eq_true rfl) zc (k_I (fun z19 s19 q19 => ?_))
    rcases q19 with ⟨⟨rfl, q19⟩ | ⟨rfl, q19⟩, rfl⟩
    · refine v_if_eq (pc := 22) C 37 (by first | omega | assumption) dX6_canDuct_22 (by decide) (fun h => absurd h (by decide)) (fun _ => ?_)
      refine v_aload_n (pc := 25) C 0 rfl dX6_canDuct_25 ?_
      refine v_iconst (pc := 26) C dX6_canDuct_26 ?_
      refine v_ialdR (pc := 27) C hc (by first | omega | assumption) dX6_canDuct_27 (fun z27 ez27 rz27 => ?_)
      refine v_bipush (pc := 28) C (by decide +kernel) dX6_canDuct_28 ?_
      refine v_icmp_ge (pc := 30) C 37 (by first | omega | assumption) (by first | omega | assumption) dX6_canDuct_30 (by decide) (fun h30 => ?_) (fun h30 => ?_)
      · refine v_iconst (pc := 37) C dX6_canDuct_37 ?_
        exact v_iret (pc := 38) C hr (rfl) dX6_canDuct_38 (⟨_, rfl, Or.inr ⟨rfl, by omega⟩, rfl⟩)
      · refine v_iconst (pc := 33) C dX6_canDuct_33 ?_
        refine v_goto (pc := 34) C 38 dX6_canDuct_34 (by decide) ?_
        exact v_iret (pc := 38) C hr (rfl) dX6_canDuct_38 (⟨_, rfl, Or.inl ⟨rfl, by omega⟩, rfl⟩)
    · refine v_if_eq (pc := 22) C 37 (by first | omega | assumption) dX6_canDuct_22 (by decide) (fun _ => ?_) (fun h => absurd h (by decide))
      refine v_iconst (pc := 37) C dX6_canDuct_37 ?_
      exact v_iret (pc := 38) C hr (rfl) dX6_canDuct_38 (⟨_, rfl, Or.inr ⟨rfl, by omega⟩, rfl⟩)
  · refine v_if_eq (pc := 9) C 37 (by first | omega | assumption) dX6_canDuct_9 (by decide) (fun _ => ?_) (fun h => absurd h (by decide))
    refine v_iconst (pc := 37) C dX6_canDuct_37 ?_
    exact v_iret (pc := 38) C hr (rfl) dX6_canDuct_38 (⟨_, rfl, Or.inr ⟨rfl, by omega⟩, rfl⟩)

set_option maxHeartbeats 4000000 in
set_option maxRecDepth 100000 in
theorem k_X6_needs {γ : Gm} (G : Glo γ) {σ : St} {c : Nat} {r : Int → Int} {d : Int} (hc : sh c = (0, 268) ∧ 268 ≤ 4000) (h : Wf r) (h0 : 0 ≤ d ∧ d < r 1) : Ct γ yX6_needs cX6_needs 4 (some .int) 3 [.ref (bs γ + c), .int (iI d)] (setc σ c r) (pI (fun z σ2 => (z = needR r d ∧ -1 ≤ z ∧ z ≤ 99) ∧ σ2 = setc σ c r)) := by
  refine Ct.of G (by decide +kernel) (Nat.le_of_ble_eq_true rfl) (fun φ C hr => ?_)
  have C : Cx γ φ RX6 cX6_needs 4 3 := C
  have hn0 := h.1
  have hn1 := h.2.1
  have hn4 := h.2.2.1
  have hn5 := h.2.2.2.1
  obtain ⟨q0, q1, q2, q3, q4, q5, q6⟩ := h.2.2.2.2.2 d h0.1 h0.2
  obtain ⟨p0, p1, -⟩ := h.2.2.2.2.1 _ q2.1 q2.2
  have hm := mulb (x := r (6 + 7 * r (76 + 12 * d + 2) + 1)) (y := r 5) (A := 99) (B := 90) (by omega) (by omega)
  have hmm := mulb (x := r (6 + 7 * r (76 + 12 * d + 2) + 1) - 10) (y := r 5) (A := 99) (B := 90) (by omega) (by omega)
  rw [Int.sub_mul] at hmm
  refine v_lv [(0, .ref (bs γ + c)), (1, .int (iI d))] [0, 1] rfl ?_
  refine v_aload_n (pc := 0) C 0 rfl dX6_needs_0 ?_
  refine v_iload_n (pc := 1) C 1 rfl dX6_needs_1 ?_
  refine v_iconst (pc := 2) C dX6_needs_2 ?_
  refine v_cs (pc := 3) (as := [.ref (bs γ + c), .int (iI d), .int (iI 2)]) C (cy_X6_ofDuct G) (wM_X6_62 G) (k_X6_ofDuct G hc (by omega)) dX6_needs_3 rfl rfl (by decide) (by decide) (Nat.le_of_ble_eq_true rfl) zc (k_I (fun z3 s3 q3 => ?_))
  obtain ⟨⟨ez3, rz3⟩, rfl⟩ := q3
  subst ez3
  refine v_istore_n (pc := 6) C [(2, .int (iI (r (76 + 12 * d + 2)))), (0, .ref (bs γ + c)), (1, .int (iI d))] dX6_needs_6 rfl (by decide) rfl ?_
  refine v_iconst (pc := 7) C dX6_needs_7 ?_
  refine v_istore_n (pc := 8) C [(3, .int (iI 1)), (2, .int (iI (r (76 + 12 * d + 2)))), (0, .ref (bs γ + c)), (1, .int (iI d))] dX6_needs_8 rfl (by decide) rfl ?_
  have L9 : ∀ (fu : Nat) (q : Int), (hq : 1 ≤ q ∧ q ≤ 91 ∧ 100 * (q - 1) < r (6 + 7 * r (76 + 12 * d + 2) + 1) * r 5) → (100 - q).toNat < fu → Vw γ φ 4 0 0 (QE γ φ (pI (fun z σ2 => (z = needR r d ∧ -1 ≤ z ∧ z ≤ 99) ∧ σ2 = setc σ c r))) (setc σ c r) 9 [(3, .int (iI q)), (2, .int (iI (r (76 + 12 * d + 2)))), (1, .int (iI d)), (0, .ref (bs γ + c))] [] := by
    intro fu
    induction fu with
    | zero => intro q hq hz; exact absurd hz (Nat.not_lt_zero _)
    | succ fu ih =>
      intro q hq hz
      refine v_aload_n (pc := 9) C 3 rfl dX6_needs_9 ?_
      refine v_iload_n (pc := 10) C 1 rfl dX6_needs_10 ?_
      refine v_iload_n (pc := 11) C 0 rfl dX6_needs_11 ?_
      refine v_cs (pc := 12) (as := [.ref (bs γ + c), .int (iI (r (76 + 12 * d + 2))), .int (iI q)]) C (cy_X6_isStrong G) (wM_X6_58 G) (k_X6_isStrong G hc (by omega) (by omega) (by omega) (by omega)) dX6_needs_12 rfl rfl (by decide) (by decide) (Nat.le_of_ble_eq_true rfl) zc (k_I (fun z12 s12 q12 => ?_))
      rcases q12 with ⟨⟨rfl, q12⟩ | ⟨rfl, q12⟩, rfl⟩
      · refine v_if_ne (pc := 15) C 24 (by first | omega | assumption) dX6_needs_15 (by decide) (fun _ => ?_) (fun h => absurd h (by decide))
        refine v_iload_n (pc := 24) C 0 rfl dX6_needs_24 ?_
        refine v_aload_n (pc := 25) C 3 rfl dX6_needs_25 ?_
        refine v_iload_n (pc := 26) C 2 rfl dX6_needs_26 ?_
        refine v_iconst (pc := 27) C dX6_needs_27 ?_
        refine v_cs (pc := 28) (as := [.ref (bs γ + c), .int (iI d), .int (iI 4)]) C (cy_X6_ofDuct G) (wM_X6_62 G) (k_X6_ofDuct G hc (by omega)) dX6_needs_28 rfl rfl (by decide) (by decide) (Nat.le_of_ble_eq_true rfl) zc (k_I (fun z28 s28 q28 => ?_))
        obtain ⟨⟨ez28, rz28⟩, rfl⟩ := q28
        refine v_aload_n (pc := 31) C 3 rfl dX6_needs_31 ?_
        refine v_iconst (pc := 32) C dX6_needs_32 ?_
        refine v_ialdR (pc := 33) C hc (by first | omega | assumption) dX6_needs_33 (fun z33 ez33 rz33 => ?_)
        have hm34 := mulb (x := z28) (y := z33) (A := 6) (B := 9) (by omega) (by omega)
        refine v_imul (pc := 34) C dX6_needs_34 ?_
        refine v_aload_n (pc := 35) C 3 rfl dX6_needs_35 ?_
        refine v_iload_n (pc := 36) C 2 rfl dX6_needs_36 ?_
        refine v_iconst (pc := 37) C dX6_needs_37 ?_
        refine v_cs (pc := 38) (as := [.ref (bs γ + c), .int (iI d), .int (iI 5)]) C (cy_X6_ofDuct G) (wM_X6_62 G) (k_X6_ofDuct G hc (by omega)) dX6_needs_38 rfl rfl (by decide) (by decide) (Nat.le_of_ble_eq_true rfl) zc (k_I (fun z38 s38 q38 => ?_))
        obtain ⟨⟨ez38, rz38⟩, rfl⟩ := q38
        refine v_iadd (pc := 41) C dX6_needs_41 ?_
        refine v_iadd (pc := 42) C dX6_needs_42 ?_
        refine v_nm (fun p ep => ?_)
        refine v_istore_n (pc := 43) C [(3, .int (iI p)), (2, .int (iI (r (76 + 12 * d + 2)))), (1, .int (iI d)), (0, .ref (bs γ + c))] dX6_needs_43 rfl (by decide) rfl ?_
        refine v_iload_n (pc := 44) C 0 rfl dX6_needs_44 ?_
        refine v_bipush (pc := 45) C (by decide +kernel) dX6_needs_45 ?_
        refine v_icmp_le (pc := 47) C 54 (by first | omega | assumption) (by first | omega | assumption) dX6_needs_47 (by decide) (fun h47 => ?_) (fun h47 => ?_)
        · refine v_iload_n (pc := 54) C 0 rfl dX6_needs_54 ?_
          exact v_iret (pc := 55) C hr (rfl) dX6_needs_55 (⟨_, rfl, ⟨by unfold needR needP; rw [← ez28, ← ez33, ← ez38]; have q122 := q12.2; rw [if_pos (by omega)]; omega, by omega⟩, rfl⟩)
        · refine v_iconst (pc := 50) C dX6_needs_50 ?_
          refine v_goto (pc := 51) C 55 dX6_needs_51 (by decide) ?_
          exact v_iret (pc := 55) C hr (rfl) dX6_needs_55 (⟨_, rfl, ⟨by unfold needR needP; rw [← ez28, ← ez33, ← ez38]; have q122 := q12.2; rw [if_neg (by omega)], by omega⟩, rfl⟩)
      · refine v_if_ne (pc := 15) C 24 (by first | omega | assumption) dX6_needs_15 (by decide) (fun h => absurd h (by decide)) (fun _ => ?_)
        refine v_iinc (pc := 18) C 0 [(3, .int (iI (q + 1))), (2, .int (iI (r (76 + 12 * d + 2)))), (1, .int (iI d)), (0, .ref (bs γ + c))] dX6_needs_18 rfl (by decide) rfl ?_
        refine v_goto (pc := 21) C 9 dX6_needs_21 (by decide) ?_
        have hq12 : ¬ r (6 + 7 * r (76 + 12 * d + 2) + 1) * r 5 ≤ 100 * q := fun w => q12 ⟨by omega, w⟩
        exact v_lv _ [0, 1, 2, 3] rfl (ih (q + 1) (by omega) (by omega))
  exact v_lv _ [0, 1, 3, 2] rfl (L9 101 1 (by omega) (by omega))

set_option maxHeartbeats 4000000 in
set_option maxRecDepth 100000 in
theorem k_X6_livelyLegs {γ : Gm} (G : Glo γ) {σ : St} {c : Nat} {r : Int → Int} (hc : sh c = (0, 268) ∧ 268 ≤ 4000) (h : Wf r) : Ct γ yX6_livelyLegs cX6_livelyLegs 3 (some .int) 2 [.ref (bs γ + c)] (setc σ c r) (pI (fun z σ2 => z = livelyR r (r 0).toNat ∧ σ2 = setc σ c r)) := by
  refine Ct.of G (by decide +kernel) (Nat.le_of_ble_eq_true rfl) (fun φ C hr => ?_)
  have C : Cx γ φ RX6 cX6_livelyLegs 3 2 := C
  have hn0 := h.1
  refine v_lv [(0, .ref (bs γ + c))] [0] rfl ?_
  refine v_iconst (pc := 0) C dX6_livelyLegs_0 ?_
  refine v_istore_n (pc := 1) C [(1, .int (iI 0)), (0, .ref (bs γ + c))] dX6_livelyLegs_1 rfl (by decide) rfl ?_
  refine v_iconst (pc := 2) C dX6_livelyLegs_2 ?_
  refine v_istore_n (pc := 3) C [(2, .int (iI 0)), (1, .int (iI 0)), (0, .ref (bs γ + c))] dX6_livelyLegs_3 rfl (by decide) rfl ?_
  have L4 : ∀ (fu : Nat) (i : Nat), (hi : (i : Int) ≤ r 0) → (r 0).toNat - i < fu → Vw γ φ 3 0 0 (QE γ φ (pI (fun z σ2 => z = livelyR r (r 0).toNat ∧ σ2 = setc σ c r))) (setc σ c r) 4 [(2, .int (iI (i : Int))), (1, .int (iI (livelyR r i))), (0, .ref (bs γ + c))] [] := by
    intro fu
    induction fu with
    | zero => intro i hi hz; exact absurd hz (Nat.not_lt_zero _)
    | succ fu ih =>
      intro i hi hz
      have hb := livelyR_b r i
      refine v_iload_n (pc := 4) C 0 rfl dX6_livelyLegs_4 ?_
      refine v_aload_n (pc := 5) C 2 rfl dX6_livelyLegs_5 ?_
      refine v_iconst (pc := 6) C dX6_livelyLegs_6 ?_
      refine v_ialdR (pc := 7) C hc (by first | omega | assumption) dX6_livelyLegs_7 (fun z7 ez7 rz7 => ?_)
      refine v_icmp_ge (pc := 8) C 49 (by first | omega | assumption) (by first | omega | assumption) dX6_livelyLegs_8 (by decide) (fun h8 => ?_) (fun h8 => ?_)
      · refine v_iload_n (pc := 49) C 1 rfl dX6_livelyLegs_49 ?_
        exact v_iret (pc := 50) C hr (rfl) dX6_livelyLegs_50 (⟨_, rfl, by rw [show i = (r 0).toNat by omega], rfl⟩)
      · refine v_iload_n (pc := 11) C 1 rfl dX6_livelyLegs_11 ?_
        refine v_aload_n (pc := 12) C 2 rfl dX6_livelyLegs_12 ?_
        refine v_iload_n (pc := 13) C 0 rfl dX6_livelyLegs_13 ?_
        refine v_iconst (pc := 14) C dX6_livelyLegs_14 ?_
        refine v_cs (pc := 15) (as := [.ref (bs γ + c), .int (iI (i : Int)), .int (iI 3)]) C (cy_X6_of G) (wM_X6_48 G) (k_X6_of G hc (by omega)) dX6_livelyLegs_15 rfl rfl (by decide) (by decide) (Nat.le_of_ble_eq_true rfl) zc (k_I (fun z15 s15 q15 => ?_))
        obtain ⟨⟨ez15, rz15⟩, rfl⟩ := q15
        refine v_if_le (pc := 18) C 25 (by first | omega | assumption) dX6_livelyLegs_18 (by decide) (fun h18 => ?_) (fun h18 => ?_)
        · refine v_iconst (pc := 25) C dX6_livelyLegs_25 ?_
          refine v_aload_n (pc := 26) C 2 rfl dX6_livelyLegs_26 ?_
          refine v_iload_n (pc := 27) C 0 rfl dX6_livelyLegs_27 ?_
          refine v_iconst (pc := 28) C dX6_livelyLegs_28 ?_
          refine v_cs (pc := 29) (as := [.ref (bs γ + c), .int (iI (i : Int)), .int (iI 4)]) C (cy_X6_of G) (wM_X6_48 G) (k_X6_of G hc (by omega)) dX6_livelyLegs_29 rfl rfl (by decide) (by decide) (Nat.le_of_ble_eq_true rfl) zc (k_I (fun z29 s29 q29 => ?_))
          obtain ⟨⟨ez29, rz29⟩, rfl⟩ := q29
          refine v_if_le (pc := 32) C 39 (by first | omega | assumption) dX6_livelyLegs_32 (by decide) (fun h32 => ?_) (fun h32 => ?_)
          · refine v_iconst (pc := 39) C dX6_livelyLegs_39 ?_
            refine v_iadd (pc := 40) C dX6_livelyLegs_40 ?_
            refine v_ti (x2 := 0) (by decide) ?_
            refine v_iadd (pc := 41) C dX6_livelyLegs_41 ?_
            refine v_istore_n (pc := 42) C [(1, .int (iI ((livelyR r i) + 0))), (2, .int (iI (i : Int))), (0, .ref (bs γ + c))] dX6_livelyLegs_42 rfl (by decide) rfl ?_
            refine v_iinc (pc := 43) C 1 [(2, .int (iI ((i : Int) + 1))), (1, .int (iI ((livelyR r i) + 0))), (0, .ref (bs γ + c))] dX6_livelyLegs_43 rfl (by decide) rfl ?_
            refine v_goto (pc := 46) C 4 dX6_livelyLegs_46 (by decide) ?_
            exact v_lv _ [0, 1, 2] (by rw [show livelyR r (i + 1) = (livelyR r i) + 0 from by rw [livelyR]; (first | rw [if_pos (by omega)] | rw [if_neg (by omega)]); (first | rw [if_pos (by omega)] | rw [if_neg (by omega)]); try rfl]; rfl) (ih (i + 1) (by omega) (by omega))
          · refine v_iconst (pc := 35) C dX6_livelyLegs_35 ?_
            refine v_goto (pc := 36) C 40 dX6_livelyLegs_36 (by decide) ?_
            refine v_iadd (pc := 40) C dX6_livelyLegs_40 ?_
            refine v_ti (x2 := 1) (by decide) ?_
            refine v_iadd (pc := 41) C dX6_livelyLegs_41 ?_
            refine v_istore_n (pc := 42) C [(1, .int (iI ((livelyR r i) + 1))), (2, .int (iI (i : Int))), (0, .ref (bs γ + c))] dX6_livelyLegs_42 rfl (by decide) rfl ?_
            refine v_iinc (pc := 43) C 1 [(2, .int (iI ((i : Int) + 1))), (1, .int (iI ((livelyR r i) + 1))), (0, .ref (bs γ + c))] dX6_livelyLegs_43 rfl (by decide) rfl ?_
            refine v_goto (pc := 46) C 4 dX6_livelyLegs_46 (by decide) ?_
            exact v_lv _ [0, 1, 2] (by rw [show livelyR r (i + 1) = (livelyR r i) + 1 from by rw [livelyR]; (first | rw [if_pos (by omega)] | rw [if_neg (by omega)]); (first | rw [if_pos (by omega)] | rw [if_neg (by omega)]); try rfl]; rfl) (ih (i + 1) (by omega) (by omega))
        · refine v_iconst (pc := 21) C dX6_livelyLegs_21 ?_
          refine v_goto (pc := 22) C 26 dX6_livelyLegs_22 (by decide) ?_
          refine v_aload_n (pc := 26) C 2 rfl dX6_livelyLegs_26 ?_
          refine v_iload_n (pc := 27) C 0 rfl dX6_livelyLegs_27 ?_
          refine v_iconst (pc := 28) C dX6_livelyLegs_28 ?_
          refine v_cs (pc := 29) (as := [.ref (bs γ + c), .int (iI (i : Int)), .int (iI 4)]) C (cy_X6_of G) (wM_X6_48 G) (k_X6_of G hc (by omega)) dX6_livelyLegs_29 rfl rfl (by decide) (by decide) (Nat.le_of_ble_eq_true rfl) zc (k_I (fun z29_1 s29_1 q29_1 => ?_))
          obtain ⟨⟨ez29_1, rz29_1⟩, rfl⟩ := q29_1
          refine v_if_le (pc := 32) C 39 (by first | omega | assumption) dX6_livelyLegs_32 (by decide) (fun h32_1 => ?_) (fun h32_1 => ?_)
          · refine v_iconst (pc := 39) C dX6_livelyLegs_39 ?_
            refine v_iadd (pc := 40) C dX6_livelyLegs_40 ?_
            refine v_ti (x2 := 1) (by decide) ?_
            refine v_iadd (pc := 41) C dX6_livelyLegs_41 ?_
            refine v_istore_n (pc := 42) C [(1, .int (iI ((livelyR r i) + 1))), (2, .int (iI (i : Int))), (0, .ref (bs γ + c))] dX6_livelyLegs_42 rfl (by decide) rfl ?_
            refine v_iinc (pc := 43) C 1 [(2, .int (iI ((i : Int) + 1))), (1, .int (iI ((livelyR r i) + 1))), (0, .ref (bs γ + c))] dX6_livelyLegs_43 rfl (by decide) rfl ?_
            refine v_goto (pc := 46) C 4 dX6_livelyLegs_46 (by decide) ?_
            exact v_lv _ [0, 1, 2] (by rw [show livelyR r (i + 1) = (livelyR r i) + 1 from by rw [livelyR]; (first | rw [if_pos (by omega)] | rw [if_neg (by omega)]); (first | rw [if_pos (by omega)] | rw [if_neg (by omega)]); try rfl]; rfl) (ih (i + 1) (by omega) (by omega))
          · refine v_iconst (pc := 35) C dX6_livelyLegs_35 ?_
            refine v_goto (pc := 36) C 40 dX6_livelyLegs_36 (by decide) ?_
            refine v_iadd (pc := 40) C dX6_livelyLegs_40 ?_
            refine v_ti (x2 := 2) (by decide) ?_
            refine v_iadd (pc := 41) C dX6_livelyLegs_41 ?_
            refine v_istore_n (pc := 42) C [(1, .int (iI ((livelyR r i) + 2))), (2, .int (iI (i : Int))), (0, .ref (bs γ + c))] dX6_livelyLegs_42 rfl (by decide) rfl ?_
            refine v_iinc (pc := 43) C 1 [(2, .int (iI ((i : Int) + 1))), (1, .int (iI ((livelyR r i) + 2))), (0, .ref (bs γ + c))] dX6_livelyLegs_43 rfl (by decide) rfl ?_
            refine v_goto (pc := 46) C 4 dX6_livelyLegs_46 (by decide) ?_
            exact v_lv _ [0, 1, 2] (by rw [show livelyR r (i + 1) = (livelyR r i) + 2 from by rw [livelyR]; (first | rw [if_pos (by omega)] | rw [if_neg (by omega)]); (first | rw [if_pos (by omega)] | rw [if_neg (by omega)]); try rfl]; rfl) (ih (i + 1) (by omega) (by omega))
  exact v_lv _ [0, 1, 2] rfl (L4 ((r 0).toNat + 1) 0 (by omega) (by omega))

set_option maxHeartbeats 4000000 in
set_option maxRecDepth 100000 in
theorem k_X6_allPressures {γ : Gm} (G : Glo γ) {σ : St} {c : Nat} {r : Int → Int} (hc : sh c = (0, 268) ∧ 268 ≤ 4000) (h : Wf r) : Ct γ yX6_allPressures cX6_allPressures 3 (some .int) 2 [.ref (bs γ + c)] (setc σ c r) (pI (fun z σ2 => z = allPR r (r 0).toNat ∧ σ2 = setc σ c r)) := by
  refine Ct.of G (by decide +kernel) (Nat.le_of_ble_eq_true rfl) (fun φ C hr => ?_)
  have C : Cx γ φ RX6 cX6_allPressures 3 2 := C
  have hn0 := h.1
  refine v_lv [(0, .ref (bs γ + c))] [0] rfl ?_
  refine v_iconst (pc := 0) C dX6_allPressures_0 ?_
  refine v_istore_n (pc := 1) C [(1, .int (iI 0)), (0, .ref (bs γ + c))] dX6_allPressures_1 rfl (by decide) rfl ?_
  refine v_iconst (pc := 2) C dX6_allPressures_2 ?_
  refine v_istore_n (pc := 3) C [(2, .int (iI 0)), (1, .int (iI 0)), (0, .ref (bs γ + c))] dX6_allPressures_3 rfl (by decide) rfl ?_
  have L4 : ∀ (fu : Nat) (i : Nat), (hi : (i : Int) ≤ r 0) → (r 0).toNat - i < fu → Vw γ φ 3 0 0 (QE γ φ (pI (fun z σ2 => z = allPR r (r 0).toNat ∧ σ2 = setc σ c r))) (setc σ c r) 4 [(2, .int (iI (i : Int))), (1, .int (iI (allPR r i))), (0, .ref (bs γ + c))] [] := by
    intro fu
    induction fu with
    | zero => intro i hi hz; exact absurd hz (Nat.not_lt_zero _)
    | succ fu ih =>
      intro i hi hz
      have hb := allPR_b h i (by omega)
      refine v_iload_n (pc := 4) C 0 rfl dX6_allPressures_4 ?_
      refine v_aload_n (pc := 5) C 2 rfl dX6_allPressures_5 ?_
      refine v_iconst (pc := 6) C dX6_allPressures_6 ?_
      refine v_ialdR (pc := 7) C hc (by first | omega | assumption) dX6_allPressures_7 (fun z7 ez7 rz7 => ?_)
      refine v_icmp_ge (pc := 8) C 33 (by first | omega | assumption) (by first | omega | assumption) dX6_allPressures_8 (by decide) (fun h8 => ?_) (fun h8 => ?_)
      · refine v_iload_n (pc := 33) C 1 rfl dX6_allPressures_33 ?_
        exact v_iret (pc := 34) C hr (rfl) dX6_allPressures_34 (⟨_, rfl, by rw [show i = (r 0).toNat by omega], rfl⟩)
      · refine v_iload_n (pc := 11) C 1 rfl dX6_allPressures_11 ?_
        refine v_aload_n (pc := 12) C 2 rfl dX6_allPressures_12 ?_
        refine v_iload_n (pc := 13) C 0 rfl dX6_allPressures_13 ?_
        refine v_iconst (pc := 14) C dX6_allPressures_14 ?_
        refine v_cs (pc := 15) (as := [.ref (bs γ + c), .int (iI (i : Int)), .int (iI 3)]) C (cy_X6_of G) (wM_X6_48 G) (k_X6_of G hc (by omega)) dX6_allPressures_15 rfl rfl (by decide) (by decide) (Nat.le_of_ble_eq_true rfl) zc (k_I (fun z15 s15 q15 => ?_))
        obtain ⟨⟨ez15, rz15⟩, rfl⟩ := q15
        refine v_aload_n (pc := 18) C 2 rfl dX6_allPressures_18 ?_
        refine v_iload_n (pc := 19) C 0 rfl dX6_allPressures_19 ?_
        refine v_iconst (pc := 20) C dX6_allPressures_20 ?_
        refine v_cs (pc := 21) (as := [.ref (bs γ + c), .int (iI (i : Int)), .int (iI 4)]) C (cy_X6_of G) (wM_X6_48 G) (k_X6_of G hc (by omega)) dX6_allPressures_21 rfl rfl (by decide) (by decide) (Nat.le_of_ble_eq_true rfl) zc (k_I (fun z21 s21 q21 => ?_))
        obtain ⟨⟨ez21, rz21⟩, rfl⟩ := q21
        refine v_iadd (pc := 24) C dX6_allPressures_24 ?_
        refine v_iadd (pc := 25) C dX6_allPressures_25 ?_
        refine v_istore_n (pc := 26) C [(1, .int (iI ((allPR r i) + (z15 + z21)))), (2, .int (iI (i : Int))), (0, .ref (bs γ + c))] dX6_allPressures_26 rfl (by decide) rfl ?_
        refine v_iinc (pc := 27) C 1 [(2, .int (iI ((i : Int) + 1))), (1, .int (iI ((allPR r i) + (z15 + z21)))), (0, .ref (bs γ + c))] dX6_allPressures_27 rfl (by decide) rfl ?_
        refine v_goto (pc := 30) C 4 dX6_allPressures_30 (by decide) ?_
        exact v_lv _ [0, 1, 2] (by rw [show allPR r (i + 1) = (allPR r i) + (z15 + z21) from by rw [allPR, ← ez15, ← ez21]]; rfl) (ih (i + 1) (by omega) (by omega))
  exact v_lv _ [0, 1, 2] rfl (L4 ((r 0).toNat + 1) 0 (by omega) (by omega))
