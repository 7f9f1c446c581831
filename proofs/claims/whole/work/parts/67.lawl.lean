theorem iAnd_31 (x : Int) : 0 ≤ iAnd x 31 ∧ iAnd x 31 ≤ 31 := by
  unfold iAnd
  have h : (iI x &&& iI 31).toBitVec.toNat = (iI x).toBitVec.toNat % 32 := by
    rw [Int32.toBitVec_and, BitVec.toNat_and, show (iI 31).toBitVec.toNat = 2 ^ 5 - 1 from rfl, Nat.and_two_pow_sub_one_eq_mod]
  have h2 : (iI x &&& iI 31).toInt = ((iI x &&& iI 31).toBitVec.toNat : Int) := BitVec.toInt_eq_toNat_of_lt (by omega)
  omega
set_option maxHeartbeats 4000000 in
set_option maxRecDepth 100000 in
/-- one command of the script -/
theorem law_sw {γ : Gm} {φ : Fx} {b0 L : Nat} {xs : Nat → Int32} {A0 B0 : Nat} {Q : State → Prop} {j : Int} {τ : St} {w s a p u : Int} {t n x f d k i : Int → Int} (G : Glo γ) (N : GNc γ) (C : Cx γ φ RL cL_law 7 20) (E : LE γ φ b0 L xs) (hcr : A0 + 1 ≤ φ.2.2.1.cells ∧ B0 + 6 ≤ φ.2.2.1.slots) (hj : 0 ≤ j ∧ j + 6 ≤ L) (hI : LI τ w s a p u t n x f d k i)
    (K : ∀ (τ : St) (w s a p u : Int) (t n x f d k i : Int → Int), LI τ w s a p u t n x f d k i → Vw γ φ 7 (A0 + 1) (B0 + 6) Q τ 1932 [(4, .int (iI j)), (0, .ref b0), (1, .ref (bs γ + 0)), (2, .ref (bs γ + 255)), (3, .ref (bs γ + 263))] []) {z : Int} (hz : 0 ≤ z ∧ z ≤ 31) : Vw γ φ 7 A0 B0 Q τ 40 [(4, .int (iI j)), (0, .ref b0), (1, .ref (bs γ + 0)), (2, .ref (bs γ + 255)), (3, .ref (bs γ + 263))] [.int (iI z)] := by
  by_cases h28 : 28 < z
  · exact v_tabOut (pc := 40) C 1932 (by omega) dL_law_40 (Or.inr h28) (by decide) (v_wide (by omega) (by omega) (K _ _ _ _ _ _ _ _ _ _ _ _ _ hI))
  rcases (show z = 0 ∨ z = 1 ∨ z = 2 ∨ z = 3 ∨ z = 4 ∨ z = 5 ∨ z = 6 ∨ z = 7 ∨ z = 8 ∨ z = 9 ∨ z = 10 ∨ z = 11 ∨ z = 12 ∨ z = 13 ∨ z = 14 ∨ z = 15 ∨ z = 16 ∨ z = 17 ∨ z = 18 ∨ z = 19 ∨ z = 20 ∨ z = 21 ∨ z = 22 ∨ z = 23 ∨ z = 24 ∨ z = 25 ∨ z = 26 ∨ z = 27 ∨ z = 28 by omega) with rfl | rfl | rfl | rfl | rfl | rfl | rfl | rfl | rfl | rfl | rfl | rfl | rfl | rfl | rfl | rfl | rfl | rfl | rfl | rfl | rfl | rfl | rfl | rfl | rfl | rfl | rfl | rfl | rfl
  · exact v_tabIn (pc := 40) C 172 (by decide) dL_law_40 (by decide) rfl (by decide) (lc_append G N C E hcr hj hI K)
  · exact v_tabIn (pc := 40) C 228 (by decide) dL_law_40 (by decide) rfl (by decide) (lc_clearText G N C E hcr hj hI K)
  · exact v_tabIn (pc := 40) C 241 (by decide) dL_law_40 (by decide) rfl (by decide) (lc_errorPosition G N C E hcr hj hI K)
  · exact v_tabIn (pc := 40) C 254 (by decide) dL_law_40 (by decide) rfl (by decide) (lc_load G N C E hcr hj hI K)
  · exact v_tabIn (pc := 40) C 298 (by decide) dL_law_40 (by decide) rfl (by decide) (lc_about G N C E hcr hj hI K)
  · exact v_tabIn (pc := 40) C 354 (by decide) dL_law_40 (by decide) rfl (by decide) (lc_valveOf G N C E hcr hj hI K)
  · exact v_tabIn (pc := 40) C 422 (by decide) dL_law_40 (by decide) rfl (by decide) (lc_leg G N C E hcr hj hI K)
  · exact v_tabIn (pc := 40) C 490 (by decide) dL_law_40 (by decide) rfl (by decide) (lc_push G N C E hcr hj hI K)
  · exact v_tabIn (pc := 40) C 570 (by decide) dL_law_40 (by decide) rfl (by decide) (lc_ductOf G N C E hcr hj hI K)
  · exact v_tabIn (pc := 40) C 638 (by decide) dL_law_40 (by decide) rfl (by decide) (lc_setting G N C E hcr hj hI K)
  · exact v_tabIn (pc := 40) C 694 (by decide) dL_law_40 (by decide) rfl (by decide) (lc_valve G N C E hcr hj hI K)
  · exact v_tabIn (pc := 40) C 762 (by decide) dL_law_40 (by decide) rfl (by decide) (lc_duct G N C E hcr hj hI K)
  · exact v_tabIn (pc := 40) C 866 (by decide) dL_law_40 (by decide) rfl (by decide) (lc_remove G N C E hcr hj hI K)
  · exact v_tabIn (pc := 40) C 922 (by decide) dL_law_40 (by decide) rfl (by decide) (lc_press G N C E hcr hj hI K)
  · exact v_tabIn (pc := 40) C 1006 (by decide) dL_law_40 (by decide) rfl (by decide) (lc_leak G N C E hcr hj hI K)
  · exact v_tabIn (pc := 40) C 1074 (by decide) dL_law_40 (by decide) rfl (by decide) (lc_feed G N C E hcr hj hI K)
  · exact v_tabIn (pc := 40) C 1142 (by decide) dL_law_40 (by decide) rfl (by decide) (lc_set G N C E hcr hj hI K)
  · exact v_tabIn (pc := 40) C 1210 (by decide) dL_law_40 (by decide) rfl (by decide) (lc_ticks G N C E hcr hj hI K)
  · exact v_tabIn (pc := 40) C 1266 (by decide) dL_law_40 (by decide) rfl (by decide) (lc_undo G N C E hcr hj hI K)
  · exact v_tabIn (pc := 40) C 1310 (by decide) dL_law_40 (by decide) rfl (by decide) (lc_restIn G N C E hcr hj hI K)
  · exact v_tabIn (pc := 40) C 1323 (by decide) dL_law_40 (by decide) rfl (by decide) (lc_beat G N C E hcr hj hI K)
  · exact v_tabIn (pc := 40) C 1379 (by decide) dL_law_40 (by decide) rfl (by decide) (lc_rule G N C E hcr hj hI K)
  · exact v_tabIn (pc := 40) C 1459 (by decide) dL_law_40 (by decide) rfl (by decide) (lc_ifLeak G N C E hcr hj hI K)
  · exact v_tabIn (pc := 40) C 1539 (by decide) dL_law_40 (by decide) rfl (by decide) (lc_suspect G N C E hcr hj hI K)
  · exact v_tabIn (pc := 40) C 1607 (by decide) dL_law_40 (by decide) rfl (by decide) (lc_tightest G N C E hcr hj hI K)
  · exact v_tabIn (pc := 40) C 1620 (by decide) dL_law_40 (by decide) rfl (by decide) (lc_runScript G N C E hcr hj hI K)
  · exact v_tabIn (pc := 40) C 1720 (by decide) dL_law_40 (by decide) rfl (by decide) (lc_simulate G N C E hcr hj hI K)
  · exact v_tabIn (pc := 40) C 1820 (by decide) dL_law_40 (by decide) rfl (by decide) (lc_save G N C E hcr hj hI K)
  · exact v_tabIn (pc := 40) C 1876 (by decide) dL_law_40 (by decide) rfl (by decide) (lc_restore G N C E hcr hj hI K)
theorem law_loop {γ : Gm} {φ : Fx} {b0 L : Nat} {xs : Nat → Int32} {Q : State → Prop} (G : Glo γ) (N : GNc γ) (C : Cx γ φ RL cL_law 7 20) (E : LE γ φ b0 L xs) (hcr : 4000 ≤ φ.2.2.1.cells ∧ 40000 ≤ φ.2.2.1.slots)
    (hex : ∀ (a b : Nat) (τ : St) (lv : List (Nat × Value)), a ≤ 4000 → b ≤ 40000 → Vw γ φ 7 a b Q τ 1938 lv []) :
    ∀ (m j : Nat) (τ : St) (w s a p u : Int) (t n x f d k i : Int → Int), L < j + m → j ≤ L → LI τ w s a p u t n x f d k i → Vw γ φ 7 (264 + j) (11000 + j) Q τ 23 [(4, .int (iI (j : Int))), (0, .ref b0), (1, .ref (bs γ + 0)), (2, .ref (bs γ + 255)), (3, .ref (bs γ + 263))] [] := by
  have hL := E.2.2.2
  intro m
  induction m with
  | zero => intro j τ w s a p u t n x f d k i h1 h2; exact absurd h1 (by omega)
  | succ m ih =>
    intro j τ w s a p u t n x f d k i h1 h2 hI
    refine v_iload (pc := 23) C 0 rfl dL_law_23 ?_
    refine v_aload_n (pc := 25) C 1 rfl dL_law_25 ?_
    refine v_slen (pc := 26) C E dL_law_26 ?_
    refine v_bipush (pc := 27) C (by decide +kernel) dL_law_27 ?_
    refine v_isub (pc := 29) C dL_law_29 ?_
    refine v_icmp_gt (pc := 30) C 1938 (by omega) (by omega) dL_law_30 (by decide) (fun _ => ?_) (fun hj => ?_)
    · exact hex _ _ _ _ (by omega) (by omega)
    · refine v_aload_n (pc := 33) C 1 rfl dL_law_33 ?_
      refine v_iload (pc := 34) C 0 rfl dL_law_34 ?_
      refine v_sld (pc := 36) C E (by omega) dL_law_36 ?_
      refine v_bipush (pc := 37) C (by decide +kernel) dL_law_37 ?_
      refine v_iand (pc := 39) C dL_law_39 ?_
      refine law_sw G N C E ⟨by omega, by omega⟩ (by omega) hI (fun τ w s a p u t n x f d k i hI => ?_) (iAnd_31 _)
      refine v_iinc (pc := 1932) C 0 [(4, .int (iI ((j : Int) + 6))), (0, .ref b0), (1, .ref (bs γ + 0)), (2, .ref (bs γ + 255)), (3, .ref (bs γ + 263))] dL_law_1932 rfl (by decide) rfl ?_
      refine v_goto (pc := 1935) C 23 dL_law_1935 (by decide) ?_
      rw [show ((j : Int) + 6) = ((j + 6 : Nat) : Int) from by omega]
      exact v_wide (by omega) (by omega) (ih (j + 6) τ w s a p u t n x f d k i (by omega) (by omega) hI)
theorem Ok_σ0 : Ok σ0 := by
  refine ⟨fun c j => ?_, fun c j h1 h2 => ?_⟩
  · unfold σ0
    repeat' split
    all_goals omega
  · unfold σ0
    by_cases h257 : c = 257
    · subst h257
      rw [sh_257] at h2
      rw [if_pos rfl]
      have h3 : j < 0 ∨ (268 : Int) ≤ j := h2
      rw [if_neg (by omega), if_neg (by omega)]
    · rw [if_neg h257]
      by_cases h02 : sh c = (0, 2)
      · rw [if_pos h02]
        rw [h02] at h2
        have h3 : j < 0 ∨ (2 : Int) ≤ j := h2
        rw [if_neg (by omega), if_neg (by omega)]
      · rw [if_neg h02]
theorem p_done {γ : Gm} {φ : Fx} {nL a b : Nat} {Q : State → Prop} {E : Nat → va_E} {pc : Nat} {lv : List (Nat × Value)} {st : List Value} (h : FN γ E 0 264) (k : Vw γ φ nL a b Q σ0 pc lv st) : Vp γ φ nL a b Q E 264 pc lv st := fun H locs ls hW hS hl => by
  refine k H locs ls ⟨fun c q hq => ?_, Ok_σ0⟩ hS hl
  have hc : c < 264 := by
    have := (List.getElem?_eq_some_iff.mp hq).1
    simpa [wl] using this
  rw [wl_get γ σ0 hc] at hq
  cases hq
  exact h c (by omega) hc H (hW.1 c _ (WE_get γ E hc))
theorem LI_σ0 : LI σ0 0 0 0 0 0 (σ0 256) (σ0 257) (σ0 258) (σ0 259) (σ0 260) (σ0 261) (σ0 262) := by
  have e : ∀ c, c ≠ 257 → sh c ≠ (0, 2) → ∀ j, σ0 c j = 0 := fun c h1 h2 j => by rw [σ0_z h1 h2]
  have hn : σ0 257 = newR := by
    funext j
    unfold σ0 newR
    rw [if_pos rfl]
  have z262 : ∀ j, σ0 262 j = 0 := e 262 (by decide) (by rw [sh_262]; decide)
  have hR : Rep (getN σ0 4) newR := by
    refine Rep_new ⟨?_, ?_, ?_, ?_, ?_, ?_⟩
    · exact e 4 (by decide) (by rw [sh_4]; decide) 0
    · exact e 4 (by decide) (by rw [sh_4]; decide) 1
    · exact e 4 (by decide) (by rw [sh_4]; decide) 2
    · exact e 4 (by decide) (by rw [sh_4]; decide) 3
    · show σ0 5 0 = 2
      rw [σ0_s (by decide) sh_5]
      rfl
    · show σ0 5 1 = 30
      rw [σ0_s (by decide) sh_5]
      rfl
  refine ⟨⟨?_, rfl, rfl, rfl, rfl, rfl, rfl, rfl⟩, ⟨e 1 (by decide) (by rw [sh_1]; decide) 1, fun j a b => absurd b (by omega), by rw [hn]; exact hR, MemR.zero _ (e 17 (by decide) (by rw [sh_17]; decide) 0) (e 17 (by decide) (by rw [sh_17]; decide) 1), fun j hj => ⟨?_, fun h => ?_⟩⟩, ⟨by omega, by omega, fun j a b => absurd b (by omega), by rw [hn]; exact Wf_newR, fun j a b => absurd b (by omega), fun j hj => ⟨Or.inl (z262 j), fun h => ?_⟩⟩⟩
  · rw [σ0_z (by decide) (by rw [sh_255]; decide)]
    funext j
    unfold oS
    repeat' split
    all_goals rfl
  · rw [z262, e 202 (by decide) (by rw [sh_202]; decide)]
  · rw [z262] at h
    exact absurd h (by decide)
  · rw [z262] at h
    exact absurd h (by decide)
set_option maxHeartbeats 4000000 in
set_option maxRecDepth 100000 in
theorem law_start {γ : Gm} {φ : Fx} {b0 L : Nat} {xs : Nat → Int32} {Q : State → Prop} (G : Glo γ) (N : GNc γ) (C : Cx γ φ RL cL_law 7 20) (X : LE γ φ b0 L xs) (hcr : 4000 ≤ φ.2.2.1.cells ∧ 40000 ≤ φ.2.2.1.slots)
    (hex : ∀ (a b : Nat) (τ : St) (lv : List (Nat × Value)), a ≤ 4000 → b ≤ 40000 → Vw γ φ 7 a b Q τ 1938 lv []) (E : Nat → va_E) : Vp γ φ 7 0 0 Q E 0 0 [(0, .ref b0)] [] := by
  refine p_new (pc := 0) C inX5 goX5 tyX5 tyX5_ok (ci := 3) rfl (wCl_L_8 G) (wIn_X5 G) (wIz_X5 G) (fs := [.null, .null, .null, .null, .null, .null, .null]) df_X5 ⟨by omega, by omega⟩ dL_law_0 (fun E1 hE1 hO1 => ?_)
  refine p_m (m' := 1) rfl ?_
  refine p_dup (pc := 3) C rfl dL_law_3 ?_
  refine p_ci (pc := 4) (c := 0) (as := []) C (cy_X5_init G) rfl (wM_L_98 G) (k_X5_init G hE1) dL_law_4 rfl rfl (by decide) (by decide) (Nat.le_of_ble_eq_true rfl) ⟨by omega, by omega⟩ (fun E2 hF2 => ?_)
  refine p_m (m' := 255) rfl ?_
  refine p_astore_n (pc := 7) C [(1, .ref (bs γ + 0)), (0, .ref b0)] dL_law_7 rfl (by decide) rfl ?_
  refine p_new (pc := 8) C inX6 goX6 tyX6 tyX6_ok (ci := 4) rfl (wCl_L_99 G) (wIn_X6 G) (wIz_X6 G) (fs := [.int 0, .null, .int 0, .null, .null, .null, .null, .int 0, .null, .null, .int 0, .int 0]) df_X6 ⟨by omega, by omega⟩ dL_law_8 (fun E3 hE3 hO3 => ?_)
  have hF3 := hF2.kept (E' := E3) (fun q q1 q2 => hO3 q (by omega))
  refine p_m (m' := 256) rfl ?_
  refine p_dup (pc := 11) C rfl dL_law_11 ?_
  refine p_ci (pc := 12) (c := 255) (as := []) C (cy_X6_init G) rfl (wM_L_101 G) (k_X6_init G hE3) dL_law_12 rfl rfl (by decide) (by decide) (Nat.le_of_ble_eq_true rfl) ⟨by omega, by omega⟩ (fun E4 hF4 => ?_)
  obtain ⟨hN4, hO4⟩ := hF4
  have hF4 := (hF3.kept (E' := E4) (fun q q1 q2 => hO4 q (by omega))).cat hN4
  refine p_m (m' := 263) rfl ?_
  refine p_astore_n (pc := 15) C [(2, .ref (bs γ + 255)), (1, .ref (bs γ + 0)), (0, .ref b0)] dL_law_15 rfl (by decide) rfl ?_
  refine p_iconst (pc := 16) C dL_law_16 ?_
  refine p_newa (pc := 17) C (ty := .long) rfl (wAC_long G) 3 rfl (fun _ _ h => h) (N := 1) (a0 := (1, .inr (.inl (fun _ => 0)))) (fun _ => rfl) (by decide) (by decide) ⟨by omega, by omega⟩ dL_law_17 (fun E5 hE5 hO5 => ?_)
  have hF5 := (hF4.kept (E' := E5) (fun q q1 q2 => hO5 q (by omega))).cat (FN.one (q := 263) (by
    rw [hE5]
    refine ft_l sh_263 (fun j hj => ?_)
    rw [σ0_z (by decide) (by rw [sh_263]; decide)]
    rfl))
  refine p_m (m' := 264) rfl ?_
  refine p_astore_n (pc := 19) C [(3, .ref (bs γ + 263)), (2, .ref (bs γ + 255)), (1, .ref (bs γ + 0)), (0, .ref b0)] dL_law_19 rfl (by decide) rfl ?_
  refine p_done hF5 ?_
  refine v_iconst (pc := 20) C dL_law_20 ?_
  refine v_istore (pc := 21) C [(4, .int (iI 0)), (3, .ref (bs γ + 263)), (2, .ref (bs γ + 255)), (1, .ref (bs γ + 0)), (0, .ref b0)] dL_law_21 (by decide) rfl ?_
  refine v_lv [(4, .int (iI ((0 : Nat) : Int))), (0, .ref b0), (1, .ref (bs γ + 0)), (2, .ref (bs γ + 255)), (3, .ref (bs γ + 263))] [0, 4, 3, 2, 1] rfl ?_
  exact v_wide (by omega) (by omega) (law_loop G N C X hcr hex (L + 1) 0 σ0 0 0 0 0 0 _ _ _ _ _ _ _ (by omega) (by omega) LI_σ0)
