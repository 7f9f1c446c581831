abbrev hL_append : List (Nat × Nat × Nat × Nat) := [(0, 9, 12, 13), (0, 9, 15, 15)]
theorem cy_L_append {γ : Gm} (G : Glo γ) : (yL_append.cls ≠ "java/lang/invoke/MethodHandle" ∧ yL_append.cls ≠ "java/lang/invoke/VarHandle") ∧ (∀ sig, parseMethodDescriptor yL_append.desc = some sig → 3 = sig.parameters.length) ∧ Wrd γ (.codeWith yL_append cL_append 4 (some .int) hL_append) ∧ Wrd γ (.initialized yL_append.cls) ∧ Wrd γ (.static yL_append) := ⟨⟨by decide +kernel, by decide +kernel⟩, cy_n (by decide +kernel), wrd_of G 328 (by decide +kernel) (by decide +kernel), wrd_of G 23 (by decide +kernel) (by decide +kernel), wrd_of G 327 (by decide +kernel) (by decide +kernel)⟩
set_option maxHeartbeats 4000000 in
set_option maxRecDepth 100000 in
theorem k_L_append {γ : Gm} (G : Glo γ) (N : GNc γ) {σ : St} {s a : Int} {t n d k i : Int → Int} {c : Int} (hC : CRep σ s a t n d k i) (hO : AOk s a t n d k i) (hc : R3 c)  : Cww γ yL_append cL_append 4 (some .int) hL_append 3 [.ref (bs γ + 0), .int (iI c), .ref (bs γ + 263)] σ (pI (fun z σ2 => lQ σ (op_append s a t n d k i c) z σ2)) := by
  refine Cww.of G (by decide +kernel) (Nat.le_of_ble_eq_true rfl) (fun φ C hcr ht hr => ?_)
  have C : Cx γ φ RL cL_append 4 3 := C
  refine v_lv [(0, .ref (bs γ + 0)), (1, .int (iI c)), (2, .ref (bs γ + 263))] [0, 1, 2] rfl ?_
  refine v_aload_n (pc := 0) C 2 rfl dL_append_0 ?_
  refine v_iconst (pc := 1) C dL_append_1 ?_
  refine v_aload_n (pc := 2) C 0 rfl dL_append_2 ?_
  refine v_iload_n (pc := 3) C 1 rfl dL_append_3 ?_
  refine v_cvX (pc := 4) (as := [.int (iI c)]) C (cy_X5_append G) (wM_L_7 G) sh_0 (ci := 3) rfl rfl (k_X5_append G hC hO hc) dL_append_4 rfl rfl (by decide) (by decide) (Nat.le_of_ble_eq_true rfl) ⟨by omega, by omega⟩ ?_ (k_I (fun z4 s4 q4 => ?_))
  · rintro E σ9 (⟨rfl, hx⟩ | ⟨rfl, hx⟩)
    · refine v_cat (hh := hL_append) C ht [] ⟨0, 9, 12, 13⟩ [⟨0, 9, 15, 15⟩] rfl (fun _ h => nomatch h) (by decide) (by decide) (wL_A G) (wK_A G) (fun q9 => ?_)
      refine v_astore_n (pc := 12) C [(3, .ref q9), (0, .ref (bs γ + 0)), (1, .int (iI c)), (2, .ref (bs γ + 263))] dL_append_12 rfl (by decide) rfl ?_
      refine v_iconst (pc := 13) C dL_append_13 ?_
      exact v_iretW (pc := 14) C ⟨by omega, by omega⟩ hr rfl dL_append_14 ⟨_, rfl, lQ_x hx (by decide)⟩
    · refine v_cat (hh := hL_append) C ht [⟨0, 9, 12, 13⟩] ⟨0, 9, 15, 15⟩ [] rfl (List.forall_mem_cons.mpr ⟨⟨by decide, _, wL_A G, N.1.1⟩, fun _ h => nomatch h⟩) (by decide) (by decide) (wL_S G) (wK_S G) (fun q9 => ?_)
      refine v_astore_n (pc := 15) C [(3, .ref q9), (0, .ref (bs γ + 0)), (1, .int (iI c)), (2, .ref (bs γ + 263))] dL_append_15 rfl (by decide) rfl ?_
      refine v_iconst (pc := 16) C dL_append_16 ?_
      exact v_iretW (pc := 17) C ⟨by omega, by omega⟩ hr rfl dL_append_17 ⟨_, rfl, lQ_x hx (by decide)⟩
  refine v_bm ?_
  refine v_i2l (pc := 7) C (bmz_r _) dL_append_7 ?_
  refine v_last (pc := 8) C sh_263 (by decide) (by decide) (by have := bmz_r z4; omega) dL_append_8 ?_
  refine v_goto (pc := 9) C 18 dL_append_9 (by decide) ?_
  refine v_iconst (pc := 18) C dL_append_18 ?_
  exact v_iretW (pc := 19) C ⟨by omega, by omega⟩ hr rfl dL_append_19 ⟨_, rfl, lQ_ok q4⟩

abbrev hL_load : List (Nat × Nat × Nat × Nat) := [(0, 8, 11, 15)]
theorem cy_L_load {γ : Gm} (G : Glo γ) : (yL_load.cls ≠ "java/lang/invoke/MethodHandle" ∧ yL_load.cls ≠ "java/lang/invoke/VarHandle") ∧ (∀ sig, parseMethodDescriptor yL_load.desc = some sig → 2 = sig.parameters.length) ∧ Wrd γ (.codeWith yL_load cL_load 3 (some .int) hL_load) ∧ Wrd γ (.initialized yL_load.cls) ∧ Wrd γ (.static yL_load) := ⟨⟨by decide +kernel, by decide +kernel⟩, cy_n (by decide +kernel), wrd_of G 418 (by decide +kernel) (by decide +kernel), wrd_of G 23 (by decide +kernel) (by decide +kernel), wrd_of G 417 (by decide +kernel) (by decide +kernel)⟩
set_option maxHeartbeats 4000000 in
set_option maxRecDepth 100000 in
theorem k_L_load {γ : Gm} (G : Glo γ) (N : GNc γ) {σ : St} {s a : Int} {t n d k i : Int → Int} (hC : CRep σ s a t n d k i) (hO : AOk s a t n d k i)   : Cww γ yL_load cL_load 3 (some .int) hL_load 8 [.ref (bs γ + 0), .ref (bs γ + 263)] σ (pI (fun z σ2 => lQ σ (op_load s a t n d k i) z σ2)) := by
  refine Cww.of G (by decide +kernel) (Nat.le_of_ble_eq_true rfl) (fun φ C hcr ht hr => ?_)
  have C : Cx γ φ RL cL_load 3 8 := C
  refine v_lv [(0, .ref (bs γ + 0)), (1, .ref (bs γ + 263))] [0, 1] rfl ?_
  refine v_aload_n (pc := 0) C 1 rfl dL_load_0 ?_
  refine v_iconst (pc := 1) C dL_load_1 ?_
  refine v_aload_n (pc := 2) C 0 rfl dL_load_2 ?_
  refine v_cvX (pc := 3) (as := []) C (cy_X5_load G) (wM_L_17 G) sh_0 (ci := 3) rfl rfl (k_X5_load G hC hO) dL_load_3 rfl rfl (by decide) (by decide) (Nat.le_of_ble_eq_true rfl) ⟨by omega, by omega⟩ ?_ (k_I (fun z3 s3 q3 => ?_))
  · rintro E σ9 (⟨rfl, hx⟩)
    refine v_cat (hh := hL_load) C ht [] ⟨0, 8, 11, 15⟩ [] rfl (fun _ h => nomatch h) (by decide) (by decide) (wL_S G) (wK_S G) (fun q9 => ?_)
    refine v_astore_n (pc := 11) C [(2, .ref q9), (0, .ref (bs γ + 0)), (1, .ref (bs γ + 263))] dL_load_11 rfl (by decide) rfl ?_
    refine v_iconst (pc := 12) C dL_load_12 ?_
    exact v_iretW (pc := 13) C ⟨by omega, by omega⟩ hr rfl dL_load_13 ⟨_, rfl, lQ_x hx (by decide)⟩
  refine v_bm ?_
  refine v_i2l (pc := 6) C (bmz_r _) dL_load_6 ?_
  refine v_last (pc := 7) C sh_263 (by decide) (by decide) (by have := bmz_r z3; omega) dL_load_7 ?_
  refine v_goto (pc := 8) C 14 dL_load_8 (by decide) ?_
  refine v_iconst (pc := 14) C dL_load_14 ?_
  exact v_iretW (pc := 15) C ⟨by omega, by omega⟩ hr rfl dL_load_15 ⟨_, rfl, lQ_ok q3⟩

abbrev hL_about : List (Nat × Nat × Nat × Nat) := [(0, 9, 12, 13)]
theorem cy_L_about {γ : Gm} (G : Glo γ) : (yL_about.cls ≠ "java/lang/invoke/MethodHandle" ∧ yL_about.cls ≠ "java/lang/invoke/VarHandle") ∧ (∀ sig, parseMethodDescriptor yL_about.desc = some sig → 3 = sig.parameters.length) ∧ Wrd γ (.codeWith yL_about cL_about 4 (some .int) hL_about) ∧ Wrd γ (.initialized yL_about.cls) ∧ Wrd γ (.static yL_about) := ⟨⟨by decide +kernel, by decide +kernel⟩, cy_n (by decide +kernel), wrd_of G 779 (by decide +kernel) (by decide +kernel), wrd_of G 23 (by decide +kernel) (by decide +kernel), wrd_of G 778 (by decide +kernel) (by decide +kernel)⟩
set_option maxHeartbeats 4000000 in
set_option maxRecDepth 100000 in
theorem k_L_about {γ : Gm} (G : Glo γ) (N : GNc γ) {σ : St} {s a : Int} {t n d k i : Int → Int} {w : Int} (hC : CRep σ s a t n d k i) (hO : AOk s a t n d k i) (hw : R3 w)  : Cww γ yL_about cL_about 4 (some .int) hL_about 3 [.ref (bs γ + 0), .int (iI w), .ref (bs γ + 263)] σ (pI (fun z σ2 => lQ σ (op_about s a t n d k i w) z σ2)) := by
  refine Cww.of G (by decide +kernel) (Nat.le_of_ble_eq_true rfl) (fun φ C hcr ht hr => ?_)
  have C : Cx γ φ RL cL_about 4 3 := C
  refine v_lv [(0, .ref (bs γ + 0)), (1, .int (iI w)), (2, .ref (bs γ + 263))] [0, 1, 2] rfl ?_
  refine v_aload_n (pc := 0) C 2 rfl dL_about_0 ?_
  refine v_iconst (pc := 1) C dL_about_1 ?_
  refine v_aload_n (pc := 2) C 0 rfl dL_about_2 ?_
  refine v_iload_n (pc := 3) C 1 rfl dL_about_3 ?_
  refine v_cvX (pc := 4) (as := [.int (iI w)]) C (cy_X5_about G) (wM_L_21 G) sh_0 (ci := 3) rfl rfl (k_X5_about G hC hO hw) dL_about_4 rfl rfl (by decide) (by decide) (Nat.le_of_ble_eq_true rfl) ⟨by omega, by omega⟩ ?_ (k_I (fun z4 s4 q4 => ?_))
  · rintro E σ9 (⟨rfl, hx⟩)
    refine v_cat (hh := hL_about) C ht [] ⟨0, 9, 12, 13⟩ [] rfl (fun _ h => nomatch h) (by decide) (by decide) (wL_A G) (wK_A G) (fun q9 => ?_)
    refine v_astore_n (pc := 12) C [(3, .ref q9), (0, .ref (bs γ + 0)), (1, .int (iI w)), (2, .ref (bs γ + 263))] dL_about_12 rfl (by decide) rfl ?_
    refine v_iconst (pc := 13) C dL_about_13 ?_
    exact v_iretW (pc := 14) C ⟨by omega, by omega⟩ hr rfl dL_about_14 ⟨_, rfl, lQ_x hx (by decide)⟩
  refine v_bm ?_
  refine v_i2l (pc := 7) C (bmz_r _) dL_about_7 ?_
  refine v_last (pc := 8) C sh_263 (by decide) (by decide) (by have := bmz_r z4; omega) dL_about_8 ?_
  refine v_goto (pc := 9) C 15 dL_about_9 (by decide) ?_
  refine v_iconst (pc := 15) C dL_about_15 ?_
  exact v_iretW (pc := 16) C ⟨by omega, by omega⟩ hr rfl dL_about_16 ⟨_, rfl, lQ_ok q4⟩

abbrev hL_valveOf : List (Nat × Nat × Nat × Nat) := [(0, 10, 13, 28), (0, 10, 17, 13)]
theorem cy_L_valveOf {γ : Gm} (G : Glo γ) : (yL_valveOf.cls ≠ "java/lang/invoke/MethodHandle" ∧ yL_valveOf.cls ≠ "java/lang/invoke/VarHandle") ∧ (∀ sig, parseMethodDescriptor yL_valveOf.desc = some sig → 4 = sig.parameters.length) ∧ Wrd γ (.codeWith yL_valveOf cL_valveOf 5 (some .int) hL_valveOf) ∧ Wrd γ (.initialized yL_valveOf.cls) ∧ Wrd γ (.static yL_valveOf) := ⟨⟨by decide +kernel, by decide +kernel⟩, cy_n (by decide +kernel), wrd_of G 798 (by decide +kernel) (by decide +kernel), wrd_of G 23 (by decide +kernel) (by decide +kernel), wrd_of G 797 (by decide +kernel) (by decide +kernel)⟩
set_option maxHeartbeats 4000000 in
set_option maxRecDepth 100000 in
theorem k_L_valveOf {γ : Gm} (G : Glo γ) (N : GNc γ) {σ : St} {s a : Int} {t n d k i : Int → Int} {v w : Int} (hC : CRep σ s a t n d k i) (hO : AOk s a t n d k i) (hv : R3 v) (hw : R3 w)  : Cww γ yL_valveOf cL_valveOf 5 (some .int) hL_valveOf 4 [.ref (bs γ + 0), .int (iI v), .int (iI w), .ref (bs γ + 263)] σ (pI (fun z σ2 => lQ σ (op_valveOf s a t n d k i v w) z σ2)) := by
  refine Cww.of G (by decide +kernel) (Nat.le_of_ble_eq_true rfl) (fun φ C hcr ht hr => ?_)
  have C : Cx γ φ RL cL_valveOf 5 4 := C
  refine v_lv [(0, .ref (bs γ + 0)), (1, .int (iI v)), (2, .int (iI w)), (3, .ref (bs γ + 263))] [0, 1, 2, 3] rfl ?_
  refine v_aload_n (pc := 0) C 3 rfl dL_valveOf_0 ?_
  refine v_iconst (pc := 1) C dL_valveOf_1 ?_
  refine v_aload_n (pc := 2) C 0 rfl dL_valveOf_2 ?_
  refine v_iload_n (pc := 3) C 1 rfl dL_valveOf_3 ?_
  refine v_iload_n (pc := 4) C 2 rfl dL_valveOf_4 ?_
  refine v_cvX (pc := 5) (as := [.int (iI v), .int (iI w)]) C (cy_X5_valveOf G) (wM_L_24 G) sh_0 (ci := 3) rfl rfl (k_X5_valveOf G hC hO hv hw) dL_valveOf_5 rfl rfl (by decide) (by decide) (Nat.le_of_ble_eq_true rfl) ⟨by omega, by omega⟩ ?_ (k_I (fun z5 s5 q5 => ?_))
  · rintro E σ9 (⟨rfl, hx⟩ | ⟨rfl, hx⟩)
    · refine v_cat (hh := hL_valveOf) C ht [] ⟨0, 10, 13, 28⟩ [⟨0, 10, 17, 13⟩] rfl (fun _ h => nomatch h) (by decide) (by decide) (wL_I G) (wK_I G) (fun q9 => ?_)
      refine v_astore (pc := 13) C [(4, .ref q9), (0, .ref (bs γ + 0)), (1, .int (iI v)), (2, .int (iI w)), (3, .ref (bs γ + 263))] dL_valveOf_13 (by decide) rfl ?_
      refine v_iconst (pc := 15) C dL_valveOf_15 ?_
      exact v_iretW (pc := 16) C ⟨by omega, by omega⟩ hr rfl dL_valveOf_16 ⟨_, rfl, lQ_x hx (by decide)⟩
    · refine v_cat (hh := hL_valveOf) C ht [⟨0, 10, 13, 28⟩] ⟨0, 10, 17, 13⟩ [] rfl (List.forall_mem_cons.mpr ⟨⟨by decide, _, wL_I G, N.2.2.1⟩, fun _ h => nomatch h⟩) (by decide) (by decide) (wL_A G) (wK_A G) (fun q9 => ?_)
      refine v_astore (pc := 17) C [(4, .ref q9), (0, .ref (bs γ + 0)), (1, .int (iI v)), (2, .int (iI w)), (3, .ref (bs γ + 263))] dL_valveOf_17 (by decide) rfl ?_
      refine v_iconst (pc := 19) C dL_valveOf_19 ?_
      exact v_iretW (pc := 20) C ⟨by omega, by omega⟩ hr rfl dL_valveOf_20 ⟨_, rfl, lQ_x hx (by decide)⟩
  refine v_bm ?_
  refine v_i2l (pc := 8) C (bmz_r _) dL_valveOf_8 ?_
  refine v_last (pc := 9) C sh_263 (by decide) (by decide) (by have := bmz_r z5; omega) dL_valveOf_9 ?_
  refine v_goto (pc := 10) C 21 dL_valveOf_10 (by decide) ?_
  refine v_iconst (pc := 21) C dL_valveOf_21 ?_
  exact v_iretW (pc := 22) C ⟨by omega, by omega⟩ hr rfl dL_valveOf_22 ⟨_, rfl, lQ_ok q5⟩

abbrev hL_leg : List (Nat × Nat × Nat × Nat) := [(0, 10, 13, 28)]
theorem cy_L_leg {γ : Gm} (G : Glo γ) : (yL_leg.cls ≠ "java/lang/invoke/MethodHandle" ∧ yL_leg.cls ≠ "java/lang/invoke/VarHandle") ∧ (∀ sig, parseMethodDescriptor yL_leg.desc = some sig → 4 = sig.parameters.length) ∧ Wrd γ (.codeWith yL_leg cL_leg 5 (some .int) hL_leg) ∧ Wrd γ (.initialized yL_leg.cls) ∧ Wrd γ (.static yL_leg) := ⟨⟨by decide +kernel, by decide +kernel⟩, cy_n (by decide +kernel), wrd_of G 830 (by decide +kernel) (by decide +kernel), wrd_of G 23 (by decide +kernel) (by decide +kernel), wrd_of G 829 (by decide +kernel) (by decide +kernel)⟩
set_option maxHeartbeats 4000000 in
set_option maxRecDepth 100000 in
theorem k_L_leg {γ : Gm} (G : Glo γ) (N : GNc γ) {σ : St} {s a : Int} {t n d k i : Int → Int} {v g : Int} (hC : CRep σ s a t n d k i) (hO : AOk s a t n d k i) (hv : R3 v) (hg : R3 g)  : Cww γ yL_leg cL_leg 5 (some .int) hL_leg 4 [.ref (bs γ + 0), .int (iI v), .int (iI g), .ref (bs γ + 263)] σ (pI (fun z σ2 => lQ σ (op_leg s a t n d k i v g) z σ2)) := by
  refine Cww.of G (by decide +kernel) (Nat.le_of_ble_eq_true rfl) (fun φ C hcr ht hr => ?_)
  have C : Cx γ φ RL cL_leg 5 4 := C
  refine v_lv [(0, .ref (bs γ + 0)), (1, .int (iI v)), (2, .int (iI g)), (3, .ref (bs γ + 263))] [0, 1, 2, 3] rfl ?_
  refine v_aload_n (pc := 0) C 3 rfl dL_leg_0 ?_
  refine v_iconst (pc := 1) C dL_leg_1 ?_
  refine v_aload_n (pc := 2) C 0 rfl dL_leg_2 ?_
  refine v_iload_n (pc := 3) C 1 rfl dL_leg_3 ?_
  refine v_iload_n (pc := 4) C 2 rfl dL_leg_4 ?_
  refine v_cvX (pc := 5) (as := [.int (iI v), .int (iI g)]) C (cy_X5_leg G) (wM_L_30 G) sh_0 (ci := 3) rfl rfl (k_X5_leg G hC hO hv hg) dL_leg_5 rfl rfl (by decide) (by decide) (Nat.le_of_ble_eq_true rfl) ⟨by omega, by omega⟩ ?_ (k_I (fun z5 s5 q5 => ?_))
  · rintro E σ9 (⟨rfl, hx⟩)
    refine v_cat (hh := hL_leg) C ht [] ⟨0, 10, 13, 28⟩ [] rfl (fun _ h => nomatch h) (by decide) (by decide) (wL_I G) (wK_I G) (fun q9 => ?_)
    refine v_astore (pc := 13) C [(4, .ref q9), (0, .ref (bs γ + 0)), (1, .int (iI v)), (2, .int (iI g)), (3, .ref (bs γ + 263))] dL_leg_13 (by decide) rfl ?_
    refine v_iconst (pc := 15) C dL_leg_15 ?_
    exact v_iretW (pc := 16) C ⟨by omega, by omega⟩ hr rfl dL_leg_16 ⟨_, rfl, lQ_x hx (by decide)⟩
  refine v_bm ?_
  refine v_i2l (pc := 8) C (bmz_r _) dL_leg_8 ?_
  refine v_last (pc := 9) C sh_263 (by decide) (by decide) (by have := bmz_r z5; omega) dL_leg_9 ?_
  refine v_goto (pc := 10) C 17 dL_leg_10 (by decide) ?_
  refine v_iconst (pc := 17) C dL_leg_17 ?_
  exact v_iretW (pc := 18) C ⟨by omega, by omega⟩ hr rfl dL_leg_18 ⟨_, rfl, lQ_ok q5⟩

abbrev hL_push : List (Nat × Nat × Nat × Nat) := [(0, 12, 15, 28), (0, 12, 19, 13)]
theorem cy_L_push {γ : Gm} (G : Glo γ) : (yL_push.cls ≠ "java/lang/invoke/MethodHandle" ∧ yL_push.cls ≠ "java/lang/invoke/VarHandle") ∧ (∀ sig, parseMethodDescriptor yL_push.desc = some sig → 5 = sig.parameters.length) ∧ Wrd γ (.codeWith yL_push cL_push 6 (some .int) hL_push) ∧ Wrd γ (.initialized yL_push.cls) ∧ Wrd γ (.static yL_push) := ⟨⟨by decide +kernel, by decide +kernel⟩, cy_n (by decide +kernel), wrd_of G 839 (by decide +kernel) (by decide +kernel), wrd_of G 23 (by decide +kernel) (by decide +kernel), wrd_of G 838 (by decide +kernel) (by decide +kernel)⟩
set_option maxHeartbeats 4000000 in
set_option maxRecDepth 100000 in
theorem k_L_push {γ : Gm} (G : Glo γ) (N : GNc γ) {σ : St} {s a : Int} {t n d k i : Int → Int} {v g w : Int} (hC : CRep σ s a t n d k i) (hO : AOk s a t n d k i) (hv : R3 v) (hg : R3 g) (hw : R3 w)  : Cww γ yL_push cL_push 6 (some .int) hL_push 5 [.ref (bs γ + 0), .int (iI v), .int (iI g), .int (iI w), .ref (bs γ + 263)] σ (pI (fun z σ2 => lQ σ (op_push s a t n d k i v g w) z σ2)) := by
  refine Cww.of G (by decide +kernel) (Nat.le_of_ble_eq_true rfl) (fun φ C hcr ht hr => ?_)
  have C : Cx γ φ RL cL_push 6 5 := C
  refine v_lv [(0, .ref (bs γ + 0)), (1, .int (iI v)), (2, .int (iI g)), (3, .int (iI w)), (4, .ref (bs γ + 263))] [0, 1, 2, 3, 4] rfl ?_
  refine v_aload (pc := 0) C 4 rfl dL_push_0 ?_
  refine v_iconst (pc := 2) C dL_push_2 ?_
  refine v_aload_n (pc := 3) C 0 rfl dL_push_3 ?_
  refine v_iload_n (pc := 4) C 1 rfl dL_push_4 ?_
  refine v_iload_n (pc := 5) C 2 rfl dL_push_5 ?_
  refine v_iload_n (pc := 6) C 3 rfl dL_push_6 ?_
  refine v_cvX (pc := 7) (as := [.int (iI v), .int (iI g), .int (iI w)]) C (cy_X5_push G) (wM_L_33 G) sh_0 (ci := 3) rfl rfl (k_X5_push G hC hO hv hg hw) dL_push_7 rfl rfl (by decide) (by decide) (Nat.le_of_ble_eq_true rfl) ⟨by omega, by omega⟩ ?_ (k_I (fun z7 s7 q7 => ?_))
  · rintro E σ9 (⟨rfl, hx⟩ | ⟨rfl, hx⟩)
    · refine v_cat (hh := hL_push) C ht [] ⟨0, 12, 15, 28⟩ [⟨0, 12, 19, 13⟩] rfl (fun _ h => nomatch h) (by decide) (by decide) (wL_I G) (wK_I G) (fun q9 => ?_)
      refine v_astore (pc := 15) C [(5, .ref q9), (0, .ref (bs γ + 0)), (1, .int (iI v)), (2, .int (iI g)), (3, .int (iI w)), (4, .ref (bs γ + 263))] dL_push_15 (by decide) rfl ?_
      refine v_iconst (pc := 17) C dL_push_17 ?_
      exact v_iretW (pc := 18) C ⟨by omega, by omega⟩ hr rfl dL_push_18 ⟨_, rfl, lQ_x hx (by decide)⟩
    · refine v_cat (hh := hL_push) C ht [⟨0, 12, 15, 28⟩] ⟨0, 12, 19, 13⟩ [] rfl (List.forall_mem_cons.mpr ⟨⟨by decide, _, wL_I G, N.2.2.1⟩, fun _ h => nomatch h⟩) (by decide) (by decide) (wL_A G) (wK_A G) (fun q9 => ?_)
      refine v_astore (pc := 19) C [(5, .ref q9), (0, .ref (bs γ + 0)), (1, .int (iI v)), (2, .int (iI g)), (3, .int (iI w)), (4, .ref (bs γ + 263))] dL_push_19 (by decide) rfl ?_
      refine v_iconst (pc := 21) C dL_push_21 ?_
      exact v_iretW (pc := 22) C ⟨by omega, by omega⟩ hr rfl dL_push_22 ⟨_, rfl, lQ_x hx (by decide)⟩
  refine v_bm ?_
  refine v_i2l (pc := 10) C (bmz_r _) dL_push_10 ?_
  refine v_last (pc := 11) C sh_263 (by decide) (by decide) (by have := bmz_r z7; omega) dL_push_11 ?_
  refine v_goto (pc := 12) C 23 dL_push_12 (by decide) ?_
  refine v_iconst (pc := 23) C dL_push_23 ?_
  exact v_iretW (pc := 24) C ⟨by omega, by omega⟩ hr rfl dL_push_24 ⟨_, rfl, lQ_ok q7⟩

abbrev hL_ductOf : List (Nat × Nat × Nat × Nat) := [(0, 10, 13, 28), (0, 10, 17, 13)]
theorem cy_L_ductOf {γ : Gm} (G : Glo γ) : (yL_ductOf.cls ≠ "java/lang/invoke/MethodHandle" ∧ yL_ductOf.cls ≠ "java/lang/invoke/VarHandle") ∧ (∀ sig, parseMethodDescriptor yL_ductOf.desc = some sig → 4 = sig.parameters.length) ∧ Wrd γ (.codeWith yL_ductOf cL_ductOf 5 (some .int) hL_ductOf) ∧ Wrd γ (.initialized yL_ductOf.cls) ∧ Wrd γ (.static yL_ductOf) := ⟨⟨by decide +kernel, by decide +kernel⟩, cy_n (by decide +kernel), wrd_of G 847 (by decide +kernel) (by decide +kernel), wrd_of G 23 (by decide +kernel) (by decide +kernel), wrd_of G 846 (by decide +kernel) (by decide +kernel)⟩
set_option maxHeartbeats 4000000 in
set_option maxRecDepth 100000 in
theorem k_L_ductOf {γ : Gm} (G : Glo γ) (N : GNc γ) {σ : St} {s a : Int} {t n d k i : Int → Int} {e w : Int} (hC : CRep σ s a t n d k i) (hO : AOk s a t n d k i) (he : R3 e) (hw : R3 w)  : Cww γ yL_ductOf cL_ductOf 5 (some .int) hL_ductOf 4 [.ref (bs γ + 0), .int (iI e), .int (iI w), .ref (bs γ + 263)] σ (pI (fun z σ2 => lQ σ (op_ductOf s a t n d k i e w) z σ2)) := by
  refine Cww.of G (by decide +kernel) (Nat.le_of_ble_eq_true rfl) (fun φ C hcr ht hr => ?_)
  have C : Cx γ φ RL cL_ductOf 5 4 := C
  refine v_lv [(0, .ref (bs γ + 0)), (1, .int (iI e)), (2, .int (iI w)), (3, .ref (bs γ + 263))] [0, 1, 2, 3] rfl ?_
  refine v_aload_n (pc := 0) C 3 rfl dL_ductOf_0 ?_
  refine v_iconst (pc := 1) C dL_ductOf_1 ?_
  refine v_aload_n (pc := 2) C 0 rfl dL_ductOf_2 ?_
  refine v_iload_n (pc := 3) C 1 rfl dL_ductOf_3 ?_
  refine v_iload_n (pc := 4) C 2 rfl dL_ductOf_4 ?_
  refine v_cvX (pc := 5) (as := [.int (iI e), .int (iI w)]) C (cy_X5_ductOf G) (wM_L_37 G) sh_0 (ci := 3) rfl rfl (k_X5_ductOf G hC hO he hw) dL_ductOf_5 rfl rfl (by decide) (by decide) (Nat.le_of_ble_eq_true rfl) ⟨by omega, by omega⟩ ?_ (k_I (fun z5 s5 q5 => ?_))
  · rintro E σ9 (⟨rfl, hx⟩ | ⟨rfl, hx⟩)
    · refine v_cat (hh := hL_ductOf) C ht [] ⟨0, 10, 13, 28⟩ [⟨0, 10, 17, 13⟩] rfl (fun _ h => nomatch h) (by decide) (by decide) (wL_I G) (wK_I G) (fun q9 => ?_)
      refine v_astore (pc := 13) C [(4, .ref q9), (0, .ref (bs γ + 0)), (1, .int (iI e)), (2, .int (iI w)), (3, .ref (bs γ + 263))] dL_ductOf_13 (by decide) rfl ?_
      refine v_iconst (pc := 15) C dL_ductOf_15 ?_
      exact v_iretW (pc := 16) C ⟨by omega, by omega⟩ hr rfl dL_ductOf_16 ⟨_, rfl, lQ_x hx (by decide)⟩
    · refine v_cat (hh := hL_ductOf) C ht [⟨0, 10, 13, 28⟩] ⟨0, 10, 17, 13⟩ [] rfl (List.forall_mem_cons.mpr ⟨⟨by decide, _, wL_I G, N.2.2.1⟩, fun _ h => nomatch h⟩) (by decide) (by decide) (wL_A G) (wK_A G) (fun q9 => ?_)
      refine v_astore (pc := 17) C [(4, .ref q9), (0, .ref (bs γ + 0)), (1, .int (iI e)), (2, .int (iI w)), (3, .ref (bs γ + 263))] dL_ductOf_17 (by decide) rfl ?_
      refine v_iconst (pc := 19) C dL_ductOf_19 ?_
      exact v_iretW (pc := 20) C ⟨by omega, by omega⟩ hr rfl dL_ductOf_20 ⟨_, rfl, lQ_x hx (by decide)⟩
  refine v_bm ?_
  refine v_i2l (pc := 8) C (bmz_r _) dL_ductOf_8 ?_
  refine v_last (pc := 9) C sh_263 (by decide) (by decide) (by have := bmz_r z5; omega) dL_ductOf_9 ?_
  refine v_goto (pc := 10) C 21 dL_ductOf_10 (by decide) ?_
  refine v_iconst (pc := 21) C dL_ductOf_21 ?_
  exact v_iretW (pc := 22) C ⟨by omega, by omega⟩ hr rfl dL_ductOf_22 ⟨_, rfl, lQ_ok q5⟩

abbrev hL_setting : List (Nat × Nat × Nat × Nat) := [(0, 9, 12, 13)]
theorem cy_L_setting {γ : Gm} (G : Glo γ) : (yL_setting.cls ≠ "java/lang/invoke/MethodHandle" ∧ yL_setting.cls ≠ "java/lang/invoke/VarHandle") ∧ (∀ sig, parseMethodDescriptor yL_setting.desc = some sig → 3 = sig.parameters.length) ∧ Wrd γ (.codeWith yL_setting cL_setting 4 (some .int) hL_setting) ∧ Wrd γ (.initialized yL_setting.cls) ∧ Wrd γ (.static yL_setting) := ⟨⟨by decide +kernel, by decide +kernel⟩, cy_n (by decide +kernel), wrd_of G 857 (by decide +kernel) (by decide +kernel), wrd_of G 23 (by decide +kernel) (by decide +kernel), wrd_of G 856 (by decide +kernel) (by decide +kernel)⟩
set_option maxHeartbeats 4000000 in
set_option maxRecDepth 100000 in
theorem k_L_setting {γ : Gm} (G : Glo γ) (N : GNc γ) {σ : St} {s a : Int} {t n d k i : Int → Int} {w : Int} (hC : CRep σ s a t n d k i) (hO : AOk s a t n d k i) (hw : R3 w)  : Cww γ yL_setting cL_setting 4 (some .int) hL_setting 3 [.ref (bs γ + 0), .int (iI w), .ref (bs γ + 263)] σ (pI (fun z σ2 => lQ σ (op_setting s a t n d k i w) z σ2)) := by
  refine Cww.of G (by decide +kernel) (Nat.le_of_ble_eq_true rfl) (fun φ C hcr ht hr => ?_)
  have C : Cx γ φ RL cL_setting 4 3 := C
  refine v_lv [(0, .ref (bs γ + 0)), (1, .int (iI w)), (2, .ref (bs γ + 263))] [0, 1, 2] rfl ?_
  refine v_aload_n (pc := 0) C 2 rfl dL_setting_0 ?_
  refine v_iconst (pc := 1) C dL_setting_1 ?_
  refine v_aload_n (pc := 2) C 0 rfl dL_setting_2 ?_
  refine v_iload_n (pc := 3) C 1 rfl dL_setting_3 ?_
  refine v_cvX (pc := 4) (as := [.int (iI w)]) C (cy_X5_setting G) (wM_L_40 G) sh_0 (ci := 3) rfl rfl (k_X5_setting G hC hO hw) dL_setting_4 rfl rfl (by decide) (by decide) (Nat.le_of_ble_eq_true rfl) ⟨by omega, by omega⟩ ?_ (k_I (fun z4 s4 q4 => ?_))
  · rintro E σ9 (⟨rfl, hx⟩)
    refine v_cat (hh := hL_setting) C ht [] ⟨0, 9, 12, 13⟩ [] rfl (fun _ h => nomatch h) (by decide) (by decide) (wL_A G) (wK_A G) (fun q9 => ?_)
    refine v_astore_n (pc := 12) C [(3, .ref q9), (0, .ref (bs γ + 0)), (1, .int (iI w)), (2, .ref (bs γ + 263))] dL_setting_12 rfl (by decide) rfl ?_
    refine v_iconst (pc := 13) C dL_setting_13 ?_
    exact v_iretW (pc := 14) C ⟨by omega, by omega⟩ hr rfl dL_setting_14 ⟨_, rfl, lQ_x hx (by decide)⟩
  refine v_bm ?_
  refine v_i2l (pc := 7) C (bmz_r _) dL_setting_7 ?_
  refine v_last (pc := 8) C sh_263 (by decide) (by decide) (by have := bmz_r z4; omega) dL_setting_8 ?_
  refine v_goto (pc := 9) C 15 dL_setting_9 (by decide) ?_
  refine v_iconst (pc := 15) C dL_setting_15 ?_
  exact v_iretW (pc := 16) C ⟨by omega, by omega⟩ hr rfl dL_setting_16 ⟨_, rfl, lQ_ok q4⟩

abbrev hL_valve : List (Nat × Nat × Nat × Nat) := [(0, 10, 13, 13), (0, 10, 17, 15)]
theorem cy_L_valve {γ : Gm} (G : Glo γ) : (yL_valve.cls ≠ "java/lang/invoke/MethodHandle" ∧ yL_valve.cls ≠ "java/lang/invoke/VarHandle") ∧ (∀ sig, parseMethodDescriptor yL_valve.desc = some sig → 4 = sig.parameters.length) ∧ Wrd γ (.codeWith yL_valve cL_valve 5 (some .int) hL_valve) ∧ Wrd γ (.initialized yL_valve.cls) ∧ Wrd γ (.static yL_valve) := ⟨⟨by decide +kernel, by decide +kernel⟩, cy_n (by decide +kernel), wrd_of G 864 (by decide +kernel) (by decide +kernel), wrd_of G 23 (by decide +kernel) (by decide +kernel), wrd_of G 863 (by decide +kernel) (by decide +kernel)⟩
set_option maxHeartbeats 4000000 in
set_option maxRecDepth 100000 in
theorem k_L_valve {γ : Gm} (G : Glo γ) (N : GNc γ) {σ : St} {s a : Int} {t n d k i : Int → Int} {c v : Int} (hC : CRep σ s a t n d k i) (hO : AOk s a t n d k i) (hc : R3 c) (hv : R3 v)  : Cww γ yL_valve cL_valve 5 (some .int) hL_valve 6 [.ref (bs γ + 0), .int (iI c), .int (iI v), .ref (bs γ + 263)] σ (pI (fun z σ2 => lQ σ (op_valve s a t n d k i c v) z σ2)) := by
  refine Cww.of G (by decide +kernel) (Nat.le_of_ble_eq_true rfl) (fun φ C hcr ht hr => ?_)
  have C : Cx γ φ RL cL_valve 5 6 := C
  refine v_lv [(0, .ref (bs γ + 0)), (1, .int (iI c)), (2, .int (iI v)), (3, .ref (bs γ + 263))] [0, 1, 2, 3] rfl ?_
  refine v_aload_n (pc := 0) C 3 rfl dL_valve_0 ?_
  refine v_iconst (pc := 1) C dL_valve_1 ?_
  refine v_aload_n (pc := 2) C 0 rfl dL_valve_2 ?_
  refine v_iload_n (pc := 3) C 1 rfl dL_valve_3 ?_
  refine v_iload_n (pc := 4) C 2 rfl dL_valve_4 ?_
  refine v_cvX (pc := 5) (as := [.int (iI c), .int (iI v)]) C (cy_X5_valve G) (wM_L_43 G) sh_0 (ci := 3) rfl rfl (k_X5_valve G hC hO hc hv) dL_valve_5 rfl rfl (by decide) (by decide) (Nat.le_of_ble_eq_true rfl) ⟨by omega, by omega⟩ ?_ (k_I (fun z5 s5 q5 => ?_))
  · rintro E σ9 (⟨rfl, hx⟩ | ⟨rfl, hx⟩)
    · refine v_cat (hh := hL_valve) C ht [] ⟨0, 10, 13, 13⟩ [⟨0, 10, 17, 15⟩] rfl (fun _ h => nomatch h) (by decide) (by decide) (wL_A G) (wK_A G) (fun q9 => ?_)
      refine v_astore (pc := 13) C [(4, .ref q9), (0, .ref (bs γ + 0)), (1, .int (iI c)), (2, .int (iI v)), (3, .ref (bs γ + 263))] dL_valve_13 (by decide) rfl ?_
      refine v_iconst (pc := 15) C dL_valve_15 ?_
      exact v_iretW (pc := 16) C ⟨by omega, by omega⟩ hr rfl dL_valve_16 ⟨_, rfl, lQ_x hx (by decide)⟩
    · refine v_cat (hh := hL_valve) C ht [⟨0, 10, 13, 13⟩] ⟨0, 10, 17, 15⟩ [] rfl (List.forall_mem_cons.mpr ⟨⟨by decide, _, wL_A G, N.1.1⟩, fun _ h => nomatch h⟩) (by decide) (by decide) (wL_S G) (wK_S G) (fun q9 => ?_)
      refine v_astore (pc := 17) C [(4, .ref q9), (0, .ref (bs γ + 0)), (1, .int (iI c)), (2, .int (iI v)), (3, .ref (bs γ + 263))] dL_valve_17 (by decide) rfl ?_
      refine v_iconst (pc := 19) C dL_valve_19 ?_
      exact v_iretW (pc := 20) C ⟨by omega, by omega⟩ hr rfl dL_valve_20 ⟨_, rfl, lQ_x hx (by decide)⟩
  refine v_bm ?_
  refine v_i2l (pc := 8) C (bmz_r _) dL_valve_8 ?_
  refine v_last (pc := 9) C sh_263 (by decide) (by decide) (by have := bmz_r z5; omega) dL_valve_9 ?_
  refine v_goto (pc := 10) C 21 dL_valve_10 (by decide) ?_
  refine v_iconst (pc := 21) C dL_valve_21 ?_
  exact v_iretW (pc := 22) C ⟨by omega, by omega⟩ hr rfl dL_valve_22 ⟨_, rfl, lQ_ok q5⟩

abbrev hL_duct : List (Nat × Nat × Nat × Nat) := [(0, 16, 19, 28), (0, 16, 23, 13), (0, 16, 27, 15)]
theorem cy_L_duct {γ : Gm} (G : Glo γ) : (yL_duct.cls ≠ "java/lang/invoke/MethodHandle" ∧ yL_duct.cls ≠ "java/lang/invoke/VarHandle") ∧ (∀ sig, parseMethodDescriptor yL_duct.desc = some sig → 7 = sig.parameters.length) ∧ Wrd γ (.codeWith yL_duct cL_duct 8 (some .int) hL_duct) ∧ Wrd γ (.initialized yL_duct.cls) ∧ Wrd γ (.static yL_duct) := ⟨⟨by decide +kernel, by decide +kernel⟩, cy_n (by decide +kernel), wrd_of G 881 (by decide +kernel) (by decide +kernel), wrd_of G 23 (by decide +kernel) (by decide +kernel), wrd_of G 880 (by decide +kernel) (by decide +kernel)⟩
set_option maxHeartbeats 4000000 in
set_option maxRecDepth 100000 in
theorem k_L_duct {γ : Gm} (G : Glo γ) (N : GNc γ) {σ : St} {s a : Int} {t n d k i : Int → Int} {c g y q m : Int} (hC : CRep σ s a t n d k i) (hO : AOk s a t n d k i) (hc : R3 c) (hg : R3 g) (hy : R3 y) (hq : R3 q) (hm : R3 m)  : Cww γ yL_duct cL_duct 8 (some .int) hL_duct 6 [.ref (bs γ + 0), .int (iI c), .int (iI g), .int (iI y), .int (iI q), .int (iI m), .ref (bs γ + 263)] σ (pI (fun z σ2 => lQ σ (op_duct s a t n d k i c g y q m) z σ2)) := by
  refine Cww.of G (by decide +kernel) (Nat.le_of_ble_eq_true rfl) (fun φ C hcr ht hr => ?_)
  have C : Cx γ φ RL cL_duct 8 6 := C
  refine v_lv [(0, .ref (bs γ + 0)), (1, .int (iI c)), (2, .int (iI g)), (3, .int (iI y)), (4, .int (iI q)), (5, .int (iI m)), (6, .ref (bs γ + 263))] [0, 1, 2, 3, 4, 5, 6] rfl ?_
  refine v_aload (pc := 0) C 6 rfl dL_duct_0 ?_
  refine v_iconst (pc := 2) C dL_duct_2 ?_
  refine v_aload_n (pc := 3) C 0 rfl dL_duct_3 ?_
  refine v_iload_n (pc := 4) C 1 rfl dL_duct_4 ?_
  refine v_iload_n (pc := 5) C 2 rfl dL_duct_5 ?_
  refine v_iload_n (pc := 6) C 3 rfl dL_duct_6 ?_
  refine v_iload (pc := 7) C 4 rfl dL_duct_7 ?_
  refine v_iload (pc := 9) C 5 rfl dL_duct_9 ?_
  refine v_cvX (pc := 11) (as := [.int (iI c), .int (iI g), .int (iI y), .int (iI q), .int (iI m)]) C (cy_X5_duct G) (wM_L_46 G) sh_0 (ci := 3) rfl rfl (k_X5_duct G hC hO hc hg hy hq hm) dL_duct_11 rfl rfl (by decide) (by decide) (Nat.le_of_ble_eq_true rfl) ⟨by omega, by omega⟩ ?_ (k_I (fun z11 s11 q11 => ?_))
  · rintro E σ9 (⟨rfl, hx⟩ | ⟨rfl, hx⟩ | ⟨rfl, hx⟩)
    · refine v_cat (hh := hL_duct) C ht [] ⟨0, 16, 19, 28⟩ [⟨0, 16, 23, 13⟩, ⟨0, 16, 27, 15⟩] rfl (fun _ h => nomatch h) (by decide) (by decide) (wL_I G) (wK_I G) (fun q9 => ?_)
      refine v_astore (pc := 19) C [(7, .ref q9), (0, .ref (bs γ + 0)), (1, .int (iI c)), (2, .int (iI g)), (3, .int (iI y)), (4, .int (iI q)), (5, .int (iI m)), (6, .ref (bs γ + 263))] dL_duct_19 (by decide) rfl ?_
      refine v_iconst (pc := 21) C dL_duct_21 ?_
      exact v_iretW (pc := 22) C ⟨by omega, by omega⟩ hr rfl dL_duct_22 ⟨_, rfl, lQ_x hx (by decide)⟩
    · refine v_cat (hh := hL_duct) C ht [⟨0, 16, 19, 28⟩] ⟨0, 16, 23, 13⟩ [⟨0, 16, 27, 15⟩] rfl (List.forall_mem_cons.mpr ⟨⟨by decide, _, wL_I G, N.2.2.1⟩, fun _ h => nomatch h⟩) (by decide) (by decide) (wL_A G) (wK_A G) (fun q9 => ?_)
      refine v_astore (pc := 23) C [(7, .ref q9), (0, .ref (bs γ + 0)), (1, .int (iI c)), (2, .int (iI g)), (3, .int (iI y)), (4, .int (iI q)), (5, .int (iI m)), (6, .ref (bs γ + 263))] dL_duct_23 (by decide) rfl ?_
      refine v_iconst (pc := 25) C dL_duct_25 ?_
      exact v_iretW (pc := 26) C ⟨by omega, by omega⟩ hr rfl dL_duct_26 ⟨_, rfl, lQ_x hx (by decide)⟩
    · refine v_cat (hh := hL_duct) C ht [⟨0, 16, 19, 28⟩, ⟨0, 16, 23, 13⟩] ⟨0, 16, 27, 15⟩ [] rfl (List.forall_mem_cons.mpr ⟨⟨by decide, _, wL_I G, N.2.2.2⟩, List.forall_mem_cons.mpr ⟨⟨by decide, _, wL_A G, N.1.1⟩, fun _ h => nomatch h⟩⟩) (by decide) (by decide) (wL_S G) (wK_S G) (fun q9 => ?_)
      refine v_astore (pc := 27) C [(7, .ref q9), (0, .ref (bs γ + 0)), (1, .int (iI c)), (2, .int (iI g)), (3, .int (iI y)), (4, .int (iI q)), (5, .int (iI m)), (6, .ref (bs γ + 263))] dL_duct_27 (by decide) rfl ?_
      refine v_iconst (pc := 29) C dL_duct_29 ?_
      exact v_iretW (pc := 30) C ⟨by omega, by omega⟩ hr rfl dL_duct_30 ⟨_, rfl, lQ_x hx (by decide)⟩
  refine v_bm ?_
  refine v_i2l (pc := 14) C (bmz_r _) dL_duct_14 ?_
  refine v_last (pc := 15) C sh_263 (by decide) (by decide) (by have := bmz_r z11; omega) dL_duct_15 ?_
  refine v_goto (pc := 16) C 31 dL_duct_16 (by decide) ?_
  refine v_iconst (pc := 31) C dL_duct_31 ?_
  exact v_iretW (pc := 32) C ⟨by omega, by omega⟩ hr rfl dL_duct_32 ⟨_, rfl, lQ_ok q11⟩

abbrev hL_remove : List (Nat × Nat × Nat × Nat) := [(0, 9, 12, 28)]
theorem cy_L_remove {γ : Gm} (G : Glo γ) : (yL_remove.cls ≠ "java/lang/invoke/MethodHandle" ∧ yL_remove.cls ≠ "java/lang/invoke/VarHandle") ∧ (∀ sig, parseMethodDescriptor yL_remove.desc = some sig → 3 = sig.parameters.length) ∧ Wrd γ (.codeWith yL_remove cL_remove 4 (some .int) hL_remove) ∧ Wrd γ (.initialized yL_remove.cls) ∧ Wrd γ (.static yL_remove) := ⟨⟨by decide +kernel, by decide +kernel⟩, cy_n (by decide +kernel), wrd_of G 890 (by decide +kernel) (by decide +kernel), wrd_of G 23 (by decide +kernel) (by decide +kernel), wrd_of G 889 (by decide +kernel) (by decide +kernel)⟩
set_option maxHeartbeats 4000000 in
set_option maxRecDepth 100000 in
theorem k_L_remove {γ : Gm} (G : Glo γ) (N : GNc γ) {σ : St} {s a : Int} {t n d k i : Int → Int} {e : Int} (hC : CRep σ s a t n d k i) (hO : AOk s a t n d k i) (he : R3 e)  : Cww γ yL_remove cL_remove 4 (some .int) hL_remove 5 [.ref (bs γ + 0), .int (iI e), .ref (bs γ + 263)] σ (pI (fun z σ2 => lQ σ (op_remove s a t n d k i e) z σ2)) := by
  refine Cww.of G (by decide +kernel) (Nat.le_of_ble_eq_true rfl) (fun φ C hcr ht hr => ?_)
  have C : Cx γ φ RL cL_remove 4 5 := C
  refine v_lv [(0, .ref (bs γ + 0)), (1, .int (iI e)), (2, .ref (bs γ + 263))] [0, 1, 2] rfl ?_
  refine v_aload_n (pc := 0) C 2 rfl dL_remove_0 ?_
  refine v_iconst (pc := 1) C dL_remove_1 ?_
  refine v_aload_n (pc := 2) C 0 rfl dL_remove_2 ?_
  refine v_iload_n (pc := 3) C 1 rfl dL_remove_3 ?_
  refine v_cvX (pc := 4) (as := [.int (iI e)]) C (cy_X5_remove G) (wM_L_50 G) sh_0 (ci := 3) rfl rfl (k_X5_remove G hC hO he) dL_remove_4 rfl rfl (by decide) (by decide) (Nat.le_of_ble_eq_true rfl) ⟨by omega, by omega⟩ ?_ (k_I (fun z4 s4 q4 => ?_))
  · rintro E σ9 (⟨rfl, hx⟩)
    refine v_cat (hh := hL_remove) C ht [] ⟨0, 9, 12, 28⟩ [] rfl (fun _ h => nomatch h) (by decide) (by decide) (wL_I G) (wK_I G) (fun q9 => ?_)
    refine v_astore_n (pc := 12) C [(3, .ref q9), (0, .ref (bs γ + 0)), (1, .int (iI e)), (2, .ref (bs γ + 263))] dL_remove_12 rfl (by decide) rfl ?_
    refine v_iconst (pc := 13) C dL_remove_13 ?_
    exact v_iretW (pc := 14) C ⟨by omega, by omega⟩ hr rfl dL_remove_14 ⟨_, rfl, lQ_x hx (by decide)⟩
  refine v_bm ?_
  refine v_i2l (pc := 7) C (bmz_r _) dL_remove_7 ?_
  refine v_last (pc := 8) C sh_263 (by decide) (by decide) (by have := bmz_r z4; omega) dL_remove_8 ?_
  refine v_goto (pc := 9) C 15 dL_remove_9 (by decide) ?_
  refine v_iconst (pc := 15) C dL_remove_15 ?_
  exact v_iretW (pc := 16) C ⟨by omega, by omega⟩ hr rfl dL_remove_16 ⟨_, rfl, lQ_ok q4⟩

abbrev hL_press : List (Nat × Nat × Nat × Nat) := [(0, 10, 13, 28), (0, 10, 17, 15)]
theorem cy_L_press {γ : Gm} (G : Glo γ) : (yL_press.cls ≠ "java/lang/invoke/MethodHandle" ∧ yL_press.cls ≠ "java/lang/invoke/VarHandle") ∧ (∀ sig, parseMethodDescriptor yL_press.desc = some sig → 4 = sig.parameters.length) ∧ Wrd γ (.codeWith yL_press cL_press 5 (some .int) hL_press) ∧ Wrd γ (.initialized yL_press.cls) ∧ Wrd γ (.static yL_press) := ⟨⟨by decide +kernel, by decide +kernel⟩, cy_n (by decide +kernel), wrd_of G 908 (by decide +kernel) (by decide +kernel), wrd_of G 23 (by decide +kernel) (by decide +kernel), wrd_of G 907 (by decide +kernel) (by decide +kernel)⟩
set_option maxHeartbeats 4000000 in
set_option maxRecDepth 100000 in
theorem k_L_press {γ : Gm} (G : Glo γ) (N : GNc γ) {σ : St} {s a : Int} {t n d k i : Int → Int} {v b : Int} (hC : CRep σ s a t n d k i) (hO : AOk s a t n d k i) (hv : R3 v) (hb01 : b = 0 ∨ b = 1) : Cww γ yL_press cL_press 5 (some .int) hL_press 5 [.ref (bs γ + 0), .int (iI v), .int (iI b), .ref (bs γ + 263)] σ (pI (fun z σ2 => lQ σ (op_press s a t n d k i v b) z σ2)) := by
  refine Cww.of G (by decide +kernel) (Nat.le_of_ble_eq_true rfl) (fun φ C hcr ht hr => ?_)
  have C : Cx γ φ RL cL_press 5 5 := C
  refine v_lv [(0, .ref (bs γ + 0)), (1, .int (iI v)), (2, .int (iI b)), (3, .ref (bs γ + 263))] [0, 1, 2, 3] rfl ?_
  refine v_aload_n (pc := 0) C 3 rfl dL_press_0 ?_
  refine v_iconst (pc := 1) C dL_press_1 ?_
  refine v_aload_n (pc := 2) C 0 rfl dL_press_2 ?_
  refine v_iload_n (pc := 3) C 1 rfl dL_press_3 ?_
  refine v_iload_n (pc := 4) C 2 rfl dL_press_4 ?_
  refine v_cvX (pc := 5) (as := [.int (iI v), .int (iI b)]) C (cy_X5_press G) (wM_L_53 G) sh_0 (ci := 3) rfl rfl (k_X5_press G hC hO hv hb01) dL_press_5 rfl rfl (by decide) (by decide) (Nat.le_of_ble_eq_true rfl) ⟨by omega, by omega⟩ ?_ (k_I (fun z5 s5 q5 => ?_))
  · rintro E σ9 (⟨rfl, hx⟩ | ⟨rfl, hx⟩)
    · refine v_cat (hh := hL_press) C ht [] ⟨0, 10, 13, 28⟩ [⟨0, 10, 17, 15⟩] rfl (fun _ h => nomatch h) (by decide) (by decide) (wL_I G) (wK_I G) (fun q9 => ?_)
      refine v_astore (pc := 13) C [(4, .ref q9), (0, .ref (bs γ + 0)), (1, .int (iI v)), (2, .int (iI b)), (3, .ref (bs γ + 263))] dL_press_13 (by decide) rfl ?_
      refine v_iconst (pc := 15) C dL_press_15 ?_
      exact v_iretW (pc := 16) C ⟨by omega, by omega⟩ hr rfl dL_press_16 ⟨_, rfl, lQ_x hx (by decide)⟩
    · refine v_cat (hh := hL_press) C ht [⟨0, 10, 13, 28⟩] ⟨0, 10, 17, 15⟩ [] rfl (List.forall_mem_cons.mpr ⟨⟨by decide, _, wL_I G, N.2.2.2⟩, fun _ h => nomatch h⟩) (by decide) (by decide) (wL_S G) (wK_S G) (fun q9 => ?_)
      refine v_astore (pc := 17) C [(4, .ref q9), (0, .ref (bs γ + 0)), (1, .int (iI v)), (2, .int (iI b)), (3, .ref (bs γ + 263))] dL_press_17 (by decide) rfl ?_
      refine v_iconst (pc := 19) C dL_press_19 ?_
      exact v_iretW (pc := 20) C ⟨by omega, by omega⟩ hr rfl dL_press_20 ⟨_, rfl, lQ_x hx (by decide)⟩
  refine v_bm ?_
  refine v_i2l (pc := 8) C (bmz_r _) dL_press_8 ?_
  refine v_last (pc := 9) C sh_263 (by decide) (by decide) (by have := bmz_r z5; omega) dL_press_9 ?_
  refine v_goto (pc := 10) C 21 dL_press_10 (by decide) ?_
  refine v_iconst (pc := 21) C dL_press_21 ?_
  exact v_iretW (pc := 22) C ⟨by omega, by omega⟩ hr rfl dL_press_22 ⟨_, rfl, lQ_ok q5⟩

abbrev hL_leak : List (Nat × Nat × Nat × Nat) := [(0, 10, 13, 28), (0, 10, 17, 13)]
theorem cy_L_leak {γ : Gm} (G : Glo γ) : (yL_leak.cls ≠ "java/lang/invoke/MethodHandle" ∧ yL_leak.cls ≠ "java/lang/invoke/VarHandle") ∧ (∀ sig, parseMethodDescriptor yL_leak.desc = some sig → 4 = sig.parameters.length) ∧ Wrd γ (.codeWith yL_leak cL_leak 5 (some .int) hL_leak) ∧ Wrd γ (.initialized yL_leak.cls) ∧ Wrd γ (.static yL_leak) := ⟨⟨by decide +kernel, by decide +kernel⟩, cy_n (by decide +kernel), wrd_of G 917 (by decide +kernel) (by decide +kernel), wrd_of G 23 (by decide +kernel) (by decide +kernel), wrd_of G 916 (by decide +kernel) (by decide +kernel)⟩
set_option maxHeartbeats 4000000 in
set_option maxRecDepth 100000 in
theorem k_L_leak {γ : Gm} (G : Glo γ) (N : GNc γ) {σ : St} {s a : Int} {t n d k i : Int → Int} {e l : Int} (hC : CRep σ s a t n d k i) (hO : AOk s a t n d k i) (he : R3 e) (hl : R3 l)  : Cww γ yL_leak cL_leak 5 (some .int) hL_leak 5 [.ref (bs γ + 0), .int (iI e), .int (iI l), .ref (bs γ + 263)] σ (pI (fun z σ2 => lQ σ (op_leak s a t n d k i e l) z σ2)) := by
  refine Cww.of G (by decide +kernel) (Nat.le_of_ble_eq_true rfl) (fun φ C hcr ht hr => ?_)
  have C : Cx γ φ RL cL_leak 5 5 := C
  refine v_lv [(0, .ref (bs γ + 0)), (1, .int (iI e)), (2, .int (iI l)), (3, .ref (bs γ + 263))] [0, 1, 2, 3] rfl ?_
  refine v_aload_n (pc := 0) C 3 rfl dL_leak_0 ?_
  refine v_iconst (pc := 1) C dL_leak_1 ?_
  refine v_aload_n (pc := 2) C 0 rfl dL_leak_2 ?_
  refine v_iload_n (pc := 3) C 1 rfl dL_leak_3 ?_
  refine v_iload_n (pc := 4) C 2 rfl dL_leak_4 ?_
  refine v_cvX (pc := 5) (as := [.int (iI e), .int (iI l)]) C (cy_X5_leak G) (wM_L_57 G) sh_0 (ci := 3) rfl rfl (k_X5_leak G hC hO he hl) dL_leak_5 rfl rfl (by decide) (by decide) (Nat.le_of_ble_eq_true rfl) ⟨by omega, by omega⟩ ?_ (k_I (fun z5 s5 q5 => ?_))
  · rintro E σ9 (⟨rfl, hx⟩ | ⟨rfl, hx⟩)
    · refine v_cat (hh := hL_leak) C ht [] ⟨0, 10, 13, 28⟩ [⟨0, 10, 17, 13⟩] rfl (fun _ h => nomatch h) (by decide) (by decide) (wL_I G) (wK_I G) (fun q9 => ?_)
      refine v_astore (pc := 13) C [(4, .ref q9), (0, .ref (bs γ + 0)), (1, .int (iI e)), (2, .int (iI l)), (3, .ref (bs γ + 263))] dL_leak_13 (by decide) rfl ?_
      refine v_iconst (pc := 15) C dL_leak_15 ?_
      exact v_iretW (pc := 16) C ⟨by omega, by omega⟩ hr rfl dL_leak_16 ⟨_, rfl, lQ_x hx (by decide)⟩
    · refine v_cat (hh := hL_leak) C ht [⟨0, 10, 13, 28⟩] ⟨0, 10, 17, 13⟩ [] rfl (List.forall_mem_cons.mpr ⟨⟨by decide, _, wL_I G, N.2.2.1⟩, fun _ h => nomatch h⟩) (by decide) (by decide) (wL_A G) (wK_A G) (fun q9 => ?_)
      refine v_astore (pc := 17) C [(4, .ref q9), (0, .ref (bs γ + 0)), (1, .int (iI e)), (2, .int (iI l)), (3, .ref (bs γ + 263))] dL_leak_17 (by decide) rfl ?_
      refine v_iconst (pc := 19) C dL_leak_19 ?_
      exact v_iretW (pc := 20) C ⟨by omega, by omega⟩ hr rfl dL_leak_20 ⟨_, rfl, lQ_x hx (by decide)⟩
  refine v_bm ?_
  refine v_i2l (pc := 8) C (bmz_r _) dL_leak_8 ?_
  refine v_last (pc := 9) C sh_263 (by decide) (by decide) (by have := bmz_r z5; omega) dL_leak_9 ?_
  refine v_goto (pc := 10) C 21 dL_leak_10 (by decide) ?_
  refine v_iconst (pc := 21) C dL_leak_21 ?_
  exact v_iretW (pc := 22) C ⟨by omega, by omega⟩ hr rfl dL_leak_22 ⟨_, rfl, lQ_ok q5⟩

abbrev hL_feed : List (Nat × Nat × Nat × Nat) := [(0, 10, 13, 28), (0, 10, 17, 13)]
theorem cy_L_feed {γ : Gm} (G : Glo γ) : (yL_feed.cls ≠ "java/lang/invoke/MethodHandle" ∧ yL_feed.cls ≠ "java/lang/invoke/VarHandle") ∧ (∀ sig, parseMethodDescriptor yL_feed.desc = some sig → 4 = sig.parameters.length) ∧ Wrd γ (.codeWith yL_feed cL_feed 5 (some .int) hL_feed) ∧ Wrd γ (.initialized yL_feed.cls) ∧ Wrd γ (.static yL_feed) := ⟨⟨by decide +kernel, by decide +kernel⟩, cy_n (by decide +kernel), wrd_of G 926 (by decide +kernel) (by decide +kernel), wrd_of G 23 (by decide +kernel) (by decide +kernel), wrd_of G 925 (by decide +kernel) (by decide +kernel)⟩
set_option maxHeartbeats 4000000 in
set_option maxRecDepth 100000 in
theorem k_L_feed {γ : Gm} (G : Glo γ) (N : GNc γ) {σ : St} {s a : Int} {t n d k i : Int → Int} {v m : Int} (hC : CRep σ s a t n d k i) (hO : AOk s a t n d k i) (hv : R3 v) (hm : R3 m)  : Cww γ yL_feed cL_feed 5 (some .int) hL_feed 5 [.ref (bs γ + 0), .int (iI v), .int (iI m), .ref (bs γ + 263)] σ (pI (fun z σ2 => lQ σ (op_feed s a t n d k i v m) z σ2)) := by
  refine Cww.of G (by decide +kernel) (Nat.le_of_ble_eq_true rfl) (fun φ C hcr ht hr => ?_)
  have C : Cx γ φ RL cL_feed 5 5 := C
  refine v_lv [(0, .ref (bs γ + 0)), (1, .int (iI v)), (2, .int (iI m)), (3, .ref (bs γ + 263))] [0, 1, 2, 3] rfl ?_
  refine v_aload_n (pc := 0) C 3 rfl dL_feed_0 ?_
  refine v_iconst (pc := 1) C dL_feed_1 ?_
  refine v_aload_n (pc := 2) C 0 rfl dL_feed_2 ?_
  refine v_iload_n (pc := 3) C 1 rfl dL_feed_3 ?_
  refine v_iload_n (pc := 4) C 2 rfl dL_feed_4 ?_
  refine v_cvX (pc := 5) (as := [.int (iI v), .int (iI m)]) C (cy_X5_feed G) (wM_L_60 G) sh_0 (ci := 3) rfl rfl (k_X5_feed G hC hO hv hm) dL_feed_5 rfl rfl (by decide) (by decide) (Nat.le_of_ble_eq_true rfl) ⟨by omega, by omega⟩ ?_ (k_I (fun z5 s5 q5 => ?_))
  · rintro E σ9 (⟨rfl, hx⟩ | ⟨rfl, hx⟩)
    · refine v_cat (hh := hL_feed) C ht [] ⟨0, 10, 13, 28⟩ [⟨0, 10, 17, 13⟩] rfl (fun _ h => nomatch h) (by decide) (by decide) (wL_I G) (wK_I G) (fun q9 => ?_)
      refine v_astore (pc := 13) C [(4, .ref q9), (0, .ref (bs γ + 0)), (1, .int (iI v)), (2, .int (iI m)), (3, .ref (bs γ + 263))] dL_feed_13 (by decide) rfl ?_
      refine v_iconst (pc := 15) C dL_feed_15 ?_
      exact v_iretW (pc := 16) C ⟨by omega, by omega⟩ hr rfl dL_feed_16 ⟨_, rfl, lQ_x hx (by decide)⟩
    · refine v_cat (hh := hL_feed) C ht [⟨0, 10, 13, 28⟩] ⟨0, 10, 17, 13⟩ [] rfl (List.forall_mem_cons.mpr ⟨⟨by decide, _, wL_I G, N.2.2.1⟩, fun _ h => nomatch h⟩) (by decide) (by decide) (wL_A G) (wK_A G) (fun q9 => ?_)
      refine v_astore (pc := 17) C [(4, .ref q9), (0, .ref (bs γ + 0)), (1, .int (iI v)), (2, .int (iI m)), (3, .ref (bs γ + 263))] dL_feed_17 (by decide) rfl ?_
      refine v_iconst (pc := 19) C dL_feed_19 ?_
      exact v_iretW (pc := 20) C ⟨by omega, by omega⟩ hr rfl dL_feed_20 ⟨_, rfl, lQ_x hx (by decide)⟩
  refine v_bm ?_
  refine v_i2l (pc := 8) C (bmz_r _) dL_feed_8 ?_
  refine v_last (pc := 9) C sh_263 (by decide) (by decide) (by have := bmz_r z5; omega) dL_feed_9 ?_
  refine v_goto (pc := 10) C 21 dL_feed_10 (by decide) ?_
  refine v_iconst (pc := 21) C dL_feed_21 ?_
  exact v_iretW (pc := 22) C ⟨by omega, by omega⟩ hr rfl dL_feed_22 ⟨_, rfl, lQ_ok q5⟩

abbrev hL_set : List (Nat × Nat × Nat × Nat) := [(0, 10, 13, 13)]
theorem cy_L_set {γ : Gm} (G : Glo γ) : (yL_set.cls ≠ "java/lang/invoke/MethodHandle" ∧ yL_set.cls ≠ "java/lang/invoke/VarHandle") ∧ (∀ sig, parseMethodDescriptor yL_set.desc = some sig → 4 = sig.parameters.length) ∧ Wrd γ (.codeWith yL_set cL_set 5 (some .int) hL_set) ∧ Wrd γ (.initialized yL_set.cls) ∧ Wrd γ (.static yL_set) := ⟨⟨by decide +kernel, by decide +kernel⟩, cy_n (by decide +kernel), wrd_of G 940 (by decide +kernel) (by decide +kernel), wrd_of G 23 (by decide +kernel) (by decide +kernel), wrd_of G 939 (by decide +kernel) (by decide +kernel)⟩
set_option maxHeartbeats 4000000 in
set_option maxRecDepth 100000 in
theorem k_L_set {γ : Gm} (G : Glo γ) (N : GNc γ) {σ : St} {s a : Int} {t n d k i : Int → Int} {w v : Int} (hC : CRep σ s a t n d k i) (hO : AOk s a t n d k i) (hw : R3 w) (hv : R3 v)  : Cww γ yL_set cL_set 5 (some .int) hL_set 5 [.ref (bs γ + 0), .int (iI w), .int (iI v), .ref (bs γ + 263)] σ (pI (fun z σ2 => lQ σ (op_set s a t n d k i w v) z σ2)) := by
  refine Cww.of G (by decide +kernel) (Nat.le_of_ble_eq_true rfl) (fun φ C hcr ht hr => ?_)
  have C : Cx γ φ RL cL_set 5 5 := C
  refine v_lv [(0, .ref (bs γ + 0)), (1, .int (iI w)), (2, .int (iI v)), (3, .ref (bs γ + 263))] [0, 1, 2, 3] rfl ?_
  refine v_aload_n (pc := 0) C 3 rfl dL_set_0 ?_
  refine v_iconst (pc := 1) C dL_set_1 ?_
  refine v_aload_n (pc := 2) C 0 rfl dL_set_2 ?_
  refine v_iload_n (pc := 3) C 1 rfl dL_set_3 ?_
  refine v_iload_n (pc := 4) C 2 rfl dL_set_4 ?_
  refine v_cvX (pc := 5) (as := [.int (iI w), .int (iI v)]) C (cy_X5_set G) (wM_L_63 G) sh_0 (ci := 3) rfl rfl (k_X5_set G hC hO hw hv) dL_set_5 rfl rfl (by decide) (by decide) (Nat.le_of_ble_eq_true rfl) ⟨by omega, by omega⟩ ?_ (k_I (fun z5 s5 q5 => ?_))
  · rintro E σ9 (⟨rfl, hx⟩)
    refine v_cat (hh := hL_set) C ht [] ⟨0, 10, 13, 13⟩ [] rfl (fun _ h => nomatch h) (by decide) (by decide) (wL_A G) (wK_A G) (fun q9 => ?_)
    refine v_astore (pc := 13) C [(4, .ref q9), (0, .ref (bs γ + 0)), (1, .int (iI w)), (2, .int (iI v)), (3, .ref (bs γ + 263))] dL_set_13 (by decide) rfl ?_
    refine v_iconst (pc := 15) C dL_set_15 ?_
    exact v_iretW (pc := 16) C ⟨by omega, by omega⟩ hr rfl dL_set_16 ⟨_, rfl, lQ_x hx (by decide)⟩
  refine v_bm ?_
  refine v_i2l (pc := 8) C (bmz_r _) dL_set_8 ?_
  refine v_last (pc := 9) C sh_263 (by decide) (by decide) (by have := bmz_r z5; omega) dL_set_9 ?_
  refine v_goto (pc := 10) C 17 dL_set_10 (by decide) ?_
  refine v_iconst (pc := 17) C dL_set_17 ?_
  exact v_iretW (pc := 18) C ⟨by omega, by omega⟩ hr rfl dL_set_18 ⟨_, rfl, lQ_ok q5⟩

abbrev hL_ticks : List (Nat × Nat × Nat × Nat) := [(0, 9, 12, 13)]
theorem cy_L_ticks {γ : Gm} (G : Glo γ) : (yL_ticks.cls ≠ "java/lang/invoke/MethodHandle" ∧ yL_ticks.cls ≠ "java/lang/invoke/VarHandle") ∧ (∀ sig, parseMethodDescriptor yL_ticks.desc = some sig → 3 = sig.parameters.length) ∧ Wrd γ (.codeWith yL_ticks cL_ticks 4 (some .int) hL_ticks) ∧ Wrd γ (.initialized yL_ticks.cls) ∧ Wrd γ (.static yL_ticks) := ⟨⟨by decide +kernel, by decide +kernel⟩, cy_n (by decide +kernel), wrd_of G 954 (by decide +kernel) (by decide +kernel), wrd_of G 23 (by decide +kernel) (by decide +kernel), wrd_of G 953 (by decide +kernel) (by decide +kernel)⟩
set_option maxHeartbeats 4000000 in
set_option maxRecDepth 100000 in
theorem k_L_ticks {γ : Gm} (G : Glo γ) (N : GNc γ) {σ : St} {s a : Int} {t n d k i : Int → Int} {m : Int} (hC : CRep σ s a t n d k i) (hO : AOk s a t n d k i) (hm : R3 m)  : Cww γ yL_ticks cL_ticks 4 (some .int) hL_ticks 7 [.ref (bs γ + 0), .int (iI m), .ref (bs γ + 263)] σ (pI (fun z σ2 => lQ σ (op_ticks s a t n d k i m) z σ2)) := by
  refine Cww.of G (by decide +kernel) (Nat.le_of_ble_eq_true rfl) (fun φ C hcr ht hr => ?_)
  have C : Cx γ φ RL cL_ticks 4 7 := C
  refine v_lv [(0, .ref (bs γ + 0)), (1, .int (iI m)), (2, .ref (bs γ + 263))] [0, 1, 2] rfl ?_
  refine v_aload_n (pc := 0) C 2 rfl dL_ticks_0 ?_
  refine v_iconst (pc := 1) C dL_ticks_1 ?_
  refine v_aload_n (pc := 2) C 0 rfl dL_ticks_2 ?_
  refine v_iload_n (pc := 3) C 1 rfl dL_ticks_3 ?_
  refine v_cvX (pc := 4) (as := [.int (iI m)]) C (cy_X5_ticks G) (wM_L_66 G) sh_0 (ci := 3) rfl rfl (k_X5_ticks G hC hO hm) dL_ticks_4 rfl rfl (by decide) (by decide) (Nat.le_of_ble_eq_true rfl) ⟨by omega, by omega⟩ ?_ (k_I (fun z4 s4 q4 => ?_))
  · rintro E σ9 (⟨rfl, hx⟩)
    refine v_cat (hh := hL_ticks) C ht [] ⟨0, 9, 12, 13⟩ [] rfl (fun _ h => nomatch h) (by decide) (by decide) (wL_A G) (wK_A G) (fun q9 => ?_)
    refine v_astore_n (pc := 12) C [(3, .ref q9), (0, .ref (bs γ + 0)), (1, .int (iI m)), (2, .ref (bs γ + 263))] dL_ticks_12 rfl (by decide) rfl ?_
    refine v_iconst (pc := 13) C dL_ticks_13 ?_
    exact v_iretW (pc := 14) C ⟨by omega, by omega⟩ hr rfl dL_ticks_14 ⟨_, rfl, lQ_x hx (by decide)⟩
  refine v_bm ?_
  refine v_i2l (pc := 7) C (bmz_r _) dL_ticks_7 ?_
  refine v_last (pc := 8) C sh_263 (by decide) (by decide) (by have := bmz_r z4; omega) dL_ticks_8 ?_
  refine v_goto (pc := 9) C 15 dL_ticks_9 (by decide) ?_
  refine v_iconst (pc := 15) C dL_ticks_15 ?_
  exact v_iretW (pc := 16) C ⟨by omega, by omega⟩ hr rfl dL_ticks_16 ⟨_, rfl, lQ_ok q4⟩

abbrev hL_undo : List (Nat × Nat × Nat × Nat) := [(0, 8, 11, 15)]
theorem cy_L_undo {γ : Gm} (G : Glo γ) : (yL_undo.cls ≠ "java/lang/invoke/MethodHandle" ∧ yL_undo.cls ≠ "java/lang/invoke/VarHandle") ∧ (∀ sig, parseMethodDescriptor yL_undo.desc = some sig → 2 = sig.parameters.length) ∧ Wrd γ (.codeWith yL_undo cL_undo 3 (some .int) hL_undo) ∧ Wrd γ (.initialized yL_undo.cls) ∧ Wrd γ (.static yL_undo) := ⟨⟨by decide +kernel, by decide +kernel⟩, cy_n (by decide +kernel), wrd_of G 967 (by decide +kernel) (by decide +kernel), wrd_of G 23 (by decide +kernel) (by decide +kernel), wrd_of G 966 (by decide +kernel) (by decide +kernel)⟩
set_option maxHeartbeats 4000000 in
set_option maxRecDepth 100000 in
theorem k_L_undo {γ : Gm} (G : Glo γ) (N : GNc γ) {σ : St} {s a : Int} {t n d k i : Int → Int} (hC : CRep σ s a t n d k i) (hO : AOk s a t n d k i)   : Cww γ yL_undo cL_undo 3 (some .int) hL_undo 4 [.ref (bs γ + 0), .ref (bs γ + 263)] σ (pI (fun z σ2 => lQ σ (op_undo s a t n d k i) z σ2)) := by
  refine Cww.of G (by decide +kernel) (Nat.le_of_ble_eq_true rfl) (fun φ C hcr ht hr => ?_)
  have C : Cx γ φ RL cL_undo 3 4 := C
  refine v_lv [(0, .ref (bs γ + 0)), (1, .ref (bs γ + 263))] [0, 1] rfl ?_
  refine v_aload_n (pc := 0) C 1 rfl dL_undo_0 ?_
  refine v_iconst (pc := 1) C dL_undo_1 ?_
  refine v_aload_n (pc := 2) C 0 rfl dL_undo_2 ?_
  refine v_cvX (pc := 3) (as := []) C (cy_X5_undo G) (wM_L_69 G) sh_0 (ci := 3) rfl rfl (k_X5_undo G hC hO) dL_undo_3 rfl rfl (by decide) (by decide) (Nat.le_of_ble_eq_true rfl) ⟨by omega, by omega⟩ ?_ (k_I (fun z3 s3 q3 => ?_))
  · rintro E σ9 (⟨rfl, hx⟩)
    refine v_cat (hh := hL_undo) C ht [] ⟨0, 8, 11, 15⟩ [] rfl (fun _ h => nomatch h) (by decide) (by decide) (wL_S G) (wK_S G) (fun q9 => ?_)
    refine v_astore_n (pc := 11) C [(2, .ref q9), (0, .ref (bs γ + 0)), (1, .ref (bs γ + 263))] dL_undo_11 rfl (by decide) rfl ?_
    refine v_iconst (pc := 12) C dL_undo_12 ?_
    exact v_iretW (pc := 13) C ⟨by omega, by omega⟩ hr rfl dL_undo_13 ⟨_, rfl, lQ_x hx (by decide)⟩
  refine v_bm ?_
  refine v_i2l (pc := 6) C (bmz_r _) dL_undo_6 ?_
  refine v_last (pc := 7) C sh_263 (by decide) (by decide) (by have := bmz_r z3; omega) dL_undo_7 ?_
  refine v_goto (pc := 8) C 14 dL_undo_8 (by decide) ?_
  refine v_iconst (pc := 14) C dL_undo_14 ?_
  exact v_iretW (pc := 15) C ⟨by omega, by omega⟩ hr rfl dL_undo_15 ⟨_, rfl, lQ_ok q3⟩

abbrev hL_beat : List (Nat × Nat × Nat × Nat) := [(0, 9, 12, 28)]
theorem cy_L_beat {γ : Gm} (G : Glo γ) : (yL_beat.cls ≠ "java/lang/invoke/MethodHandle" ∧ yL_beat.cls ≠ "java/lang/invoke/VarHandle") ∧ (∀ sig, parseMethodDescriptor yL_beat.desc = some sig → 3 = sig.parameters.length) ∧ Wrd γ (.codeWith yL_beat cL_beat 4 (some .int) hL_beat) ∧ Wrd γ (.initialized yL_beat.cls) ∧ Wrd γ (.static yL_beat) := ⟨⟨by decide +kernel, by decide +kernel⟩, cy_n (by decide +kernel), wrd_of G 978 (by decide +kernel) (by decide +kernel), wrd_of G 23 (by decide +kernel) (by decide +kernel), wrd_of G 977 (by decide +kernel) (by decide +kernel)⟩
set_option maxHeartbeats 4000000 in
set_option maxRecDepth 100000 in
theorem k_L_beat {γ : Gm} (G : Glo γ) (N : GNc γ) {σ : St} {s a : Int} {t n d k i : Int → Int} {v : Int} (hC : CRep σ s a t n d k i) (hO : AOk s a t n d k i) (hv : R3 v)  : Cww γ yL_beat cL_beat 4 (some .int) hL_beat 7 [.ref (bs γ + 0), .int (iI v), .ref (bs γ + 263)] σ (pI (fun z σ2 => lQ σ (op_beat s a t n d k i v) z σ2)) := by
  refine Cww.of G (by decide +kernel) (Nat.le_of_ble_eq_true rfl) (fun φ C hcr ht hr => ?_)
  have C : Cx γ φ RL cL_beat 4 7 := C
  refine v_lv [(0, .ref (bs γ + 0)), (1, .int (iI v)), (2, .ref (bs γ + 263))] [0, 1, 2] rfl ?_
  refine v_aload_n (pc := 0) C 2 rfl dL_beat_0 ?_
  refine v_iconst (pc := 1) C dL_beat_1 ?_
  refine v_aload_n (pc := 2) C 0 rfl dL_beat_2 ?_
  refine v_iload_n (pc := 3) C 1 rfl dL_beat_3 ?_
  refine v_cvX (pc := 4) (as := [.int (iI v)]) C (cy_X5_beat G) (wM_L_72 G) sh_0 (ci := 3) rfl rfl (k_X5_beat G hC hO hv) dL_beat_4 rfl rfl (by decide) (by decide) (Nat.le_of_ble_eq_true rfl) ⟨by omega, by omega⟩ ?_ (k_I (fun z4 s4 q4 => ?_))
  · rintro E σ9 (⟨rfl, hx⟩)
    refine v_cat (hh := hL_beat) C ht [] ⟨0, 9, 12, 28⟩ [] rfl (fun _ h => nomatch h) (by decide) (by decide) (wL_I G) (wK_I G) (fun q9 => ?_)
    refine v_astore_n (pc := 12) C [(3, .ref q9), (0, .ref (bs γ + 0)), (1, .int (iI v)), (2, .ref (bs γ + 263))] dL_beat_12 rfl (by decide) rfl ?_
    refine v_iconst (pc := 13) C dL_beat_13 ?_
    exact v_iretW (pc := 14) C ⟨by omega, by omega⟩ hr rfl dL_beat_14 ⟨_, rfl, lQ_x hx (by decide)⟩
  refine v_bm ?_
  refine v_i2l (pc := 7) C (bmz_r _) dL_beat_7 ?_
  refine v_last (pc := 8) C sh_263 (by decide) (by decide) (by have := bmz_r z4; omega) dL_beat_8 ?_
  refine v_goto (pc := 9) C 15 dL_beat_9 (by decide) ?_
  refine v_iconst (pc := 15) C dL_beat_15 ?_
  exact v_iretW (pc := 16) C ⟨by omega, by omega⟩ hr rfl dL_beat_16 ⟨_, rfl, lQ_ok q4⟩

abbrev hL_rule : List (Nat × Nat × Nat × Nat) := [(0, 12, 15, 28), (0, 12, 19, 13)]
theorem cy_L_rule {γ : Gm} (G : Glo γ) : (yL_rule.cls ≠ "java/lang/invoke/MethodHandle" ∧ yL_rule.cls ≠ "java/lang/invoke/VarHandle") ∧ (∀ sig, parseMethodDescriptor yL_rule.desc = some sig → 5 = sig.parameters.length) ∧ Wrd γ (.codeWith yL_rule cL_rule 6 (some .int) hL_rule) ∧ Wrd γ (.initialized yL_rule.cls) ∧ Wrd γ (.static yL_rule) := ⟨⟨by decide +kernel, by decide +kernel⟩, cy_n (by decide +kernel), wrd_of G 990 (by decide +kernel) (by decide +kernel), wrd_of G 23 (by decide +kernel) (by decide +kernel), wrd_of G 989 (by decide +kernel) (by decide +kernel)⟩
set_option maxHeartbeats 4000000 in
set_option maxRecDepth 100000 in
theorem k_L_rule {γ : Gm} (G : Glo γ) (N : GNc γ) {σ : St} {s a : Int} {t n d k i : Int → Int} {c y v : Int} (hC : CRep σ s a t n d k i) (hO : AOk s a t n d k i) (hc : R3 c) (hy : R3 y) (hv : R3 v)  : Cww γ yL_rule cL_rule 6 (some .int) hL_rule 7 [.ref (bs γ + 0), .int (iI c), .int (iI y), .int (iI v), .ref (bs γ + 263)] σ (pI (fun z σ2 => lQ σ (op_rule s a t n d k i c y v) z σ2)) := by
  refine Cww.of G (by decide +kernel) (Nat.le_of_ble_eq_true rfl) (fun φ C hcr ht hr => ?_)
  have C : Cx γ φ RL cL_rule 6 7 := C
  refine v_lv [(0, .ref (bs γ + 0)), (1, .int (iI c)), (2, .int (iI y)), (3, .int (iI v)), (4, .ref (bs γ + 263))] [0, 1, 2, 3, 4] rfl ?_
  refine v_aload (pc := 0) C 4 rfl dL_rule_0 ?_
  refine v_iconst (pc := 2) C dL_rule_2 ?_
  refine v_aload_n (pc := 3) C 0 rfl dL_rule_3 ?_
  refine v_iload_n (pc := 4) C 1 rfl dL_rule_4 ?_
  refine v_iload_n (pc := 5) C 2 rfl dL_rule_5 ?_
  refine v_iload_n (pc := 6) C 3 rfl dL_rule_6 ?_
  refine v_cvX (pc := 7) (as := [.int (iI c), .int (iI y), .int (iI v)]) C (cy_X5_rule G) (wM_L_75 G) sh_0 (ci := 3) rfl rfl (k_X5_rule G hC hO hc hy hv) dL_rule_7 rfl rfl (by decide) (by decide) (Nat.le_of_ble_eq_true rfl) ⟨by omega, by omega⟩ ?_ (k_I (fun z7 s7 q7 => ?_))
  · rintro E σ9 (⟨rfl, hx⟩ | ⟨rfl, hx⟩)
    · refine v_cat (hh := hL_rule) C ht [] ⟨0, 12, 15, 28⟩ [⟨0, 12, 19, 13⟩] rfl (fun _ h => nomatch h) (by decide) (by decide) (wL_I G) (wK_I G) (fun q9 => ?_)
      refine v_astore (pc := 15) C [(5, .ref q9), (0, .ref (bs γ + 0)), (1, .int (iI c)), (2, .int (iI y)), (3, .int (iI v)), (4, .ref (bs γ + 263))] dL_rule_15 (by decide) rfl ?_
      refine v_iconst (pc := 17) C dL_rule_17 ?_
      exact v_iretW (pc := 18) C ⟨by omega, by omega⟩ hr rfl dL_rule_18 ⟨_, rfl, lQ_x hx (by decide)⟩
    · refine v_cat (hh := hL_rule) C ht [⟨0, 12, 15, 28⟩] ⟨0, 12, 19, 13⟩ [] rfl (List.forall_mem_cons.mpr ⟨⟨by decide, _, wL_I G, N.2.2.1⟩, fun _ h => nomatch h⟩) (by decide) (by decide) (wL_A G) (wK_A G) (fun q9 => ?_)
      refine v_astore (pc := 19) C [(5, .ref q9), (0, .ref (bs γ + 0)), (1, .int (iI c)), (2, .int (iI y)), (3, .int (iI v)), (4, .ref (bs γ + 263))] dL_rule_19 (by decide) rfl ?_
      refine v_iconst (pc := 21) C dL_rule_21 ?_
      exact v_iretW (pc := 22) C ⟨by omega, by omega⟩ hr rfl dL_rule_22 ⟨_, rfl, lQ_x hx (by decide)⟩
  refine v_bm ?_
  refine v_i2l (pc := 10) C (bmz_r _) dL_rule_10 ?_
  refine v_last (pc := 11) C sh_263 (by decide) (by decide) (by have := bmz_r z7; omega) dL_rule_11 ?_
  refine v_goto (pc := 12) C 23 dL_rule_12 (by decide) ?_
  refine v_iconst (pc := 23) C dL_rule_23 ?_
  exact v_iretW (pc := 24) C ⟨by omega, by omega⟩ hr rfl dL_rule_24 ⟨_, rfl, lQ_ok q7⟩

abbrev hL_ifLeak : List (Nat × Nat × Nat × Nat) := [(0, 12, 15, 28), (0, 12, 19, 13)]
theorem cy_L_ifLeak {γ : Gm} (G : Glo γ) : (yL_ifLeak.cls ≠ "java/lang/invoke/MethodHandle" ∧ yL_ifLeak.cls ≠ "java/lang/invoke/VarHandle") ∧ (∀ sig, parseMethodDescriptor yL_ifLeak.desc = some sig → 5 = sig.parameters.length) ∧ Wrd γ (.codeWith yL_ifLeak cL_ifLeak 6 (some .int) hL_ifLeak) ∧ Wrd γ (.initialized yL_ifLeak.cls) ∧ Wrd γ (.static yL_ifLeak) := ⟨⟨by decide +kernel, by decide +kernel⟩, cy_n (by decide +kernel), wrd_of G 997 (by decide +kernel) (by decide +kernel), wrd_of G 23 (by decide +kernel) (by decide +kernel), wrd_of G 996 (by decide +kernel) (by decide +kernel)⟩
set_option maxHeartbeats 4000000 in
set_option maxRecDepth 100000 in
theorem k_L_ifLeak {γ : Gm} (G : Glo γ) (N : GNc γ) {σ : St} {s a : Int} {t n d k i : Int → Int} {e l v : Int} (hC : CRep σ s a t n d k i) (hO : AOk s a t n d k i) (he : R3 e) (hl : R3 l) (hv : R3 v)  : Cww γ yL_ifLeak cL_ifLeak 6 (some .int) hL_ifLeak 8 [.ref (bs γ + 0), .int (iI e), .int (iI l), .int (iI v), .ref (bs γ + 263)] σ (pI (fun z σ2 => lQ σ (op_ifLeak s a t n d k i e l v) z σ2)) := by
  refine Cww.of G (by decide +kernel) (Nat.le_of_ble_eq_true rfl) (fun φ C hcr ht hr => ?_)
  have C : Cx γ φ RL cL_ifLeak 6 8 := C
  refine v_lv [(0, .ref (bs γ + 0)), (1, .int (iI e)), (2, .int (iI l)), (3, .int (iI v)), (4, .ref (bs γ + 263))] [0, 1, 2, 3, 4] rfl ?_
  refine v_aload (pc := 0) C 4 rfl dL_ifLeak_0 ?_
  refine v_iconst (pc := 2) C dL_ifLeak_2 ?_
  refine v_aload_n (pc := 3) C 0 rfl dL_ifLeak_3 ?_
  refine v_iload_n (pc := 4) C 1 rfl dL_ifLeak_4 ?_
  refine v_iload_n (pc := 5) C 2 rfl dL_ifLeak_5 ?_
  refine v_iload_n (pc := 6) C 3 rfl dL_ifLeak_6 ?_
  refine v_cvX (pc := 7) (as := [.int (iI e), .int (iI l), .int (iI v)]) C (cy_X5_ifLeak G) (wM_L_78 G) sh_0 (ci := 3) rfl rfl (k_X5_ifLeak G hC hO he hl hv) dL_ifLeak_7 rfl rfl (by decide) (by decide) (Nat.le_of_ble_eq_true rfl) ⟨by omega, by omega⟩ ?_ (k_I (fun z7 s7 q7 => ?_))
  · rintro E σ9 (⟨rfl, hx⟩ | ⟨rfl, hx⟩)
    · refine v_cat (hh := hL_ifLeak) C ht [] ⟨0, 12, 15, 28⟩ [⟨0, 12, 19, 13⟩] rfl (fun _ h => nomatch h) (by decide) (by decide) (wL_I G) (wK_I G) (fun q9 => ?_)
      refine v_astore (pc := 15) C [(5, .ref q9), (0, .ref (bs γ + 0)), (1, .int (iI e)), (2, .int (iI l)), (3, .int (iI v)), (4, .ref (bs γ + 263))] dL_ifLeak_15 (by decide) rfl ?_
      refine v_iconst (pc := 17) C dL_ifLeak_17 ?_
      exact v_iretW (pc := 18) C ⟨by omega, by omega⟩ hr rfl dL_ifLeak_18 ⟨_, rfl, lQ_x hx (by decide)⟩
    · refine v_cat (hh := hL_ifLeak) C ht [⟨0, 12, 15, 28⟩] ⟨0, 12, 19, 13⟩ [] rfl (List.forall_mem_cons.mpr ⟨⟨by decide, _, wL_I G, N.2.2.1⟩, fun _ h => nomatch h⟩) (by decide) (by decide) (wL_A G) (wK_A G) (fun q9 => ?_)
      refine v_astore (pc := 19) C [(5, .ref q9), (0, .ref (bs γ + 0)), (1, .int (iI e)), (2, .int (iI l)), (3, .int (iI v)), (4, .ref (bs γ + 263))] dL_ifLeak_19 (by decide) rfl ?_
      refine v_iconst (pc := 21) C dL_ifLeak_21 ?_
      exact v_iretW (pc := 22) C ⟨by omega, by omega⟩ hr rfl dL_ifLeak_22 ⟨_, rfl, lQ_x hx (by decide)⟩
  refine v_bm ?_
  refine v_i2l (pc := 10) C (bmz_r _) dL_ifLeak_10 ?_
  refine v_last (pc := 11) C sh_263 (by decide) (by decide) (by have := bmz_r z7; omega) dL_ifLeak_11 ?_
  refine v_goto (pc := 12) C 23 dL_ifLeak_12 (by decide) ?_
  refine v_iconst (pc := 23) C dL_ifLeak_23 ?_
  exact v_iretW (pc := 24) C ⟨by omega, by omega⟩ hr rfl dL_ifLeak_24 ⟨_, rfl, lQ_ok q7⟩

abbrev hL_suspect : List (Nat × Nat × Nat × Nat) := [(0, 10, 13, 28), (0, 10, 17, 13)]
theorem cy_L_suspect {γ : Gm} (G : Glo γ) : (yL_suspect.cls ≠ "java/lang/invoke/MethodHandle" ∧ yL_suspect.cls ≠ "java/lang/invoke/VarHandle") ∧ (∀ sig, parseMethodDescriptor yL_suspect.desc = some sig → 4 = sig.parameters.length) ∧ Wrd γ (.codeWith yL_suspect cL_suspect 5 (some .int) hL_suspect) ∧ Wrd γ (.initialized yL_suspect.cls) ∧ Wrd γ (.static yL_suspect) := ⟨⟨by decide +kernel, by decide +kernel⟩, cy_n (by decide +kernel), wrd_of G 1008 (by decide +kernel) (by decide +kernel), wrd_of G 23 (by decide +kernel) (by decide +kernel), wrd_of G 1007 (by decide +kernel) (by decide +kernel)⟩
set_option maxHeartbeats 4000000 in
set_option maxRecDepth 100000 in
theorem k_L_suspect {γ : Gm} (G : Glo γ) (N : GNc γ) {σ : St} {s a : Int} {t n d k i : Int → Int} {v b : Int} (hC : CRep σ s a t n d k i) (hO : AOk s a t n d k i) (hv : R3 v) (hb : R3 b)  : Cww γ yL_suspect cL_suspect 5 (some .int) hL_suspect 8 [.ref (bs γ + 0), .int (iI v), .int (iI b), .ref (bs γ + 263)] σ (pI (fun z σ2 => lQ σ (op_suspect s a t n d k i v b) z σ2)) := by
  refine Cww.of G (by decide +kernel) (Nat.le_of_ble_eq_true rfl) (fun φ C hcr ht hr => ?_)
  have C : Cx γ φ RL cL_suspect 5 8 := C
  refine v_lv [(0, .ref (bs γ + 0)), (1, .int (iI v)), (2, .int (iI b)), (3, .ref (bs γ + 263))] [0, 1, 2, 3] rfl ?_
  refine v_aload_n (pc := 0) C 3 rfl dL_suspect_0 ?_
  refine v_iconst (pc := 1) C dL_suspect_1 ?_
  refine v_aload_n (pc := 2) C 0 rfl dL_suspect_2 ?_
  refine v_iload_n (pc := 3) C 1 rfl dL_suspect_3 ?_
  refine v_iload_n (pc := 4) C 2 rfl dL_suspect_4 ?_
  refine v_cvX (pc := 5) (as := [.int (iI v), .int (iI b)]) C (cy_X5_suspect G) (wM_L_81 G) sh_0 (ci := 3) rfl rfl (k_X5_suspect G hC hO hv hb) dL_suspect_5 rfl rfl (by decide) (by decide) (Nat.le_of_ble_eq_true rfl) ⟨by omega, by omega⟩ ?_ (k_I (fun z5 s5 q5 => ?_))
  · rintro E σ9 (⟨rfl, hx⟩ | ⟨rfl, hx⟩)
    · refine v_cat (hh := hL_suspect) C ht [] ⟨0, 10, 13, 28⟩ [⟨0, 10, 17, 13⟩] rfl (fun _ h => nomatch h) (by decide) (by decide) (wL_I G) (wK_I G) (fun q9 => ?_)
      refine v_astore (pc := 13) C [(4, .ref q9), (0, .ref (bs γ + 0)), (1, .int (iI v)), (2, .int (iI b)), (3, .ref (bs γ + 263))] dL_suspect_13 (by decide) rfl ?_
      refine v_iconst (pc := 15) C dL_suspect_15 ?_
      exact v_iretW (pc := 16) C ⟨by omega, by omega⟩ hr rfl dL_suspect_16 ⟨_, rfl, lQ_x hx (by decide)⟩
    · refine v_cat (hh := hL_suspect) C ht [⟨0, 10, 13, 28⟩] ⟨0, 10, 17, 13⟩ [] rfl (List.forall_mem_cons.mpr ⟨⟨by decide, _, wL_I G, N.2.2.1⟩, fun _ h => nomatch h⟩) (by decide) (by decide) (wL_A G) (wK_A G) (fun q9 => ?_)
      refine v_astore (pc := 17) C [(4, .ref q9), (0, .ref (bs γ + 0)), (1, .int (iI v)), (2, .int (iI b)), (3, .ref (bs γ + 263))] dL_suspect_17 (by decide) rfl ?_
      refine v_iconst (pc := 19) C dL_suspect_19 ?_
      exact v_iretW (pc := 20) C ⟨by omega, by omega⟩ hr rfl dL_suspect_20 ⟨_, rfl, lQ_x hx (by decide)⟩
  refine v_bm ?_
  refine v_i2l (pc := 8) C (bmz_r _) dL_suspect_8 ?_
  refine v_last (pc := 9) C sh_263 (by decide) (by decide) (by have := bmz_r z5; omega) dL_suspect_9 ?_
  refine v_goto (pc := 10) C 21 dL_suspect_10 (by decide) ?_
  refine v_iconst (pc := 21) C dL_suspect_21 ?_
  exact v_iretW (pc := 22) C ⟨by omega, by omega⟩ hr rfl dL_suspect_22 ⟨_, rfl, lQ_ok q5⟩

abbrev hL_runScript : List (Nat × Nat × Nat × Nat) := [(0, 11, 14, 13)]
theorem cy_L_runScript {γ : Gm} (G : Glo γ) : (yL_runScript.cls ≠ "java/lang/invoke/MethodHandle" ∧ yL_runScript.cls ≠ "java/lang/invoke/VarHandle") ∧ (∀ sig, parseMethodDescriptor yL_runScript.desc = some sig → 4 = sig.parameters.length) ∧ Wrd γ (.codeWith yL_runScript cL_runScript 6 (some .int) hL_runScript) ∧ Wrd γ (.initialized yL_runScript.cls) ∧ Wrd γ (.static yL_runScript) := ⟨⟨by decide +kernel, by decide +kernel⟩, cy_n (by decide +kernel), wrd_of G 1015 (by decide +kernel) (by decide +kernel), wrd_of G 23 (by decide +kernel) (by decide +kernel), wrd_of G 1014 (by decide +kernel) (by decide +kernel)⟩
set_option maxHeartbeats 4000000 in
set_option maxRecDepth 100000 in
theorem k_L_runScript {γ : Gm} (G : Glo γ) (N : GNc γ) {σ : St} {s a : Int} {t n d k i : Int → Int} {m b : Int} (hC : CRep σ s a t n d k i) (hO : AOk s a t n d k i) (hm : R3 m) (hb : R6 b) : Cww γ yL_runScript cL_runScript 6 (some .int) hL_runScript 8 [.ref (bs γ + 0), .int (iI m), .long (lI b), .ref (bs γ + 263)] σ (pI (fun z σ2 => lQ σ (op_runScript s a t n d k i m b) z σ2)) := by
  refine Cww.of G (by decide +kernel) (Nat.le_of_ble_eq_true rfl) (fun φ C hcr ht hr => ?_)
  have C : Cx γ φ RL cL_runScript 6 8 := C
  refine v_lv [(0, .ref (bs γ + 0)), (1, .int (iI m)), (2, .long (lI b)), (4, .ref (bs γ + 263))] [0, 1, 2, 3] rfl ?_
  refine v_aload (pc := 0) C 3 rfl dL_runScript_0 ?_
  refine v_iconst (pc := 2) C dL_runScript_2 ?_
  refine v_aload_n (pc := 3) C 0 rfl dL_runScript_3 ?_
  refine v_iload_n (pc := 4) C 1 rfl dL_runScript_4 ?_
  refine v_lload_n (pc := 5) C 2 rfl dL_runScript_5 ?_
  refine v_cvX (pc := 6) (as := [.int (iI m), .long (lI b)]) C (cy_X5_runScript G) (wM_L_84 G) sh_0 (ci := 3) rfl rfl (k_X5_runScript G hC hO hm hb) dL_runScript_6 rfl rfl (by decide) (by decide) (Nat.le_of_ble_eq_true rfl) ⟨by omega, by omega⟩ ?_ (k_I (fun z6 s6 q6 => ?_))
  · rintro E σ9 (⟨rfl, hx⟩)
    refine v_cat (hh := hL_runScript) C ht [] ⟨0, 11, 14, 13⟩ [] rfl (fun _ h => nomatch h) (by decide) (by decide) (wL_A G) (wK_A G) (fun q9 => ?_)
    refine v_astore (pc := 14) C [(5, .ref q9), (0, .ref (bs γ + 0)), (1, .int (iI m)), (2, .long (lI b)), (4, .ref (bs γ + 263))] dL_runScript_14 (by decide) rfl ?_
    refine v_iconst (pc := 16) C dL_runScript_16 ?_
    exact v_iretW (pc := 17) C ⟨by omega, by omega⟩ hr rfl dL_runScript_17 ⟨_, rfl, lQ_x hx (by decide)⟩
  refine v_bm ?_
  refine v_i2l (pc := 9) C (bmz_r _) dL_runScript_9 ?_
  refine v_last (pc := 10) C sh_263 (by decide) (by decide) (by have := bmz_r z6; omega) dL_runScript_10 ?_
  refine v_goto (pc := 11) C 18 dL_runScript_11 (by decide) ?_
  refine v_iconst (pc := 18) C dL_runScript_18 ?_
  exact v_iretW (pc := 19) C ⟨by omega, by omega⟩ hr rfl dL_runScript_19 ⟨_, rfl, lQ_ok q6⟩

abbrev hL_simulate : List (Nat × Nat × Nat × Nat) := [(0, 11, 14, 13)]
theorem cy_L_simulate {γ : Gm} (G : Glo γ) : (yL_simulate.cls ≠ "java/lang/invoke/MethodHandle" ∧ yL_simulate.cls ≠ "java/lang/invoke/VarHandle") ∧ (∀ sig, parseMethodDescriptor yL_simulate.desc = some sig → 4 = sig.parameters.length) ∧ Wrd γ (.codeWith yL_simulate cL_simulate 6 (some .int) hL_simulate) ∧ Wrd γ (.initialized yL_simulate.cls) ∧ Wrd γ (.static yL_simulate) := ⟨⟨by decide +kernel, by decide +kernel⟩, cy_n (by decide +kernel), wrd_of G 1045 (by decide +kernel) (by decide +kernel), wrd_of G 23 (by decide +kernel) (by decide +kernel), wrd_of G 1044 (by decide +kernel) (by decide +kernel)⟩
set_option maxHeartbeats 4000000 in
set_option maxRecDepth 100000 in
theorem k_L_simulate {γ : Gm} (G : Glo γ) (N : GNc γ) {σ : St} {s a : Int} {t n d k i : Int → Int} {b m : Int} (hC : CRep σ s a t n d k i) (hO : AOk s a t n d k i) (hm : R3 m)  : Cww γ yL_simulate cL_simulate 6 (some .int) hL_simulate 8 [.ref (bs γ + 0), .long (lI b), .int (iI m), .ref (bs γ + 263)] σ (pI (fun z σ2 => lQ σ (op_simulate s a t n d k i b m) z σ2)) := by
  refine Cww.of G (by decide +kernel) (Nat.le_of_ble_eq_true rfl) (fun φ C hcr ht hr => ?_)
  have C : Cx γ φ RL cL_simulate 6 8 := C
  refine v_lv [(0, .ref (bs γ + 0)), (1, .long (lI b)), (3, .int (iI m)), (4, .ref (bs γ + 263))] [0, 1, 2, 3] rfl ?_
  refine v_aload (pc := 0) C 3 rfl dL_simulate_0 ?_
  refine v_iconst (pc := 2) C dL_simulate_2 ?_
  refine v_aload_n (pc := 3) C 0 rfl dL_simulate_3 ?_
  refine v_lload_n (pc := 4) C 1 rfl dL_simulate_4 ?_
  refine v_iload_n (pc := 5) C 2 rfl dL_simulate_5 ?_
  refine v_cvX (pc := 6) (as := [.long (lI b), .int (iI m)]) C (cy_X5_simulate G) (wM_L_88 G) sh_0 (ci := 3) rfl rfl (k_X5_simulate G hC hO hm) dL_simulate_6 rfl rfl (by decide) (by decide) (Nat.le_of_ble_eq_true rfl) ⟨by omega, by omega⟩ ?_ (k_I (fun z6 s6 q6 => ?_))
  · rintro E σ9 (⟨rfl, hx⟩)
    refine v_cat (hh := hL_simulate) C ht [] ⟨0, 11, 14, 13⟩ [] rfl (fun _ h => nomatch h) (by decide) (by decide) (wL_A G) (wK_A G) (fun q9 => ?_)
    refine v_astore (pc := 14) C [(5, .ref q9), (0, .ref (bs γ + 0)), (1, .long (lI b)), (3, .int (iI m)), (4, .ref (bs γ + 263))] dL_simulate_14 (by decide) rfl ?_
    refine v_iconst (pc := 16) C dL_simulate_16 ?_
    exact v_iretW (pc := 17) C ⟨by omega, by omega⟩ hr rfl dL_simulate_17 ⟨_, rfl, lQ_x hx (by decide)⟩
  refine v_bm ?_
  refine v_i2l (pc := 9) C (bmz_r _) dL_simulate_9 ?_
  refine v_last (pc := 10) C sh_263 (by decide) (by decide) (by have := bmz_r z6; omega) dL_simulate_10 ?_
  refine v_goto (pc := 11) C 18 dL_simulate_11 (by decide) ?_
  refine v_iconst (pc := 18) C dL_simulate_18 ?_
  exact v_iretW (pc := 19) C ⟨by omega, by omega⟩ hr rfl dL_simulate_19 ⟨_, rfl, lQ_ok q6⟩

abbrev hL_save : List (Nat × Nat × Nat × Nat) := [(0, 9, 12, 28)]
theorem cy_L_save {γ : Gm} (G : Glo γ) : (yL_save.cls ≠ "java/lang/invoke/MethodHandle" ∧ yL_save.cls ≠ "java/lang/invoke/VarHandle") ∧ (∀ sig, parseMethodDescriptor yL_save.desc = some sig → 3 = sig.parameters.length) ∧ Wrd γ (.codeWith yL_save cL_save 4 (some .int) hL_save) ∧ Wrd γ (.initialized yL_save.cls) ∧ Wrd γ (.static yL_save) := ⟨⟨by decide +kernel, by decide +kernel⟩, cy_n (by decide +kernel), wrd_of G 1060 (by decide +kernel) (by decide +kernel), wrd_of G 23 (by decide +kernel) (by decide +kernel), wrd_of G 1059 (by decide +kernel) (by decide +kernel)⟩
set_option maxHeartbeats 4000000 in
set_option maxRecDepth 100000 in
theorem k_L_save {γ : Gm} (G : Glo γ) (N : GNc γ) {σ : St} {s a : Int} {t n d k i : Int → Int} {q : Int} (hC : CRep σ s a t n d k i) (hO : AOk s a t n d k i) (hq : R3 q)  : Cww γ yL_save cL_save 4 (some .int) hL_save 4 [.ref (bs γ + 0), .int (iI q), .ref (bs γ + 263)] σ (pI (fun z σ2 => lQ σ (op_save s a t n d k i q) z σ2)) := by
  refine Cww.of G (by decide +kernel) (Nat.le_of_ble_eq_true rfl) (fun φ C hcr ht hr => ?_)
  have C : Cx γ φ RL cL_save 4 4 := C
  refine v_lv [(0, .ref (bs γ + 0)), (1, .int (iI q)), (2, .ref (bs γ + 263))] [0, 1, 2] rfl ?_
  refine v_aload_n (pc := 0) C 2 rfl dL_save_0 ?_
  refine v_iconst (pc := 1) C dL_save_1 ?_
  refine v_aload_n (pc := 2) C 0 rfl dL_save_2 ?_
  refine v_iload_n (pc := 3) C 1 rfl dL_save_3 ?_
  refine v_cvX (pc := 4) (as := [.int (iI q)]) C (cy_X5_save G) (wM_L_92 G) sh_0 (ci := 3) rfl rfl (k_X5_save G hC hO hq) dL_save_4 rfl rfl (by decide) (by decide) (Nat.le_of_ble_eq_true rfl) ⟨by omega, by omega⟩ ?_ (k_I (fun z4 s4 q4 => ?_))
  · rintro E σ9 (⟨rfl, hx⟩)
    refine v_cat (hh := hL_save) C ht [] ⟨0, 9, 12, 28⟩ [] rfl (fun _ h => nomatch h) (by decide) (by decide) (wL_I G) (wK_I G) (fun q9 => ?_)
    refine v_astore_n (pc := 12) C [(3, .ref q9), (0, .ref (bs γ + 0)), (1, .int (iI q)), (2, .ref (bs γ + 263))] dL_save_12 rfl (by decide) rfl ?_
    refine v_iconst (pc := 13) C dL_save_13 ?_
    exact v_iretW (pc := 14) C ⟨by omega, by omega⟩ hr rfl dL_save_14 ⟨_, rfl, lQ_x hx (by decide)⟩
  refine v_bm ?_
  refine v_i2l (pc := 7) C (bmz_r _) dL_save_7 ?_
  refine v_last (pc := 8) C sh_263 (by decide) (by decide) (by have := bmz_r z4; omega) dL_save_8 ?_
  refine v_goto (pc := 9) C 15 dL_save_9 (by decide) ?_
  refine v_iconst (pc := 15) C dL_save_15 ?_
  exact v_iretW (pc := 16) C ⟨by omega, by omega⟩ hr rfl dL_save_16 ⟨_, rfl, lQ_ok q4⟩

abbrev hL_restore : List (Nat × Nat × Nat × Nat) := [(0, 9, 12, 28), (0, 9, 15, 15)]
theorem cy_L_restore {γ : Gm} (G : Glo γ) : (yL_restore.cls ≠ "java/lang/invoke/MethodHandle" ∧ yL_restore.cls ≠ "java/lang/invoke/VarHandle") ∧ (∀ sig, parseMethodDescriptor yL_restore.desc = some sig → 3 = sig.parameters.length) ∧ Wrd γ (.codeWith yL_restore cL_restore 4 (some .int) hL_restore) ∧ Wrd γ (.initialized yL_restore.cls) ∧ Wrd γ (.static yL_restore) := ⟨⟨by decide +kernel, by decide +kernel⟩, cy_n (by decide +kernel), wrd_of G 1067 (by decide +kernel) (by decide +kernel), wrd_of G 23 (by decide +kernel) (by decide +kernel), wrd_of G 1066 (by decide +kernel) (by decide +kernel)⟩
set_option maxHeartbeats 4000000 in
set_option maxRecDepth 100000 in
theorem k_L_restore {γ : Gm} (G : Glo γ) (N : GNc γ) {σ : St} {s a : Int} {t n d k i : Int → Int} {q : Int} (hC : CRep σ s a t n d k i) (hO : AOk s a t n d k i) (hq : R3 q)  : Cww γ yL_restore cL_restore 4 (some .int) hL_restore 4 [.ref (bs γ + 0), .int (iI q), .ref (bs γ + 263)] σ (pI (fun z σ2 => lQ σ (op_restore s a t n d k i q) z σ2)) := by
  refine Cww.of G (by decide +kernel) (Nat.le_of_ble_eq_true rfl) (fun φ C hcr ht hr => ?_)
  have C : Cx γ φ RL cL_restore 4 4 := C
  refine v_lv [(0, .ref (bs γ + 0)), (1, .int (iI q)), (2, .ref (bs γ + 263))] [0, 1, 2] rfl ?_
  refine v_aload_n (pc := 0) C 2 rfl dL_restore_0 ?_
  refine v_iconst (pc := 1) C dL_restore_1 ?_
  refine v_aload_n (pc := 2) C 0 rfl dL_restore_2 ?_
  refine v_iload_n (pc := 3) C 1 rfl dL_restore_3 ?_
  refine v_cvX (pc := 4) (as := [.int (iI q)]) C (cy_X5_restore G) (wM_L_95 G) sh_0 (ci := 3) rfl rfl (k_X5_restore G hC hO hq) dL_restore_4 rfl rfl (by decide) (by decide) (Nat.le_of_ble_eq_true rfl) ⟨by omega, by omega⟩ ?_ (k_I (fun z4 s4 q4 => ?_))
  · rintro E σ9 (⟨rfl, hx⟩ | ⟨rfl, hx⟩)
    · refine v_cat (hh := hL_restore) C ht [] ⟨0, 9, 12, 28⟩ [⟨0, 9, 15, 15⟩] rfl (fun _ h => nomatch h) (by decide) (by decide) (wL_I G) (wK_I G) (fun q9 => ?_)
      refine v_astore_n (pc := 12) C [(3, .ref q9), (0, .ref (bs γ + 0)), (1, .int (iI q)), (2, .ref (bs γ + 263))] dL_restore_12 rfl (by decide) rfl ?_
      refine v_iconst (pc := 13) C dL_restore_13 ?_
      exact v_iretW (pc := 14) C ⟨by omega, by omega⟩ hr rfl dL_restore_14 ⟨_, rfl, lQ_x hx (by decide)⟩
    · refine v_cat (hh := hL_restore) C ht [⟨0, 9, 12, 28⟩] ⟨0, 9, 15, 15⟩ [] rfl (List.forall_mem_cons.mpr ⟨⟨by decide, _, wL_I G, N.2.2.2⟩, fun _ h => nomatch h⟩) (by decide) (by decide) (wL_S G) (wK_S G) (fun q9 => ?_)
      refine v_astore_n (pc := 15) C [(3, .ref q9), (0, .ref (bs γ + 0)), (1, .int (iI q)), (2, .ref (bs γ + 263))] dL_restore_15 rfl (by decide) rfl ?_
      refine v_iconst (pc := 16) C dL_restore_16 ?_
      exact v_iretW (pc := 17) C ⟨by omega, by omega⟩ hr rfl dL_restore_17 ⟨_, rfl, lQ_x hx (by decide)⟩
  refine v_bm ?_
  refine v_i2l (pc := 7) C (bmz_r _) dL_restore_7 ?_
  refine v_last (pc := 8) C sh_263 (by decide) (by decide) (by have := bmz_r z4; omega) dL_restore_8 ?_
  refine v_goto (pc := 9) C 18 dL_restore_9 (by decide) ?_
  refine v_iconst (pc := 18) C dL_restore_18 ?_
  exact v_iretW (pc := 19) C ⟨by omega, by omega⟩ hr rfl dL_restore_19 ⟨_, rfl, lQ_ok q4⟩
