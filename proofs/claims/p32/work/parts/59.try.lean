/-! the law's catching methods: what they answer, and the state behind it -/
def CA (σ : St) (A : Abs) : Prop := CRep σ A.1 A.2.1 A.2.2.1 A.2.2.2.1 A.2.2.2.2.1 A.2.2.2.2.2.1 A.2.2.2.2.2.2
def rv (o : Rs) (c1 c2 c3 : Int) : Int := if o.1 = 0 then bmz o.2.1 else if o.1 = 1 then c1 else if o.1 = 2 then c2 else c3
theorem rv_0 {o : Rs} {z c1 c2 c3 : Int} (h : o.1 = 0) (hz : z = o.2.1) : bmz z = rv o c1 c2 c3 := by unfold rv; rw [if_pos h, hz]
theorem rv_1 {o : Rs} {c1 c2 c3 : Int} (h : o.1 = 1) : c1 = rv o c1 c2 c3 := by unfold rv; rw [if_neg (by omega), if_pos h]
theorem rv_2 {o : Rs} {c1 c2 c3 : Int} (h : o.1 = 2) : c2 = rv o c1 c2 c3 := by unfold rv; rw [if_neg (by omega), if_neg (by omega), if_pos h]
theorem rv_3 {o : Rs} {c1 c2 c3 : Int} (h : o.1 = 3) : c3 = rv o c1 c2 c3 := by unfold rv; rw [if_neg (by omega), if_neg (by omega), if_neg (by omega)]
theorem rv_r (o : Rs) {c1 c2 c3 : Int} (h1 : R3 c1) (h2 : R3 c2) (h3 : R3 c3) : R3 (rv o c1 c2 c3) := by
  unfold rv
  split
  · exact bmz_r _
  · split
    · exact h1
    · split
      · exact h2
      · exact h3
abbrev lP (o : Rs) (c1 c2 c3 : Int) (z : Int) (σ2 : St) : Prop := z = rv o c1 c2 c3 ∧ CA σ2 o.2.2 ∧ AOkA o.2.2
theorem lP_0 {σ σ2 : St} {o : Rs} {z c1 c2 c3 : Int} (h : cQ σ o z σ2) (hk : AOkA o.2.2) : lP o c1 c2 c3 (bmz z) σ2 := ⟨rv_0 h.1 h.2.1, h.2.2.1, hk⟩
theorem lP_1 {σ σ2 : St} {o : Rs} {c1 c2 c3 : Int} (h : cX σ o 1 σ2) (hk : AOkA o.2.2) : lP o c1 c2 c3 c1 σ2 := ⟨rv_1 h.1, h.2.1, hk⟩
theorem lP_2 {σ σ2 : St} {o : Rs} {c1 c2 c3 : Int} (h : cX σ o 2 σ2) (hk : AOkA o.2.2) : lP o c1 c2 c3 c2 σ2 := ⟨rv_2 h.1, h.2.1, hk⟩
theorem lP_3 {σ σ2 : St} {o : Rs} {c1 c2 c3 : Int} (h : cX σ o 3 σ2) (hk : AOkA o.2.2) : lP o c1 c2 c3 c3 σ2 := ⟨rv_3 h.1, h.2.1, hk⟩

set_option maxHeartbeats 4000000 in
set_option maxRecDepth 100000 in
theorem k_L_tryAppend {γ : Gm} (G : Glo γ) (N : GNc γ) {σ : St} {A : Abs} {c : Int} (hC : CA σ A) (hO : AOkA A) (hc : R3 c) : Cww γ yL_tryAppend cL_tryAppend 3 (some .int) hL_tryAppend 3 [.ref (bs γ + 0), .int (iI c)] σ (pI (lP (op_append A.1 A.2.1 A.2.2.1 A.2.2.2.1 A.2.2.2.2.1 A.2.2.2.2.2.1 A.2.2.2.2.2.2 c) (-9999002) (-9999003) 0)) := by
  refine Cww.of G (by decide +kernel) (Nat.le_of_ble_eq_true rfl) (fun φ C hcr ht hr => ?_)
  have C : Cx γ φ RL cL_tryAppend 3 3 := C
  refine v_lv [(0, .ref (bs γ + 0)), (1, .int (iI c))] [0, 1] rfl ?_
  have hk : AOkA (op_append A.1 A.2.1 A.2.2.1 A.2.2.2.1 A.2.2.2.2.1 A.2.2.2.2.2.1 A.2.2.2.2.2.2 c).2.2 := ok_append hO c
  refine v_aload_n (pc := 0) C 0 rfl dL_tryAppend_0 ?_
  refine v_iload_n (pc := 1) C 1 rfl dL_tryAppend_1 ?_
  refine v_cvX (pc := 2) (as := [.int (iI c)]) C (cy_X5_append G) (wM_L_34 G) sh_0 (ci := 3) rfl rfl (k_X5_append G hC hO hc) dL_tryAppend_2 rfl rfl (by decide) (by decide) (Nat.le_of_ble_eq_true rfl) ⟨by omega, by omega⟩ ?_ (k_I (fun z s1 q => ?_))
  · rintro E σ9 (⟨rfl, hx⟩ | ⟨rfl, hx⟩)
    · refine v_cat (hh := hL_tryAppend) C ht [] ⟨0, 5, 6, 16⟩ [⟨0, 5, 10, 19⟩] rfl (fun _ h => nomatch h) (by decide) (by decide) (wL_A G) (wK_A G) (fun q9 => ?_)
      refine v_astore_n (pc := 6) C [(2, .ref q9), (0, .ref (bs γ + 0)), (1, .int (iI c))] dL_tryAppend_6 rfl (by decide) rfl ?_
      refine v_ldc (pc := 7) C (wC_L_18 G) dL_tryAppend_7 ?_
      exact v_iretW (pc := 9) C ⟨by omega, by omega⟩ hr rfl dL_tryAppend_9 ⟨_, rfl, lP_1 hx hk⟩
    · refine v_cat (hh := hL_tryAppend) C ht [⟨0, 5, 6, 16⟩] ⟨0, 5, 10, 19⟩ [] rfl (List.forall_mem_cons.mpr ⟨⟨by decide, _, wL_A G, N.1.1⟩, fun _ h => nomatch h⟩) (by decide) (by decide) (wL_S G) (wK_S G) (fun q9 => ?_)
      refine v_astore_n (pc := 10) C [(2, .ref q9), (0, .ref (bs γ + 0)), (1, .int (iI c))] dL_tryAppend_10 rfl (by decide) rfl ?_
      refine v_ldc (pc := 11) C (wC_L_21 G) dL_tryAppend_11 ?_
      exact v_iretW (pc := 13) C ⟨by omega, by omega⟩ hr rfl dL_tryAppend_13 ⟨_, rfl, lP_2 hx hk⟩
  refine v_bm ?_
  exact v_iretW (pc := 5) C ⟨by omega, by omega⟩ hr rfl dL_tryAppend_5 ⟨_, rfl, lP_0 q hk⟩
set_option maxHeartbeats 4000000 in
set_option maxRecDepth 100000 in
theorem k_L_tryLoad {γ : Gm} (G : Glo γ) (N : GNc γ) {σ : St} {A : Abs} (hC : CA σ A) (hO : AOkA A)  : Cww γ yL_tryLoad cL_tryLoad 2 (some .int) hL_tryLoad 8 [.ref (bs γ + 0)] σ (pI (lP (op_load A.1 A.2.1 A.2.2.1 A.2.2.2.1 A.2.2.2.2.1 A.2.2.2.2.2.1 A.2.2.2.2.2.2) (-9999003) 0 0)) := by
  refine Cww.of G (by decide +kernel) (Nat.le_of_ble_eq_true rfl) (fun φ C hcr ht hr => ?_)
  have C : Cx γ φ RL cL_tryLoad 2 8 := C
  refine v_lv [(0, .ref (bs γ + 0))] [0] rfl ?_
  have hk : AOkA (op_load A.1 A.2.1 A.2.2.1 A.2.2.2.1 A.2.2.2.2.1 A.2.2.2.2.2.1 A.2.2.2.2.2.2).2.2 := ok_load hO 
  refine v_aload_n (pc := 0) C 0 rfl dL_tryLoad_0 ?_
  refine v_cvX (pc := 1) (as := []) C (cy_X5_load G) (wM_L_38 G) sh_0 (ci := 3) rfl rfl (k_X5_load G hC hO ) dL_tryLoad_1 rfl rfl (by decide) (by decide) (Nat.le_of_ble_eq_true rfl) ⟨by omega, by omega⟩ ?_ (k_I (fun z s1 q => ?_))
  · rintro E σ9 (⟨rfl, hx⟩)
    refine v_cat (hh := hL_tryLoad) C ht [] ⟨0, 4, 5, 19⟩ [] rfl (fun _ h => nomatch h) (by decide) (by decide) (wL_S G) (wK_S G) (fun q9 => ?_)
    refine v_astore_n (pc := 5) C [(1, .ref q9), (0, .ref (bs γ + 0))] dL_tryLoad_5 rfl (by decide) rfl ?_
    refine v_ldc (pc := 6) C (wC_L_21 G) dL_tryLoad_6 ?_
    exact v_iretW (pc := 8) C ⟨by omega, by omega⟩ hr rfl dL_tryLoad_8 ⟨_, rfl, lP_1 hx hk⟩
  refine v_bm ?_
  exact v_iretW (pc := 4) C ⟨by omega, by omega⟩ hr rfl dL_tryLoad_4 ⟨_, rfl, lP_0 q hk⟩
set_option maxHeartbeats 4000000 in
set_option maxRecDepth 100000 in
theorem k_L_tryAbout {γ : Gm} (G : Glo γ) (N : GNc γ) {σ : St} {A : Abs} {w : Int} (hC : CA σ A) (hO : AOkA A) (hw : R3 w) : Cww γ yL_tryAbout cL_tryAbout 3 (some .int) hL_tryAbout 3 [.ref (bs γ + 0), .int (iI w)] σ (pI (lP (op_about A.1 A.2.1 A.2.2.1 A.2.2.2.1 A.2.2.2.2.1 A.2.2.2.2.2.1 A.2.2.2.2.2.2 w) (-9999002) 0 0)) := by
  refine Cww.of G (by decide +kernel) (Nat.le_of_ble_eq_true rfl) (fun φ C hcr ht hr => ?_)
  have C : Cx γ φ RL cL_tryAbout 3 3 := C
  refine v_lv [(0, .ref (bs γ + 0)), (1, .int (iI w))] [0, 1] rfl ?_
  have hk : AOkA (op_about A.1 A.2.1 A.2.2.1 A.2.2.2.1 A.2.2.2.2.1 A.2.2.2.2.2.1 A.2.2.2.2.2.2 w).2.2 := ok_about hO w
  refine v_aload_n (pc := 0) C 0 rfl dL_tryAbout_0 ?_
  refine v_iload_n (pc := 1) C 1 rfl dL_tryAbout_1 ?_
  refine v_cvX (pc := 2) (as := [.int (iI w)]) C (cy_X5_about G) (wM_L_42 G) sh_0 (ci := 3) rfl rfl (k_X5_about G hC hO hw) dL_tryAbout_2 rfl rfl (by decide) (by decide) (Nat.le_of_ble_eq_true rfl) ⟨by omega, by omega⟩ ?_ (k_I (fun z s1 q => ?_))
  · rintro E σ9 (⟨rfl, hx⟩)
    refine v_cat (hh := hL_tryAbout) C ht [] ⟨0, 5, 6, 16⟩ [] rfl (fun _ h => nomatch h) (by decide) (by decide) (wL_A G) (wK_A G) (fun q9 => ?_)
    refine v_astore_n (pc := 6) C [(2, .ref q9), (0, .ref (bs γ + 0)), (1, .int (iI w))] dL_tryAbout_6 rfl (by decide) rfl ?_
    refine v_ldc (pc := 7) C (wC_L_18 G) dL_tryAbout_7 ?_
    exact v_iretW (pc := 9) C ⟨by omega, by omega⟩ hr rfl dL_tryAbout_9 ⟨_, rfl, lP_1 hx hk⟩
  refine v_bm ?_
  exact v_iretW (pc := 5) C ⟨by omega, by omega⟩ hr rfl dL_tryAbout_5 ⟨_, rfl, lP_0 q hk⟩
set_option maxHeartbeats 4000000 in
set_option maxRecDepth 100000 in
theorem k_L_tryTold {γ : Gm} (G : Glo γ) (N : GNc γ) {σ : St} {A : Abs} {v w : Int} (hC : CA σ A) (hO : AOkA A) (hv : R3 v) (hw : R3 w) : Cww γ yL_tryTold cL_tryTold 4 (some .int) hL_tryTold 4 [.ref (bs γ + 0), .int (iI v), .int (iI w)] σ (pI (lP (op_valveOf A.1 A.2.1 A.2.2.1 A.2.2.2.1 A.2.2.2.2.1 A.2.2.2.2.2.1 A.2.2.2.2.2.2 v w) (-9999001) (-9999002) 0)) := by
  refine Cww.of G (by decide +kernel) (Nat.le_of_ble_eq_true rfl) (fun φ C hcr ht hr => ?_)
  have C : Cx γ φ RL cL_tryTold 4 4 := C
  refine v_lv [(0, .ref (bs γ + 0)), (1, .int (iI v)), (2, .int (iI w))] [0, 1, 2] rfl ?_
  have hk : AOkA (op_valveOf A.1 A.2.1 A.2.2.1 A.2.2.2.1 A.2.2.2.2.1 A.2.2.2.2.2.1 A.2.2.2.2.2.2 v w).2.2 := ok_valveOf hO v w
  refine v_aload_n (pc := 0) C 0 rfl dL_tryTold_0 ?_
  refine v_iload_n (pc := 1) C 1 rfl dL_tryTold_1 ?_
  refine v_iload_n (pc := 2) C 2 rfl dL_tryTold_2 ?_
  refine v_cvX (pc := 3) (as := [.int (iI v), .int (iI w)]) C (cy_X5_valveOf G) (wM_L_45 G) sh_0 (ci := 3) rfl rfl (k_X5_valveOf G hC hO hv hw) dL_tryTold_3 rfl rfl (by decide) (by decide) (Nat.le_of_ble_eq_true rfl) ⟨by omega, by omega⟩ ?_ (k_I (fun z s1 q => ?_))
  · rintro E σ9 (⟨rfl, hx⟩ | ⟨rfl, hx⟩)
    · refine v_cat (hh := hL_tryTold) C ht [] ⟨0, 6, 7, 13⟩ [⟨0, 6, 11, 16⟩] rfl (fun _ h => nomatch h) (by decide) (by decide) (wL_I G) (wK_I G) (fun q9 => ?_)
      refine v_astore_n (pc := 7) C [(3, .ref q9), (0, .ref (bs γ + 0)), (1, .int (iI v)), (2, .int (iI w))] dL_tryTold_7 rfl (by decide) rfl ?_
      refine v_ldc (pc := 8) C (wC_L_15 G) dL_tryTold_8 ?_
      exact v_iretW (pc := 10) C ⟨by omega, by omega⟩ hr rfl dL_tryTold_10 ⟨_, rfl, lP_1 hx hk⟩
    · refine v_cat (hh := hL_tryTold) C ht [⟨0, 6, 7, 13⟩] ⟨0, 6, 11, 16⟩ [] rfl (List.forall_mem_cons.mpr ⟨⟨by decide, _, wL_I G, N.2.2.1⟩, fun _ h => nomatch h⟩) (by decide) (by decide) (wL_A G) (wK_A G) (fun q9 => ?_)
      refine v_astore_n (pc := 11) C [(3, .ref q9), (0, .ref (bs γ + 0)), (1, .int (iI v)), (2, .int (iI w))] dL_tryTold_11 rfl (by decide) rfl ?_
      refine v_ldc (pc := 12) C (wC_L_18 G) dL_tryTold_12 ?_
      exact v_iretW (pc := 14) C ⟨by omega, by omega⟩ hr rfl dL_tryTold_14 ⟨_, rfl, lP_2 hx hk⟩
  refine v_bm ?_
  exact v_iretW (pc := 6) C ⟨by omega, by omega⟩ hr rfl dL_tryTold_6 ⟨_, rfl, lP_0 q hk⟩
set_option maxHeartbeats 4000000 in
set_option maxRecDepth 100000 in
theorem k_L_tryLeg {γ : Gm} (G : Glo γ) (N : GNc γ) {σ : St} {A : Abs} {v g : Int} (hC : CA σ A) (hO : AOkA A) (hv : R3 v) (hg : R3 g) : Cww γ yL_tryLeg cL_tryLeg 4 (some .int) hL_tryLeg 4 [.ref (bs γ + 0), .int (iI v), .int (iI g)] σ (pI (lP (op_leg A.1 A.2.1 A.2.2.1 A.2.2.2.1 A.2.2.2.2.1 A.2.2.2.2.2.1 A.2.2.2.2.2.2 v g) (-9999001) 0 0)) := by
  refine Cww.of G (by decide +kernel) (Nat.le_of_ble_eq_true rfl) (fun φ C hcr ht hr => ?_)
  have C : Cx γ φ RL cL_tryLeg 4 4 := C
  refine v_lv [(0, .ref (bs γ + 0)), (1, .int (iI v)), (2, .int (iI g))] [0, 1, 2] rfl ?_
  have hk : AOkA (op_leg A.1 A.2.1 A.2.2.1 A.2.2.2.1 A.2.2.2.2.1 A.2.2.2.2.2.1 A.2.2.2.2.2.2 v g).2.2 := ok_leg hO v g
  refine v_aload_n (pc := 0) C 0 rfl dL_tryLeg_0 ?_
  refine v_iload_n (pc := 1) C 1 rfl dL_tryLeg_1 ?_
  refine v_iload_n (pc := 2) C 2 rfl dL_tryLeg_2 ?_
  refine v_cvX (pc := 3) (as := [.int (iI v), .int (iI g)]) C (cy_X5_leg G) (wM_L_49 G) sh_0 (ci := 3) rfl rfl (k_X5_leg G hC hO hv hg) dL_tryLeg_3 rfl rfl (by decide) (by decide) (Nat.le_of_ble_eq_true rfl) ⟨by omega, by omega⟩ ?_ (k_I (fun z s1 q => ?_))
  · rintro E σ9 (⟨rfl, hx⟩)
    refine v_cat (hh := hL_tryLeg) C ht [] ⟨0, 6, 7, 13⟩ [] rfl (fun _ h => nomatch h) (by decide) (by decide) (wL_I G) (wK_I G) (fun q9 => ?_)
    refine v_astore_n (pc := 7) C [(3, .ref q9), (0, .ref (bs γ + 0)), (1, .int (iI v)), (2, .int (iI g))] dL_tryLeg_7 rfl (by decide) rfl ?_
    refine v_ldc (pc := 8) C (wC_L_15 G) dL_tryLeg_8 ?_
    exact v_iretW (pc := 10) C ⟨by omega, by omega⟩ hr rfl dL_tryLeg_10 ⟨_, rfl, lP_1 hx hk⟩
  refine v_bm ?_
  exact v_iretW (pc := 6) C ⟨by omega, by omega⟩ hr rfl dL_tryLeg_6 ⟨_, rfl, lP_0 q hk⟩
set_option maxHeartbeats 4000000 in
set_option maxRecDepth 100000 in
theorem k_L_tryPush {γ : Gm} (G : Glo γ) (N : GNc γ) {σ : St} {A : Abs} {v g w : Int} (hC : CA σ A) (hO : AOkA A) (hv : R3 v) (hg : R3 g) (hw : R3 w) : Cww γ yL_tryPush cL_tryPush 5 (some .int) hL_tryPush 5 [.ref (bs γ + 0), .int (iI v), .int (iI g), .int (iI w)] σ (pI (lP (op_push A.1 A.2.1 A.2.2.1 A.2.2.2.1 A.2.2.2.2.1 A.2.2.2.2.2.1 A.2.2.2.2.2.2 v g w) (-9999001) (-9999002) 0)) := by
  refine Cww.of G (by decide +kernel) (Nat.le_of_ble_eq_true rfl) (fun φ C hcr ht hr => ?_)
  have C : Cx γ φ RL cL_tryPush 5 5 := C
  refine v_lv [(0, .ref (bs γ + 0)), (1, .int (iI v)), (2, .int (iI g)), (3, .int (iI w))] [0, 1, 2, 3] rfl ?_
  have hk : AOkA (op_push A.1 A.2.1 A.2.2.1 A.2.2.2.1 A.2.2.2.2.1 A.2.2.2.2.2.1 A.2.2.2.2.2.2 v g w).2.2 := ok_push hO v g w
  refine v_aload_n (pc := 0) C 0 rfl dL_tryPush_0 ?_
  refine v_iload_n (pc := 1) C 1 rfl dL_tryPush_1 ?_
  refine v_iload_n (pc := 2) C 2 rfl dL_tryPush_2 ?_
  refine v_iload_n (pc := 3) C 3 rfl dL_tryPush_3 ?_
  refine v_cvX (pc := 4) (as := [.int (iI v), .int (iI g), .int (iI w)]) C (cy_X5_push G) (wM_L_52 G) sh_0 (ci := 3) rfl rfl (k_X5_push G hC hO hv hg hw) dL_tryPush_4 rfl rfl (by decide) (by decide) (Nat.le_of_ble_eq_true rfl) ⟨by omega, by omega⟩ ?_ (k_I (fun z s1 q => ?_))
  · rintro E σ9 (⟨rfl, hx⟩ | ⟨rfl, hx⟩)
    · refine v_cat (hh := hL_tryPush) C ht [] ⟨0, 7, 8, 13⟩ [⟨0, 7, 13, 16⟩] rfl (fun _ h => nomatch h) (by decide) (by decide) (wL_I G) (wK_I G) (fun q9 => ?_)
      refine v_astore (pc := 8) C [(4, .ref q9), (0, .ref (bs γ + 0)), (1, .int (iI v)), (2, .int (iI g)), (3, .int (iI w))] dL_tryPush_8 (by decide) rfl ?_
      refine v_ldc (pc := 10) C (wC_L_15 G) dL_tryPush_10 ?_
      exact v_iretW (pc := 12) C ⟨by omega, by omega⟩ hr rfl dL_tryPush_12 ⟨_, rfl, lP_1 hx hk⟩
    · refine v_cat (hh := hL_tryPush) C ht [⟨0, 7, 8, 13⟩] ⟨0, 7, 13, 16⟩ [] rfl (List.forall_mem_cons.mpr ⟨⟨by decide, _, wL_I G, N.2.2.1⟩, fun _ h => nomatch h⟩) (by decide) (by decide) (wL_A G) (wK_A G) (fun q9 => ?_)
      refine v_astore (pc := 13) C [(4, .ref q9), (0, .ref (bs γ + 0)), (1, .int (iI v)), (2, .int (iI g)), (3, .int (iI w))] dL_tryPush_13 (by decide) rfl ?_
      refine v_ldc (pc := 15) C (wC_L_18 G) dL_tryPush_15 ?_
      exact v_iretW (pc := 17) C ⟨by omega, by omega⟩ hr rfl dL_tryPush_17 ⟨_, rfl, lP_2 hx hk⟩
  refine v_bm ?_
  exact v_iretW (pc := 7) C ⟨by omega, by omega⟩ hr rfl dL_tryPush_7 ⟨_, rfl, lP_0 q hk⟩
set_option maxHeartbeats 4000000 in
set_option maxRecDepth 100000 in
theorem k_L_tryPipe {γ : Gm} (G : Glo γ) (N : GNc γ) {σ : St} {A : Abs} {e w : Int} (hC : CA σ A) (hO : AOkA A) (he : R3 e) (hw : R3 w) : Cww γ yL_tryPipe cL_tryPipe 4 (some .int) hL_tryPipe 4 [.ref (bs γ + 0), .int (iI e), .int (iI w)] σ (pI (lP (op_ductOf A.1 A.2.1 A.2.2.1 A.2.2.2.1 A.2.2.2.2.1 A.2.2.2.2.2.1 A.2.2.2.2.2.2 e w) (-9999001) (-9999002) 0)) := by
  refine Cww.of G (by decide +kernel) (Nat.le_of_ble_eq_true rfl) (fun φ C hcr ht hr => ?_)
  have C : Cx γ φ RL cL_tryPipe 4 4 := C
  refine v_lv [(0, .ref (bs γ + 0)), (1, .int (iI e)), (2, .int (iI w))] [0, 1, 2] rfl ?_
  have hk : AOkA (op_ductOf A.1 A.2.1 A.2.2.1 A.2.2.2.1 A.2.2.2.2.1 A.2.2.2.2.2.1 A.2.2.2.2.2.2 e w).2.2 := ok_ductOf hO e w
  refine v_aload_n (pc := 0) C 0 rfl dL_tryPipe_0 ?_
  refine v_iload_n (pc := 1) C 1 rfl dL_tryPipe_1 ?_
  refine v_iload_n (pc := 2) C 2 rfl dL_tryPipe_2 ?_
  refine v_cvX (pc := 3) (as := [.int (iI e), .int (iI w)]) C (cy_X5_ductOf G) (wM_L_56 G) sh_0 (ci := 3) rfl rfl (k_X5_ductOf G hC hO he hw) dL_tryPipe_3 rfl rfl (by decide) (by decide) (Nat.le_of_ble_eq_true rfl) ⟨by omega, by omega⟩ ?_ (k_I (fun z s1 q => ?_))
  · rintro E σ9 (⟨rfl, hx⟩ | ⟨rfl, hx⟩)
    · refine v_cat (hh := hL_tryPipe) C ht [] ⟨0, 6, 7, 13⟩ [⟨0, 6, 11, 16⟩] rfl (fun _ h => nomatch h) (by decide) (by decide) (wL_I G) (wK_I G) (fun q9 => ?_)
      refine v_astore_n (pc := 7) C [(3, .ref q9), (0, .ref (bs γ + 0)), (1, .int (iI e)), (2, .int (iI w))] dL_tryPipe_7 rfl (by decide) rfl ?_
      refine v_ldc (pc := 8) C (wC_L_15 G) dL_tryPipe_8 ?_
      exact v_iretW (pc := 10) C ⟨by omega, by omega⟩ hr rfl dL_tryPipe_10 ⟨_, rfl, lP_1 hx hk⟩
    · refine v_cat (hh := hL_tryPipe) C ht [⟨0, 6, 7, 13⟩] ⟨0, 6, 11, 16⟩ [] rfl (List.forall_mem_cons.mpr ⟨⟨by decide, _, wL_I G, N.2.2.1⟩, fun _ h => nomatch h⟩) (by decide) (by decide) (wL_A G) (wK_A G) (fun q9 => ?_)
      refine v_astore_n (pc := 11) C [(3, .ref q9), (0, .ref (bs γ + 0)), (1, .int (iI e)), (2, .int (iI w))] dL_tryPipe_11 rfl (by decide) rfl ?_
      refine v_ldc (pc := 12) C (wC_L_18 G) dL_tryPipe_12 ?_
      exact v_iretW (pc := 14) C ⟨by omega, by omega⟩ hr rfl dL_tryPipe_14 ⟨_, rfl, lP_2 hx hk⟩
  refine v_bm ?_
  exact v_iretW (pc := 6) C ⟨by omega, by omega⟩ hr rfl dL_tryPipe_6 ⟨_, rfl, lP_0 q hk⟩
set_option maxHeartbeats 4000000 in
set_option maxRecDepth 100000 in
theorem k_L_trySetting {γ : Gm} (G : Glo γ) (N : GNc γ) {σ : St} {A : Abs} {w : Int} (hC : CA σ A) (hO : AOkA A) (hw : R3 w) : Cww γ yL_trySetting cL_trySetting 3 (some .int) hL_trySetting 3 [.ref (bs γ + 0), .int (iI w)] σ (pI (lP (op_setting A.1 A.2.1 A.2.2.1 A.2.2.2.1 A.2.2.2.2.1 A.2.2.2.2.2.1 A.2.2.2.2.2.2 w) (-9999002) 0 0)) := by
  refine Cww.of G (by decide +kernel) (Nat.le_of_ble_eq_true rfl) (fun φ C hcr ht hr => ?_)
  have C : Cx γ φ RL cL_trySetting 3 3 := C
  refine v_lv [(0, .ref (bs γ + 0)), (1, .int (iI w))] [0, 1] rfl ?_
  have hk : AOkA (op_setting A.1 A.2.1 A.2.2.1 A.2.2.2.1 A.2.2.2.2.1 A.2.2.2.2.2.1 A.2.2.2.2.2.2 w).2.2 := ok_setting hO w
  refine v_aload_n (pc := 0) C 0 rfl dL_trySetting_0 ?_
  refine v_iload_n (pc := 1) C 1 rfl dL_trySetting_1 ?_
  refine v_cvX (pc := 2) (as := [.int (iI w)]) C (cy_X5_setting G) (wM_L_59 G) sh_0 (ci := 3) rfl rfl (k_X5_setting G hC hO hw) dL_trySetting_2 rfl rfl (by decide) (by decide) (Nat.le_of_ble_eq_true rfl) ⟨by omega, by omega⟩ ?_ (k_I (fun z s1 q => ?_))
  · rintro E σ9 (⟨rfl, hx⟩)
    refine v_cat (hh := hL_trySetting) C ht [] ⟨0, 5, 6, 16⟩ [] rfl (fun _ h => nomatch h) (by decide) (by decide) (wL_A G) (wK_A G) (fun q9 => ?_)
    refine v_astore_n (pc := 6) C [(2, .ref q9), (0, .ref (bs γ + 0)), (1, .int (iI w))] dL_trySetting_6 rfl (by decide) rfl ?_
    refine v_ldc (pc := 7) C (wC_L_18 G) dL_trySetting_7 ?_
    exact v_iretW (pc := 9) C ⟨by omega, by omega⟩ hr rfl dL_trySetting_9 ⟨_, rfl, lP_1 hx hk⟩
  refine v_bm ?_
  exact v_iretW (pc := 5) C ⟨by omega, by omega⟩ hr rfl dL_trySetting_5 ⟨_, rfl, lP_0 q hk⟩
set_option maxHeartbeats 4000000 in
set_option maxRecDepth 100000 in
theorem k_L_tryValve {γ : Gm} (G : Glo γ) (N : GNc γ) {σ : St} {A : Abs} {c v : Int} (hC : CA σ A) (hO : AOkA A) (hc : R3 c) (hv : R3 v) : Cww γ yL_tryValve cL_tryValve 4 (some .int) hL_tryValve 6 [.ref (bs γ + 0), .int (iI c), .int (iI v)] σ (pI (lP (op_valve A.1 A.2.1 A.2.2.1 A.2.2.2.1 A.2.2.2.2.1 A.2.2.2.2.2.1 A.2.2.2.2.2.2 c v) (-9999002) (-9999003) 0)) := by
  refine Cww.of G (by decide +kernel) (Nat.le_of_ble_eq_true rfl) (fun φ C hcr ht hr => ?_)
  have C : Cx γ φ RL cL_tryValve 4 6 := C
  refine v_lv [(0, .ref (bs γ + 0)), (1, .int (iI c)), (2, .int (iI v))] [0, 1, 2] rfl ?_
  have hk : AOkA (op_valve A.1 A.2.1 A.2.2.1 A.2.2.2.1 A.2.2.2.2.1 A.2.2.2.2.2.1 A.2.2.2.2.2.2 c v).2.2 := ok_valve hO c v
  refine v_aload_n (pc := 0) C 0 rfl dL_tryValve_0 ?_
  refine v_iload_n (pc := 1) C 1 rfl dL_tryValve_1 ?_
  refine v_iload_n (pc := 2) C 2 rfl dL_tryValve_2 ?_
  refine v_cvX (pc := 3) (as := [.int (iI c), .int (iI v)]) C (cy_X5_valve G) (wM_L_62 G) sh_0 (ci := 3) rfl rfl (k_X5_valve G hC hO hc hv) dL_tryValve_3 rfl rfl (by decide) (by decide) (Nat.le_of_ble_eq_true rfl) ⟨by omega, by omega⟩ ?_ (k_I (fun z s1 q => ?_))
  · rintro E σ9 (⟨rfl, hx⟩ | ⟨rfl, hx⟩)
    · refine v_cat (hh := hL_tryValve) C ht [] ⟨0, 6, 7, 16⟩ [⟨0, 6, 11, 19⟩] rfl (fun _ h => nomatch h) (by decide) (by decide) (wL_A G) (wK_A G) (fun q9 => ?_)
      refine v_astore_n (pc := 7) C [(3, .ref q9), (0, .ref (bs γ + 0)), (1, .int (iI c)), (2, .int (iI v))] dL_tryValve_7 rfl (by decide) rfl ?_
      refine v_ldc (pc := 8) C (wC_L_18 G) dL_tryValve_8 ?_
      exact v_iretW (pc := 10) C ⟨by omega, by omega⟩ hr rfl dL_tryValve_10 ⟨_, rfl, lP_1 hx hk⟩
    · refine v_cat (hh := hL_tryValve) C ht [⟨0, 6, 7, 16⟩] ⟨0, 6, 11, 19⟩ [] rfl (List.forall_mem_cons.mpr ⟨⟨by decide, _, wL_A G, N.1.1⟩, fun _ h => nomatch h⟩) (by decide) (by decide) (wL_S G) (wK_S G) (fun q9 => ?_)
      refine v_astore_n (pc := 11) C [(3, .ref q9), (0, .ref (bs γ + 0)), (1, .int (iI c)), (2, .int (iI v))] dL_tryValve_11 rfl (by decide) rfl ?_
      refine v_ldc (pc := 12) C (wC_L_21 G) dL_tryValve_12 ?_
      exact v_iretW (pc := 14) C ⟨by omega, by omega⟩ hr rfl dL_tryValve_14 ⟨_, rfl, lP_2 hx hk⟩
  refine v_bm ?_
  exact v_iretW (pc := 6) C ⟨by omega, by omega⟩ hr rfl dL_tryValve_6 ⟨_, rfl, lP_0 q hk⟩
set_option maxHeartbeats 4000000 in
set_option maxRecDepth 100000 in
theorem k_L_tryDrop {γ : Gm} (G : Glo γ) (N : GNc γ) {σ : St} {A : Abs} {e : Int} (hC : CA σ A) (hO : AOkA A) (he : R3 e) : Cww γ yL_tryDrop cL_tryDrop 3 (some .int) hL_tryDrop 5 [.ref (bs γ + 0), .int (iI e)] σ (pI (lP (op_remove A.1 A.2.1 A.2.2.1 A.2.2.2.1 A.2.2.2.2.1 A.2.2.2.2.2.1 A.2.2.2.2.2.2 e) (-9999001) 0 0)) := by
  refine Cww.of G (by decide +kernel) (Nat.le_of_ble_eq_true rfl) (fun φ C hcr ht hr => ?_)
  have C : Cx γ φ RL cL_tryDrop 3 5 := C
  refine v_lv [(0, .ref (bs γ + 0)), (1, .int (iI e))] [0, 1] rfl ?_
  have hk : AOkA (op_remove A.1 A.2.1 A.2.2.1 A.2.2.2.1 A.2.2.2.2.1 A.2.2.2.2.2.1 A.2.2.2.2.2.2 e).2.2 := ok_remove hO e
  refine v_aload_n (pc := 0) C 0 rfl dL_tryDrop_0 ?_
  refine v_iload_n (pc := 1) C 1 rfl dL_tryDrop_1 ?_
  refine v_cvX (pc := 2) (as := [.int (iI e)]) C (cy_X5_remove G) (wM_L_65 G) sh_0 (ci := 3) rfl rfl (k_X5_remove G hC hO he) dL_tryDrop_2 rfl rfl (by decide) (by decide) (Nat.le_of_ble_eq_true rfl) ⟨by omega, by omega⟩ ?_ (k_I (fun z s1 q => ?_))
  · rintro E σ9 (⟨rfl, hx⟩)
    refine v_cat (hh := hL_tryDrop) C ht [] ⟨0, 5, 6, 13⟩ [] rfl (fun _ h => nomatch h) (by decide) (by decide) (wL_I G) (wK_I G) (fun q9 => ?_)
    refine v_astore_n (pc := 6) C [(2, .ref q9), (0, .ref (bs γ + 0)), (1, .int (iI e))] dL_tryDrop_6 rfl (by decide) rfl ?_
    refine v_ldc (pc := 7) C (wC_L_15 G) dL_tryDrop_7 ?_
    exact v_iretW (pc := 9) C ⟨by omega, by omega⟩ hr rfl dL_tryDrop_9 ⟨_, rfl, lP_1 hx hk⟩
  refine v_bm ?_
  exact v_iretW (pc := 5) C ⟨by omega, by omega⟩ hr rfl dL_tryDrop_5 ⟨_, rfl, lP_0 q hk⟩
set_option maxHeartbeats 4000000 in
set_option maxRecDepth 100000 in
theorem k_L_tryLeak {γ : Gm} (G : Glo γ) (N : GNc γ) {σ : St} {A : Abs} {e l : Int} (hC : CA σ A) (hO : AOkA A) (he : R3 e) (hl : R3 l) : Cww γ yL_tryLeak cL_tryLeak 4 (some .int) hL_tryLeak 5 [.ref (bs γ + 0), .int (iI e), .int (iI l)] σ (pI (lP (op_leak A.1 A.2.1 A.2.2.1 A.2.2.2.1 A.2.2.2.2.1 A.2.2.2.2.2.1 A.2.2.2.2.2.2 e l) (-9999001) (-9999002) 0)) := by
  refine Cww.of G (by decide +kernel) (Nat.le_of_ble_eq_true rfl) (fun φ C hcr ht hr => ?_)
  have C : Cx γ φ RL cL_tryLeak 4 5 := C
  refine v_lv [(0, .ref (bs γ + 0)), (1, .int (iI e)), (2, .int (iI l))] [0, 1, 2] rfl ?_
  have hk : AOkA (op_leak A.1 A.2.1 A.2.2.1 A.2.2.2.1 A.2.2.2.2.1 A.2.2.2.2.2.1 A.2.2.2.2.2.2 e l).2.2 := ok_leak hO e l
  refine v_aload_n (pc := 0) C 0 rfl dL_tryLeak_0 ?_
  refine v_iload_n (pc := 1) C 1 rfl dL_tryLeak_1 ?_
  refine v_iload_n (pc := 2) C 2 rfl dL_tryLeak_2 ?_
  refine v_cvX (pc := 3) (as := [.int (iI e), .int (iI l)]) C (cy_X5_leak G) (wM_L_68 G) sh_0 (ci := 3) rfl rfl (k_X5_leak G hC hO he hl) dL_tryLeak_3 rfl rfl (by decide) (by decide) (Nat.le_of_ble_eq_true rfl) ⟨by omega, by omega⟩ ?_ (k_I (fun z s1 q => ?_))
  · rintro E σ9 (⟨rfl, hx⟩ | ⟨rfl, hx⟩)
    · refine v_cat (hh := hL_tryLeak) C ht [] ⟨0, 6, 7, 13⟩ [⟨0, 6, 11, 16⟩] rfl (fun _ h => nomatch h) (by decide) (by decide) (wL_I G) (wK_I G) (fun q9 => ?_)
      refine v_astore_n (pc := 7) C [(3, .ref q9), (0, .ref (bs γ + 0)), (1, .int (iI e)), (2, .int (iI l))] dL_tryLeak_7 rfl (by decide) rfl ?_
      refine v_ldc (pc := 8) C (wC_L_15 G) dL_tryLeak_8 ?_
      exact v_iretW (pc := 10) C ⟨by omega, by omega⟩ hr rfl dL_tryLeak_10 ⟨_, rfl, lP_1 hx hk⟩
    · refine v_cat (hh := hL_tryLeak) C ht [⟨0, 6, 7, 13⟩] ⟨0, 6, 11, 16⟩ [] rfl (List.forall_mem_cons.mpr ⟨⟨by decide, _, wL_I G, N.2.2.1⟩, fun _ h => nomatch h⟩) (by decide) (by decide) (wL_A G) (wK_A G) (fun q9 => ?_)
      refine v_astore_n (pc := 11) C [(3, .ref q9), (0, .ref (bs γ + 0)), (1, .int (iI e)), (2, .int (iI l))] dL_tryLeak_11 rfl (by decide) rfl ?_
      refine v_ldc (pc := 12) C (wC_L_18 G) dL_tryLeak_12 ?_
      exact v_iretW (pc := 14) C ⟨by omega, by omega⟩ hr rfl dL_tryLeak_14 ⟨_, rfl, lP_2 hx hk⟩
  refine v_bm ?_
  exact v_iretW (pc := 6) C ⟨by omega, by omega⟩ hr rfl dL_tryLeak_6 ⟨_, rfl, lP_0 q hk⟩
set_option maxHeartbeats 4000000 in
set_option maxRecDepth 100000 in
theorem k_L_tryFeed {γ : Gm} (G : Glo γ) (N : GNc γ) {σ : St} {A : Abs} {v m : Int} (hC : CA σ A) (hO : AOkA A) (hv : R3 v) (hm : R3 m) : Cww γ yL_tryFeed cL_tryFeed 4 (some .int) hL_tryFeed 5 [.ref (bs γ + 0), .int (iI v), .int (iI m)] σ (pI (lP (op_feed A.1 A.2.1 A.2.2.1 A.2.2.2.1 A.2.2.2.2.1 A.2.2.2.2.2.1 A.2.2.2.2.2.2 v m) (-9999001) (-9999002) 0)) := by
  refine Cww.of G (by decide +kernel) (Nat.le_of_ble_eq_true rfl) (fun φ C hcr ht hr => ?_)
  have C : Cx γ φ RL cL_tryFeed 4 5 := C
  refine v_lv [(0, .ref (bs γ + 0)), (1, .int (iI v)), (2, .int (iI m))] [0, 1, 2] rfl ?_
  have hk : AOkA (op_feed A.1 A.2.1 A.2.2.1 A.2.2.2.1 A.2.2.2.2.1 A.2.2.2.2.2.1 A.2.2.2.2.2.2 v m).2.2 := ok_feed hO v m
  refine v_aload_n (pc := 0) C 0 rfl dL_tryFeed_0 ?_
  refine v_iload_n (pc := 1) C 1 rfl dL_tryFeed_1 ?_
  refine v_iload_n (pc := 2) C 2 rfl dL_tryFeed_2 ?_
  refine v_cvX (pc := 3) (as := [.int (iI v), .int (iI m)]) C (cy_X5_feed G) (wM_L_71 G) sh_0 (ci := 3) rfl rfl (k_X5_feed G hC hO hv hm) dL_tryFeed_3 rfl rfl (by decide) (by decide) (Nat.le_of_ble_eq_true rfl) ⟨by omega, by omega⟩ ?_ (k_I (fun z s1 q => ?_))
  · rintro E σ9 (⟨rfl, hx⟩ | ⟨rfl, hx⟩)
    · refine v_cat (hh := hL_tryFeed) C ht [] ⟨0, 6, 7, 13⟩ [⟨0, 6, 11, 16⟩] rfl (fun _ h => nomatch h) (by decide) (by decide) (wL_I G) (wK_I G) (fun q9 => ?_)
      refine v_astore_n (pc := 7) C [(3, .ref q9), (0, .ref (bs γ + 0)), (1, .int (iI v)), (2, .int (iI m))] dL_tryFeed_7 rfl (by decide) rfl ?_
      refine v_ldc (pc := 8) C (wC_L_15 G) dL_tryFeed_8 ?_
      exact v_iretW (pc := 10) C ⟨by omega, by omega⟩ hr rfl dL_tryFeed_10 ⟨_, rfl, lP_1 hx hk⟩
    · refine v_cat (hh := hL_tryFeed) C ht [⟨0, 6, 7, 13⟩] ⟨0, 6, 11, 16⟩ [] rfl (List.forall_mem_cons.mpr ⟨⟨by decide, _, wL_I G, N.2.2.1⟩, fun _ h => nomatch h⟩) (by decide) (by decide) (wL_A G) (wK_A G) (fun q9 => ?_)
      refine v_astore_n (pc := 11) C [(3, .ref q9), (0, .ref (bs γ + 0)), (1, .int (iI v)), (2, .int (iI m))] dL_tryFeed_11 rfl (by decide) rfl ?_
      refine v_ldc (pc := 12) C (wC_L_18 G) dL_tryFeed_12 ?_
      exact v_iretW (pc := 14) C ⟨by omega, by omega⟩ hr rfl dL_tryFeed_14 ⟨_, rfl, lP_2 hx hk⟩
  refine v_bm ?_
  exact v_iretW (pc := 6) C ⟨by omega, by omega⟩ hr rfl dL_tryFeed_6 ⟨_, rfl, lP_0 q hk⟩
set_option maxHeartbeats 4000000 in
set_option maxRecDepth 100000 in
theorem k_L_tryLay {γ : Gm} (G : Glo γ) (N : GNc γ) {σ : St} {A : Abs} {w v : Int} (hC : CA σ A) (hO : AOkA A) (hw : R3 w) (hv : R3 v) : Cww γ yL_tryLay cL_tryLay 4 (some .int) hL_tryLay 5 [.ref (bs γ + 0), .int (iI w), .int (iI v)] σ (pI (lP (op_set A.1 A.2.1 A.2.2.1 A.2.2.2.1 A.2.2.2.2.1 A.2.2.2.2.2.1 A.2.2.2.2.2.2 w v) (-9999002) 0 0)) := by
  refine Cww.of G (by decide +kernel) (Nat.le_of_ble_eq_true rfl) (fun φ C hcr ht hr => ?_)
  have C : Cx γ φ RL cL_tryLay 4 5 := C
  refine v_lv [(0, .ref (bs γ + 0)), (1, .int (iI w)), (2, .int (iI v))] [0, 1, 2] rfl ?_
  have hk : AOkA (op_set A.1 A.2.1 A.2.2.1 A.2.2.2.1 A.2.2.2.2.1 A.2.2.2.2.2.1 A.2.2.2.2.2.2 w v).2.2 := ok_set hO w v
  refine v_aload_n (pc := 0) C 0 rfl dL_tryLay_0 ?_
  refine v_iload_n (pc := 1) C 1 rfl dL_tryLay_1 ?_
  refine v_iload_n (pc := 2) C 2 rfl dL_tryLay_2 ?_
  refine v_cvX (pc := 3) (as := [.int (iI w), .int (iI v)]) C (cy_X5_set G) (wM_L_74 G) sh_0 (ci := 3) rfl rfl (k_X5_set G hC hO hw hv) dL_tryLay_3 rfl rfl (by decide) (by decide) (Nat.le_of_ble_eq_true rfl) ⟨by omega, by omega⟩ ?_ (k_I (fun z s1 q => ?_))
  · rintro E σ9 (⟨rfl, hx⟩)
    refine v_cat (hh := hL_tryLay) C ht [] ⟨0, 6, 7, 16⟩ [] rfl (fun _ h => nomatch h) (by decide) (by decide) (wL_A G) (wK_A G) (fun q9 => ?_)
    refine v_astore_n (pc := 7) C [(3, .ref q9), (0, .ref (bs γ + 0)), (1, .int (iI w)), (2, .int (iI v))] dL_tryLay_7 rfl (by decide) rfl ?_
    refine v_ldc (pc := 8) C (wC_L_18 G) dL_tryLay_8 ?_
    exact v_iretW (pc := 10) C ⟨by omega, by omega⟩ hr rfl dL_tryLay_10 ⟨_, rfl, lP_1 hx hk⟩
  refine v_bm ?_
  exact v_iretW (pc := 6) C ⟨by omega, by omega⟩ hr rfl dL_tryLay_6 ⟨_, rfl, lP_0 q hk⟩
set_option maxHeartbeats 4000000 in
set_option maxRecDepth 100000 in
theorem k_L_tryTicks {γ : Gm} (G : Glo γ) (N : GNc γ) {σ : St} {A : Abs} {m : Int} (hC : CA σ A) (hO : AOkA A) (hm : R3 m) : Cww γ yL_tryTicks cL_tryTicks 3 (some .int) hL_tryTicks 7 [.ref (bs γ + 0), .int (iI m)] σ (pI (lP (op_ticks A.1 A.2.1 A.2.2.1 A.2.2.2.1 A.2.2.2.2.1 A.2.2.2.2.2.1 A.2.2.2.2.2.2 m) (-9999002) 0 0)) := by
  refine Cww.of G (by decide +kernel) (Nat.le_of_ble_eq_true rfl) (fun φ C hcr ht hr => ?_)
  have C : Cx γ φ RL cL_tryTicks 3 7 := C
  refine v_lv [(0, .ref (bs γ + 0)), (1, .int (iI m))] [0, 1] rfl ?_
  have hk : AOkA (op_ticks A.1 A.2.1 A.2.2.1 A.2.2.2.1 A.2.2.2.2.1 A.2.2.2.2.2.1 A.2.2.2.2.2.2 m).2.2 := ok_ticks hO m
  refine v_aload_n (pc := 0) C 0 rfl dL_tryTicks_0 ?_
  refine v_iload_n (pc := 1) C 1 rfl dL_tryTicks_1 ?_
  refine v_cvX (pc := 2) (as := [.int (iI m)]) C (cy_X5_ticks G) (wM_L_77 G) sh_0 (ci := 3) rfl rfl (k_X5_ticks G hC hO hm) dL_tryTicks_2 rfl rfl (by decide) (by decide) (Nat.le_of_ble_eq_true rfl) ⟨by omega, by omega⟩ ?_ (k_I (fun z s1 q => ?_))
  · rintro E σ9 (⟨rfl, hx⟩)
    refine v_cat (hh := hL_tryTicks) C ht [] ⟨0, 5, 6, 16⟩ [] rfl (fun _ h => nomatch h) (by decide) (by decide) (wL_A G) (wK_A G) (fun q9 => ?_)
    refine v_astore_n (pc := 6) C [(2, .ref q9), (0, .ref (bs γ + 0)), (1, .int (iI m))] dL_tryTicks_6 rfl (by decide) rfl ?_
    refine v_ldc (pc := 7) C (wC_L_18 G) dL_tryTicks_7 ?_
    exact v_iretW (pc := 9) C ⟨by omega, by omega⟩ hr rfl dL_tryTicks_9 ⟨_, rfl, lP_1 hx hk⟩
  refine v_bm ?_
  exact v_iretW (pc := 5) C ⟨by omega, by omega⟩ hr rfl dL_tryTicks_5 ⟨_, rfl, lP_0 q hk⟩
set_option maxHeartbeats 4000000 in
set_option maxRecDepth 100000 in
theorem k_L_tryUndo {γ : Gm} (G : Glo γ) (N : GNc γ) {σ : St} {A : Abs} (hC : CA σ A) (hO : AOkA A)  : Cww γ yL_tryUndo cL_tryUndo 2 (some .int) hL_tryUndo 4 [.ref (bs γ + 0)] σ (pI (lP (op_undo A.1 A.2.1 A.2.2.1 A.2.2.2.1 A.2.2.2.2.1 A.2.2.2.2.2.1 A.2.2.2.2.2.2) (-9999003) 0 0)) := by
  refine Cww.of G (by decide +kernel) (Nat.le_of_ble_eq_true rfl) (fun φ C hcr ht hr => ?_)
  have C : Cx γ φ RL cL_tryUndo 2 4 := C
  refine v_lv [(0, .ref (bs γ + 0))] [0] rfl ?_
  have hk : AOkA (op_undo A.1 A.2.1 A.2.2.1 A.2.2.2.1 A.2.2.2.2.1 A.2.2.2.2.2.1 A.2.2.2.2.2.2).2.2 := ok_undo hO 
  refine v_aload_n (pc := 0) C 0 rfl dL_tryUndo_0 ?_
  refine v_cvX (pc := 1) (as := []) C (cy_X5_undo G) (wM_L_80 G) sh_0 (ci := 3) rfl rfl (k_X5_undo G hC hO ) dL_tryUndo_1 rfl rfl (by decide) (by decide) (Nat.le_of_ble_eq_true rfl) ⟨by omega, by omega⟩ ?_ (k_I (fun z s1 q => ?_))
  · rintro E σ9 (⟨rfl, hx⟩)
    refine v_cat (hh := hL_tryUndo) C ht [] ⟨0, 4, 5, 19⟩ [] rfl (fun _ h => nomatch h) (by decide) (by decide) (wL_S G) (wK_S G) (fun q9 => ?_)
    refine v_astore_n (pc := 5) C [(1, .ref q9), (0, .ref (bs γ + 0))] dL_tryUndo_5 rfl (by decide) rfl ?_
    refine v_ldc (pc := 6) C (wC_L_21 G) dL_tryUndo_6 ?_
    exact v_iretW (pc := 8) C ⟨by omega, by omega⟩ hr rfl dL_tryUndo_8 ⟨_, rfl, lP_1 hx hk⟩
  refine v_bm ?_
  exact v_iretW (pc := 4) C ⟨by omega, by omega⟩ hr rfl dL_tryUndo_4 ⟨_, rfl, lP_0 q hk⟩
set_option maxHeartbeats 4000000 in
set_option maxRecDepth 100000 in
theorem k_L_tryBeat {γ : Gm} (G : Glo γ) (N : GNc γ) {σ : St} {A : Abs} {v : Int} (hC : CA σ A) (hO : AOkA A) (hv : R3 v) : Cww γ yL_tryBeat cL_tryBeat 3 (some .int) hL_tryBeat 7 [.ref (bs γ + 0), .int (iI v)] σ (pI (lP (op_beat A.1 A.2.1 A.2.2.1 A.2.2.2.1 A.2.2.2.2.1 A.2.2.2.2.2.1 A.2.2.2.2.2.2 v) (-9999001) 0 0)) := by
  refine Cww.of G (by decide +kernel) (Nat.le_of_ble_eq_true rfl) (fun φ C hcr ht hr => ?_)
  have C : Cx γ φ RL cL_tryBeat 3 7 := C
  refine v_lv [(0, .ref (bs γ + 0)), (1, .int (iI v))] [0, 1] rfl ?_
  have hk : AOkA (op_beat A.1 A.2.1 A.2.2.1 A.2.2.2.1 A.2.2.2.2.1 A.2.2.2.2.2.1 A.2.2.2.2.2.2 v).2.2 := ok_beat hO v
  refine v_aload_n (pc := 0) C 0 rfl dL_tryBeat_0 ?_
  refine v_iload_n (pc := 1) C 1 rfl dL_tryBeat_1 ?_
  refine v_cvX (pc := 2) (as := [.int (iI v)]) C (cy_X5_beat G) (wM_L_83 G) sh_0 (ci := 3) rfl rfl (k_X5_beat G hC hO hv) dL_tryBeat_2 rfl rfl (by decide) (by decide) (Nat.le_of_ble_eq_true rfl) ⟨by omega, by omega⟩ ?_ (k_I (fun z s1 q => ?_))
  · rintro E σ9 (⟨rfl, hx⟩)
    refine v_cat (hh := hL_tryBeat) C ht [] ⟨0, 5, 6, 13⟩ [] rfl (fun _ h => nomatch h) (by decide) (by decide) (wL_I G) (wK_I G) (fun q9 => ?_)
    refine v_astore_n (pc := 6) C [(2, .ref q9), (0, .ref (bs γ + 0)), (1, .int (iI v))] dL_tryBeat_6 rfl (by decide) rfl ?_
    refine v_ldc (pc := 7) C (wC_L_15 G) dL_tryBeat_7 ?_
    exact v_iretW (pc := 9) C ⟨by omega, by omega⟩ hr rfl dL_tryBeat_9 ⟨_, rfl, lP_1 hx hk⟩
  refine v_bm ?_
  exact v_iretW (pc := 5) C ⟨by omega, by omega⟩ hr rfl dL_tryBeat_5 ⟨_, rfl, lP_0 q hk⟩
set_option maxHeartbeats 4000000 in
set_option maxRecDepth 100000 in
theorem k_L_tryRule {γ : Gm} (G : Glo γ) (N : GNc γ) {σ : St} {A : Abs} {c y v : Int} (hC : CA σ A) (hO : AOkA A) (hc : R3 c) (hy : R3 y) (hv : R3 v) : Cww γ yL_tryRule cL_tryRule 5 (some .int) hL_tryRule 7 [.ref (bs γ + 0), .int (iI c), .int (iI y), .int (iI v)] σ (pI (lP (op_rule A.1 A.2.1 A.2.2.1 A.2.2.2.1 A.2.2.2.2.1 A.2.2.2.2.2.1 A.2.2.2.2.2.2 c y v) (-9999001) (-9999002) 0)) := by
  refine Cww.of G (by decide +kernel) (Nat.le_of_ble_eq_true rfl) (fun φ C hcr ht hr => ?_)
  have C : Cx γ φ RL cL_tryRule 5 7 := C
  refine v_lv [(0, .ref (bs γ + 0)), (1, .int (iI c)), (2, .int (iI y)), (3, .int (iI v))] [0, 1, 2, 3] rfl ?_
  have hk : AOkA (op_rule A.1 A.2.1 A.2.2.1 A.2.2.2.1 A.2.2.2.2.1 A.2.2.2.2.2.1 A.2.2.2.2.2.2 c y v).2.2 := ok_rule hO c y v
  refine v_aload_n (pc := 0) C 0 rfl dL_tryRule_0 ?_
  refine v_iload_n (pc := 1) C 1 rfl dL_tryRule_1 ?_
  refine v_iload_n (pc := 2) C 2 rfl dL_tryRule_2 ?_
  refine v_iload_n (pc := 3) C 3 rfl dL_tryRule_3 ?_
  refine v_cvX (pc := 4) (as := [.int (iI c), .int (iI y), .int (iI v)]) C (cy_X5_rule G) (wM_L_86 G) sh_0 (ci := 3) rfl rfl (k_X5_rule G hC hO hc hy hv) dL_tryRule_4 rfl rfl (by decide) (by decide) (Nat.le_of_ble_eq_true rfl) ⟨by omega, by omega⟩ ?_ (k_I (fun z s1 q => ?_))
  · rintro E σ9 (⟨rfl, hx⟩ | ⟨rfl, hx⟩)
    · refine v_cat (hh := hL_tryRule) C ht [] ⟨0, 7, 8, 13⟩ [⟨0, 7, 13, 16⟩] rfl (fun _ h => nomatch h) (by decide) (by decide) (wL_I G) (wK_I G) (fun q9 => ?_)
      refine v_astore (pc := 8) C [(4, .ref q9), (0, .ref (bs γ + 0)), (1, .int (iI c)), (2, .int (iI y)), (3, .int (iI v))] dL_tryRule_8 (by decide) rfl ?_
      refine v_ldc (pc := 10) C (wC_L_15 G) dL_tryRule_10 ?_
      exact v_iretW (pc := 12) C ⟨by omega, by omega⟩ hr rfl dL_tryRule_12 ⟨_, rfl, lP_1 hx hk⟩
    · refine v_cat (hh := hL_tryRule) C ht [⟨0, 7, 8, 13⟩] ⟨0, 7, 13, 16⟩ [] rfl (List.forall_mem_cons.mpr ⟨⟨by decide, _, wL_I G, N.2.2.1⟩, fun _ h => nomatch h⟩) (by decide) (by decide) (wL_A G) (wK_A G) (fun q9 => ?_)
      refine v_astore (pc := 13) C [(4, .ref q9), (0, .ref (bs γ + 0)), (1, .int (iI c)), (2, .int (iI y)), (3, .int (iI v))] dL_tryRule_13 (by decide) rfl ?_
      refine v_ldc (pc := 15) C (wC_L_18 G) dL_tryRule_15 ?_
      exact v_iretW (pc := 17) C ⟨by omega, by omega⟩ hr rfl dL_tryRule_17 ⟨_, rfl, lP_2 hx hk⟩
  refine v_bm ?_
  exact v_iretW (pc := 7) C ⟨by omega, by omega⟩ hr rfl dL_tryRule_7 ⟨_, rfl, lP_0 q hk⟩
set_option maxHeartbeats 4000000 in
set_option maxRecDepth 100000 in
theorem k_L_tryIf {γ : Gm} (G : Glo γ) (N : GNc γ) {σ : St} {A : Abs} {e l v : Int} (hC : CA σ A) (hO : AOkA A) (he : R3 e) (hl : R3 l) (hv : R3 v) : Cww γ yL_tryIf cL_tryIf 5 (some .int) hL_tryIf 8 [.ref (bs γ + 0), .int (iI e), .int (iI l), .int (iI v)] σ (pI (lP (op_ifLeak A.1 A.2.1 A.2.2.1 A.2.2.2.1 A.2.2.2.2.1 A.2.2.2.2.2.1 A.2.2.2.2.2.2 e l v) (-9999001) (-9999002) 0)) := by
  refine Cww.of G (by decide +kernel) (Nat.le_of_ble_eq_true rfl) (fun φ C hcr ht hr => ?_)
  have C : Cx γ φ RL cL_tryIf 5 8 := C
  refine v_lv [(0, .ref (bs γ + 0)), (1, .int (iI e)), (2, .int (iI l)), (3, .int (iI v))] [0, 1, 2, 3] rfl ?_
  have hk : AOkA (op_ifLeak A.1 A.2.1 A.2.2.1 A.2.2.2.1 A.2.2.2.2.1 A.2.2.2.2.2.1 A.2.2.2.2.2.2 e l v).2.2 := ok_ifLeak hO e l v
  refine v_aload_n (pc := 0) C 0 rfl dL_tryIf_0 ?_
  refine v_iload_n (pc := 1) C 1 rfl dL_tryIf_1 ?_
  refine v_iload_n (pc := 2) C 2 rfl dL_tryIf_2 ?_
  refine v_iload_n (pc := 3) C 3 rfl dL_tryIf_3 ?_
  refine v_cvX (pc := 4) (as := [.int (iI e), .int (iI l), .int (iI v)]) C (cy_X5_ifLeak G) (wM_L_89 G) sh_0 (ci := 3) rfl rfl (k_X5_ifLeak G hC hO he hl hv) dL_tryIf_4 rfl rfl (by decide) (by decide) (Nat.le_of_ble_eq_true rfl) ⟨by omega, by omega⟩ ?_ (k_I (fun z s1 q => ?_))
  · rintro E σ9 (⟨rfl, hx⟩ | ⟨rfl, hx⟩)
    · refine v_cat (hh := hL_tryIf) C ht [] ⟨0, 7, 8, 13⟩ [⟨0, 7, 13, 16⟩] rfl (fun _ h => nomatch h) (by decide) (by decide) (wL_I G) (wK_I G) (fun q9 => ?_)
      refine v_astore (pc := 8) C [(4, .ref q9), (0, .ref (bs γ + 0)), (1, .int (iI e)), (2, .int (iI l)), (3, .int (iI v))] dL_tryIf_8 (by decide) rfl ?_
      refine v_ldc (pc := 10) C (wC_L_15 G) dL_tryIf_10 ?_
      exact v_iretW (pc := 12) C ⟨by omega, by omega⟩ hr rfl dL_tryIf_12 ⟨_, rfl, lP_1 hx hk⟩
    · refine v_cat (hh := hL_tryIf) C ht [⟨0, 7, 8, 13⟩] ⟨0, 7, 13, 16⟩ [] rfl (List.forall_mem_cons.mpr ⟨⟨by decide, _, wL_I G, N.2.2.1⟩, fun _ h => nomatch h⟩) (by decide) (by decide) (wL_A G) (wK_A G) (fun q9 => ?_)
      refine v_astore (pc := 13) C [(4, .ref q9), (0, .ref (bs γ + 0)), (1, .int (iI e)), (2, .int (iI l)), (3, .int (iI v))] dL_tryIf_13 (by decide) rfl ?_
      refine v_ldc (pc := 15) C (wC_L_18 G) dL_tryIf_15 ?_
      exact v_iretW (pc := 17) C ⟨by omega, by omega⟩ hr rfl dL_tryIf_17 ⟨_, rfl, lP_2 hx hk⟩
  refine v_bm ?_
  exact v_iretW (pc := 7) C ⟨by omega, by omega⟩ hr rfl dL_tryIf_7 ⟨_, rfl, lP_0 q hk⟩
set_option maxHeartbeats 4000000 in
set_option maxRecDepth 100000 in
theorem k_L_trySuspect {γ : Gm} (G : Glo γ) (N : GNc γ) {σ : St} {A : Abs} {v b : Int} (hC : CA σ A) (hO : AOkA A) (hv : R3 v) (hb : R3 b) : Cww γ yL_trySuspect cL_trySuspect 4 (some .int) hL_trySuspect 8 [.ref (bs γ + 0), .int (iI v), .int (iI b)] σ (pI (lP (op_suspect A.1 A.2.1 A.2.2.1 A.2.2.2.1 A.2.2.2.2.1 A.2.2.2.2.2.1 A.2.2.2.2.2.2 v b) (-9999001) (-9999002) 0)) := by
  refine Cww.of G (by decide +kernel) (Nat.le_of_ble_eq_true rfl) (fun φ C hcr ht hr => ?_)
  have C : Cx γ φ RL cL_trySuspect 4 8 := C
  refine v_lv [(0, .ref (bs γ + 0)), (1, .int (iI v)), (2, .int (iI b))] [0, 1, 2] rfl ?_
  have hk : AOkA (op_suspect A.1 A.2.1 A.2.2.1 A.2.2.2.1 A.2.2.2.2.1 A.2.2.2.2.2.1 A.2.2.2.2.2.2 v b).2.2 := ok_suspect hO v b
  refine v_aload_n (pc := 0) C 0 rfl dL_trySuspect_0 ?_
  refine v_iload_n (pc := 1) C 1 rfl dL_trySuspect_1 ?_
  refine v_iload_n (pc := 2) C 2 rfl dL_trySuspect_2 ?_
  refine v_cvX (pc := 3) (as := [.int (iI v), .int (iI b)]) C (cy_X5_suspect G) (wM_L_92 G) sh_0 (ci := 3) rfl rfl (k_X5_suspect G hC hO hv hb) dL_trySuspect_3 rfl rfl (by decide) (by decide) (Nat.le_of_ble_eq_true rfl) ⟨by omega, by omega⟩ ?_ (k_I (fun z s1 q => ?_))
  · rintro E σ9 (⟨rfl, hx⟩ | ⟨rfl, hx⟩)
    · refine v_cat (hh := hL_trySuspect) C ht [] ⟨0, 6, 7, 13⟩ [⟨0, 6, 11, 16⟩] rfl (fun _ h => nomatch h) (by decide) (by decide) (wL_I G) (wK_I G) (fun q9 => ?_)
      refine v_astore_n (pc := 7) C [(3, .ref q9), (0, .ref (bs γ + 0)), (1, .int (iI v)), (2, .int (iI b))] dL_trySuspect_7 rfl (by decide) rfl ?_
      refine v_ldc (pc := 8) C (wC_L_15 G) dL_trySuspect_8 ?_
      exact v_iretW (pc := 10) C ⟨by omega, by omega⟩ hr rfl dL_trySuspect_10 ⟨_, rfl, lP_1 hx hk⟩
    · refine v_cat (hh := hL_trySuspect) C ht [⟨0, 6, 7, 13⟩] ⟨0, 6, 11, 16⟩ [] rfl (List.forall_mem_cons.mpr ⟨⟨by decide, _, wL_I G, N.2.2.1⟩, fun _ h => nomatch h⟩) (by decide) (by decide) (wL_A G) (wK_A G) (fun q9 => ?_)
      refine v_astore_n (pc := 11) C [(3, .ref q9), (0, .ref (bs γ + 0)), (1, .int (iI v)), (2, .int (iI b))] dL_trySuspect_11 rfl (by decide) rfl ?_
      refine v_ldc (pc := 12) C (wC_L_18 G) dL_trySuspect_12 ?_
      exact v_iretW (pc := 14) C ⟨by omega, by omega⟩ hr rfl dL_trySuspect_14 ⟨_, rfl, lP_2 hx hk⟩
  refine v_bm ?_
  exact v_iretW (pc := 6) C ⟨by omega, by omega⟩ hr rfl dL_trySuspect_6 ⟨_, rfl, lP_0 q hk⟩
set_option maxHeartbeats 4000000 in
set_option maxRecDepth 100000 in
theorem k_L_tryKeep {γ : Gm} (G : Glo γ) (N : GNc γ) {σ : St} {A : Abs} {q : Int} (hC : CA σ A) (hO : AOkA A) (hq : R3 q) : Cww γ yL_tryKeep cL_tryKeep 3 (some .int) hL_tryKeep 4 [.ref (bs γ + 0), .int (iI q)] σ (pI (lP (op_save A.1 A.2.1 A.2.2.1 A.2.2.2.1 A.2.2.2.2.1 A.2.2.2.2.2.1 A.2.2.2.2.2.2 q) (-9999001) 0 0)) := by
  refine Cww.of G (by decide +kernel) (Nat.le_of_ble_eq_true rfl) (fun φ C hcr ht hr => ?_)
  have C : Cx γ φ RL cL_tryKeep 3 4 := C
  refine v_lv [(0, .ref (bs γ + 0)), (1, .int (iI q))] [0, 1] rfl ?_
  have hk : AOkA (op_save A.1 A.2.1 A.2.2.1 A.2.2.2.1 A.2.2.2.2.1 A.2.2.2.2.2.1 A.2.2.2.2.2.2 q).2.2 := ok_save hO q
  refine v_aload_n (pc := 0) C 0 rfl dL_tryKeep_0 ?_
  refine v_iload_n (pc := 1) C 1 rfl dL_tryKeep_1 ?_
  refine v_cvX (pc := 2) (as := [.int (iI q)]) C (cy_X5_save G) (wM_L_95 G) sh_0 (ci := 3) rfl rfl (k_X5_save G hC hO hq) dL_tryKeep_2 rfl rfl (by decide) (by decide) (Nat.le_of_ble_eq_true rfl) ⟨by omega, by omega⟩ ?_ (k_I (fun z s1 q => ?_))
  · rintro E σ9 (⟨rfl, hx⟩)
    refine v_cat (hh := hL_tryKeep) C ht [] ⟨0, 5, 6, 13⟩ [] rfl (fun _ h => nomatch h) (by decide) (by decide) (wL_I G) (wK_I G) (fun q9 => ?_)
    refine v_astore_n (pc := 6) C [(2, .ref q9), (0, .ref (bs γ + 0)), (1, .int (iI q))] dL_tryKeep_6 rfl (by decide) rfl ?_
    refine v_ldc (pc := 7) C (wC_L_15 G) dL_tryKeep_7 ?_
    exact v_iretW (pc := 9) C ⟨by omega, by omega⟩ hr rfl dL_tryKeep_9 ⟨_, rfl, lP_1 hx hk⟩
  refine v_bm ?_
  exact v_iretW (pc := 5) C ⟨by omega, by omega⟩ hr rfl dL_tryKeep_5 ⟨_, rfl, lP_0 q hk⟩
set_option maxHeartbeats 4000000 in
set_option maxRecDepth 100000 in
theorem k_L_tryBack {γ : Gm} (G : Glo γ) (N : GNc γ) {σ : St} {A : Abs} {q : Int} (hC : CA σ A) (hO : AOkA A) (hq : R3 q) : Cww γ yL_tryBack cL_tryBack 3 (some .int) hL_tryBack 4 [.ref (bs γ + 0), .int (iI q)] σ (pI (lP (op_restore A.1 A.2.1 A.2.2.1 A.2.2.2.1 A.2.2.2.2.1 A.2.2.2.2.2.1 A.2.2.2.2.2.2 q) (-9999001) (-9999003) 0)) := by
  refine Cww.of G (by decide +kernel) (Nat.le_of_ble_eq_true rfl) (fun φ C hcr ht hr => ?_)
  have C : Cx γ φ RL cL_tryBack 3 4 := C
  refine v_lv [(0, .ref (bs γ + 0)), (1, .int (iI q))] [0, 1] rfl ?_
  have hk : AOkA (op_restore A.1 A.2.1 A.2.2.1 A.2.2.2.1 A.2.2.2.2.1 A.2.2.2.2.2.1 A.2.2.2.2.2.2 q).2.2 := ok_restore hO q
  refine v_aload_n (pc := 0) C 0 rfl dL_tryBack_0 ?_
  refine v_iload_n (pc := 1) C 1 rfl dL_tryBack_1 ?_
  refine v_cvX (pc := 2) (as := [.int (iI q)]) C (cy_X5_restore G) (wM_L_98 G) sh_0 (ci := 3) rfl rfl (k_X5_restore G hC hO hq) dL_tryBack_2 rfl rfl (by decide) (by decide) (Nat.le_of_ble_eq_true rfl) ⟨by omega, by omega⟩ ?_ (k_I (fun z s1 q => ?_))
  · rintro E σ9 (⟨rfl, hx⟩ | ⟨rfl, hx⟩)
    · refine v_cat (hh := hL_tryBack) C ht [] ⟨0, 5, 6, 13⟩ [⟨0, 5, 10, 19⟩] rfl (fun _ h => nomatch h) (by decide) (by decide) (wL_I G) (wK_I G) (fun q9 => ?_)
      refine v_astore_n (pc := 6) C [(2, .ref q9), (0, .ref (bs γ + 0)), (1, .int (iI q))] dL_tryBack_6 rfl (by decide) rfl ?_
      refine v_ldc (pc := 7) C (wC_L_15 G) dL_tryBack_7 ?_
      exact v_iretW (pc := 9) C ⟨by omega, by omega⟩ hr rfl dL_tryBack_9 ⟨_, rfl, lP_1 hx hk⟩
    · refine v_cat (hh := hL_tryBack) C ht [⟨0, 5, 6, 13⟩] ⟨0, 5, 10, 19⟩ [] rfl (List.forall_mem_cons.mpr ⟨⟨by decide, _, wL_I G, N.2.2.2⟩, fun _ h => nomatch h⟩) (by decide) (by decide) (wL_S G) (wK_S G) (fun q9 => ?_)
      refine v_astore_n (pc := 10) C [(2, .ref q9), (0, .ref (bs γ + 0)), (1, .int (iI q))] dL_tryBack_10 rfl (by decide) rfl ?_
      refine v_ldc (pc := 11) C (wC_L_21 G) dL_tryBack_11 ?_
      exact v_iretW (pc := 13) C ⟨by omega, by omega⟩ hr rfl dL_tryBack_13 ⟨_, rfl, lP_2 hx hk⟩
  refine v_bm ?_
  exact v_iretW (pc := 5) C ⟨by omega, by omega⟩ hr rfl dL_tryBack_5 ⟨_, rfl, lP_0 q hk⟩
set_option maxHeartbeats 4000000 in
set_option maxRecDepth 100000 in
theorem k_L_ducts {γ : Gm} (G : Glo γ) (N : GNc γ) {σ : St} {A : Abs} {c g y q m : Int} (hC : CA σ A) (hO : AOkA A) (hc : R3 c) (hg : R3 g) (hy : R3 y) (hq : R3 q) (hm : R3 m) : Cww γ yL_ducts cL_ducts 7 (some .int) hL_ducts 6 [.ref (bs γ + 0), .int (iI c), .int (iI g), .int (iI y), .int (iI q), .int (iI m)] σ (pI (lP (op_duct A.1 A.2.1 A.2.2.1 A.2.2.2.1 A.2.2.2.2.1 A.2.2.2.2.2.1 A.2.2.2.2.2.2 c g y q m) (-9999001) (-9999002) (-9999003))) := by
  refine Cww.of G (by decide +kernel) (Nat.le_of_ble_eq_true rfl) (fun φ C hcr ht hr => ?_)
  have C : Cx γ φ RL cL_ducts 7 6 := C
  refine v_lv [(0, .ref (bs γ + 0)), (1, .int (iI c)), (2, .int (iI g)), (3, .int (iI y)), (4, .int (iI q)), (5, .int (iI m))] [0, 1, 2, 3, 4, 5] rfl ?_
  have hk : AOkA (op_duct A.1 A.2.1 A.2.2.1 A.2.2.2.1 A.2.2.2.2.1 A.2.2.2.2.2.1 A.2.2.2.2.2.2 c g y q m).2.2 := ok_duct hO c g y q m
  refine v_aload_n (pc := 0) C 0 rfl dL_ducts_0 ?_
  refine v_iload_n (pc := 1) C 1 rfl dL_ducts_1 ?_
  refine v_iload_n (pc := 2) C 2 rfl dL_ducts_2 ?_
  refine v_iload_n (pc := 3) C 3 rfl dL_ducts_3 ?_
  refine v_iload (pc := 4) C 4 rfl dL_ducts_4 ?_
  refine v_iload (pc := 6) C 5 rfl dL_ducts_6 ?_
  refine v_cvX (pc := 8) (as := [.int (iI c), .int (iI g), .int (iI y), .int (iI q), .int (iI m)]) C (cy_X5_duct G) (wM_L_7 G) sh_0 (ci := 3) rfl rfl (k_X5_duct G hC hO hc hg hy hq hm) dL_ducts_8 rfl rfl (by decide) (by decide) (Nat.le_of_ble_eq_true rfl) ⟨by omega, by omega⟩ ?_ (k_I (fun z s1 q => ?_))
  · rintro E σ9 (⟨rfl, hx⟩ | ⟨rfl, hx⟩ | ⟨rfl, hx⟩)
    · refine v_cat (hh := hL_ducts) C ht [] ⟨0, 11, 12, 13⟩ [⟨0, 11, 17, 16⟩, ⟨0, 11, 22, 19⟩] rfl (fun _ h => nomatch h) (by decide) (by decide) (wL_I G) (wK_I G) (fun q9 => ?_)
      refine v_astore (pc := 12) C [(6, .ref q9), (0, .ref (bs γ + 0)), (1, .int (iI c)), (2, .int (iI g)), (3, .int (iI y)), (4, .int (iI q)), (5, .int (iI m))] dL_ducts_12 (by decide) rfl ?_
      refine v_ldc (pc := 14) C (wC_L_15 G) dL_ducts_14 ?_
      exact v_iretW (pc := 16) C ⟨by omega, by omega⟩ hr rfl dL_ducts_16 ⟨_, rfl, lP_1 hx hk⟩
    · refine v_cat (hh := hL_ducts) C ht [⟨0, 11, 12, 13⟩] ⟨0, 11, 17, 16⟩ [⟨0, 11, 22, 19⟩] rfl (List.forall_mem_cons.mpr ⟨⟨by decide, _, wL_I G, N.2.2.1⟩, fun _ h => nomatch h⟩) (by decide) (by decide) (wL_A G) (wK_A G) (fun q9 => ?_)
      refine v_astore (pc := 17) C [(6, .ref q9), (0, .ref (bs γ + 0)), (1, .int (iI c)), (2, .int (iI g)), (3, .int (iI y)), (4, .int (iI q)), (5, .int (iI m))] dL_ducts_17 (by decide) rfl ?_
      refine v_ldc (pc := 19) C (wC_L_18 G) dL_ducts_19 ?_
      exact v_iretW (pc := 21) C ⟨by omega, by omega⟩ hr rfl dL_ducts_21 ⟨_, rfl, lP_2 hx hk⟩
    · refine v_cat (hh := hL_ducts) C ht [⟨0, 11, 12, 13⟩, ⟨0, 11, 17, 16⟩] ⟨0, 11, 22, 19⟩ [] rfl (List.forall_mem_cons.mpr ⟨⟨by decide, _, wL_I G, N.2.2.2⟩, List.forall_mem_cons.mpr ⟨⟨by decide, _, wL_A G, N.1.1⟩, fun _ h => nomatch h⟩⟩) (by decide) (by decide) (wL_S G) (wK_S G) (fun q9 => ?_)
      refine v_astore (pc := 22) C [(6, .ref q9), (0, .ref (bs γ + 0)), (1, .int (iI c)), (2, .int (iI g)), (3, .int (iI y)), (4, .int (iI q)), (5, .int (iI m))] dL_ducts_22 (by decide) rfl ?_
      refine v_ldc (pc := 24) C (wC_L_21 G) dL_ducts_24 ?_
      exact v_iretW (pc := 26) C ⟨by omega, by omega⟩ hr rfl dL_ducts_26 ⟨_, rfl, lP_3 hx hk⟩
  refine v_bm ?_
  exact v_iretW (pc := 11) C ⟨by omega, by omega⟩ hr rfl dL_ducts_11 ⟨_, rfl, lP_0 q hk⟩
set_option maxHeartbeats 4000000 in
set_option maxRecDepth 100000 in
theorem k_L_keys {γ : Gm} (G : Glo γ) (N : GNc γ) {σ : St} {A : Abs} {v b : Int} (hC : CA σ A) (hO : AOkA A) (hv : R3 v) (hb : b = 0 ∨ b = 1) : Cww γ yL_keys cL_keys 4 (some .int) hL_keys 5 [.ref (bs γ + 0), .int (iI v), .int (iI b)] σ (pI (lP (op_press A.1 A.2.1 A.2.2.1 A.2.2.2.1 A.2.2.2.2.1 A.2.2.2.2.2.1 A.2.2.2.2.2.2 v b) (-9999001) (-9999003) 0)) := by
  refine Cww.of G (by decide +kernel) (Nat.le_of_ble_eq_true rfl) (fun φ C hcr ht hr => ?_)
  have C : Cx γ φ RL cL_keys 4 5 := C
  refine v_lv [(0, .ref (bs γ + 0)), (1, .int (iI v)), (2, .int (iI b))] [0, 1, 2] rfl ?_
  have hk : AOkA (op_press A.1 A.2.1 A.2.2.1 A.2.2.2.1 A.2.2.2.2.1 A.2.2.2.2.2.1 A.2.2.2.2.2.2 v b).2.2 := ok_press hO v b hb
  refine v_aload_n (pc := 0) C 0 rfl dL_keys_0 ?_
  refine v_iload_n (pc := 1) C 1 rfl dL_keys_1 ?_
  refine v_iload_n (pc := 2) C 2 rfl dL_keys_2 ?_
  refine v_cvX (pc := 3) (as := [.int (iI v), .int (iI b)]) C (cy_X5_press G) (wM_L_22 G) sh_0 (ci := 3) rfl rfl (k_X5_press G hC hO hv hb) dL_keys_3 rfl rfl (by decide) (by decide) (Nat.le_of_ble_eq_true rfl) ⟨by omega, by omega⟩ ?_ (k_I (fun z s1 q => ?_))
  · rintro E σ9 (⟨rfl, hx⟩ | ⟨rfl, hx⟩)
    · refine v_cat (hh := hL_keys) C ht [] ⟨0, 6, 7, 13⟩ [⟨0, 6, 11, 19⟩] rfl (fun _ h => nomatch h) (by decide) (by decide) (wL_I G) (wK_I G) (fun q9 => ?_)
      refine v_astore_n (pc := 7) C [(3, .ref q9), (0, .ref (bs γ + 0)), (1, .int (iI v)), (2, .int (iI b))] dL_keys_7 rfl (by decide) rfl ?_
      refine v_ldc (pc := 8) C (wC_L_15 G) dL_keys_8 ?_
      exact v_iretW (pc := 10) C ⟨by omega, by omega⟩ hr rfl dL_keys_10 ⟨_, rfl, lP_1 hx hk⟩
    · refine v_cat (hh := hL_keys) C ht [⟨0, 6, 7, 13⟩] ⟨0, 6, 11, 19⟩ [] rfl (List.forall_mem_cons.mpr ⟨⟨by decide, _, wL_I G, N.2.2.2⟩, fun _ h => nomatch h⟩) (by decide) (by decide) (wL_S G) (wK_S G) (fun q9 => ?_)
      refine v_astore_n (pc := 11) C [(3, .ref q9), (0, .ref (bs γ + 0)), (1, .int (iI v)), (2, .int (iI b))] dL_keys_11 rfl (by decide) rfl ?_
      refine v_ldc (pc := 12) C (wC_L_21 G) dL_keys_12 ?_
      exact v_iretW (pc := 14) C ⟨by omega, by omega⟩ hr rfl dL_keys_14 ⟨_, rfl, lP_2 hx hk⟩
  refine v_bm ?_
  exact v_iretW (pc := 6) C ⟨by omega, by omega⟩ hr rfl dL_keys_6 ⟨_, rfl, lP_0 q hk⟩
set_option maxHeartbeats 4000000 in
set_option maxRecDepth 100000 in
theorem k_L_doScript {γ : Gm} (G : Glo γ) (N : GNc γ) {σ : St} {A : Abs} {m b : Int} (hC : CA σ A) (hO : AOkA A) (hm : R3 m) (hb : R6 b) : Cww γ yL_doScript cL_doScript 5 (some .int) hL_doScript 8 [.ref (bs γ + 0), .int (iI m), .long (lI b)] σ (pI (lP (op_runScript A.1 A.2.1 A.2.2.1 A.2.2.2.1 A.2.2.2.2.1 A.2.2.2.2.2.1 A.2.2.2.2.2.2 m b) (-9999002) 0 0)) := by
  refine Cww.of G (by decide +kernel) (Nat.le_of_ble_eq_true rfl) (fun φ C hcr ht hr => ?_)
  have C : Cx γ φ RL cL_doScript 5 8 := C
  refine v_lv [(0, .ref (bs γ + 0)), (1, .int (iI m)), (2, .long (lI b))] [0, 1, 2] rfl ?_
  have hk : AOkA (op_runScript A.1 A.2.1 A.2.2.1 A.2.2.2.1 A.2.2.2.2.1 A.2.2.2.2.2.1 A.2.2.2.2.2.2 m b).2.2 := ok_runScript hO m b
  refine v_aload_n (pc := 0) C 0 rfl dL_doScript_0 ?_
  refine v_iload_n (pc := 1) C 1 rfl dL_doScript_1 ?_
  refine v_lload_n (pc := 2) C 2 rfl dL_doScript_2 ?_
  refine v_cvX (pc := 3) (as := [.int (iI m), .long (lI b)]) C (cy_X5_runScript G) (wM_L_26 G) sh_0 (ci := 3) rfl rfl (k_X5_runScript G hC hO hm hb) dL_doScript_3 rfl rfl (by decide) (by decide) (Nat.le_of_ble_eq_true rfl) ⟨by omega, by omega⟩ ?_ (k_I (fun z s1 q => ?_))
  · rintro E σ9 (⟨rfl, hx⟩)
    refine v_cat (hh := hL_doScript) C ht [] ⟨0, 6, 7, 16⟩ [] rfl (fun _ h => nomatch h) (by decide) (by decide) (wL_A G) (wK_A G) (fun q9 => ?_)
    refine v_astore (pc := 7) C [(4, .ref q9), (0, .ref (bs γ + 0)), (1, .int (iI m)), (2, .long (lI b))] dL_doScript_7 (by decide) rfl ?_
    refine v_ldc (pc := 9) C (wC_L_18 G) dL_doScript_9 ?_
    exact v_iretW (pc := 11) C ⟨by omega, by omega⟩ hr rfl dL_doScript_11 ⟨_, rfl, lP_1 hx hk⟩
  refine v_bm ?_
  exact v_iretW (pc := 6) C ⟨by omega, by omega⟩ hr rfl dL_doScript_6 ⟨_, rfl, lP_0 q hk⟩
set_option maxHeartbeats 4000000 in
set_option maxRecDepth 100000 in
theorem k_L_doSimulate {γ : Gm} (G : Glo γ) (N : GNc γ) {σ : St} {A : Abs} {b m : Int} (hC : CA σ A) (hO : AOkA A) (hm : R3 m) : Cww γ yL_doSimulate cL_doSimulate 5 (some .int) hL_doSimulate 8 [.ref (bs γ + 0), .long (lI b), .int (iI m)] σ (pI (lP (op_simulate A.1 A.2.1 A.2.2.1 A.2.2.2.1 A.2.2.2.2.1 A.2.2.2.2.2.1 A.2.2.2.2.2.2 b m) (-9999002) 0 0)) := by
  refine Cww.of G (by decide +kernel) (Nat.le_of_ble_eq_true rfl) (fun φ C hcr ht hr => ?_)
  have C : Cx γ φ RL cL_doSimulate 5 8 := C
  refine v_lv [(0, .ref (bs γ + 0)), (1, .long (lI b)), (3, .int (iI m))] [0, 1, 2] rfl ?_
  have hk : AOkA (op_simulate A.1 A.2.1 A.2.2.1 A.2.2.2.1 A.2.2.2.2.1 A.2.2.2.2.2.1 A.2.2.2.2.2.2 b m).2.2 := ok_simulate hO b m
  refine v_aload_n (pc := 0) C 0 rfl dL_doSimulate_0 ?_
  refine v_lload_n (pc := 1) C 1 rfl dL_doSimulate_1 ?_
  refine v_iload_n (pc := 2) C 2 rfl dL_doSimulate_2 ?_
  refine v_cvX (pc := 3) (as := [.long (lI b), .int (iI m)]) C (cy_X5_simulate G) (wM_L_30 G) sh_0 (ci := 3) rfl rfl (k_X5_simulate G hC hO hm) dL_doSimulate_3 rfl rfl (by decide) (by decide) (Nat.le_of_ble_eq_true rfl) ⟨by omega, by omega⟩ ?_ (k_I (fun z s1 q => ?_))
  · rintro E σ9 (⟨rfl, hx⟩)
    refine v_cat (hh := hL_doSimulate) C ht [] ⟨0, 6, 7, 16⟩ [] rfl (fun _ h => nomatch h) (by decide) (by decide) (wL_A G) (wK_A G) (fun q9 => ?_)
    refine v_astore (pc := 7) C [(4, .ref q9), (0, .ref (bs γ + 0)), (1, .long (lI b)), (3, .int (iI m))] dL_doSimulate_7 (by decide) rfl ?_
    refine v_ldc (pc := 9) C (wC_L_18 G) dL_doSimulate_9 ?_
    exact v_iretW (pc := 11) C ⟨by omega, by omega⟩ hr rfl dL_doSimulate_11 ⟨_, rfl, lP_1 hx hk⟩
  refine v_bm ?_
  exact v_iretW (pc := 6) C ⟨by omega, by omega⟩ hr rfl dL_doSimulate_6 ⟨_, rfl, lP_0 q hk⟩
