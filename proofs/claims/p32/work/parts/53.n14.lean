theorem iOr_z {b : Int} (h : -2147483648 ≤ b ∧ b < 2147483648) : iOr b 0 = b := by
  unfold iOr
  rw [show iI 0 = (0 : Int32) from rfl, Int32.or_zero]
  exact iI_t h
theorem iOr_r (a b : Int) : -2147483648 ≤ iOr a b ∧ iOr a b < 2147483648 := iI_rng _
/-- the class's state but for its two nets to spare -/
theorem CRep.spare {σ σ1 α : St} {s a : Int} {t n d k i : Int → Int} (h : CRep (setN σ 4 α) s a t n d k i) (e : ∀ c, c < 203 ∨ 229 ≤ c → σ1 c = σ c) : CRep (setN σ1 4 α) s a t n d k i := by
  have key : ∀ c, c < 203 ∨ 229 ≤ c → setN σ1 4 α c = setN σ 4 α c := fun c hc => by
    unfold setN
    split
    · rfl
    · exact e c hc
  exact h.cong (congrFun (key 1 (by omega)) 1) (fun c hc => key c (by omega))
theorem spare_hi {σ σ1 α : St} (e : ∀ c, c < 203 ∨ 229 ≤ c → σ1 c = σ c) : ∀ c, 255 ≤ c → setN σ1 4 α c = σ c := fun c hc => (setN_out _ _ _ (by omega)).trans (e c (by omega))

set_option maxHeartbeats 4000000 in
set_option maxRecDepth 100000 in
theorem k_X5_undo {γ : Gm} (G : Glo γ) {σ : St} {s a : Int} {t n d k i : Int → Int} (hC : CRep σ s a t n d k i) (hO : AOk s a t n d k i)   : Cxx γ yX5_undo cX5_undo 1 (some .int) 3 [.ref (bs γ + 0)] σ (pI (fun z σ2 => cQ σ (op_undo s a t n d k i) z σ2)) (fun E σ2 => (E = eS ∧ cX σ (op_undo s a t n d k i) 1 σ2)) := by
  refine Cxx.of G (by decide +kernel) (Nat.le_of_ble_eq_true rfl) (fun φ C hq hr => ?_)
  have C : Cx γ φ RX5 cX5_undo 1 3 := C
  obtain ⟨hO1, hO2, hO3, h, hO5, hO6⟩ := id hO
  have hC0 : CRep σ s a t n d k i := hC
  have hF0 : ∀ c, 255 ≤ c → σ c = σ c := fun _ _ => rfl
  refine v_lv [(0, .ref (bs γ + 0))] [0] rfl ?_
  refine v_aload_n (pc := 0) C 0 rfl dX5_undo_0 ?_
  refine v_getr (pc := 1) C inX5 goX5 (ci := 3) rfl 2 (by decide) (wF_X5_26 G) rfl sh_0 (17) rfl dX5_undo_1 ?_
  refine v_geti (pc := 4) C inX1 goX1 (ci := 0) rfl 0 (by decide) (wF_X5_247 G) rfl sh_17 0 rfl dX5_undo_4 (fun z4 ez4 rz4 => ?_)
  have wz4 : z4 = a := ez4.trans hC.2.2.2.1.1
  refine v_if_ne (pc := 7) C 18 (by first | omega | assumption) dX5_undo_7 (by decide) (fun h7 => ?_) (fun h7 => ?_)
  · refine v_aload_n (pc := 18) C 0 rfl dX5_undo_18 ?_
    refine v_getr (pc := 19) C inX5 goX5 (ci := 3) rfl 2 (by decide) (wF_X5_26 G) rfl sh_0 (17) rfl dX5_undo_19 ?_
    refine v_aload_n (pc := 22) C 0 rfl dX5_undo_22 ?_
    refine v_getr (pc := 23) C inX5 goX5 (ci := 3) rfl 1 (by decide) (wF_X5_19 G) rfl sh_0 (4) rfl dX5_undo_23 ?_
    refine v_cv (pc := 26) (as := [.ref (bs γ + 4)]) C (cy_X1_takeBack G) (wM_X5_250 G) sh_17 (ci := 0) rfl rfl (k_X1_takeBack G hC.2.2.2.1 (by omega) (hO5 _ (by omega) (by omega))) dX5_undo_26 rfl rfl (by decide) (by decide) (Nat.le_of_ble_eq_true rfl) zc (k_V (fun s26 q26 => ?_))
    obtain ⟨α9, hR9, rfl⟩ := q26
    refine v_aload_n (pc := 29) C 0 rfl dX5_undo_29 ?_
    refine v_getr (pc := 30) C inX5 goX5 (ci := 3) rfl 2 (by decide) (wF_X5_26 G) rfl sh_0 (17) rfl dX5_undo_30 ?_
    refine v_geti (pc := 33) C inX1 goX1 (ci := 0) rfl 0 (by decide) (wF_X5_247 G) rfl sh_17 0 rfl dX5_undo_33 (fun z33 ez33 rz33 => ?_)
    have wz33 : z33 = a - 1 := by rw [ez33, setN_out _ _ _ (by omega), setc_at]; exact upr_at _ _ _
    exact v_iretX (pc := 36) C hr (rfl) dX5_undo_36 (⟨_, rfl, cQ_ok (z' := a - 1) (by unfold op_undo; rw [if_neg (by omega)]) (by omega) ((hC.mem (hC.2.2.2.1.drop (by omega)) (fun c hc => setc_ne _ _ (by omega))).now hR9) (fun c hc => (setN_out _ _ _ (by omega)).trans (setc_ne _ _ (by omega)))⟩)
  · exact v_tS (pc := 10) C hq dX5_undo_10 dX5_undo_13 dX5_undo_14 dX5_undo_17 (Nat.le_of_ble_eq_true rfl) (⟨rfl, cX_no (by unfold op_undo; rw [if_pos (by omega)]) (hC0) (hF0)⟩)

set_option maxHeartbeats 4000000 in
set_option maxRecDepth 100000 in
theorem k_X5_restIn {γ : Gm} (G : Glo γ) {σ : St} {s a : Int} {t n d k i : Int → Int} (hC : CRep σ s a t n d k i) (hO : AOk s a t n d k i)   : Ct γ yX5_restIn cX5_restIn 2 (some .int) 5 [.ref (bs γ + 0)] σ (pI (fun z σ2 => cQ σ (op_restIn s a t n d k i) z σ2)) := by
  refine Ct.of G (by decide +kernel) (Nat.le_of_ble_eq_true rfl) (fun φ C hr => ?_)
  have C : Cx γ φ RX5 cX5_restIn 2 5 := C
  obtain ⟨hO1, hO2, hO3, h, hO5, hO6⟩ := id hO
  have hN : NetB 4 := Or.inl rfl
  have hT : NetB 203 := Or.inr (Or.inl rfl)
  obtain ⟨α, hα⟩ : ∃ α, α = getN σ 4 := ⟨_, rfl⟩
  have hR : Rep α n := by rw [hα]; exact hC.2.2.1
  refine v_st (show σ = setN σ 4 α from by rw [hα]; exact (setN_eta σ 4).symm) ?_
  have hC0 : CRep (setN σ 4 α) s a t n d k i := hC.now hR
  have hF0 : ∀ c, 255 ≤ c → setN σ 4 α c = σ c := fun c hc => setN_out _ _ _ (by omega)
  have hn0 := h.1
  have hn1 := h.2.1
  have hn4 := h.2.2.1
  have hn5 := h.2.2.2.1
  obtain ⟨V, hV⟩ : ∃ V, V = restL 301 n 0 := ⟨_, rfl⟩
  refine v_lv [(0, .ref (bs γ + 0))] [0] rfl ?_
  refine v_aload_n (pc := 0) C 0 rfl dX5_restIn_0 ?_
  refine v_getr (pc := 1) C inX5 goX5 (ci := 3) rfl 5 (by decide) (wF_X5_38 G) rfl sh_0 (203) rfl dX5_restIn_1 ?_
  refine v_aload_n (pc := 4) C 0 rfl dX5_restIn_4 ?_
  refine v_getr (pc := 5) C inX5 goX5 (ci := 3) rfl 1 (by decide) (wF_X5_19 G) rfl sh_0 (4) rfl dX5_restIn_5 ?_
  refine v_cv (pc := 8) (as := [.ref (bs γ + 4)]) C (cy_X2_copyFrom G) (wM_X5_237 G) sh_203 (ci := 1) rfl rfl (k_X2_copyFrom G hT hN (by omega)) dX5_restIn_8 rfl rfl (by decide) (by decide) (Nat.le_of_ble_eq_true rfl) zc (k_V (fun s8 q8 => ?_))
  obtain ⟨β9, c0, c1, rfl⟩ := q8
  have hT9 : Rep β9 n := Rep_of_copy (n := 203) (m := 4) hR h (fun k hk => setN_at _ _ _ hk) c0 c1
  refine v_iconst (pc := 11) C dX5_restIn_11 ?_
  refine v_istore_n (pc := 12) C [(1, .int (iI 0)), (0, .ref (bs γ + 0))] dX5_restIn_12 rfl (by decide) rfl ?_
  have L13 : ∀ (fu : Nat) (fl : Nat) (q : Int) (r : Int → Int) (β1 : St), (hrr : V = restL fl r q) → (hq : 0 ≤ q ∧ q + fl = 301) → (hX : Wf r) → (hT1 : Rep β1 r) → fl < fu → Vw γ φ 2 0 0 (QE γ φ (pI (fun z σ2 => cQ σ (op_restIn s a t n d k i) z σ2))) (setN (setN σ 4 α) 203 β1) 13 [(1, .int (iI q)), (0, .ref (bs γ + 0))] [] := by
    intro fu
    induction fu with
    | zero => intro fl q r β1 hrr hq hX hT1 hz; exact absurd hz (Nat.not_lt_zero _)
    | succ fu ih =>
      intro fl q r β1 hrr hq hX hT1 hz
      refine v_iload_n (pc := 13) C 0 rfl dX5_restIn_13 ?_
      refine v_sipush (pc := 14) C (by decide +kernel) dX5_restIn_14 ?_
      refine v_icmp_gt (pc := 17) C 38 (by first | omega | assumption) (by first | omega | assumption) dX5_restIn_17 (by decide) (fun h17 => ?_) (fun h17 => ?_)
      · obtain rfl : fl = 0 := by omega
        refine v_iconst (pc := 38) C dX5_restIn_38 ?_
        exact v_iret (pc := 39) C hr (rfl) dX5_restIn_39 (⟨_, rfl, cQ_ok (z' := restL 301 n 0) (by unfold op_restIn; rfl) (by rw [← hV, hrr]; try rfl) (hC0.oth (Or.inl rfl)) (fun c hc => (setN_out _ _ _ (by omega)).trans (hF0 c hc))⟩)
      · obtain ⟨fl2, rfl⟩ : ∃ g, fl = g + 1 := ⟨fl - 1, by omega⟩
        unfold restL at hrr
        refine v_aload_n (pc := 20) C 1 rfl dX5_restIn_20 ?_
        refine v_getr (pc := 21) C inX5 goX5 (ci := 3) rfl 5 (by decide) (wF_X5_38 G) rfl sh_0 (203) rfl dX5_restIn_21 ?_
        refine v_cv (pc := 24) (as := []) C (cy_X2_passTick G) (wM_X5_253 G) sh_203 (ci := 1) rfl rfl (k_X2_passTick G hT hT1 hX) dX5_restIn_24 rfl rfl (by decide) (by decide) (Nat.le_of_ble_eq_true rfl) zc (k_I (fun z24 s24 q24 => ?_))
        rcases q24 with ⟨⟨rfl, hq9⟩ | ⟨rfl, hq9⟩, α9, hR9, rfl⟩
        · rw [if_neg hq9] at hrr
          refine v_if_ne (pc := 27) C 32 (by first | omega | assumption) dX5_restIn_27 (by decide) (fun _ => ?_) (fun h => absurd h (by decide))
          refine v_iinc (pc := 32) C 0 [(1, .int (iI (q + 1))), (0, .ref (bs γ + 0))] dX5_restIn_32 rfl (by decide) rfl ?_
          refine v_goto (pc := 35) C 13 dX5_restIn_35 (by decide) ?_
          exact v_lv _ [0, 1] rfl (ih fl2 (q + 1) _ _ hrr (by omega) (tickR_Wf hX).1 hR9 (by omega))
        · rw [if_pos hq9] at hrr
          refine v_if_ne (pc := 27) C 32 (by first | omega | assumption) dX5_restIn_27 (by decide) (fun h => absurd h (by decide)) (fun _ => ?_)
          refine v_iload_n (pc := 30) C 0 rfl dX5_restIn_30 ?_
          exact v_iret (pc := 31) C hr (rfl) dX5_restIn_31 (⟨_, rfl, cQ_ok (z' := restL 301 n 0) (by unfold op_restIn; rfl) (by rw [← hV, hrr]; try rfl) (hC0.oth (Or.inl rfl)) (fun c hc => (setN_out _ _ _ (by omega)).trans (hF0 c hc))⟩)
  exact v_lv _ [0, 1] rfl (L13 302 301 0 n β9 hV (by omega) h hT9 (by omega))

set_option maxHeartbeats 4000000 in
set_option maxRecDepth 100000 in
theorem k_X5_beat {γ : Gm} (G : Glo γ) {σ : St} {s a : Int} {t n d k i : Int → Int} {v : Int} (hC : CRep σ s a t n d k i) (hO : AOk s a t n d k i) (hv : R3 v)  : Cxx γ yX5_beat cX5_beat 2 (some .int) 6 [.ref (bs γ + 0), .int (iI v)] σ (pI (fun z σ2 => cQ σ (op_beat s a t n d k i v) z σ2)) (fun E σ2 => (E = eI ∧ cX σ (op_beat s a t n d k i v) 1 σ2)) := by
  refine Cxx.of G (by decide +kernel) (Nat.le_of_ble_eq_true rfl) (fun φ C hq hr => ?_)
  have C : Cx γ φ RX5 cX5_beat 2 6 := C
  obtain ⟨hO1, hO2, hO3, h, hO5, hO6⟩ := id hO
  have hN : NetB 4 := Or.inl rfl
  have hT : NetB 203 := Or.inr (Or.inl rfl)
  obtain ⟨α, hα⟩ : ∃ α, α = getN σ 4 := ⟨_, rfl⟩
  have hR : Rep α n := by rw [hα]; exact hC.2.2.1
  refine v_st (show σ = setN σ 4 α from by rw [hα]; exact (setN_eta σ 4).symm) ?_
  have hC0 : CRep (setN σ 4 α) s a t n d k i := hC.now hR
  have hF0 : ∀ c, 255 ≤ c → setN σ 4 α c = σ c := fun c hc => setN_out _ _ _ (by omega)
  have hn0 := h.1
  have hn1 := h.2.1
  have hn4 := h.2.2.1
  have hn5 := h.2.2.2.1
  refine v_lv [(0, .ref (bs γ + 0)), (1, .int (iI v))] [0, 1] rfl ?_
  refine v_aload_n (pc := 0) C 0 rfl dX5_beat_0 ?_
  refine v_getr (pc := 1) C inX5 goX5 (ci := 3) rfl 1 (by decide) (wF_X5_19 G) rfl sh_0 (4) rfl dX5_beat_1 ?_
  refine v_iload_n (pc := 4) C 1 rfl dX5_beat_4 ?_
  refine v_cv (pc := 5) (as := [.int (iI v)]) C (cy_X2_hasValve G) (wM_X5_110 G) sh_4 (ci := 1) rfl rfl (k_X2_hasValve G hN hR h (by first | omega | assumption)) dX5_beat_5 rfl rfl (by decide) (by decide) (Nat.le_of_ble_eq_true rfl) zc (k_I (fun z5 s5 q5 => ?_))
  rcases q5 with ⟨⟨rfl, q5⟩ | ⟨rfl, q5⟩, rfl⟩
  · refine v_if_ne (pc := 8) C 19 (by first | omega | assumption) dX5_beat_8 (by decide) (fun _ => ?_) (fun h => absurd h (by decide))
    refine v_aload_n (pc := 19) C 0 rfl dX5_beat_19 ?_
    refine v_getr (pc := 20) C inX5 goX5 (ci := 3) rfl 5 (by decide) (wF_X5_38 G) rfl sh_0 (203) rfl dX5_beat_20 ?_
    refine v_aload_n (pc := 23) C 0 rfl dX5_beat_23 ?_
    refine v_getr (pc := 24) C inX5 goX5 (ci := 3) rfl 1 (by decide) (wF_X5_19 G) rfl sh_0 (4) rfl dX5_beat_24 ?_
    refine v_cv (pc := 27) (as := [.ref (bs γ + 4)]) C (cy_X2_copyFrom G) (wM_X5_237 G) sh_203 (ci := 1) rfl rfl (k_X2_copyFrom G hT hN (by omega)) dX5_beat_27 rfl rfl (by decide) (by decide) (Nat.le_of_ble_eq_true rfl) zc (k_V (fun s27 q27 => ?_))
    obtain ⟨β9, c0, c1, rfl⟩ := q27
    have hT9 : Rep β9 n := Rep_of_copy (n := 203) (m := 4) hR h (fun k hk => setN_at _ _ _ hk) c0 c1
    refine v_aload_n (pc := 30) C 0 rfl dX5_beat_30 ?_
    refine v_getr (pc := 31) C inX5 goX5 (ci := 3) rfl 5 (by decide) (wF_X5_38 G) rfl sh_0 (203) rfl dX5_beat_31 ?_
    refine v_iload_n (pc := 34) C 1 rfl dX5_beat_34 ?_
    refine v_cv (pc := 35) (as := [.int (iI v)]) C (cy_X2_findBeat G) (wM_X5_256 G) sh_203 (ci := 1) rfl rfl (k_X2_findBeat G hT hT9 h (by omega)) dX5_beat_35 rfl rfl (by decide) (by decide) (Nat.le_of_ble_eq_true rfl) zc (k_I (fun z35 s35 q35 => ?_))
    obtain ⟨⟨ez35, rz35⟩, α9, rfl⟩ := q35
    exact v_iretX (pc := 38) C hr (rfl) dX5_beat_38 (⟨_, rfl, cQ_ok (z' := beatR n v) (by unfold op_beat; rw [if_neg (by omega)]) (by assumption) (hC0.oth (Or.inl rfl)) (fun c hc => (setN_out _ _ _ (by omega)).trans (hF0 c hc))⟩)
  · refine v_if_ne (pc := 8) C 19 (by first | omega | assumption) dX5_beat_8 (by decide) (fun h => absurd h (by decide)) (fun _ => ?_)
    exact v_tI (pc := 11) C hq dX5_beat_11 dX5_beat_14 dX5_beat_15 dX5_beat_18 (Nat.le_of_ble_eq_true rfl) (⟨rfl, cX_no (by unfold op_beat; rw [if_pos (by omega)]) (hC0) (hF0)⟩)

set_option maxHeartbeats 4000000 in
set_option maxRecDepth 100000 in
theorem k_X5_findBeatWithLeak {γ : Gm} (G : Glo γ) {σ α : St} {n : Int → Int} {e l v : Int} (hR : Rep α n) (h : Wf n) (he : 0 ≤ e ∧ e < n 1) (hl : 0 ≤ l ∧ l ≤ 30) (hv : 0 ≤ v ∧ v < n 0) : Ct γ yX5_findBeatWithLeak cX5_findBeatWithLeak 4 (some .int) 6 [.ref (bs γ + 0), .int (iI e), .int (iI l), .int (iI v)] (setN σ 4 α) (pI (fun z σ2 => (z = leakB n e l v ∧ R3 z) ∧ ∃ σ9, (∀ c, c < 203 ∨ 229 ≤ c → σ9 c = σ c) ∧ σ2 = setN σ9 4 α)) := by
  refine Ct.of G (by decide +kernel) (Nat.le_of_ble_eq_true rfl) (fun φ C hr => ?_)
  have C : Cx γ φ RX5 cX5_findBeatWithLeak 4 6 := C
  have hN : NetB 4 := Or.inl rfl
  have hT : NetB 203 := Or.inr (Or.inl rfl)
  have hLk := Wf_leak h he hl
  have hL0 : (upr n (76 + 12 * e + 5) l) 0 = n 0 := upr_ne _ _ (by omega)
  have hn0 := h.1
  have hn1 := h.2.1
  have hn4 := h.2.2.1
  have hn5 := h.2.2.2.1
  refine v_lv [(0, .ref (bs γ + 0)), (1, .int (iI e)), (2, .int (iI l)), (3, .int (iI v))] [0, 1, 2, 3] rfl ?_
  refine v_aload_n (pc := 0) C 0 rfl dX5_findBeatWithLeak_0 ?_
  refine v_getr (pc := 1) C inX5 goX5 (ci := 3) rfl 5 (by decide) (wF_X5_38 G) rfl sh_0 (203) rfl dX5_findBeatWithLeak_1 ?_
  refine v_aload_n (pc := 4) C 0 rfl dX5_findBeatWithLeak_4 ?_
  refine v_getr (pc := 5) C inX5 goX5 (ci := 3) rfl 1 (by decide) (wF_X5_19 G) rfl sh_0 (4) rfl dX5_findBeatWithLeak_5 ?_
  refine v_cv (pc := 8) (as := [.ref (bs γ + 4)]) C (cy_X2_copyFrom G) (wM_X5_237 G) sh_203 (ci := 1) rfl rfl (k_X2_copyFrom G hT hN (by omega)) dX5_findBeatWithLeak_8 rfl rfl (by decide) (by decide) (Nat.le_of_ble_eq_true rfl) zc (k_V (fun s8 q8 => ?_))
  obtain ⟨β9, c0, c1, rfl⟩ := q8
  have hT9 : Rep β9 n := Rep_of_copy (n := 203) (m := 4) hR h (fun k hk => setN_at _ _ _ hk) c0 c1
  refine v_aload_n (pc := 11) C 0 rfl dX5_findBeatWithLeak_11 ?_
  refine v_getr (pc := 12) C inX5 goX5 (ci := 3) rfl 5 (by decide) (wF_X5_38 G) rfl sh_0 (203) rfl dX5_findBeatWithLeak_12 ?_
  refine v_getrN (pc := 15) C hT 13 10 (by decide) (wF_X5_163 G) rfl dX5_findBeatWithLeak_15 ?_
  refine v_iload_n (pc := 18) C 1 rfl dX5_findBeatWithLeak_18 ?_
  refine v_iload_n (pc := 19) C 2 rfl dX5_findBeatWithLeak_19 ?_
  refine v_iastN (pc := 20) C hT 10 (by decide) (m := 16) rfl (by first | omega | assumption) (by first | omega | assumption) dX5_findBeatWithLeak_20 ?_
  refine v_aload_n (pc := 21) C 0 rfl dX5_findBeatWithLeak_21 ?_
  refine v_getr (pc := 22) C inX5 goX5 (ci := 3) rfl 5 (by decide) (wF_X5_38 G) rfl sh_0 (203) rfl dX5_findBeatWithLeak_22 ?_
  refine v_iload_n (pc := 25) C 3 rfl dX5_findBeatWithLeak_25 ?_
  refine v_cv (pc := 26) (as := [.int (iI v)]) C (cy_X2_findBeat G) (wM_X5_256 G) sh_203 (ci := 1) rfl rfl (k_X2_findBeat G hT (hT9.lek he hn0.2) hLk (by omega)) dX5_findBeatWithLeak_26 rfl rfl (by decide) (by decide) (Nat.le_of_ble_eq_true rfl) zc (k_I (fun z26 s26 q26 => ?_))
  obtain ⟨⟨ez26, rz26⟩, α9, rfl⟩ := q26
  exact v_iret (pc := 29) C hr (rfl) dX5_findBeatWithLeak_29 (⟨_, rfl, ⟨by assumption, by assumption⟩, _, fun c hc => setN_out _ _ _ (by omega), setN_comm _ _ _ (by omega)⟩)

set_option maxHeartbeats 4000000 in
set_option maxRecDepth 100000 in
theorem k_X5_ifLeak {γ : Gm} (G : Glo γ) {σ : St} {s a : Int} {t n d k i : Int → Int} {e l v : Int} (hC : CRep σ s a t n d k i) (hO : AOk s a t n d k i) (he : R3 e) (hl : R3 l) (hv : R3 v)  : Cxx γ yX5_ifLeak cX5_ifLeak 4 (some .int) 7 [.ref (bs γ + 0), .int (iI e), .int (iI l), .int (iI v)] σ (pI (fun z σ2 => cQ σ (op_ifLeak s a t n d k i e l v) z σ2)) (fun E σ2 => (E = eI ∧ cX σ (op_ifLeak s a t n d k i e l v) 1 σ2) ∨ (E = eA ∧ cX σ (op_ifLeak s a t n d k i e l v) 2 σ2)) := by
  refine Cxx.of G (by decide +kernel) (Nat.le_of_ble_eq_true rfl) (fun φ C hq hr => ?_)
  have C : Cx γ φ RX5 cX5_ifLeak 4 7 := C
  obtain ⟨hO1, hO2, hO3, h, hO5, hO6⟩ := id hO
  have hN : NetB 4 := Or.inl rfl
  have hT : NetB 203 := Or.inr (Or.inl rfl)
  obtain ⟨α, hα⟩ : ∃ α, α = getN σ 4 := ⟨_, rfl⟩
  have hR : Rep α n := by rw [hα]; exact hC.2.2.1
  refine v_st (show σ = setN σ 4 α from by rw [hα]; exact (setN_eta σ 4).symm) ?_
  have hC0 : CRep (setN σ 4 α) s a t n d k i := hC.now hR
  have hF0 : ∀ c, 255 ≤ c → setN σ 4 α c = σ c := fun c hc => setN_out _ _ _ (by omega)
  have hn0 := h.1
  have hn1 := h.2.1
  have hn4 := h.2.2.1
  have hn5 := h.2.2.2.1
  refine v_lv [(0, .ref (bs γ + 0)), (1, .int (iI e)), (2, .int (iI l)), (3, .int (iI v))] [0, 1, 2, 3] rfl ?_
  refine v_aload_n (pc := 0) C 0 rfl dX5_ifLeak_0 ?_
  refine v_getr (pc := 1) C inX5 goX5 (ci := 3) rfl 1 (by decide) (wF_X5_19 G) rfl sh_0 (4) rfl dX5_ifLeak_1 ?_
  refine v_iload_n (pc := 4) C 1 rfl dX5_ifLeak_4 ?_
  refine v_cv (pc := 5) (as := [.int (iI e)]) C (cy_X2_hasDuct G) (wM_X5_151 G) sh_4 (ci := 1) rfl rfl (k_X2_hasDuct G hN hR h (by first | omega | assumption)) dX5_ifLeak_5 rfl rfl (by decide) (by decide) (Nat.le_of_ble_eq_true rfl) zc (k_I (fun z5 s5 q5 => ?_))
  rcases q5 with ⟨⟨rfl, q5⟩ | ⟨rfl, q5⟩, rfl⟩
  · refine v_if_eq (pc := 8) C 22 (by first | omega | assumption) dX5_ifLeak_8 (by decide) (fun h => absurd h (by decide)) (fun _ => ?_)
    refine v_aload_n (pc := 11) C 0 rfl dX5_ifLeak_11 ?_
    refine v_getr (pc := 12) C inX5 goX5 (ci := 3) rfl 1 (by decide) (wF_X5_19 G) rfl sh_0 (4) rfl dX5_ifLeak_12 ?_
    refine v_iload_n (pc := 15) C 3 rfl dX5_ifLeak_15 ?_
    refine v_cv (pc := 16) (as := [.int (iI v)]) C (cy_X2_hasValve G) (wM_X5_110 G) sh_4 (ci := 1) rfl rfl (k_X2_hasValve G hN hR h (by first | omega | assumption)) dX5_ifLeak_16 rfl rfl (by decide) (by decide) (Nat.le_of_ble_eq_true rfl) zc (k_I (fun z16 s16 q16 => ?_))
    rcases q16 with ⟨⟨rfl, q16⟩ | ⟨rfl, q16⟩, rfl⟩
    · refine v_if_ne (pc := 19) C 30 (by first | omega | assumption) dX5_ifLeak_19 (by decide) (fun _ => ?_) (fun h => absurd h (by decide))
      refine v_iload_n (pc := 30) C 2 rfl dX5_ifLeak_30 ?_
      refine v_iconst (pc := 31) C dX5_ifLeak_31 ?_
      refine v_bipush (pc := 32) C (by decide +kernel) dX5_ifLeak_32 ?_
      refine v_cs (pc := 34) (as := [.int (iI l), .int (iI 0), .int (iI 30)]) C (cy_X5_isIn G) (wM_X5_44 G) (k_X5_isIn G (by first | omega | assumption) (by first | omega | assumption) (by first | omega | assumption)) dX5_ifLeak_34 rfl rfl (by decide) (by decide) (Nat.le_of_ble_eq_true rfl) zc (k_I (fun z34 s34 q34 => ?_))
      rcases q34 with ⟨⟨rfl, q34⟩ | ⟨rfl, q34⟩, rfl⟩
      · refine v_if_ne (pc := 37) C 48 (by first | omega | assumption) dX5_ifLeak_37 (by decide) (fun _ => ?_) (fun h => absurd h (by decide))
        refine v_aload_n (pc := 48) C 0 rfl dX5_ifLeak_48 ?_
        refine v_iload_n (pc := 49) C 1 rfl dX5_ifLeak_49 ?_
        refine v_iload_n (pc := 50) C 2 rfl dX5_ifLeak_50 ?_
        refine v_iload_n (pc := 51) C 3 rfl dX5_ifLeak_51 ?_
        refine v_cv (pc := 52) (as := [.int (iI e), .int (iI l), .int (iI v)]) C (cy_X5_findBeatWithLeak G) (wM_X5_259 G) sh_0 (ci := 3) rfl rfl (k_X5_findBeatWithLeak G hR h (by omega) (by omega) (by omega)) dX5_ifLeak_52 rfl rfl (by decide) (by decide) (Nat.le_of_ble_eq_true rfl) zc (k_I (fun z52 s52 q52 => ?_))
        obtain ⟨⟨ez52, rz52⟩, σ9, hS9, rfl⟩ := q52
        exact v_iretX (pc := 55) C hr (rfl) dX5_ifLeak_55 (⟨_, rfl, cQ_ok (z' := leakB n e l v) (by unfold op_ifLeak; rw [if_neg (by omega), if_neg (by omega)]) (by assumption) (hC0.spare hS9) (spare_hi hS9)⟩)
      · refine v_if_ne (pc := 37) C 48 (by first | omega | assumption) dX5_ifLeak_37 (by decide) (fun h => absurd h (by decide)) (fun _ => ?_)
        exact v_tA (pc := 40) C hq dX5_ifLeak_40 dX5_ifLeak_43 dX5_ifLeak_44 dX5_ifLeak_47 (Nat.le_of_ble_eq_true rfl) (Or.inr (⟨rfl, cX_no (by unfold op_ifLeak; rw [if_neg (by omega), if_pos (by omega)]) (hC0) (hF0)⟩))
    · refine v_if_ne (pc := 19) C 30 (by first | omega | assumption) dX5_ifLeak_19 (by decide) (fun h => absurd h (by decide)) (fun _ => ?_)
      exact v_tI (pc := 22) C hq dX5_ifLeak_22 dX5_ifLeak_25 dX5_ifLeak_26 dX5_ifLeak_29 (Nat.le_of_ble_eq_true rfl) (Or.inl (⟨rfl, cX_no (by unfold op_ifLeak; rw [if_pos (by omega)]) (hC0) (hF0)⟩))
  · refine v_if_eq (pc := 8) C 22 (by first | omega | assumption) dX5_ifLeak_8 (by decide) (fun _ => ?_) (fun h => absurd h (by decide))
    exact v_tI (pc := 22) C hq dX5_ifLeak_22 dX5_ifLeak_25 dX5_ifLeak_26 dX5_ifLeak_29 (Nat.le_of_ble_eq_true rfl) (Or.inl (⟨rfl, cX_no (by unfold op_ifLeak; rw [if_pos (by omega)]) (hC0) (hF0)⟩))

set_option maxHeartbeats 4000000 in
set_option maxRecDepth 100000 in
theorem k_X5_suspect {γ : Gm} (G : Glo γ) {σ : St} {s a : Int} {t n d k i : Int → Int} {v b : Int} (hC : CRep σ s a t n d k i) (hO : AOk s a t n d k i) (hv : R3 v) (hb : R3 b)  : Cxx γ yX5_suspect cX5_suspect 5 (some .int) 7 [.ref (bs γ + 0), .int (iI v), .int (iI b)] σ (pI (fun z σ2 => cQ σ (op_suspect s a t n d k i v b) z σ2)) (fun E σ2 => (E = eI ∧ cX σ (op_suspect s a t n d k i v b) 1 σ2) ∨ (E = eA ∧ cX σ (op_suspect s a t n d k i v b) 2 σ2)) := by
  refine Cxx.of G (by decide +kernel) (Nat.le_of_ble_eq_true rfl) (fun φ C hq hr => ?_)
  have C : Cx γ φ RX5 cX5_suspect 5 7 := C
  obtain ⟨hO1, hO2, hO3, h, hO5, hO6⟩ := id hO
  have hN : NetB 4 := Or.inl rfl
  have hT : NetB 203 := Or.inr (Or.inl rfl)
  obtain ⟨α, hα⟩ : ∃ α, α = getN σ 4 := ⟨_, rfl⟩
  have hR : Rep α n := by rw [hα]; exact hC.2.2.1
  refine v_st (show σ = setN σ 4 α from by rw [hα]; exact (setN_eta σ 4).symm) ?_
  have hC0 : CRep (setN σ 4 α) s a t n d k i := hC.now hR
  have hF0 : ∀ c, 255 ≤ c → setN σ 4 α c = σ c := fun c hc => setN_out _ _ _ (by omega)
  have hn0 := h.1
  have hn1 := h.2.1
  have hn4 := h.2.2.1
  have hn5 := h.2.2.2.1
  obtain ⟨V, hV⟩ : ∃ V, V = suspD n v b (n 1).toNat 0 := ⟨_, rfl⟩
  refine v_lv [(0, .ref (bs γ + 0)), (1, .int (iI v)), (2, .int (iI b))] [0, 1, 2] rfl ?_
  refine v_aload_n (pc := 0) C 0 rfl dX5_suspect_0 ?_
  refine v_getr (pc := 1) C inX5 goX5 (ci := 3) rfl 1 (by decide) (wF_X5_19 G) rfl sh_0 (4) rfl dX5_suspect_1 ?_
  refine v_iload_n (pc := 4) C 1 rfl dX5_suspect_4 ?_
  refine v_cv (pc := 5) (as := [.int (iI v)]) C (cy_X2_hasValve G) (wM_X5_110 G) sh_4 (ci := 1) rfl rfl (k_X2_hasValve G hN hR h (by first | omega | assumption)) dX5_suspect_5 rfl rfl (by decide) (by decide) (Nat.le_of_ble_eq_true rfl) zc (k_I (fun z5 s5 q5 => ?_))
  rcases q5 with ⟨⟨rfl, q5⟩ | ⟨rfl, q5⟩, rfl⟩
  · refine v_if_ne (pc := 8) C 19 (by first | omega | assumption) dX5_suspect_8 (by decide) (fun _ => ?_) (fun h => absurd h (by decide))
    refine v_iload_n (pc := 19) C 2 rfl dX5_suspect_19 ?_
    refine v_iconst (pc := 20) C dX5_suspect_20 ?_
    refine v_icmp_eq (pc := 21) C 43 (by first | omega | assumption) (by first | omega | assumption) dX5_suspect_21 (by decide) (fun h21 => ?_) (fun h21 => ?_)
    · refine v_iconst (pc := 43) C dX5_suspect_43 ?_
      refine v_istore_n (pc := 44) C [(3, .int (iI 0)), (0, .ref (bs γ + 0)), (1, .int (iI v)), (2, .int (iI b))] dX5_suspect_44 rfl (by decide) rfl ?_
      have L45 : ∀ (fu : Nat) (fl : Nat) (e : Int) (σ1 : St), (hrr : V = suspD n v b fl e) → (he : 0 ≤ e ∧ e + fl = n 1) → (hS1 : ∀ c, c < 203 ∨ 229 ≤ c → σ1 c = σ c) → fl < fu → Vw γ φ 5 0 0 (QX γ φ (pI (fun z σ2 => cQ σ (op_suspect s a t n d k i v b) z σ2)) (fun E σ2 => (E = eI ∧ cX σ (op_suspect s a t n d k i v b) 1 σ2) ∨ (E = eA ∧ cX σ (op_suspect s a t n d k i v b) 2 σ2))) (setN σ1 4 α) 45 [(3, .int (iI e)), (2, .int (iI b)), (1, .int (iI v)), (0, .ref (bs γ + 0))] [] := by
        intro fu
        induction fu with
        | zero => intro fl e σ1 hrr he hS1 hz; exact absurd hz (Nat.not_lt_zero _)
        | succ fu ih =>
          intro fl e σ1 hrr he hS1 hz
          refine v_iload_n (pc := 45) C 0 rfl dX5_suspect_45 ?_
          refine v_aload_n (pc := 46) C 3 rfl dX5_suspect_46 ?_
          refine v_getr (pc := 47) C inX5 goX5 (ci := 3) rfl 1 (by decide) (wF_X5_19 G) rfl sh_0 (4) rfl dX5_suspect_47 ?_
          refine v_getiM (pc := 50) C hN 3 (by decide) (wF_X5_92 G) rfl 3 rfl dX5_suspect_50 (fun z50 ez50 rz50 => ?_)
          rw [hR.nd] at ez50
          refine v_icmp_ge (pc := 53) C 104 (by first | omega | assumption) (by first | omega | assumption) dX5_suspect_53 (by decide) (fun h53 => ?_) (fun h53 => ?_)
          · obtain rfl : fl = 0 := by omega
            refine v_iconst (pc := 104) C dX5_suspect_104 ?_
            exact v_iretX (pc := 105) C hr (rfl) dX5_suspect_105 (⟨_, rfl, cQ_ok (z' := suspD n v b (n 1).toNat 0) (by unfold op_suspect; rw [if_neg (by omega), if_neg (by omega)]) (by rw [← hV, hrr]; try rfl) (hC0.spare hS1) (spare_hi hS1)⟩)
          · obtain ⟨fl2, rfl⟩ : ∃ g, fl = g + 1 := ⟨fl - 1, by omega⟩
            unfold suspD at hrr
            obtain ⟨V2, hV2⟩ : ∃ V2, V2 = suspI n v b e 30 1 := ⟨_, rfl⟩
            rw [← hV2] at hrr
            refine v_iconst (pc := 56) C dX5_suspect_56 ?_
            refine v_istore (pc := 57) C [(4, .int (iI 1)), (3, .int (iI e)), (2, .int (iI b)), (1, .int (iI v)), (0, .ref (bs γ + 0))] dX5_suspect_57 (by decide) rfl ?_
            have L59 : ∀ (fu : Nat) (fm : Nat) (l : Int) (σ2 : St), (hs2 : V2 = suspI n v b e fm l) → (hl : 1 ≤ l ∧ l + fm = 31) → (hS2 : ∀ c, c < 203 ∨ 229 ≤ c → σ2 c = σ c) → fm < fu → Vw γ φ 5 0 0 (QX γ φ (pI (fun z σ2 => cQ σ (op_suspect s a t n d k i v b) z σ2)) (fun E σ2 => (E = eI ∧ cX σ (op_suspect s a t n d k i v b) 1 σ2) ∨ (E = eA ∧ cX σ (op_suspect s a t n d k i v b) 2 σ2))) (setN σ2 4 α) 59 [(4, .int (iI l)), (3, .int (iI e)), (2, .int (iI b)), (1, .int (iI v)), (0, .ref (bs γ + 0))] [] := by
              intro fu2
              induction fu2 with
              | zero => intro fm l σ2 hs2 hl hS2 hz; exact absurd hz (Nat.not_lt_zero _)
              | succ fu2 ih2 =>
                intro fm l σ2 hs2 hl hS2 hz
                refine v_iload (pc := 59) C 0 rfl dX5_suspect_59 ?_
                refine v_bipush (pc := 61) C (by decide +kernel) dX5_suspect_61 ?_
                refine v_icmp_gt (pc := 63) C 98 (by first | omega | assumption) (by first | omega | assumption) dX5_suspect_63 (by decide) (fun h63 => ?_) (fun h63 => ?_)
                · obtain rfl : fm = 0 := by omega
                  have hs3 : V2 = 0 := hs2
                  rw [if_neg (by omega)] at hrr
                  refine v_iinc (pc := 98) C 1 [(3, .int (iI (e + 1))), (4, .int (iI l)), (2, .int (iI b)), (1, .int (iI v)), (0, .ref (bs γ + 0))] dX5_suspect_98 rfl (by decide) rfl ?_
                  refine v_goto (pc := 101) C 45 dX5_suspect_101 (by decide) ?_
                  exact v_lv _ [0, 2, 3, 4] rfl (ih fl2 (e + 1) _ hrr (by omega) hS2 (by omega))
                · obtain ⟨fm2, rfl⟩ : ∃ g, fm = g + 1 := ⟨fm - 1, by omega⟩
                  unfold suspI at hs2
                  refine v_aload_n (pc := 66) C 4 rfl dX5_suspect_66 ?_
                  refine v_getr (pc := 67) C inX5 goX5 (ci := 3) rfl 1 (by decide) (wF_X5_19 G) rfl sh_0 (4) rfl dX5_suspect_67 ?_
                  refine v_getrN (pc := 70) C hN 13 10 (by decide) (wF_X5_163 G) rfl dX5_suspect_70 ?_
                  refine v_iload_n (pc := 73) C 1 rfl dX5_suspect_73 ?_
                  refine v_ialdN (pc := 74) C hN 10 (by decide) (m := 16) rfl (by first | omega | assumption) dX5_suspect_74 (fun z74 ez74 rz74 => ?_)
                  have wz74 : z74 = n (76 + 12 * e + 5) := ez74.trans (hR.2.2.2.1 e (by omega) (by omega)).2.2.2
                  refine v_if_ne (pc := 75) C 98 (by first | omega | assumption) dX5_suspect_75 (by decide) (fun h75 => ?_) (fun h75 => ?_)
                  · rw [if_neg (fun h => by have := h.1; omega)] at hrr
                    refine v_iinc (pc := 98) C 1 [(3, .int (iI (e + 1))), (4, .int (iI l)), (2, .int (iI b)), (1, .int (iI v)), (0, .ref (bs γ + 0))] dX5_suspect_98 rfl (by decide) rfl ?_
                    refine v_goto (pc := 101) C 45 dX5_suspect_101 (by decide) ?_
                    exact v_lv _ [0, 2, 3, 4] rfl (ih fl2 (e + 1) _ hrr (by omega) hS2 (by omega))
                  · refine v_aload_n (pc := 78) C 4 rfl dX5_suspect_78 ?_
                    refine v_iload_n (pc := 79) C 1 rfl dX5_suspect_79 ?_
                    refine v_iload (pc := 80) C 0 rfl dX5_suspect_80 ?_
                    refine v_iload_n (pc := 82) C 3 rfl dX5_suspect_82 ?_
                    refine v_cv (pc := 83) (as := [.int (iI e), .int (iI l), .int (iI v)]) C (cy_X5_findBeatWithLeak G) (wM_X5_259 G) sh_0 (ci := 3) rfl rfl (k_X5_findBeatWithLeak G hR h (by omega) (by omega) (by omega)) dX5_suspect_83 rfl rfl (by decide) (by decide) (Nat.le_of_ble_eq_true rfl) zc (k_I (fun z83 s83 q83 => ?_))
                    obtain ⟨⟨ez83, rz83⟩, σ9, hS9, rfl⟩ := q83
                    have hS3 : ∀ c, c < 203 ∨ 229 ≤ c → σ9 c = σ c := fun c hc => (hS9 c hc).trans (hS2 c hc)
                    refine v_iload_n (pc := 86) C 2 rfl dX5_suspect_86 ?_
                    refine v_icmp_ne (pc := 87) C 92 (by first | omega | assumption) (by first | omega | assumption) dX5_suspect_87 (by decide) (fun h87 => ?_) (fun h87 => ?_)
                    · rw [if_neg (by omega)] at hs2
                      refine v_iinc (pc := 92) C 0 [(4, .int (iI (l + 1))), (3, .int (iI e)), (2, .int (iI b)), (1, .int (iI v)), (0, .ref (bs γ + 0))] dX5_suspect_92 rfl (by decide) rfl ?_
                      refine v_goto (pc := 95) C 59 dX5_suspect_95 (by decide) ?_
                      exact v_lv _ [0, 1, 2, 3, 4] rfl (ih2 fm2 (l + 1) _ hs2 (by omega) hS3 (by omega))
                    · rw [if_pos (by omega)] at hs2
                      rw [if_pos ⟨by omega, by omega⟩] at hrr
                      refine v_iload_n (pc := 90) C 1 rfl dX5_suspect_90 ?_
                      exact v_iretX (pc := 91) C hr (rfl) dX5_suspect_91 (⟨_, rfl, cQ_ok (z' := suspD n v b (n 1).toNat 0) (by unfold op_suspect; rw [if_neg (by omega), if_neg (by omega)]) (by rw [← hV, hrr]; try rfl) (hC0.spare hS3) (spare_hi hS3)⟩)
            exact v_lv _ [0, 1, 2, 3, 4] rfl (L59 31 30 1 σ1 hV2 (by omega) hS1 (by omega))
      exact v_lv _ [0, 3, 2, 1] rfl (L45 ((n 1).toNat + 1) (n 1).toNat 0 σ hV (by omega) (fun _ _ => rfl) (by omega))
    · refine v_iload_n (pc := 24) C 2 rfl dX5_suspect_24 ?_
      refine v_iconst (pc := 25) C dX5_suspect_25 ?_
      refine v_sipush (pc := 26) C (by decide +kernel) dX5_suspect_26 ?_
      refine v_cs (pc := 29) (as := [.int (iI b), .int (iI 1), .int (iI 200)]) C (cy_X5_isIn G) (wM_X5_44 G) (k_X5_isIn G (by first | omega | assumption) (by first | omega | assumption) (by first | omega | assumption)) dX5_suspect_29 rfl rfl (by decide) (by decide) (Nat.le_of_ble_eq_true rfl) zc (k_I (fun z29 s29 q29 => ?_))
      rcases q29 with ⟨⟨rfl, q29⟩ | ⟨rfl, q29⟩, rfl⟩
      · refine v_if_ne (pc := 32) C 43 (by first | omega | assumption) dX5_suspect_32 (by decide) (fun _ => ?_) (fun h => absurd h (by decide))
        refine v_iconst (pc := 43) C dX5_suspect_43 ?_
        refine v_istore_n (pc := 44) C [(3, .int (iI 0)), (0, .ref (bs γ + 0)), (1, .int (iI v)), (2, .int (iI b))] dX5_suspect_44 rfl (by decide) rfl ?_
        have L45 : ∀ (fu : Nat) (fl : Nat) (e : Int) (σ1 : St), (hrr : V = suspD n v b fl e) → (he : 0 ≤ e ∧ e + fl = n 1) → (hS1 : ∀ c, c < 203 ∨ 229 ≤ c → σ1 c = σ c) → fl < fu → Vw γ φ 5 0 0 (QX γ φ (pI (fun z σ2 => cQ σ (op_suspect s a t n d k i v b) z σ2)) (fun E σ2 => (E = eI ∧ cX σ (op_suspect s a t n d k i v b) 1 σ2) ∨ (E = eA ∧ cX σ (op_suspect s a t n d k i v b) 2 σ2))) (setN σ1 4 α) 45 [(3, .int (iI e)), (2, .int (iI b)), (1, .int (iI v)), (0, .ref (bs γ + 0))] [] := by
          intro fu
          induction fu with
          | zero => intro fl e σ1 hrr he hS1 hz; exact absurd hz (Nat.not_lt_zero _)
          | succ fu ih =>
            intro fl e σ1 hrr he hS1 hz
            refine v_iload_n (pc := 45) C 0 rfl dX5_suspect_45 ?_
            refine v_aload_n (pc := 46) C 3 rfl dX5_suspect_46 ?_
            refine v_getr (pc := 47) C inX5 goX5 (ci := 3) rfl 1 (by decide) (wF_X5_19 G) rfl sh_0 (4) rfl dX5_suspect_47 ?_
            refine v_getiM (pc := 50) C hN 3 (by decide) (wF_X5_92 G) rfl 3 rfl dX5_suspect_50 (fun z50_1 ez50_1 rz50_1 => ?_)
            rw [hR.nd] at ez50_1
            refine v_icmp_ge (pc := 53) C 104 (by first | omega | assumption) (by first | omega | assumption) dX5_suspect_53 (by decide) (fun h53_1 => ?_) (fun h53_1 => ?_)
            · obtain rfl : fl = 0 := by omega
              refine v_iconst (pc := 104) C dX5_suspect_104 ?_
              exact v_iretX (pc := 105) C hr (rfl) dX5_suspect_105 (⟨_, rfl, cQ_ok (z' := suspD n v b (n 1).toNat 0) (by unfold op_suspect; rw [if_neg (by omega), if_neg (by omega)]) (by rw [← hV, hrr]; try rfl) (hC0.spare hS1) (spare_hi hS1)⟩)
            · obtain ⟨fl2, rfl⟩ : ∃ g, fl = g + 1 := ⟨fl - 1, by omega⟩
              unfold suspD at hrr
              obtain ⟨V2, hV2⟩ : ∃ V2, V2 = suspI n v b e 30 1 := ⟨_, rfl⟩
              rw [← hV2] at hrr
              refine v_iconst (pc := 56) C dX5_suspect_56 ?_
              refine v_istore (pc := 57) C [(4, .int (iI 1)), (3, .int (iI e)), (2, .int (iI b)), (1, .int (iI v)), (0, .ref (bs γ + 0))] dX5_suspect_57 (by decide) rfl ?_
              have L59 : ∀ (fu : Nat) (fm : Nat) (l : Int) (σ2 : St), (hs2 : V2 = suspI n v b e fm l) → (hl : 1 ≤ l ∧ l + fm = 31) → (hS2 : ∀ c, c < 203 ∨ 229 ≤ c → σ2 c = σ c) → fm < fu → Vw γ φ 5 0 0 (QX γ φ (pI (fun z σ2 => cQ σ (op_suspect s a t n d k i v b) z σ2)) (fun E σ2 => (E = eI ∧ cX σ (op_suspect s a t n d k i v b) 1 σ2) ∨ (E = eA ∧ cX σ (op_suspect s a t n d k i v b) 2 σ2))) (setN σ2 4 α) 59 [(4, .int (iI l)), (3, .int (iI e)), (2, .int (iI b)), (1, .int (iI v)), (0, .ref (bs γ + 0))] [] := by
                intro fu2
                induction fu2 with
                | zero => intro fm l σ2 hs2 hl hS2 hz; exact absurd hz (Nat.not_lt_zero _)
                | succ fu2 ih2 =>
                  intro fm l σ2 hs2 hl hS2 hz
                  refine v_iload (pc := 59) C 0 rfl dX5_suspect_59 ?_
                  refine v_bipush (pc := 61) C (by decide +kernel) dX5_suspect_61 ?_
                  refine v_icmp_gt (pc := 63) C 98 (by first | omega | assumption) (by first | omega | assumption) dX5_suspect_63 (by decide) (fun h63_1 => ?_) (fun h63_1 => ?_)
                  · obtain rfl : fm = 0 := by omega
                    have hs3 : V2 = 0 := hs2
                    rw [if_neg (by omega)] at hrr
                    refine v_iinc (pc := 98) C 1 [(3, .int (iI (e + 1))), (4, .int (iI l)), (2, .int (iI b)), (1, .int (iI v)), (0, .ref (bs γ + 0))] dX5_suspect_98 rfl (by decide) rfl ?_
                    refine v_goto (pc := 101) C 45 dX5_suspect_101 (by decide) ?_
                    exact v_lv _ [0, 2, 3, 4] rfl (ih fl2 (e + 1) _ hrr (by omega) hS2 (by omega))
                  · obtain ⟨fm2, rfl⟩ : ∃ g, fm = g + 1 := ⟨fm - 1, by omega⟩
                    unfold suspI at hs2
                    refine v_aload_n (pc := 66) C 4 rfl dX5_suspect_66 ?_
                    refine v_getr (pc := 67) C inX5 goX5 (ci := 3) rfl 1 (by decide) (wF_X5_19 G) rfl sh_0 (4) rfl dX5_suspect_67 ?_
                    refine v_getrN (pc := 70) C hN 13 10 (by decide) (wF_X5_163 G) rfl dX5_suspect_70 ?_
                    refine v_iload_n (pc := 73) C 1 rfl dX5_suspect_73 ?_
                    refine v_ialdN (pc := 74) C hN 10 (by decide) (m := 16) rfl (by first | omega | assumption) dX5_suspect_74 (fun z74_1 ez74_1 rz74_1 => ?_)
                    have wz74_1 : z74_1 = n (76 + 12 * e + 5) := ez74_1.trans (hR.2.2.2.1 e (by omega) (by omega)).2.2.2
                    refine v_if_ne (pc := 75) C 98 (by first | omega | assumption) dX5_suspect_75 (by decide) (fun h75_1 => ?_) (fun h75_1 => ?_)
                    · rw [if_neg (fun h => by have := h.1; omega)] at hrr
                      refine v_iinc (pc := 98) C 1 [(3, .int (iI (e + 1))), (4, .int (iI l)), (2, .int (iI b)), (1, .int (iI v)), (0, .ref (bs γ + 0))] dX5_suspect_98 rfl (by decide) rfl ?_
                      refine v_goto (pc := 101) C 45 dX5_suspect_101 (by decide) ?_
                      exact v_lv _ [0, 2, 3, 4] rfl (ih fl2 (e + 1) _ hrr (by omega) hS2 (by omega))
                    · refine v_aload_n (pc := 78) C 4 rfl dX5_suspect_78 ?_
                      refine v_iload_n (pc := 79) C 1 rfl dX5_suspect_79 ?_
                      refine v_iload (pc := 80) C 0 rfl dX5_suspect_80 ?_
                      refine v_iload_n (pc := 82) C 3 rfl dX5_suspect_82 ?_
                      refine v_cv (pc := 83) (as := [.int (iI e), .int (iI l), .int (iI v)]) C (cy_X5_findBeatWithLeak G) (wM_X5_259 G) sh_0 (ci := 3) rfl rfl (k_X5_findBeatWithLeak G hR h (by omega) (by omega) (by omega)) dX5_suspect_83 rfl rfl (by decide) (by decide) (Nat.le_of_ble_eq_true rfl) zc (k_I (fun z83_1 s83_1 q83_1 => ?_))
                      obtain ⟨⟨ez83_1, rz83_1⟩, σ9, hS9, rfl⟩ := q83_1
                      have hS3 : ∀ c, c < 203 ∨ 229 ≤ c → σ9 c = σ c := fun c hc => (hS9 c hc).trans (hS2 c hc)
                      refine v_iload_n (pc := 86) C 2 rfl dX5_suspect_86 ?_
                      refine v_icmp_ne (pc := 87) C 92 (by first | omega | assumption) (by first | omega | assumption) dX5_suspect_87 (by decide) (fun h87_1 => ?_) (fun h87_1 => ?_)
                      · rw [if_neg (by omega)] at hs2
                        refine v_iinc (pc := 92) C 0 [(4, .int (iI (l + 1))), (3, .int (iI e)), (2, .int (iI b)), (1, .int (iI v)), (0, .ref (bs γ + 0))] dX5_suspect_92 rfl (by decide) rfl ?_
                        refine v_goto (pc := 95) C 59 dX5_suspect_95 (by decide) ?_
                        exact v_lv _ [0, 1, 2, 3, 4] rfl (ih2 fm2 (l + 1) _ hs2 (by omega) hS3 (by omega))
                      · rw [if_pos (by omega)] at hs2
                        rw [if_pos ⟨by omega, by omega⟩] at hrr
                        refine v_iload_n (pc := 90) C 1 rfl dX5_suspect_90 ?_
                        exact v_iretX (pc := 91) C hr (rfl) dX5_suspect_91 (⟨_, rfl, cQ_ok (z' := suspD n v b (n 1).toNat 0) (by unfold op_suspect; rw [if_neg (by omega), if_neg (by omega)]) (by rw [← hV, hrr]; try rfl) (hC0.spare hS3) (spare_hi hS3)⟩)
              exact v_lv _ [0, 1, 2, 3, 4] rfl (L59 31 30 1 σ1 hV2 (by omega) hS1 (by omega))
        exact v_lv _ [0, 3, 2, 1] rfl (L45 ((n 1).toNat + 1) (n 1).toNat 0 σ hV (by omega) (fun _ _ => rfl) (by omega))
      · refine v_if_ne (pc := 32) C 43 (by first | omega | assumption) dX5_suspect_32 (by decide) (fun h => absurd h (by decide)) (fun _ => ?_)
        exact v_tA (pc := 35) C hq dX5_suspect_35 dX5_suspect_38 dX5_suspect_39 dX5_suspect_42 (Nat.le_of_ble_eq_true rfl) (Or.inr (⟨rfl, cX_no (by unfold op_suspect; rw [if_neg (by omega), if_pos (by omega)]) (hC0) (hF0)⟩))
  · refine v_if_ne (pc := 8) C 19 (by first | omega | assumption) dX5_suspect_8 (by decide) (fun h => absurd h (by decide)) (fun _ => ?_)
    exact v_tI (pc := 11) C hq dX5_suspect_11 dX5_suspect_14 dX5_suspect_15 dX5_suspect_18 (Nat.le_of_ble_eq_true rfl) (Or.inl (⟨rfl, cX_no (by unfold op_suspect; rw [if_pos (by omega)]) (hC0) (hF0)⟩))

set_option maxHeartbeats 4000000 in
set_option maxRecDepth 100000 in
theorem k_X5_tightest {γ : Gm} (G : Glo γ) {σ : St} {s a : Int} {t n d k i : Int → Int} (hC : CRep σ s a t n d k i) (hO : AOk s a t n d k i)   : Ct γ yX5_tightest cX5_tightest 5 (some .int) 4 [.ref (bs γ + 0)] σ (pI (fun z σ2 => cQ σ (op_tightest s a t n d k i) z σ2)) := by
  refine Ct.of G (by decide +kernel) (Nat.le_of_ble_eq_true rfl) (fun φ C hr => ?_)
  have C : Cx γ φ RX5 cX5_tightest 5 4 := C
  obtain ⟨hO1, hO2, hO3, h, hO5, hO6⟩ := id hO
  have hN : NetB 4 := Or.inl rfl
  have hT : NetB 203 := Or.inr (Or.inl rfl)
  obtain ⟨α, hα⟩ : ∃ α, α = getN σ 4 := ⟨_, rfl⟩
  have hR : Rep α n := by rw [hα]; exact hC.2.2.1
  refine v_st (show σ = setN σ 4 α from by rw [hα]; exact (setN_eta σ 4).symm) ?_
  have hC0 : CRep (setN σ 4 α) s a t n d k i := hC.now hR
  have hF0 : ∀ c, 255 ≤ c → setN σ 4 α c = σ c := fun c hc => setN_out _ _ _ (by omega)
  have hn0 := h.1
  have hn1 := h.2.1
  have hn4 := h.2.2.1
  have hn5 := h.2.2.2.1
  obtain ⟨V, hV⟩ : ∃ V, V = tightL n (n 1).toNat 0 (-1) 0 := ⟨_, rfl⟩
  refine v_lv [(0, .ref (bs γ + 0))] [0] rfl ?_
  refine v_iconst (pc := 0) C dX5_tightest_0 ?_
  refine v_istore_n (pc := 1) C [(1, .int (iI (-1))), (0, .ref (bs γ + 0))] dX5_tightest_1 rfl (by decide) rfl ?_
  refine v_iconst (pc := 2) C dX5_tightest_2 ?_
  refine v_istore_n (pc := 3) C [(2, .int (iI 0)), (1, .int (iI (-1))), (0, .ref (bs γ + 0))] dX5_tightest_3 rfl (by decide) rfl ?_
  refine v_iconst (pc := 4) C dX5_tightest_4 ?_
  refine v_istore_n (pc := 5) C [(3, .int (iI 0)), (2, .int (iI 0)), (1, .int (iI (-1))), (0, .ref (bs γ + 0))] dX5_tightest_5 rfl (by decide) rfl ?_
  have L6 : ∀ (fu : Nat) (fl : Nat) (e b l : Int), (hrr : V = tightL n fl e b l) → (he : 0 ≤ e ∧ e + fl = n 1) → (hb : -1 ≤ b ∧ b < 20 ∧ -1000 ≤ l ∧ l ≤ 1000) → fl < fu → Vw γ φ 5 0 0 (QE γ φ (pI (fun z σ2 => cQ σ (op_tightest s a t n d k i) z σ2))) (setN σ 4 α) 6 [(3, .int (iI e)), (2, .int (iI l)), (1, .int (iI b)), (0, .ref (bs γ + 0))] [] := by
    intro fu
    induction fu with
    | zero => intro fl e b l hrr he hb hz; exact absurd hz (Nat.not_lt_zero _)
    | succ fu ih =>
      intro fl e b l hrr he hb hz
      refine v_iload_n (pc := 6) C 0 rfl dX5_tightest_6 ?_
      refine v_aload_n (pc := 7) C 3 rfl dX5_tightest_7 ?_
      refine v_getr (pc := 8) C inX5 goX5 (ci := 3) rfl 1 (by decide) (wF_X5_19 G) rfl sh_0 (4) rfl dX5_tightest_8 ?_
      refine v_getiM (pc := 11) C hN 3 (by decide) (wF_X5_92 G) rfl 3 rfl dX5_tightest_11 (fun z11 ez11 rz11 => ?_)
      rw [hR.nd] at ez11
      refine v_icmp_ge (pc := 14) C 69 (by first | omega | assumption) (by first | omega | assumption) dX5_tightest_14 (by decide) (fun h14 => ?_) (fun h14 => ?_)
      · obtain rfl : fl = 0 := by omega
        refine v_iload_n (pc := 69) C 2 rfl dX5_tightest_69 ?_
        exact v_iret (pc := 70) C hr (rfl) dX5_tightest_70 (⟨_, rfl, cQ_ok (z' := tightL n (n 1).toNat 0 (-1) 0) (by unfold op_tightest; rfl) (by rw [← hV, hrr]; try rfl) (hC0) (hF0)⟩)
      · obtain ⟨fl2, rfl⟩ : ∃ g, fl = g + 1 := ⟨fl - 1, by omega⟩
        unfold tightL at hrr
        obtain ⟨d0, d1, -⟩ := h.2.2.2.2.2 e (by omega) (by omega)
        have hlg := h.lg d0 d1
        obtain ⟨s7, -⟩ := hR.2.2.2.1 e (by omega) (by omega)
        refine v_aload_n (pc := 17) C 3 rfl dX5_tightest_17 ?_
        refine v_getr (pc := 18) C inX5 goX5 (ci := 3) rfl 1 (by decide) (wF_X5_19 G) rfl sh_0 (4) rfl dX5_tightest_18 ?_
        refine v_getrN (pc := 21) C hN 8 5 (by decide) (wF_X5_138 G) rfl dX5_tightest_21 ?_
        refine v_aload_n (pc := 24) C 3 rfl dX5_tightest_24 ?_
        refine v_getr (pc := 25) C inX5 goX5 (ci := 3) rfl 1 (by decide) (wF_X5_19 G) rfl sh_0 (4) rfl dX5_tightest_25 ?_
        refine v_getrN (pc := 28) C hN 10 7 (by decide) (wF_X5_154 G) rfl dX5_tightest_28 ?_
        refine v_iload_n (pc := 31) C 0 rfl dX5_tightest_31 ?_
        refine v_ialdN (pc := 32) C hN 7 (by decide) (m := 16) rfl (by first | omega | assumption) dX5_tightest_32 (fun z32 ez32 rz32 => ?_)
        have wz32 := ez32.trans s7
        refine v_ialdN (pc := 33) C hN 5 (by decide) (m := 20) rfl (by first | omega | assumption) dX5_tightest_33 (fun z33 ez33 rz33 => ?_)
        have wz33 : z33 = hasR n e := by rw [ez33, wz32]; exact (hR.2.2.1 _ _ d0.1 d0.2 d1.1 d1.2).1
        have hlg : 0 ≤ hasR n e ∧ hasR n e ≤ 99 := hlg
        refine v_if_le (pc := 34) C 63 (by first | omega | assumption) dX5_tightest_34 (by decide) (fun h34 => ?_) (fun h34 => ?_)
        · refine v_iinc (pc := 63) C 0 [(3, .int (iI (e + 1))), (2, .int (iI l)), (1, .int (iI b)), (0, .ref (bs γ + 0))] dX5_tightest_63 rfl (by decide) rfl ?_
          refine v_goto (pc := 66) C 6 dX5_tightest_66 (by decide) ?_
          rw [if_neg (by intro h; have h1 := h.1; have h2 := h.2; omega)] at hrr
          exact v_lv _ [0, 1, 2, 3] rfl (ih fl2 _ _ _ hrr (by omega) (by omega) (by omega))
        · refine v_aload_n (pc := 37) C 3 rfl dX5_tightest_37 ?_
          refine v_getr (pc := 38) C inX5 goX5 (ci := 3) rfl 1 (by decide) (wF_X5_19 G) rfl sh_0 (4) rfl dX5_tightest_38 ?_
          refine v_iload_n (pc := 41) C 0 rfl dX5_tightest_41 ?_
          refine v_cv (pc := 42) (as := [.int (iI e)]) C (cy_X2_spareOf G) (wM_X5_263 G) sh_4 (ci := 1) rfl rfl (k_X2_spareOf G hN hR h (by omega)) dX5_tightest_42 rfl rfl (by decide) (by decide) (Nat.le_of_ble_eq_true rfl) zc (k_I (fun z42 s42 q42 => ?_))
          obtain ⟨⟨ez42, rz42⟩, rfl⟩ := q42
          refine v_istore (pc := 45) C [(4, .int (iI z42)), (3, .int (iI e)), (2, .int (iI l)), (1, .int (iI b)), (0, .ref (bs γ + 0))] dX5_tightest_45 (by decide) rfl ?_
          refine v_iload_n (pc := 47) C 3 rfl dX5_tightest_47 ?_
          refine v_iconst (pc := 48) C dX5_tightest_48 ?_
          refine v_icmp_eq (pc := 49) C 58 (by first | omega | assumption) (by first | omega | assumption) dX5_tightest_49 (by decide) (fun h49 => ?_) (fun h49 => ?_)
          · refine v_iload_n (pc := 58) C 1 rfl dX5_tightest_58 ?_
            refine v_istore_n (pc := 59) C [(1, .int (iI e)), (4, .int (iI z42)), (3, .int (iI e)), (2, .int (iI l)), (0, .ref (bs γ + 0))] dX5_tightest_59 rfl (by decide) rfl ?_
            refine v_iload (pc := 60) C 1 rfl dX5_tightest_60 ?_
            refine v_istore_n (pc := 62) C [(2, .int (iI z42)), (1, .int (iI e)), (4, .int (iI z42)), (3, .int (iI e)), (0, .ref (bs γ + 0))] dX5_tightest_62 rfl (by decide) rfl ?_
            refine v_iinc (pc := 63) C 3 [(3, .int (iI (e + 1))), (2, .int (iI z42)), (1, .int (iI e)), (4, .int (iI z42)), (0, .ref (bs γ + 0))] dX5_tightest_63 rfl (by decide) rfl ?_
            refine v_goto (pc := 66) C 6 dX5_tightest_66 (by decide) ?_
            rw [if_pos ⟨by omega, by omega⟩, ← ez42] at hrr
            exact v_lv _ [0, 1, 2, 4] rfl (ih fl2 _ _ _ hrr (by omega) (by omega) (by omega))
          · refine v_iload (pc := 52) C 0 rfl dX5_tightest_52 ?_
            refine v_iload_n (pc := 54) C 2 rfl dX5_tightest_54 ?_
            refine v_icmp_ge (pc := 55) C 63 (by first | omega | assumption) (by first | omega | assumption) dX5_tightest_55 (by decide) (fun h55 => ?_) (fun h55 => ?_)
            · refine v_iinc (pc := 63) C 1 [(3, .int (iI (e + 1))), (4, .int (iI z42)), (2, .int (iI l)), (1, .int (iI b)), (0, .ref (bs γ + 0))] dX5_tightest_63 rfl (by decide) rfl ?_
              refine v_goto (pc := 66) C 6 dX5_tightest_66 (by decide) ?_
              rw [if_neg (by intro h; have h1 := h.1; have h2 := h.2; omega)] at hrr
              exact v_lv _ [0, 2, 3, 4] rfl (ih fl2 _ _ _ hrr (by omega) (by omega) (by omega))
            · refine v_iload_n (pc := 58) C 1 rfl dX5_tightest_58 ?_
              refine v_istore_n (pc := 59) C [(1, .int (iI e)), (4, .int (iI z42)), (3, .int (iI e)), (2, .int (iI l)), (0, .ref (bs γ + 0))] dX5_tightest_59 rfl (by decide) rfl ?_
              refine v_iload (pc := 60) C 1 rfl dX5_tightest_60 ?_
              refine v_istore_n (pc := 62) C [(2, .int (iI z42)), (1, .int (iI e)), (4, .int (iI z42)), (3, .int (iI e)), (0, .ref (bs γ + 0))] dX5_tightest_62 rfl (by decide) rfl ?_
              refine v_iinc (pc := 63) C 3 [(3, .int (iI (e + 1))), (2, .int (iI z42)), (1, .int (iI e)), (4, .int (iI z42)), (0, .ref (bs γ + 0))] dX5_tightest_63 rfl (by decide) rfl ?_
              refine v_goto (pc := 66) C 6 dX5_tightest_66 (by decide) ?_
              rw [if_pos ⟨by omega, by omega⟩, ← ez42] at hrr
              exact v_lv _ [0, 1, 2, 4] rfl (ih fl2 _ _ _ hrr (by omega) (by omega) (by omega))
  exact v_lv _ [0, 1, 2, 3] rfl (L6 ((n 1).toNat + 1) (n 1).toNat 0 (-1) 0 hV (by omega) (by omega) (by omega))
