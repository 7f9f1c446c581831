theorem setN_comm (σ : St) {n m : Nat} (α β : St) (h : m + 13 ≤ n ∨ n + 13 ≤ m) : setN (setN σ n α) m β = setN (setN σ m β) n α := by
  funext c
  unfold setN
  by_cases h1 : m ≤ c ∧ c < m + 13
  · rw [if_pos h1, if_neg (by omega), if_pos h1]
  · rw [if_neg h1]
    by_cases h2 : n ≤ c ∧ c < n + 13
    · rw [if_pos h2, if_pos h2]
    · rw [if_neg h2, if_neg h2, if_neg h1]

set_option maxHeartbeats 4000000 in
set_option maxRecDepth 100000 in
theorem k_X2_legsUnlike {γ : Gm} (G : Glo γ) {σ : St} {r q : Int → Int} (hR : Rep (getN σ 4) r) (hQ : Rep (getN σ 203) q) (h : Wf r) (hrq : q 0 = r 0) : Ct γ yX2_legsUnlike cX2_legsUnlike 4 (some .int) 1 [.ref (bs γ + 4), .ref (bs γ + 203)] σ (pI (fun z σ2 => z = diffR r q (r 0).toNat ∧ σ2 = σ)) := by
  refine Ct.of G (by decide +kernel) (Nat.le_of_ble_eq_true rfl) (fun φ C hr => ?_)
  have C : Cx γ φ RX2 cX2_legsUnlike 4 1 := C
  have hn0 := h.1
  have hn1 := h.2.1
  have hn4 := h.2.2.1
  have hn5 := h.2.2.2.1
  refine v_lv [(0, .ref (bs γ + 4)), (1, .ref (bs γ + 203))] [0, 1] rfl ?_
  refine v_iconst (pc := 0) C dX2_legsUnlike_0 ?_
  refine v_istore_n (pc := 1) C [(2, .int (iI 0)), (0, .ref (bs γ + 4)), (1, .ref (bs γ + 203))] dX2_legsUnlike_1 rfl (by decide) rfl ?_
  refine v_iconst (pc := 2) C dX2_legsUnlike_2 ?_
  refine v_istore_n (pc := 3) C [(3, .int (iI 0)), (2, .int (iI 0)), (0, .ref (bs γ + 4)), (1, .ref (bs γ + 203))] dX2_legsUnlike_3 rfl (by decide) rfl ?_
  have L4 : ∀ (fu : Nat) (e : Nat), (he : (e : Int) ≤ 2 * r 0) → (2 * r 0).toNat - e < fu → Vw γ φ 4 0 0 (QE γ φ (pI (fun z σ2 => z = diffR r q (r 0).toNat ∧ σ2 = σ))) σ 4 [(3, .int (iI (e : Int))), (2, .int (iI (difE r q e))), (0, .ref (bs γ + 4)), (1, .ref (bs γ + 203))] [] := by
    intro fu
    induction fu with
    | zero => intro e he hz; exact absurd hz (Nat.not_lt_zero _)
    | succ fu ih =>
      intro e he hz
      have hb := difE_b r q e
      refine v_iload_n (pc := 4) C 0 rfl dX2_legsUnlike_4 ?_
      refine v_iconst (pc := 5) C dX2_legsUnlike_5 ?_
      refine v_aload_n (pc := 6) C 2 rfl dX2_legsUnlike_6 ?_
      refine v_geti (pc := 7) C inX2 goX2 (ci := 1) rfl 2 (by decide) (wF_X2_55 G) rfl sh_4 2 rfl dX2_legsUnlike_7 (fun z7 ez7 rz7 => ?_)
      have ez7 : z7 = r 0 := ez7.trans hR.nv
      refine v_imul (pc := 10) C dX2_legsUnlike_10 ?_
      refine v_icmp_ge (pc := 11) C 38 (by first | omega | assumption) (by first | omega | assumption) dX2_legsUnlike_11 (by decide) (fun h11 => ?_) (fun h11 => ?_)
      · refine v_iload_n (pc := 38) C 1 rfl dX2_legsUnlike_38 ?_
        exact v_iret (pc := 39) C hr (rfl) dX2_legsUnlike_39 (⟨_, rfl, by rw [← difE_2, show e = 2 * (r 0).toNat by omega], rfl⟩)
      · refine v_aload_n (pc := 14) C 2 rfl dX2_legsUnlike_14 ?_
        refine v_getr (pc := 15) C inX2 goX2 (ci := 1) rfl 8 (by decide) (wF_X2_24 G) rfl sh_4 (9) rfl dX2_legsUnlike_15 ?_
        refine v_iload_n (pc := 18) C 0 rfl dX2_legsUnlike_18 ?_
        refine v_iald (pc := 19) C sh_9 (by decide) (by first | omega | assumption) dX2_legsUnlike_19 (fun z19 ez19 rz19 => ?_)
        have wz19 : z19 = r (6 + 7 * ((e : Int) / 2) + (3 + (e : Int) % 2)) := ez19.trans (hR.le (e := (e : Int)) (by omega) (by omega)).1
        refine v_aload_n (pc := 20) C 3 rfl dX2_legsUnlike_20 ?_
        refine v_getr (pc := 21) C inX2 goX2 (ci := 1) rfl 8 (by decide) (wF_X2_24 G) rfl sh_203 (208) rfl dX2_legsUnlike_21 ?_
        refine v_iload_n (pc := 24) C 0 rfl dX2_legsUnlike_24 ?_
        refine v_iald (pc := 25) C sh_208 (by decide) (by first | omega | assumption) dX2_legsUnlike_25 (fun z25 ez25 rz25 => ?_)
        have wz25 : z25 = q (6 + 7 * ((e : Int) / 2) + (3 + (e : Int) % 2)) := ez25.trans (hQ.le (e := (e : Int)) (by omega) (by omega)).1
        refine v_icmp_eq (pc := 26) C 32 (by first | omega | assumption) (by first | omega | assumption) dX2_legsUnlike_26 (by decide) (fun h26 => ?_) (fun h26 => ?_)
        · refine v_iinc (pc := 32) C 0 [(3, .int (iI ((e : Int) + 1))), (2, .int (iI (difE r q e))), (0, .ref (bs γ + 4)), (1, .ref (bs γ + 203))] dX2_legsUnlike_32 rfl (by decide) rfl ?_
          refine v_goto (pc := 35) C 4 dX2_legsUnlike_35 (by decide) ?_
          exact v_lv _ [0, 1, 2, 3] (by rw [show difE r q (e + 1) = difE r q e from by rw [difE]; first | rw [if_neg (by omega)] | (rw [if_pos (by omega)]; omega)]; rfl) (ih (e + 1) (by omega) (by omega))
        · refine v_iinc (pc := 29) C 1 [(2, .int (iI ((difE r q e) + 1))), (3, .int (iI (e : Int))), (0, .ref (bs γ + 4)), (1, .ref (bs γ + 203))] dX2_legsUnlike_29 rfl (by decide) rfl ?_
          refine v_iinc (pc := 32) C 1 [(3, .int (iI ((e : Int) + 1))), (2, .int (iI ((difE r q e) + 1))), (0, .ref (bs γ + 4)), (1, .ref (bs γ + 203))] dX2_legsUnlike_32 rfl (by decide) rfl ?_
          refine v_goto (pc := 35) C 4 dX2_legsUnlike_35 (by decide) ?_
          exact v_lv _ [0, 1, 2, 3] (by rw [show difE r q (e + 1) = (difE r q e) + 1 from by rw [difE]; first | rw [if_neg (by omega)] | (rw [if_pos (by omega)]; omega)]; rfl) (ih (e + 1) (by omega) (by omega))
  exact v_lv _ [0, 1, 2, 3] rfl (L4 ((2 * r 0).toNat + 1) 0 (by omega) (by omega))

set_option maxHeartbeats 4000000 in
set_option maxRecDepth 100000 in
theorem k_X5_push {γ : Gm} (G : Glo γ) {σ : St} {s a : Int} {t n d k i : Int → Int} {v g w : Int} (hC : CRep σ s a t n d k i) (hO : AOk s a t n d k i) (hv : R3 v) (hg : R3 g) (hw : R3 w)  : Cxx γ yX5_push cX5_push 4 (some .int) 4 [.ref (bs γ + 0), .int (iI v), .int (iI g), .int (iI w)] σ (pI (fun z σ2 => cQ σ (op_push s a t n d k i v g w) z σ2)) (fun E σ2 => (E = eI ∧ cX σ (op_push s a t n d k i v g w) 1 σ2) ∨ (E = eA ∧ cX σ (op_push s a t n d k i v g w) 2 σ2)) := by
  refine Cxx.of G (by decide +kernel) (Nat.le_of_ble_eq_true rfl) (fun φ C hq hr => ?_)
  have C : Cx γ φ RX5 cX5_push 4 4 := C
  obtain ⟨hO1, hO2, hO3, h, hO5, hO6⟩ := id hO
  have hN : NetB 4 := Or.inl rfl
  have hT : NetB 203 := Or.inr (Or.inl rfl)
  obtain ⟨α, hα⟩ : ∃ α, α = getN σ 4 := ⟨_, rfl⟩
  have hR : Rep α n := by rw [hα]; exact hC.2.2.1
  refine v_st (show σ = setN σ 4 α from by rw [hα]; exact (setN_eta σ 4).symm) ?_
  have hC0 : CRep (setN σ 4 α) s a t n d k i := hC.now hR
  have hF0 : ∀ c, 255 ≤ c → setN σ 4 α c = σ c := fun c hc => setN_out _ _ _ (by omega)
  have hn0 := h.1
  have hn1 := h.2.1
  have hn4 := h.2.2.1
  have hn5 := h.2.2.2.1
  refine v_lv [(0, .ref (bs γ + 0)), (1, .int (iI v)), (2, .int (iI g)), (3, .int (iI w))] [0, 1, 2, 3] rfl ?_
  refine v_aload_n (pc := 0) C 0 rfl dX5_push_0 ?_
  refine v_getr (pc := 1) C inX5 goX5 (ci := 3) rfl 1 (by decide) (wF_X5_19 G) rfl sh_0 (4) rfl dX5_push_1 ?_
  refine v_iload_n (pc := 4) C 1 rfl dX5_push_4 ?_
  refine v_iload_n (pc := 5) C 2 rfl dX5_push_5 ?_
  refine v_cv (pc := 6) (as := [.int (iI v), .int (iI g)]) C (cy_X2_hasEnd G) (wM_X5_134 G) sh_4 (ci := 1) rfl rfl (k_X2_hasEnd G hN hR h (by first | omega | assumption) (by first | omega | assumption)) dX5_push_6 rfl rfl (by decide) (by decide) (Nat.le_of_ble_eq_true rfl) zc (k_I (fun z6 s6 q6 => ?_))
  rcases q6 with ⟨⟨rfl, q6⟩ | ⟨rfl, q6⟩, rfl⟩
  · refine v_if_ne (pc := 9) C 20 (by first | omega | assumption) dX5_push_9 (by decide) (fun _ => ?_) (fun h => absurd h (by decide))
    refine v_iload_n (pc := 20) C 3 rfl dX5_push_20 ?_
    have hs21 : w = 0 ∨ w = 1 ∨ (¬ w = 0 ∧ ¬ w = 1) := by omega
    rcases hs21 with hs21 | hs21 | hs21
    · refine v_look (pc := 21) C 48 (by first | omega | assumption) dX5_push_21 (by decide) (off := 27) (by rw [hs21]; rfl) (by decide) ?_
      refine v_aload_n (pc := 48) C 0 rfl dX5_push_48 ?_
      refine v_getr (pc := 49) C inX5 goX5 (ci := 3) rfl 1 (by decide) (wF_X5_19 G) rfl sh_0 (4) rfl dX5_push_49 ?_
      refine v_getrN (pc := 52) C hN 9 6 (by decide) (wF_X5_145 G) rfl dX5_push_52 ?_
      refine v_iload_n (pc := 55) C 1 rfl dX5_push_55 ?_
      refine v_iload_n (pc := 56) C 2 rfl dX5_push_56 ?_
      refine v_cs (pc := 57) (as := [.int (iI v), .int (iI g)]) C (cy_X5_endOf G) (wM_X5_141 G) (k_X5_endOf G) dX5_push_57 rfl rfl (by decide) (by decide) (Nat.le_of_ble_eq_true rfl) zc (k_I (fun z57 s57 q57 => ?_))
      obtain ⟨ez57, rfl⟩ := q57
      refine v_ialdN (pc := 60) C hN 6 (by decide) (m := 20) rfl (by first | omega | assumption) dX5_push_60 (fun z60 ez60 rz60 => ?_)
      have wz60 : z60 = n (6 + 7 * v + (5 + g)) := by rw [ez60, ez57]; exact (hR.2.2.1 v g (by omega) (by omega) (by omega) (by omega)).2
      exact v_iretX (pc := 61) C hr (rfl) dX5_push_61 (⟨_, rfl, cQ_ok (z' := if w = 0 then n (6 + 7 * v + (5 + g)) else if worksR n v (5 + g) then 1 else 0) (by unfold op_push; rw [if_neg (by omega), if_neg (by omega)]) (by first | (rw [if_pos (by omega)]; assumption) | (rw [if_neg (by omega), if_pos (by assumption)]) | (rw [if_neg (by omega), if_neg (by assumption)])) (hC0) (hF0)⟩)
    · refine v_look (pc := 21) C 62 (by first | omega | assumption) dX5_push_21 (by decide) (off := 41) (by rw [hs21]; rfl) (by decide) ?_
      refine v_aload_n (pc := 62) C 0 rfl dX5_push_62 ?_
      refine v_getr (pc := 63) C inX5 goX5 (ci := 3) rfl 1 (by decide) (wF_X5_19 G) rfl sh_0 (4) rfl dX5_push_63 ?_
      refine v_iload_n (pc := 66) C 1 rfl dX5_push_66 ?_
      refine v_iload_n (pc := 67) C 2 rfl dX5_push_67 ?_
      refine v_cs (pc := 68) (as := [.int (iI v), .int (iI g)]) C (cy_X5_endOf G) (wM_X5_141 G) (k_X5_endOf G) dX5_push_68 rfl rfl (by decide) (by decide) (Nat.le_of_ble_eq_true rfl) zc (k_I (fun z68 s68 q68 => ?_))
      obtain ⟨ez68, rfl⟩ := q68
      refine v_cv (pc := 71) (as := [.int (iI z68)]) C (cy_X2_works G) (wM_X5_148 G) sh_4 (ci := 1) rfl rfl (k_X2_works G hN hR h (v := v) (g := g) (by omega) (by omega) (by omega)) dX5_push_71 rfl rfl (by decide) (by decide) (Nat.le_of_ble_eq_true rfl) zc (k_I (fun z71 s71 q71 => ?_))
      rcases q71 with ⟨⟨rfl, q71⟩ | ⟨rfl, q71⟩, rfl⟩
      · refine v_if_eq (pc := 74) C 81 (by first | omega | assumption) dX5_push_74 (by decide) (fun h => absurd h (by decide)) (fun _ => ?_)
        refine v_iconst (pc := 77) C dX5_push_77 ?_
        refine v_goto (pc := 78) C 82 dX5_push_78 (by decide) ?_
        exact v_iretX (pc := 82) C hr (rfl) dX5_push_82 (⟨_, rfl, cQ_ok (z' := if w = 0 then n (6 + 7 * v + (5 + g)) else if worksR n v (5 + g) then 1 else 0) (by unfold op_push; rw [if_neg (by omega), if_neg (by omega)]) (by first | (rw [if_pos (by omega)]; assumption) | (rw [if_neg (by omega), if_pos (by assumption)]) | (rw [if_neg (by omega), if_neg (by assumption)])) (hC0) (hF0)⟩)
      · refine v_if_eq (pc := 74) C 81 (by first | omega | assumption) dX5_push_74 (by decide) (fun _ => ?_) (fun h => absurd h (by decide))
        refine v_iconst (pc := 81) C dX5_push_81 ?_
        exact v_iretX (pc := 82) C hr (rfl) dX5_push_82 (⟨_, rfl, cQ_ok (z' := if w = 0 then n (6 + 7 * v + (5 + g)) else if worksR n v (5 + g) then 1 else 0) (by unfold op_push; rw [if_neg (by omega), if_neg (by omega)]) (by first | (rw [if_pos (by omega)]; assumption) | (rw [if_neg (by omega), if_pos (by assumption)]) | (rw [if_neg (by omega), if_neg (by assumption)])) (hC0) (hF0)⟩)
    · refine v_look (pc := 21) C 83 (by first | omega | assumption) dX5_push_21 (by decide) (off := 62) (by simp [Op.lookupswitch.offset, hs21]; try omega) (by decide) ?_
      exact v_tA (pc := 83) C hq dX5_push_83 dX5_push_86 dX5_push_87 dX5_push_90 (Nat.le_of_ble_eq_true rfl) (Or.inr (⟨rfl, cX_no (by unfold op_push; rw [if_neg (by omega), if_pos (by omega)]) (hC0) (hF0)⟩))
  · refine v_if_ne (pc := 9) C 20 (by first | omega | assumption) dX5_push_9 (by decide) (fun h => absurd h (by decide)) (fun _ => ?_)
    exact v_tI (pc := 12) C hq dX5_push_12 dX5_push_15 dX5_push_16 dX5_push_19 (Nat.le_of_ble_eq_true rfl) (Or.inl (⟨rfl, cX_no (by unfold op_push; rw [if_pos (by omega)]) (hC0) (hF0)⟩))

set_option maxHeartbeats 4000000 in
set_option maxRecDepth 100000 in
theorem k_X5_valveOf {γ : Gm} (G : Glo γ) {σ : St} {s a : Int} {t n d k i : Int → Int} {v w : Int} (hC : CRep σ s a t n d k i) (hO : AOk s a t n d k i) (hv : R3 v) (hw : R3 w)  : Cxx γ yX5_valveOf cX5_valveOf 3 (some .int) 3 [.ref (bs γ + 0), .int (iI v), .int (iI w)] σ (pI (fun z σ2 => cQ σ (op_valveOf s a t n d k i v w) z σ2)) (fun E σ2 => (E = eI ∧ cX σ (op_valveOf s a t n d k i v w) 1 σ2) ∨ (E = eA ∧ cX σ (op_valveOf s a t n d k i v w) 2 σ2)) := by
  refine Cxx.of G (by decide +kernel) (Nat.le_of_ble_eq_true rfl) (fun φ C hq hr => ?_)
  have C : Cx γ φ RX5 cX5_valveOf 3 3 := C
  obtain ⟨hO1, hO2, hO3, h, hO5, hO6⟩ := id hO
  have hN : NetB 4 := Or.inl rfl
  have hT : NetB 203 := Or.inr (Or.inl rfl)
  obtain ⟨α, hα⟩ : ∃ α, α = getN σ 4 := ⟨_, rfl⟩
  have hR : Rep α n := by rw [hα]; exact hC.2.2.1
  refine v_st (show σ = setN σ 4 α from by rw [hα]; exact (setN_eta σ 4).symm) ?_
  have hC0 : CRep (setN σ 4 α) s a t n d k i := hC.now hR
  have hF0 : ∀ c, 255 ≤ c → setN σ 4 α c = σ c := fun c hc => setN_out _ _ _ (by omega)
  have hn0 := h.1
  have hn1 := h.2.1
  have hn4 := h.2.2.1
  have hn5 := h.2.2.2.1
  refine v_lv [(0, .ref (bs γ + 0)), (1, .int (iI v)), (2, .int (iI w))] [0, 1, 2] rfl ?_
  refine v_aload_n (pc := 0) C 0 rfl dX5_valveOf_0 ?_
  refine v_getr (pc := 1) C inX5 goX5 (ci := 3) rfl 1 (by decide) (wF_X5_19 G) rfl sh_0 (4) rfl dX5_valveOf_1 ?_
  refine v_iload_n (pc := 4) C 1 rfl dX5_valveOf_4 ?_
  refine v_cv (pc := 5) (as := [.int (iI v)]) C (cy_X2_hasValve G) (wM_X5_110 G) sh_4 (ci := 1) rfl rfl (k_X2_hasValve G hN hR h (by first | omega | assumption)) dX5_valveOf_5 rfl rfl (by decide) (by decide) (Nat.le_of_ble_eq_true rfl) zc (k_I (fun z5 s5 q5 => ?_))
  rcases q5 with ⟨⟨rfl, q5⟩ | ⟨rfl, q5⟩, rfl⟩
  · refine v_if_ne (pc := 8) C 19 (by first | omega | assumption) dX5_valveOf_8 (by decide) (fun _ => ?_) (fun h => absurd h (by decide))
    refine v_iload_n (pc := 19) C 2 rfl dX5_valveOf_19 ?_
    by_cases hs20 : 0 ≤ w ∧ w ≤ 4
    · have hs20 : w = 0 ∨ w = 1 ∨ w = 2 ∨ w = 3 ∨ w = 4 := by omega
      rcases hs20 with hs20 | hs20 | hs20 | hs20 | hs20
      · refine v_tabIn (pc := 20) C 56 (by first | omega | assumption) dX5_valveOf_20 (by omega) (by rw [hs20]; rfl) (by decide) ?_
        refine v_aload_n (pc := 56) C 0 rfl dX5_valveOf_56 ?_
        refine v_getr (pc := 57) C inX5 goX5 (ci := 3) rfl 1 (by decide) (wF_X5_19 G) rfl sh_0 (4) rfl dX5_valveOf_57 ?_
        refine v_getrN (pc := 60) C hN 5 2 (by decide) (wF_X5_117 G) rfl dX5_valveOf_60 ?_
        refine v_iload_n (pc := 63) C 1 rfl dX5_valveOf_63 ?_
        refine v_ialdN (pc := 64) C hN 2 (by decide) (m := 10) rfl (by first | omega | assumption) dX5_valveOf_64 (fun z64 ez64 rz64 => ?_)
        have wz64 : z64 = n (6 + 7 * v + 0) := ez64.trans (hR.2.1 v (by omega) (by omega)).1
        exact v_iretX (pc := 65) C hr (rfl) dX5_valveOf_65 (⟨_, rfl, cQ_ok (z' := valveOfR n v w) (by unfold op_valveOf; rw [if_neg (by omega), if_neg (by omega)]) (by unfold valveOfR; rw [if_pos (by omega), show 6 + 7 * v + w = 6 + 7 * v + 0 by omega]; assumption) (hC0) (hF0)⟩)
      · refine v_tabIn (pc := 20) C 66 (by first | omega | assumption) dX5_valveOf_20 (by omega) (by rw [hs20]; rfl) (by decide) ?_
        refine v_aload_n (pc := 66) C 0 rfl dX5_valveOf_66 ?_
        refine v_getr (pc := 67) C inX5 goX5 (ci := 3) rfl 1 (by decide) (wF_X5_19 G) rfl sh_0 (4) rfl dX5_valveOf_67 ?_
        refine v_getrN (pc := 70) C hN 6 3 (by decide) (wF_X5_121 G) rfl dX5_valveOf_70 ?_
        refine v_iload_n (pc := 73) C 1 rfl dX5_valveOf_73 ?_
        refine v_ialdN (pc := 74) C hN 3 (by decide) (m := 10) rfl (by first | omega | assumption) dX5_valveOf_74 (fun z74 ez74 rz74 => ?_)
        have wz74 : z74 = n (6 + 7 * v + 1) := ez74.trans (hR.2.1 v (by omega) (by omega)).2.1
        exact v_iretX (pc := 75) C hr (rfl) dX5_valveOf_75 (⟨_, rfl, cQ_ok (z' := valveOfR n v w) (by unfold op_valveOf; rw [if_neg (by omega), if_neg (by omega)]) (by unfold valveOfR; rw [if_pos (by omega), show 6 + 7 * v + w = 6 + 7 * v + 1 by omega]; assumption) (hC0) (hF0)⟩)
      · refine v_tabIn (pc := 20) C 76 (by first | omega | assumption) dX5_valveOf_20 (by omega) (by rw [hs20]; rfl) (by decide) ?_
        refine v_aload_n (pc := 76) C 0 rfl dX5_valveOf_76 ?_
        refine v_getr (pc := 77) C inX5 goX5 (ci := 3) rfl 1 (by decide) (wF_X5_19 G) rfl sh_0 (4) rfl dX5_valveOf_77 ?_
        refine v_getrN (pc := 80) C hN 7 4 (by decide) (wF_X5_124 G) rfl dX5_valveOf_80 ?_
        refine v_iload_n (pc := 83) C 1 rfl dX5_valveOf_83 ?_
        refine v_ialdN (pc := 84) C hN 4 (by decide) (m := 10) rfl (by first | omega | assumption) dX5_valveOf_84 (fun z84 ez84 rz84 => ?_)
        have wz84 : z84 = n (6 + 7 * v + 2) := ez84.trans (hR.2.1 v (by omega) (by omega)).2.2
        exact v_iretX (pc := 85) C hr (rfl) dX5_valveOf_85 (⟨_, rfl, cQ_ok (z' := valveOfR n v w) (by unfold op_valveOf; rw [if_neg (by omega), if_neg (by omega)]) (by unfold valveOfR; rw [if_pos (by omega), show 6 + 7 * v + w = 6 + 7 * v + 2 by omega]; assumption) (hC0) (hF0)⟩)
      · refine v_tabIn (pc := 20) C 86 (by first | omega | assumption) dX5_valveOf_20 (by omega) (by rw [hs20]; rfl) (by decide) ?_
        refine v_aload_n (pc := 86) C 0 rfl dX5_valveOf_86 ?_
        refine v_getr (pc := 87) C inX5 goX5 (ci := 3) rfl 1 (by decide) (wF_X5_19 G) rfl sh_0 (4) rfl dX5_valveOf_87 ?_
        refine v_iload_n (pc := 90) C 1 rfl dX5_valveOf_90 ?_
        refine v_cv (pc := 91) (as := [.int (iI v)]) C (cy_X2_ductsFrom G) (wM_X5_127 G) sh_4 (ci := 1) rfl rfl (k_X2_ductsFrom G hN hR h (by first | omega | assumption)) dX5_valveOf_91 rfl rfl (by decide) (by decide) (Nat.le_of_ble_eq_true rfl) zc (k_I (fun z91 s91 q91 => ?_))
        obtain ⟨ez91, rfl⟩ := q91
        exact v_iretX (pc := 94) C hr (rfl) dX5_valveOf_94 (⟨_, rfl, cQ_ok (z' := valveOfR n v w) (by unfold op_valveOf; rw [if_neg (by omega), if_neg (by omega)]) (by unfold valveOfR; rw [if_neg (by omega), if_pos (by omega)]; assumption) (hC0) (hF0)⟩)
      · refine v_tabIn (pc := 20) C 95 (by first | omega | assumption) dX5_valveOf_20 (by omega) (by rw [hs20]; rfl) (by decide) ?_
        refine v_aload_n (pc := 95) C 0 rfl dX5_valveOf_95 ?_
        refine v_getr (pc := 96) C inX5 goX5 (ci := 3) rfl 1 (by decide) (wF_X5_19 G) rfl sh_0 (4) rfl dX5_valveOf_96 ?_
        refine v_iload_n (pc := 99) C 1 rfl dX5_valveOf_99 ?_
        refine v_cv (pc := 100) (as := [.int (iI v)]) C (cy_X2_ductsTo G) (wM_X5_131 G) sh_4 (ci := 1) rfl rfl (k_X2_ductsTo G hN hR h (by first | omega | assumption)) dX5_valveOf_100 rfl rfl (by decide) (by decide) (Nat.le_of_ble_eq_true rfl) zc (k_I (fun z100 s100 q100 => ?_))
        obtain ⟨ez100, rfl⟩ := q100
        exact v_iretX (pc := 103) C hr (rfl) dX5_valveOf_103 (⟨_, rfl, cQ_ok (z' := valveOfR n v w) (by unfold op_valveOf; rw [if_neg (by omega), if_neg (by omega)]) (by unfold valveOfR; rw [if_neg (by omega), if_neg (by omega)]; assumption) (hC0) (hF0)⟩)
    · refine v_tabOut (pc := 20) C 104 (by first | omega | assumption) dX5_valveOf_20 (by omega) (by decide) ?_
      exact v_tA (pc := 104) C hq dX5_valveOf_104 dX5_valveOf_107 dX5_valveOf_108 dX5_valveOf_111 (Nat.le_of_ble_eq_true rfl) (Or.inr (⟨rfl, cX_no (by unfold op_valveOf; rw [if_neg (by omega), if_pos (by omega)]) (hC0) (hF0)⟩))
  · refine v_if_ne (pc := 8) C 19 (by first | omega | assumption) dX5_valveOf_8 (by decide) (fun h => absurd h (by decide)) (fun _ => ?_)
    exact v_tI (pc := 11) C hq dX5_valveOf_11 dX5_valveOf_14 dX5_valveOf_15 dX5_valveOf_18 (Nat.le_of_ble_eq_true rfl) (Or.inl (⟨rfl, cX_no (by unfold op_valveOf; rw [if_pos (by omega)]) (hC0) (hF0)⟩))

set_option maxHeartbeats 4000000 in
set_option maxRecDepth 100000 in
theorem k_X5_ductOf {γ : Gm} (G : Glo γ) {σ : St} {s a : Int} {t n d k i : Int → Int} {e w : Int} (hC : CRep σ s a t n d k i) (hO : AOk s a t n d k i) (he : R3 e) (hw : R3 w)  : Cxx γ yX5_ductOf cX5_ductOf 3 (some .int) 3 [.ref (bs γ + 0), .int (iI e), .int (iI w)] σ (pI (fun z σ2 => cQ σ (op_ductOf s a t n d k i e w) z σ2)) (fun E σ2 => (E = eI ∧ cX σ (op_ductOf s a t n d k i e w) 1 σ2) ∨ (E = eA ∧ cX σ (op_ductOf s a t n d k i e w) 2 σ2)) := by
  refine Cxx.of G (by decide +kernel) (Nat.le_of_ble_eq_true rfl) (fun φ C hq hr => ?_)
  have C : Cx γ φ RX5 cX5_ductOf 3 3 := C
  obtain ⟨hO1, hO2, hO3, h, hO5, hO6⟩ := id hO
  have hN : NetB 4 := Or.inl rfl
  have hT : NetB 203 := Or.inr (Or.inl rfl)
  obtain ⟨α, hα⟩ : ∃ α, α = getN σ 4 := ⟨_, rfl⟩
  have hR : Rep α n := by rw [hα]; exact hC.2.2.1
  refine v_st (show σ = setN σ 4 α from by rw [hα]; exact (setN_eta σ 4).symm) ?_
  have hC0 : CRep (setN σ 4 α) s a t n d k i := hC.now hR
  have hF0 : ∀ c, 255 ≤ c → setN σ 4 α c = σ c := fun c hc => setN_out _ _ _ (by omega)
  have hn0 := h.1
  have hn1 := h.2.1
  have hn4 := h.2.2.1
  have hn5 := h.2.2.2.1
  refine v_lv [(0, .ref (bs γ + 0)), (1, .int (iI e)), (2, .int (iI w))] [0, 1, 2] rfl ?_
  refine v_aload_n (pc := 0) C 0 rfl dX5_ductOf_0 ?_
  refine v_getr (pc := 1) C inX5 goX5 (ci := 3) rfl 1 (by decide) (wF_X5_19 G) rfl sh_0 (4) rfl dX5_ductOf_1 ?_
  refine v_iload_n (pc := 4) C 1 rfl dX5_ductOf_4 ?_
  refine v_cv (pc := 5) (as := [.int (iI e)]) C (cy_X2_hasDuct G) (wM_X5_151 G) sh_4 (ci := 1) rfl rfl (k_X2_hasDuct G hN hR h (by first | omega | assumption)) dX5_ductOf_5 rfl rfl (by decide) (by decide) (Nat.le_of_ble_eq_true rfl) zc (k_I (fun z5 s5 q5 => ?_))
  rcases q5 with ⟨⟨rfl, q5⟩ | ⟨rfl, q5⟩, rfl⟩
  · refine v_if_ne (pc := 8) C 19 (by first | omega | assumption) dX5_ductOf_8 (by decide) (fun _ => ?_) (fun h => absurd h (by decide))
    obtain ⟨d0, d1, d2, d3, d4, d5, d6⟩ := h.2.2.2.2.2 e (by omega) (by omega)
    obtain ⟨s7, s8, s9, s10⟩ := hR.2.2.2.1 e (by omega) (by omega)
    refine v_iload_n (pc := 19) C 2 rfl dX5_ductOf_19 ?_
    by_cases hs20 : 0 ≤ w ∧ w ≤ 7
    · have hs20 : w = 0 ∨ w = 1 ∨ w = 2 ∨ w = 3 ∨ w = 4 ∨ w = 5 ∨ w = 6 ∨ w = 7 := by omega
      rcases hs20 with hs20 | hs20 | hs20 | hs20 | hs20 | hs20 | hs20 | hs20
      · refine v_tabIn (pc := 20) C 68 (by first | omega | assumption) dX5_ductOf_20 (by omega) (by rw [hs20]; rfl) (by decide) ?_
        refine v_aload_n (pc := 68) C 0 rfl dX5_ductOf_68 ?_
        refine v_getr (pc := 69) C inX5 goX5 (ci := 3) rfl 1 (by decide) (wF_X5_19 G) rfl sh_0 (4) rfl dX5_ductOf_69 ?_
        refine v_getrN (pc := 72) C hN 10 7 (by decide) (wF_X5_154 G) rfl dX5_ductOf_72 ?_
        refine v_iload_n (pc := 75) C 1 rfl dX5_ductOf_75 ?_
        refine v_ialdN (pc := 76) C hN 7 (by decide) (m := 16) rfl (by first | omega | assumption) dX5_ductOf_76 (fun z76 ez76 rz76 => ?_)
        have wz76 := ez76.trans s7
        refine v_iconst (pc := 77) C dX5_ductOf_77 ?_
        refine v_idiv (pc := 78) C (by first | omega | assumption) (by first | omega | assumption) dX5_ductOf_78 ?_
        exact v_iretX (pc := 79) C hr (rfl) dX5_ductOf_79 (⟨_, rfl, cQ_ok (z' := if w < 6 then n (76 + 12 * e + w) else if w = 6 then outR n e else needR n e) (by unfold op_ductOf; rw [if_neg (by omega), if_neg (by omega)]) (by rw [if_pos (by omega), show 76 + 12 * e + w = 76 + 12 * e + 0 by omega]; omega) (hC0) (hF0)⟩)
      · refine v_tabIn (pc := 20) C 80 (by first | omega | assumption) dX5_ductOf_20 (by omega) (by rw [hs20]; rfl) (by decide) ?_
        refine v_aload_n (pc := 80) C 0 rfl dX5_ductOf_80 ?_
        refine v_getr (pc := 81) C inX5 goX5 (ci := 3) rfl 1 (by decide) (wF_X5_19 G) rfl sh_0 (4) rfl dX5_ductOf_81 ?_
        refine v_getrN (pc := 84) C hN 10 7 (by decide) (wF_X5_154 G) rfl dX5_ductOf_84 ?_
        refine v_iload_n (pc := 87) C 1 rfl dX5_ductOf_87 ?_
        refine v_ialdN (pc := 88) C hN 7 (by decide) (m := 16) rfl (by first | omega | assumption) dX5_ductOf_88 (fun z88 ez88 rz88 => ?_)
        have wz88 := ez88.trans s7
        refine v_iconst (pc := 89) C dX5_ductOf_89 ?_
        refine v_irem (pc := 90) C (by first | omega | assumption) (by first | omega | assumption) dX5_ductOf_90 ?_
        exact v_iretX (pc := 91) C hr (rfl) dX5_ductOf_91 (⟨_, rfl, cQ_ok (z' := if w < 6 then n (76 + 12 * e + w) else if w = 6 then outR n e else needR n e) (by unfold op_ductOf; rw [if_neg (by omega), if_neg (by omega)]) (by rw [if_pos (by omega), show 76 + 12 * e + w = 76 + 12 * e + 1 by omega]; omega) (hC0) (hF0)⟩)
      · refine v_tabIn (pc := 20) C 92 (by first | omega | assumption) dX5_ductOf_20 (by omega) (by rw [hs20]; rfl) (by decide) ?_
        refine v_aload_n (pc := 92) C 0 rfl dX5_ductOf_92 ?_
        refine v_getr (pc := 93) C inX5 goX5 (ci := 3) rfl 1 (by decide) (wF_X5_19 G) rfl sh_0 (4) rfl dX5_ductOf_93 ?_
        refine v_getrN (pc := 96) C hN 11 8 (by decide) (wF_X5_157 G) rfl dX5_ductOf_96 ?_
        refine v_iload_n (pc := 99) C 1 rfl dX5_ductOf_99 ?_
        refine v_ialdN (pc := 100) C hN 8 (by decide) (m := 16) rfl (by first | omega | assumption) dX5_ductOf_100 (fun z100 ez100 rz100 => ?_)
        have wz100 := ez100.trans s8
        refine v_iconst (pc := 101) C dX5_ductOf_101 ?_
        refine v_idiv (pc := 102) C (by first | omega | assumption) (by first | omega | assumption) dX5_ductOf_102 ?_
        exact v_iretX (pc := 103) C hr (rfl) dX5_ductOf_103 (⟨_, rfl, cQ_ok (z' := if w < 6 then n (76 + 12 * e + w) else if w = 6 then outR n e else needR n e) (by unfold op_ductOf; rw [if_neg (by omega), if_neg (by omega)]) (by rw [if_pos (by omega), show 76 + 12 * e + w = 76 + 12 * e + 2 by omega]; omega) (hC0) (hF0)⟩)
      · refine v_tabIn (pc := 20) C 104 (by first | omega | assumption) dX5_ductOf_20 (by omega) (by rw [hs20]; rfl) (by decide) ?_
        refine v_aload_n (pc := 104) C 0 rfl dX5_ductOf_104 ?_
        refine v_getr (pc := 105) C inX5 goX5 (ci := 3) rfl 1 (by decide) (wF_X5_19 G) rfl sh_0 (4) rfl dX5_ductOf_105 ?_
        refine v_getrN (pc := 108) C hN 11 8 (by decide) (wF_X5_157 G) rfl dX5_ductOf_108 ?_
        refine v_iload_n (pc := 111) C 1 rfl dX5_ductOf_111 ?_
        refine v_ialdN (pc := 112) C hN 8 (by decide) (m := 16) rfl (by first | omega | assumption) dX5_ductOf_112 (fun z112 ez112 rz112 => ?_)
        have wz112 := ez112.trans s8
        refine v_iconst (pc := 113) C dX5_ductOf_113 ?_
        refine v_irem (pc := 114) C (by first | omega | assumption) (by first | omega | assumption) dX5_ductOf_114 ?_
        exact v_iretX (pc := 115) C hr (rfl) dX5_ductOf_115 (⟨_, rfl, cQ_ok (z' := if w < 6 then n (76 + 12 * e + w) else if w = 6 then outR n e else needR n e) (by unfold op_ductOf; rw [if_neg (by omega), if_neg (by omega)]) (by rw [if_pos (by omega), show 76 + 12 * e + w = 76 + 12 * e + 3 by omega]; omega) (hC0) (hF0)⟩)
      · refine v_tabIn (pc := 20) C 116 (by first | omega | assumption) dX5_ductOf_20 (by omega) (by rw [hs20]; rfl) (by decide) ?_
        refine v_aload_n (pc := 116) C 0 rfl dX5_ductOf_116 ?_
        refine v_getr (pc := 117) C inX5 goX5 (ci := 3) rfl 1 (by decide) (wF_X5_19 G) rfl sh_0 (4) rfl dX5_ductOf_117 ?_
        refine v_getrN (pc := 120) C hN 12 9 (by decide) (wF_X5_160 G) rfl dX5_ductOf_120 ?_
        refine v_iload_n (pc := 123) C 1 rfl dX5_ductOf_123 ?_
        refine v_ialdN (pc := 124) C hN 9 (by decide) (m := 16) rfl (by first | omega | assumption) dX5_ductOf_124 (fun z124 ez124 rz124 => ?_)
        have wz124 := ez124.trans s9
        exact v_iretX (pc := 125) C hr (rfl) dX5_ductOf_125 (⟨_, rfl, cQ_ok (z' := if w < 6 then n (76 + 12 * e + w) else if w = 6 then outR n e else needR n e) (by unfold op_ductOf; rw [if_neg (by omega), if_neg (by omega)]) (by rw [if_pos (by omega), show 76 + 12 * e + w = 76 + 12 * e + 4 by omega]; omega) (hC0) (hF0)⟩)
      · refine v_tabIn (pc := 20) C 126 (by first | omega | assumption) dX5_ductOf_20 (by omega) (by rw [hs20]; rfl) (by decide) ?_
        refine v_aload_n (pc := 126) C 0 rfl dX5_ductOf_126 ?_
        refine v_getr (pc := 127) C inX5 goX5 (ci := 3) rfl 1 (by decide) (wF_X5_19 G) rfl sh_0 (4) rfl dX5_ductOf_127 ?_
        refine v_getrN (pc := 130) C hN 13 10 (by decide) (wF_X5_163 G) rfl dX5_ductOf_130 ?_
        refine v_iload_n (pc := 133) C 1 rfl dX5_ductOf_133 ?_
        refine v_ialdN (pc := 134) C hN 10 (by decide) (m := 16) rfl (by first | omega | assumption) dX5_ductOf_134 (fun z134 ez134 rz134 => ?_)
        have wz134 := ez134.trans s10
        exact v_iretX (pc := 135) C hr (rfl) dX5_ductOf_135 (⟨_, rfl, cQ_ok (z' := if w < 6 then n (76 + 12 * e + w) else if w = 6 then outR n e else needR n e) (by unfold op_ductOf; rw [if_neg (by omega), if_neg (by omega)]) (by rw [if_pos (by omega), show 76 + 12 * e + w = 76 + 12 * e + 5 by omega]; omega) (hC0) (hF0)⟩)
      · refine v_tabIn (pc := 20) C 136 (by first | omega | assumption) dX5_ductOf_20 (by omega) (by rw [hs20]; rfl) (by decide) ?_
        refine v_aload_n (pc := 136) C 0 rfl dX5_ductOf_136 ?_
        refine v_getr (pc := 137) C inX5 goX5 (ci := 3) rfl 1 (by decide) (wF_X5_19 G) rfl sh_0 (4) rfl dX5_ductOf_137 ?_
        refine v_iload_n (pc := 140) C 1 rfl dX5_ductOf_140 ?_
        refine v_cv (pc := 141) (as := [.int (iI e)]) C (cy_X2_nextOutOf G) (wM_X5_166 G) sh_4 (ci := 1) rfl rfl (k_X2_nextOutOf G hN hR h (by omega)) dX5_ductOf_141 rfl rfl (by decide) (by decide) (Nat.le_of_ble_eq_true rfl) zc (k_I (fun z141 s141 q141 => ?_))
        obtain ⟨⟨ez141, rz141⟩, rfl⟩ := q141
        exact v_iretX (pc := 144) C hr (rfl) dX5_ductOf_144 (⟨_, rfl, cQ_ok (z' := if w < 6 then n (76 + 12 * e + w) else if w = 6 then outR n e else needR n e) (by unfold op_ductOf; rw [if_neg (by omega), if_neg (by omega)]) (by rw [if_neg (by omega), if_pos (by omega)]; assumption) (hC0) (hF0)⟩)
      · refine v_tabIn (pc := 20) C 145 (by first | omega | assumption) dX5_ductOf_20 (by omega) (by rw [hs20]; rfl) (by decide) ?_
        refine v_aload_n (pc := 145) C 0 rfl dX5_ductOf_145 ?_
        refine v_getr (pc := 146) C inX5 goX5 (ci := 3) rfl 1 (by decide) (wF_X5_19 G) rfl sh_0 (4) rfl dX5_ductOf_146 ?_
        refine v_iload_n (pc := 149) C 1 rfl dX5_ductOf_149 ?_
        refine v_cv (pc := 150) (as := [.int (iI e)]) C (cy_X2_enoughFor G) (wM_X5_169 G) sh_4 (ci := 1) rfl rfl (k_X2_enoughFor G hN hR h (by omega)) dX5_ductOf_150 rfl rfl (by decide) (by decide) (Nat.le_of_ble_eq_true rfl) zc (k_I (fun z150 s150 q150 => ?_))
        obtain ⟨⟨ez150, rz150⟩, rfl⟩ := q150
        exact v_iretX (pc := 153) C hr (rfl) dX5_ductOf_153 (⟨_, rfl, cQ_ok (z' := if w < 6 then n (76 + 12 * e + w) else if w = 6 then outR n e else needR n e) (by unfold op_ductOf; rw [if_neg (by omega), if_neg (by omega)]) (by rw [if_neg (by omega), if_neg (by omega)]; assumption) (hC0) (hF0)⟩)
    · refine v_tabOut (pc := 20) C 154 (by first | omega | assumption) dX5_ductOf_20 (by omega) (by decide) ?_
      exact v_tA (pc := 154) C hq dX5_ductOf_154 dX5_ductOf_157 dX5_ductOf_158 dX5_ductOf_161 (Nat.le_of_ble_eq_true rfl) (Or.inr (⟨rfl, cX_no (by unfold op_ductOf; rw [if_neg (by omega), if_pos (by omega)]) (hC0) (hF0)⟩))
  · refine v_if_ne (pc := 8) C 19 (by first | omega | assumption) dX5_ductOf_8 (by decide) (fun h => absurd h (by decide)) (fun _ => ?_)
    exact v_tI (pc := 11) C hq dX5_ductOf_11 dX5_ductOf_14 dX5_ductOf_15 dX5_ductOf_18 (Nat.le_of_ble_eq_true rfl) (Or.inl (⟨rfl, cX_no (by unfold op_ductOf; rw [if_pos (by omega)]) (hC0) (hF0)⟩))

set_option maxHeartbeats 4000000 in
set_option maxRecDepth 100000 in
theorem k_X5_about {γ : Gm} (G : Glo γ) {σ : St} {s a : Int} {t n d k i : Int → Int} {w : Int} (hC : CRep σ s a t n d k i) (hO : AOk s a t n d k i) (hw : R3 w)  : Cxx γ yX5_about cX5_about 2 (some .int) 2 [.ref (bs γ + 0), .int (iI w)] σ (pI (fun z σ2 => cQ σ (op_about s a t n d k i w) z σ2)) (fun E σ2 => (E = eA ∧ cX σ (op_about s a t n d k i w) 1 σ2)) := by
  refine Cxx.of G (by decide +kernel) (Nat.le_of_ble_eq_true rfl) (fun φ C hq hr => ?_)
  have C : Cx γ φ RX5 cX5_about 2 2 := C
  obtain ⟨hO1, hO2, hO3, h, hO5, hO6⟩ := id hO
  have hN : NetB 4 := Or.inl rfl
  have hT : NetB 203 := Or.inr (Or.inl rfl)
  obtain ⟨α, hα⟩ : ∃ α, α = getN σ 4 := ⟨_, rfl⟩
  have hR : Rep α n := by rw [hα]; exact hC.2.2.1
  refine v_st (show σ = setN σ 4 α from by rw [hα]; exact (setN_eta σ 4).symm) ?_
  have hC0 : CRep (setN σ 4 α) s a t n d k i := hC.now hR
  have hF0 : ∀ c, 255 ≤ c → setN σ 4 α c = σ c := fun c hc => setN_out _ _ _ (by omega)
  have hn0 := h.1
  have hn1 := h.2.1
  have hn4 := h.2.2.1
  have hn5 := h.2.2.2.1
  refine v_lv [(0, .ref (bs γ + 0)), (1, .int (iI w))] [0, 1] rfl ?_
  refine v_iload_n (pc := 0) C 1 rfl dX5_about_0 ?_
  by_cases hs1 : 0 ≤ w ∧ w ≤ 6
  · have hs1 : w = 0 ∨ w = 1 ∨ w = 2 ∨ w = 3 ∨ w = 4 ∨ w = 5 ∨ w = 6 := by omega
    rcases hs1 with hs1 | hs1 | hs1 | hs1 | hs1 | hs1 | hs1
    · refine v_tabIn (pc := 1) C 44 (by first | omega | assumption) dX5_about_1 (by omega) (by rw [hs1]; rfl) (by decide) ?_
      refine v_aload_n (pc := 44) C 0 rfl dX5_about_44 ?_
      refine v_getr (pc := 45) C inX5 goX5 (ci := 3) rfl 1 (by decide) (wF_X5_19 G) rfl sh_0 (4) rfl dX5_about_45 ?_
      refine v_getiM (pc := 48) C hN 2 (by decide) (wF_X5_89 G) rfl 2 rfl dX5_about_48 (fun z48 ez48 rz48 => ?_)
      rw [hR.nv] at ez48
      exact v_iretX (pc := 51) C hr (rfl) dX5_about_51 (⟨_, rfl, cQ_ok (z' := aboutR n w) (by unfold op_about; rw [if_neg (by omega)]) (by unfold aboutR; rw [if_neg (by omega), if_neg (by omega), if_neg (by omega), if_neg (by omega), show w = 0 by omega]; assumption) (hC0) (hF0)⟩)
    · refine v_tabIn (pc := 1) C 52 (by first | omega | assumption) dX5_about_1 (by omega) (by rw [hs1]; rfl) (by decide) ?_
      refine v_aload_n (pc := 52) C 0 rfl dX5_about_52 ?_
      refine v_getr (pc := 53) C inX5 goX5 (ci := 3) rfl 1 (by decide) (wF_X5_19 G) rfl sh_0 (4) rfl dX5_about_53 ?_
      refine v_getiM (pc := 56) C hN 3 (by decide) (wF_X5_92 G) rfl 3 rfl dX5_about_56 (fun z56 ez56 rz56 => ?_)
      rw [hR.nd] at ez56
      exact v_iretX (pc := 59) C hr (rfl) dX5_about_59 (⟨_, rfl, cQ_ok (z' := aboutR n w) (by unfold op_about; rw [if_neg (by omega)]) (by unfold aboutR; rw [if_neg (by omega), if_neg (by omega), if_neg (by omega), if_neg (by omega), show w = 1 by omega]; assumption) (hC0) (hF0)⟩)
    · refine v_tabIn (pc := 1) C 60 (by first | omega | assumption) dX5_about_1 (by omega) (by rw [hs1]; rfl) (by decide) ?_
      refine v_aload_n (pc := 60) C 0 rfl dX5_about_60 ?_
      refine v_getr (pc := 61) C inX5 goX5 (ci := 3) rfl 1 (by decide) (wF_X5_19 G) rfl sh_0 (4) rfl dX5_about_61 ?_
      refine v_getiM (pc := 64) C hN 0 (by decide) (wF_X5_95 G) rfl 0 rfl dX5_about_64 (fun z64 ez64 rz64 => ?_)
      have wz64 : z64 = n 2 := ez64.trans hR.1.1
      exact v_iretX (pc := 67) C hr (rfl) dX5_about_67 (⟨_, rfl, cQ_ok (z' := aboutR n w) (by unfold op_about; rw [if_neg (by omega)]) (by unfold aboutR; rw [if_neg (by omega), if_neg (by omega), if_neg (by omega), if_neg (by omega), show w = 2 by omega]; assumption) (hC0) (hF0)⟩)
    · refine v_tabIn (pc := 1) C 68 (by first | omega | assumption) dX5_about_1 (by omega) (by rw [hs1]; rfl) (by decide) ?_
      refine v_aload_n (pc := 68) C 0 rfl dX5_about_68 ?_
      refine v_getr (pc := 69) C inX5 goX5 (ci := 3) rfl 1 (by decide) (wF_X5_19 G) rfl sh_0 (4) rfl dX5_about_69 ?_
      refine v_cv (pc := 72) (as := []) C (cy_X2_legsUnderPressure G) (wM_X5_98 G) sh_4 (ci := 1) rfl rfl (k_X2_legsUnderPressure G hN hR h ) dX5_about_72 rfl rfl (by decide) (by decide) (Nat.le_of_ble_eq_true rfl) zc (k_I (fun z72 s72 q72 => ?_))
      obtain ⟨ez72, rfl⟩ := q72
      exact v_iretX (pc := 75) C hr (rfl) dX5_about_75 (⟨_, rfl, cQ_ok (z' := aboutR n w) (by unfold op_about; rw [if_neg (by omega)]) (by unfold aboutR; rw [if_pos (by omega)]; assumption) (hC0) (hF0)⟩)
    · refine v_tabIn (pc := 1) C 76 (by first | omega | assumption) dX5_about_1 (by omega) (by rw [hs1]; rfl) (by decide) ?_
      refine v_aload_n (pc := 76) C 0 rfl dX5_about_76 ?_
      refine v_getr (pc := 77) C inX5 goX5 (ci := 3) rfl 1 (by decide) (wF_X5_19 G) rfl sh_0 (4) rfl dX5_about_77 ?_
      refine v_cv (pc := 80) (as := []) C (cy_X2_pressureOfAllLegs G) (wM_X5_101 G) sh_4 (ci := 1) rfl rfl (k_X2_pressureOfAllLegs G hN hR h ) dX5_about_80 rfl rfl (by decide) (by decide) (Nat.le_of_ble_eq_true rfl) zc (k_I (fun z80 s80 q80 => ?_))
      obtain ⟨ez80, rfl⟩ := q80
      exact v_iretX (pc := 83) C hr (rfl) dX5_about_83 (⟨_, rfl, cQ_ok (z' := aboutR n w) (by unfold op_about; rw [if_neg (by omega)]) (by unfold aboutR; rw [if_neg (by omega), if_pos (by omega)]; assumption) (hC0) (hF0)⟩)
    · refine v_tabIn (pc := 1) C 84 (by first | omega | assumption) dX5_about_1 (by omega) (by rw [hs1]; rfl) (by decide) ?_
      refine v_aload_n (pc := 84) C 0 rfl dX5_about_84 ?_
      refine v_getr (pc := 85) C inX5 goX5 (ci := 3) rfl 1 (by decide) (wF_X5_19 G) rfl sh_0 (4) rfl dX5_about_85 ?_
      refine v_cv (pc := 88) (as := []) C (cy_X2_pressedKeys G) (wM_X5_104 G) sh_4 (ci := 1) rfl rfl (k_X2_pressedKeys G hN hR h ) dX5_about_88 rfl rfl (by decide) (by decide) (Nat.le_of_ble_eq_true rfl) zc (k_I (fun z88 s88 q88 => ?_))
      obtain ⟨ez88, rfl⟩ := q88
      exact v_iretX (pc := 91) C hr (rfl) dX5_about_91 (⟨_, rfl, cQ_ok (z' := aboutR n w) (by unfold op_about; rw [if_neg (by omega)]) (by unfold aboutR; rw [if_neg (by omega), if_neg (by omega), if_pos (by omega)]; assumption) (hC0) (hF0)⟩)
    · refine v_tabIn (pc := 1) C 92 (by first | omega | assumption) dX5_about_1 (by omega) (by rw [hs1]; rfl) (by decide) ?_
      refine v_aload_n (pc := 92) C 0 rfl dX5_about_92 ?_
      refine v_getr (pc := 93) C inX5 goX5 (ci := 3) rfl 1 (by decide) (wF_X5_19 G) rfl sh_0 (4) rfl dX5_about_93 ?_
      refine v_getiM (pc := 96) C hN 1 (by decide) (wF_X5_107 G) rfl 1 rfl dX5_about_96 (fun z96 ez96 rz96 => ?_)
      have wz96 : z96 = n 3 := ez96.trans hR.1.2.1
      exact v_iretX (pc := 99) C hr (rfl) dX5_about_99 (⟨_, rfl, cQ_ok (z' := aboutR n w) (by unfold op_about; rw [if_neg (by omega)]) (by unfold aboutR; rw [if_neg (by omega), if_neg (by omega), if_neg (by omega), if_pos (by omega)]; assumption) (hC0) (hF0)⟩)
  · refine v_tabOut (pc := 1) C 100 (by first | omega | assumption) dX5_about_1 (by omega) (by decide) ?_
    exact v_tA (pc := 100) C hq dX5_about_100 dX5_about_103 dX5_about_104 dX5_about_107 (Nat.le_of_ble_eq_true rfl) (⟨rfl, cX_no (by unfold op_about; rw [if_pos (by omega)]) (hC0) (hF0)⟩)

set_option maxHeartbeats 4000000 in
set_option maxRecDepth 100000 in
theorem k_X5_valve {γ : Gm} (G : Glo γ) {σ : St} {s a : Int} {t n d k i : Int → Int} {c v : Int} (hC : CRep σ s a t n d k i) (hO : AOk s a t n d k i) (hc : R3 c) (hv : R3 v)  : Cxx γ yX5_valve cX5_valve 3 (some .int) 5 [.ref (bs γ + 0), .int (iI c), .int (iI v)] σ (pI (fun z σ2 => cQ σ (op_valve s a t n d k i c v) z σ2)) (fun E σ2 => (E = eA ∧ cX σ (op_valve s a t n d k i c v) 1 σ2) ∨ (E = eS ∧ cX σ (op_valve s a t n d k i c v) 2 σ2)) := by
  refine Cxx.of G (by decide +kernel) (Nat.le_of_ble_eq_true rfl) (fun φ C hq hr => ?_)
  have C : Cx γ φ RX5 cX5_valve 3 5 := C
  obtain ⟨hO1, hO2, hO3, h, hO5, hO6⟩ := id hO
  have hN : NetB 4 := Or.inl rfl
  have hT : NetB 203 := Or.inr (Or.inl rfl)
  obtain ⟨α, hα⟩ : ∃ α, α = getN σ 4 := ⟨_, rfl⟩
  have hR : Rep α n := by rw [hα]; exact hC.2.2.1
  refine v_st (show σ = setN σ 4 α from by rw [hα]; exact (setN_eta σ 4).symm) ?_
  have hC0 : CRep (setN σ 4 α) s a t n d k i := hC.now hR
  have hF0 : ∀ c, 255 ≤ c → setN σ 4 α c = σ c := fun c hc => setN_out _ _ _ (by omega)
  have hn0 := h.1
  have hn1 := h.2.1
  have hn4 := h.2.2.1
  have hn5 := h.2.2.2.1
  refine v_lv [(0, .ref (bs γ + 0)), (1, .int (iI c)), (2, .int (iI v))] [0, 1, 2] rfl ?_
  refine v_aload_n (pc := 0) C 0 rfl dX5_valve_0 ?_
  refine v_getr (pc := 1) C inX5 goX5 (ci := 3) rfl 1 (by decide) (wF_X5_19 G) rfl sh_0 (4) rfl dX5_valve_1 ?_
  refine v_iload_n (pc := 4) C 1 rfl dX5_valve_4 ?_
  refine v_iload_n (pc := 5) C 2 rfl dX5_valve_5 ?_
  refine v_cs (pc := 6) (as := [.ref (bs γ + 4), .int (iI c), .int (iI v)]) C (cy_X0_faultOfValve G) (wM_X5_175 G) (k_X0_faultOfValve G hN hR h (by first | omega | assumption) (by first | omega | assumption)) dX5_valve_6 rfl rfl (by decide) (by decide) (Nat.le_of_ble_eq_true rfl) zc (k_I (fun z6 s6 q6 => ?_))
  rcases q6 with ⟨⟨rfl, q6⟩ | ⟨rfl, q6⟩ | ⟨rfl, q6⟩, rfl⟩
  · exact v_csT (pc := 9) (as := [.int (iI 2)]) C hq (cy_X5_refuse G) (wM_X5_181 G) (k_X5_refuse2 G) dX5_valve_9 rfl rfl (by decide) (by decide) (Nat.le_of_ble_eq_true rfl) (fun _ _ h => h) (by rintro E σ9 ⟨rfl, rfl⟩; exact (Or.inl (⟨rfl, cX_no (by unfold op_valve; rw [if_pos (by omega)]) (hC0) (hF0)⟩)))
  · refine v_cs (pc := 9) (as := [.int (iI 0)]) C (cy_X5_refuse G) (wM_X5_181 G) (k_X5_refuse0 G) dX5_valve_9 rfl rfl (by decide) (by decide) (Nat.le_of_ble_eq_true rfl) zc (k_V (fun s9 q9 => ?_))
    subst q9
    refine v_aload_n (pc := 12) C 0 rfl dX5_valve_12 ?_
    refine v_getr (pc := 13) C inX5 goX5 (ci := 3) rfl 2 (by decide) (wF_X5_26 G) rfl sh_0 (17) rfl dX5_valve_13 ?_
    refine v_aload_n (pc := 16) C 0 rfl dX5_valve_16 ?_
    refine v_getr (pc := 17) C inX5 goX5 (ci := 3) rfl 1 (by decide) (wF_X5_19 G) rfl sh_0 (4) rfl dX5_valve_17 ?_
    refine v_cv (pc := 20) (as := [.ref (bs γ + 4)]) C (cy_X1_keep G) (wM_X5_185 G) sh_17 (ci := 0) rfl rfl (k_X1_keep G hC0.2.2.2.1 hO2 hC0.2.2.1 h) dX5_valve_20 rfl rfl (by decide) (by decide) (Nat.le_of_ble_eq_true rfl) zc (k_V (fun s20 q20 => ?_))
    obtain ⟨hM9, hF9⟩ := q20
    have hC9 : CRep s20 s (remA a) t n (remD a n d) k i := hC0.mem hM9 hF9
    have hF8 : ∀ c, 255 ≤ c → s20 c = σ c := fun c hc => (hF9 c (by omega)).trans (hF0 c hc)
    obtain ⟨α5, hα5⟩ : ∃ α5, α5 = getN s20 4 := ⟨_, rfl⟩
    have hR : Rep α5 n := by rw [hα5]; exact hC9.2.2.1
    refine v_st (show s20 = setN s20 4 α5 from by rw [hα5]; exact (setN_eta s20 4).symm) ?_
    refine v_aload_n (pc := 23) C 0 rfl dX5_valve_23 ?_
    refine v_getr (pc := 24) C inX5 goX5 (ci := 3) rfl 1 (by decide) (wF_X5_19 G) rfl sh_0 (4) rfl dX5_valve_24 ?_
    refine v_iload_n (pc := 27) C 1 rfl dX5_valve_27 ?_
    refine v_iload_n (pc := 28) C 2 rfl dX5_valve_28 ?_
    refine v_cs (pc := 29) (as := [.ref (bs γ + 4), .int (iI c), .int (iI v)]) C (cy_X0_tryValve G) (wM_X5_189 G) (k_X0_tryValve G hN hR h (by first | omega | assumption) (by first | omega | assumption)) dX5_valve_29 rfl rfl (by decide) (by decide) (Nat.le_of_ble_eq_true rfl) zc (k_I (fun z29 s29 q29 => ?_))
    rcases q29 with ⟨rfl, q29, α9, hR9, rfl⟩ | ⟨rfl, q29, rfl⟩
    · refine v_pop (pc := 32) C rfl dX5_valve_32 ?_
      refine v_aload_n (pc := 33) C 0 rfl dX5_valve_33 ?_
      refine v_getr (pc := 34) C inX5 goX5 (ci := 3) rfl 1 (by decide) (wF_X5_19 G) rfl sh_0 (4) rfl dX5_valve_34 ?_
      refine v_getiM (pc := 37) C hN 2 (by decide) (wF_X5_89 G) rfl 2 rfl dX5_valve_37 (fun z37 ez37 rz37 => ?_)
      rw [hR9.nv] at ez37
      refine v_iconst (pc := 40) C dX5_valve_40 ?_
      refine v_isub (pc := 41) C dX5_valve_41 ?_
      exact v_iretX (pc := 42) C hr (rfl) dX5_valve_42 (⟨_, rfl, cQ_ok (z' := n 0) (by unfold op_valve; rw [if_neg (by omega), if_neg (by omega)]) (by have hz : valveR n c v 0 = n 0 + 1 := rfl; omega) (hC9.now hR9) (fun c hc => (setN_out _ _ _ (by omega)).trans (hF8 c hc))⟩)
    · exact absurd (by omega) q29
  · exact v_csT (pc := 9) (as := [.int (iI 3)]) C hq (cy_X5_refuse G) (wM_X5_181 G) (k_X5_refuse3 G) dX5_valve_9 rfl rfl (by decide) (by decide) (Nat.le_of_ble_eq_true rfl) (fun _ _ h => h) (by rintro E σ9 ⟨rfl, rfl⟩; exact (Or.inr (⟨rfl, cX_no (by unfold op_valve; rw [if_neg (by omega), if_pos (by omega)]) (hC0) (hF0)⟩)))

set_option maxHeartbeats 4000000 in
set_option maxRecDepth 100000 in
theorem k_X5_duct {γ : Gm} (G : Glo γ) {σ : St} {s a : Int} {t n d k i : Int → Int} {c g y q m : Int} (hC : CRep σ s a t n d k i) (hO : AOk s a t n d k i) (hc : R3 c) (hg : R3 g) (hy : R3 y) (hq : R3 q) (hm : R3 m)  : Cxx γ yX5_duct cX5_duct 6 (some .int) 5 [.ref (bs γ + 0), .int (iI c), .int (iI g), .int (iI y), .int (iI q), .int (iI m)] σ (pI (fun z σ2 => cQ σ (op_duct s a t n d k i c g y q m) z σ2)) (fun E σ2 => (E = eI ∧ cX σ (op_duct s a t n d k i c g y q m) 1 σ2) ∨ (E = eA ∧ cX σ (op_duct s a t n d k i c g y q m) 2 σ2) ∨ (E = eS ∧ cX σ (op_duct s a t n d k i c g y q m) 3 σ2)) := by
  refine Cxx.of G (by decide +kernel) (Nat.le_of_ble_eq_true rfl) (fun φ C hq hr => ?_)
  have C : Cx γ φ RX5 cX5_duct 6 5 := C
  obtain ⟨hO1, hO2, hO3, h, hO5, hO6⟩ := id hO
  have hN : NetB 4 := Or.inl rfl
  have hT : NetB 203 := Or.inr (Or.inl rfl)
  obtain ⟨α, hα⟩ : ∃ α, α = getN σ 4 := ⟨_, rfl⟩
  have hR : Rep α n := by rw [hα]; exact hC.2.2.1
  refine v_st (show σ = setN σ 4 α from by rw [hα]; exact (setN_eta σ 4).symm) ?_
  have hC0 : CRep (setN σ 4 α) s a t n d k i := hC.now hR
  have hF0 : ∀ c, 255 ≤ c → setN σ 4 α c = σ c := fun c hc => setN_out _ _ _ (by omega)
  have hn0 := h.1
  have hn1 := h.2.1
  have hn4 := h.2.2.1
  have hn5 := h.2.2.2.1
  refine v_lv [(0, .ref (bs γ + 0)), (1, .int (iI c)), (2, .int (iI g)), (3, .int (iI y)), (4, .int (iI q)), (5, .int (iI m))] [0, 1, 2, 3, 4, 5] rfl ?_
  refine v_aload_n (pc := 0) C 0 rfl dX5_duct_0 ?_
  refine v_getr (pc := 1) C inX5 goX5 (ci := 3) rfl 1 (by decide) (wF_X5_19 G) rfl sh_0 (4) rfl dX5_duct_1 ?_
  refine v_iload_n (pc := 4) C 1 rfl dX5_duct_4 ?_
  refine v_iload_n (pc := 5) C 2 rfl dX5_duct_5 ?_
  refine v_iload_n (pc := 6) C 3 rfl dX5_duct_6 ?_
  refine v_iload (pc := 7) C 4 rfl dX5_duct_7 ?_
  refine v_iload (pc := 9) C 5 rfl dX5_duct_9 ?_
  refine v_cs (pc := 11) (as := [.ref (bs γ + 4), .int (iI c), .int (iI g), .int (iI y), .int (iI q), .int (iI m)]) C (cy_X0_faultOfDuct G) (wM_X5_193 G) (k_X0_faultOfDuct G hN hR h (by first | omega | assumption) (by first | omega | assumption) (by first | omega | assumption) (by first | omega | assumption) (by first | omega | assumption)) dX5_duct_11 rfl rfl (by decide) (by decide) (Nat.le_of_ble_eq_true rfl) zc (k_I (fun z11 s11 q11 => ?_))
  rcases q11 with ⟨⟨rfl, q11⟩ | ⟨rfl, q11⟩ | ⟨rfl, q11⟩ | ⟨rfl, q11⟩, rfl⟩
  · exact v_csT (pc := 14) (as := [.int (iI 1)]) C hq (cy_X5_refuse G) (wM_X5_181 G) (k_X5_refuse1 G) dX5_duct_14 rfl rfl (by decide) (by decide) (Nat.le_of_ble_eq_true rfl) (fun _ _ h => h) (by rintro E σ9 ⟨rfl, rfl⟩; exact (Or.inl (⟨rfl, cX_no (by unfold op_duct; rw [if_pos (by omega)]) (hC0) (hF0)⟩)))
  · exact v_csT (pc := 14) (as := [.int (iI 2)]) C hq (cy_X5_refuse G) (wM_X5_181 G) (k_X5_refuse2 G) dX5_duct_14 rfl rfl (by decide) (by decide) (Nat.le_of_ble_eq_true rfl) (fun _ _ h => h) (by rintro E σ9 ⟨rfl, rfl⟩; exact (Or.inr (Or.inl (⟨rfl, cX_no (by unfold op_duct; rw [if_neg (by omega), if_pos (by omega)]) (hC0) (hF0)⟩))))
  · refine v_cs (pc := 14) (as := [.int (iI 0)]) C (cy_X5_refuse G) (wM_X5_181 G) (k_X5_refuse0 G) dX5_duct_14 rfl rfl (by decide) (by decide) (Nat.le_of_ble_eq_true rfl) zc (k_V (fun s14 q14 => ?_))
    subst q14
    refine v_aload_n (pc := 17) C 0 rfl dX5_duct_17 ?_
    refine v_getr (pc := 18) C inX5 goX5 (ci := 3) rfl 2 (by decide) (wF_X5_26 G) rfl sh_0 (17) rfl dX5_duct_18 ?_
    refine v_aload_n (pc := 21) C 0 rfl dX5_duct_21 ?_
    refine v_getr (pc := 22) C inX5 goX5 (ci := 3) rfl 1 (by decide) (wF_X5_19 G) rfl sh_0 (4) rfl dX5_duct_22 ?_
    refine v_cv (pc := 25) (as := [.ref (bs γ + 4)]) C (cy_X1_keep G) (wM_X5_185 G) sh_17 (ci := 0) rfl rfl (k_X1_keep G hC0.2.2.2.1 hO2 hC0.2.2.1 h) dX5_duct_25 rfl rfl (by decide) (by decide) (Nat.le_of_ble_eq_true rfl) zc (k_V (fun s25 q25 => ?_))
    obtain ⟨hM9, hF9⟩ := q25
    have hC9 : CRep s25 s (remA a) t n (remD a n d) k i := hC0.mem hM9 hF9
    have hF8 : ∀ c, 255 ≤ c → s25 c = σ c := fun c hc => (hF9 c (by omega)).trans (hF0 c hc)
    obtain ⟨α5, hα5⟩ : ∃ α5, α5 = getN s25 4 := ⟨_, rfl⟩
    have hR : Rep α5 n := by rw [hα5]; exact hC9.2.2.1
    refine v_st (show s25 = setN s25 4 α5 from by rw [hα5]; exact (setN_eta s25 4).symm) ?_
    refine v_aload_n (pc := 28) C 0 rfl dX5_duct_28 ?_
    refine v_getr (pc := 29) C inX5 goX5 (ci := 3) rfl 1 (by decide) (wF_X5_19 G) rfl sh_0 (4) rfl dX5_duct_29 ?_
    refine v_iload_n (pc := 32) C 1 rfl dX5_duct_32 ?_
    refine v_iload_n (pc := 33) C 2 rfl dX5_duct_33 ?_
    refine v_iload_n (pc := 34) C 3 rfl dX5_duct_34 ?_
    refine v_iload (pc := 35) C 4 rfl dX5_duct_35 ?_
    refine v_iload (pc := 37) C 5 rfl dX5_duct_37 ?_
    refine v_cs (pc := 39) (as := [.ref (bs γ + 4), .int (iI c), .int (iI g), .int (iI y), .int (iI q), .int (iI m)]) C (cy_X0_tryDuct G) (wM_X5_197 G) (k_X0_tryDuct G hN hR h (by first | omega | assumption) (by first | omega | assumption) (by first | omega | assumption) (by first | omega | assumption) (by first | omega | assumption)) dX5_duct_39 rfl rfl (by decide) (by decide) (Nat.le_of_ble_eq_true rfl) zc (k_I (fun z39 s39 q39 => ?_))
    rcases q39 with ⟨rfl, q39, α9, hR9, rfl⟩ | ⟨rfl, q39, rfl⟩
    · refine v_pop (pc := 42) C rfl dX5_duct_42 ?_
      refine v_aload_n (pc := 43) C 0 rfl dX5_duct_43 ?_
      refine v_getr (pc := 44) C inX5 goX5 (ci := 3) rfl 1 (by decide) (wF_X5_19 G) rfl sh_0 (4) rfl dX5_duct_44 ?_
      refine v_getiM (pc := 47) C hN 3 (by decide) (wF_X5_92 G) rfl 3 rfl dX5_duct_47 (fun z47 ez47 rz47 => ?_)
      rw [hR9.nd] at ez47
      refine v_iconst (pc := 50) C dX5_duct_50 ?_
      refine v_isub (pc := 51) C dX5_duct_51 ?_
      exact v_iretX (pc := 52) C hr (rfl) dX5_duct_52 (⟨_, rfl, cQ_ok (z' := n 1) (by unfold op_duct; rw [if_neg (by omega), if_neg (by omega), if_neg (by omega)]) (by have hz : ductR n c g y q m 1 = n 1 + 1 := rfl; omega) (hC9.now hR9) (fun c hc => (setN_out _ _ _ (by omega)).trans (hF8 c hc))⟩)
    · exact absurd (by omega) q39
  · exact v_csT (pc := 14) (as := [.int (iI 3)]) C hq (cy_X5_refuse G) (wM_X5_181 G) (k_X5_refuse3 G) dX5_duct_14 rfl rfl (by decide) (by decide) (Nat.le_of_ble_eq_true rfl) (fun _ _ h => h) (by rintro E σ9 ⟨rfl, rfl⟩; exact (Or.inr (Or.inr (⟨rfl, cX_no (by unfold op_duct; rw [if_neg (by omega), if_neg (by omega), if_pos (by omega)]) (hC0) (hF0)⟩))))

set_option maxHeartbeats 4000000 in
set_option maxRecDepth 100000 in
theorem k_X5_remove {γ : Gm} (G : Glo γ) {σ : St} {s a : Int} {t n d k i : Int → Int} {e : Int} (hC : CRep σ s a t n d k i) (hO : AOk s a t n d k i) (he : R3 e)  : Cxx γ yX5_remove cX5_remove 2 (some .int) 4 [.ref (bs γ + 0), .int (iI e)] σ (pI (fun z σ2 => cQ σ (op_remove s a t n d k i e) z σ2)) (fun E σ2 => (E = eI ∧ cX σ (op_remove s a t n d k i e) 1 σ2)) := by
  refine Cxx.of G (by decide +kernel) (Nat.le_of_ble_eq_true rfl) (fun φ C hq hr => ?_)
  have C : Cx γ φ RX5 cX5_remove 2 4 := C
  obtain ⟨hO1, hO2, hO3, h, hO5, hO6⟩ := id hO
  have hN : NetB 4 := Or.inl rfl
  have hT : NetB 203 := Or.inr (Or.inl rfl)
  obtain ⟨α, hα⟩ : ∃ α, α = getN σ 4 := ⟨_, rfl⟩
  have hR : Rep α n := by rw [hα]; exact hC.2.2.1
  refine v_st (show σ = setN σ 4 α from by rw [hα]; exact (setN_eta σ 4).symm) ?_
  have hC0 : CRep (setN σ 4 α) s a t n d k i := hC.now hR
  have hF0 : ∀ c, 255 ≤ c → setN σ 4 α c = σ c := fun c hc => setN_out _ _ _ (by omega)
  have hn0 := h.1
  have hn1 := h.2.1
  have hn4 := h.2.2.1
  have hn5 := h.2.2.2.1
  refine v_lv [(0, .ref (bs γ + 0)), (1, .int (iI e))] [0, 1] rfl ?_
  refine v_aload_n (pc := 0) C 0 rfl dX5_remove_0 ?_
  refine v_getr (pc := 1) C inX5 goX5 (ci := 3) rfl 1 (by decide) (wF_X5_19 G) rfl sh_0 (4) rfl dX5_remove_1 ?_
  refine v_iload_n (pc := 4) C 1 rfl dX5_remove_4 ?_
  refine v_cs (pc := 5) (as := [.ref (bs γ + 4), .int (iI e)]) C (cy_X0_faultOfRemove G) (wM_X5_201 G) (k_X0_faultOfRemove G hN hR h (by first | omega | assumption)) dX5_remove_5 rfl rfl (by decide) (by decide) (Nat.le_of_ble_eq_true rfl) zc (k_I (fun z5 s5 q5 => ?_))
  rcases q5 with ⟨⟨rfl, q5⟩ | ⟨rfl, q5⟩, rfl⟩
  · refine v_cs (pc := 8) (as := [.int (iI 0)]) C (cy_X5_refuse G) (wM_X5_181 G) (k_X5_refuse0 G) dX5_remove_8 rfl rfl (by decide) (by decide) (Nat.le_of_ble_eq_true rfl) zc (k_V (fun s8 q8 => ?_))
    subst q8
    refine v_aload_n (pc := 11) C 0 rfl dX5_remove_11 ?_
    refine v_getr (pc := 12) C inX5 goX5 (ci := 3) rfl 2 (by decide) (wF_X5_26 G) rfl sh_0 (17) rfl dX5_remove_12 ?_
    refine v_aload_n (pc := 15) C 0 rfl dX5_remove_15 ?_
    refine v_getr (pc := 16) C inX5 goX5 (ci := 3) rfl 1 (by decide) (wF_X5_19 G) rfl sh_0 (4) rfl dX5_remove_16 ?_
    refine v_cv (pc := 19) (as := [.ref (bs γ + 4)]) C (cy_X1_keep G) (wM_X5_185 G) sh_17 (ci := 0) rfl rfl (k_X1_keep G hC0.2.2.2.1 hO2 hC0.2.2.1 h) dX5_remove_19 rfl rfl (by decide) (by decide) (Nat.le_of_ble_eq_true rfl) zc (k_V (fun s19 q19 => ?_))
    obtain ⟨hM9, hF9⟩ := q19
    have hC9 : CRep s19 s (remA a) t n (remD a n d) k i := hC0.mem hM9 hF9
    have hF8 : ∀ c, 255 ≤ c → s19 c = σ c := fun c hc => (hF9 c (by omega)).trans (hF0 c hc)
    obtain ⟨α5, hα5⟩ : ∃ α5, α5 = getN s19 4 := ⟨_, rfl⟩
    have hR : Rep α5 n := by rw [hα5]; exact hC9.2.2.1
    refine v_st (show s19 = setN s19 4 α5 from by rw [hα5]; exact (setN_eta s19 4).symm) ?_
    refine v_aload_n (pc := 22) C 0 rfl dX5_remove_22 ?_
    refine v_getr (pc := 23) C inX5 goX5 (ci := 3) rfl 1 (by decide) (wF_X5_19 G) rfl sh_0 (4) rfl dX5_remove_23 ?_
    refine v_iload_n (pc := 26) C 1 rfl dX5_remove_26 ?_
    refine v_cs (pc := 27) (as := [.ref (bs γ + 4), .int (iI e)]) C (cy_X0_tryRemove G) (wM_X5_205 G) (k_X0_tryRemove G hN hR h (by first | omega | assumption)) dX5_remove_27 rfl rfl (by decide) (by decide) (Nat.le_of_ble_eq_true rfl) zc (k_I (fun z27 s27 q27 => ?_))
    rcases q27 with ⟨rfl, q27, α9, hR9, rfl⟩ | ⟨rfl, q27, rfl⟩
    · refine v_pop (pc := 30) C rfl dX5_remove_30 ?_
      refine v_aload_n (pc := 31) C 0 rfl dX5_remove_31 ?_
      refine v_getr (pc := 32) C inX5 goX5 (ci := 3) rfl 1 (by decide) (wF_X5_19 G) rfl sh_0 (4) rfl dX5_remove_32 ?_
      refine v_getiM (pc := 35) C hN 3 (by decide) (wF_X5_92 G) rfl 3 rfl dX5_remove_35 (fun z35 ez35 rz35 => ?_)
      rw [hR9.nd] at ez35
      exact v_iretX (pc := 38) C hr (rfl) dX5_remove_38 (⟨_, rfl, cQ_ok (z' := n 1 - 1) (by unfold op_remove; rw [if_neg (by omega)]) (by have hz := removeR_1 (r := n) (d := e) (by omega); omega) (hC9.now hR9) (fun c hc => (setN_out _ _ _ (by omega)).trans (hF8 c hc))⟩)
    · exact absurd (by omega) q27
  · exact v_csT (pc := 8) (as := [.int (iI 1)]) C hq (cy_X5_refuse G) (wM_X5_181 G) (k_X5_refuse1 G) dX5_remove_8 rfl rfl (by decide) (by decide) (Nat.le_of_ble_eq_true rfl) (fun _ _ h => h) (by rintro E σ9 ⟨rfl, rfl⟩; exact (⟨rfl, cX_no (by unfold op_remove; rw [if_pos (by omega)]) (hC0) (hF0)⟩))

set_option maxHeartbeats 4000000 in
set_option maxRecDepth 100000 in
theorem k_X5_press {γ : Gm} (G : Glo γ) {σ : St} {s a : Int} {t n d k i : Int → Int} {v b : Int} (hC : CRep σ s a t n d k i) (hO : AOk s a t n d k i) (hv : R3 v) (hb01 : b = 0 ∨ b = 1) : Cxx γ yX5_press cX5_press 4 (some .int) 4 [.ref (bs γ + 0), .int (iI v), .int (iI b)] σ (pI (fun z σ2 => cQ σ (op_press s a t n d k i v b) z σ2)) (fun E σ2 => (E = eI ∧ cX σ (op_press s a t n d k i v b) 1 σ2) ∨ (E = eS ∧ cX σ (op_press s a t n d k i v b) 2 σ2)) := by
  refine Cxx.of G (by decide +kernel) (Nat.le_of_ble_eq_true rfl) (fun φ C hq hr => ?_)
  have C : Cx γ φ RX5 cX5_press 4 4 := C
  obtain ⟨hO1, hO2, hO3, h, hO5, hO6⟩ := id hO
  have hN : NetB 4 := Or.inl rfl
  have hT : NetB 203 := Or.inr (Or.inl rfl)
  obtain ⟨α, hα⟩ : ∃ α, α = getN σ 4 := ⟨_, rfl⟩
  have hR : Rep α n := by rw [hα]; exact hC.2.2.1
  refine v_st (show σ = setN σ 4 α from by rw [hα]; exact (setN_eta σ 4).symm) ?_
  have hC0 : CRep (setN σ 4 α) s a t n d k i := hC.now hR
  have hF0 : ∀ c, 255 ≤ c → setN σ 4 α c = σ c := fun c hc => setN_out _ _ _ (by omega)
  have hn0 := h.1
  have hn1 := h.2.1
  have hn4 := h.2.2.1
  have hn5 := h.2.2.2.1
  refine v_lv [(0, .ref (bs γ + 0)), (1, .int (iI v)), (2, .int (iI b))] [0, 1, 2] rfl ?_
  refine v_aload_n (pc := 0) C 0 rfl dX5_press_0 ?_
  refine v_getr (pc := 1) C inX5 goX5 (ci := 3) rfl 1 (by decide) (wF_X5_19 G) rfl sh_0 (4) rfl dX5_press_1 ?_
  refine v_iload_n (pc := 4) C 1 rfl dX5_press_4 ?_
  refine v_cs (pc := 5) (as := [.ref (bs γ + 4), .int (iI v)]) C (cy_X0_faultOfPress G) (wM_X5_209 G) (k_X0_faultOfPress G hN hR h (by first | omega | assumption)) dX5_press_5 rfl rfl (by decide) (by decide) (Nat.le_of_ble_eq_true rfl) zc (k_I (fun z5 s5 q5 => ?_))
  rcases q5 with ⟨⟨rfl, q5⟩ | ⟨rfl, q5⟩ | ⟨rfl, q5⟩, rfl⟩
  · exact v_csT (pc := 8) (as := [.int (iI 1)]) C hq (cy_X5_refuse G) (wM_X5_181 G) (k_X5_refuse1 G) dX5_press_8 rfl rfl (by decide) (by decide) (Nat.le_of_ble_eq_true rfl) (fun _ _ h => h) (by rintro E σ9 ⟨rfl, rfl⟩; exact (Or.inl (⟨rfl, cX_no (by unfold op_press; rw [if_pos (by omega)]) (hC0) (hF0)⟩)))
  · refine v_cs (pc := 8) (as := [.int (iI 0)]) C (cy_X5_refuse G) (wM_X5_181 G) (k_X5_refuse0 G) dX5_press_8 rfl rfl (by decide) (by decide) (Nat.le_of_ble_eq_true rfl) zc (k_V (fun s8 q8 => ?_))
    subst q8
    refine v_aload_n (pc := 11) C 0 rfl dX5_press_11 ?_
    refine v_getr (pc := 12) C inX5 goX5 (ci := 3) rfl 2 (by decide) (wF_X5_26 G) rfl sh_0 (17) rfl dX5_press_12 ?_
    refine v_aload_n (pc := 15) C 0 rfl dX5_press_15 ?_
    refine v_getr (pc := 16) C inX5 goX5 (ci := 3) rfl 1 (by decide) (wF_X5_19 G) rfl sh_0 (4) rfl dX5_press_16 ?_
    refine v_cv (pc := 19) (as := [.ref (bs γ + 4)]) C (cy_X1_keep G) (wM_X5_185 G) sh_17 (ci := 0) rfl rfl (k_X1_keep G hC0.2.2.2.1 hO2 hC0.2.2.1 h) dX5_press_19 rfl rfl (by decide) (by decide) (Nat.le_of_ble_eq_true rfl) zc (k_V (fun s19 q19 => ?_))
    obtain ⟨hM9, hF9⟩ := q19
    have hC9 : CRep s19 s (remA a) t n (remD a n d) k i := hC0.mem hM9 hF9
    have hF8 : ∀ c, 255 ≤ c → s19 c = σ c := fun c hc => (hF9 c (by omega)).trans (hF0 c hc)
    obtain ⟨α5, hα5⟩ : ∃ α5, α5 = getN s19 4 := ⟨_, rfl⟩
    have hR : Rep α5 n := by rw [hα5]; exact hC9.2.2.1
    refine v_st (show s19 = setN s19 4 α5 from by rw [hα5]; exact (setN_eta s19 4).symm) ?_
    refine v_aload_n (pc := 22) C 0 rfl dX5_press_22 ?_
    refine v_getr (pc := 23) C inX5 goX5 (ci := 3) rfl 1 (by decide) (wF_X5_19 G) rfl sh_0 (4) rfl dX5_press_23 ?_
    refine v_getrN (pc := 26) C hN 7 4 (by decide) (wF_X5_124 G) rfl dX5_press_26 ?_
    refine v_iload_n (pc := 29) C 1 rfl dX5_press_29 ?_
    refine v_ialdN (pc := 30) C hN 4 (by decide) (m := 10) rfl (by first | omega | assumption) dX5_press_30 (fun z30 ez30 rz30 => ?_)
    have wz30 : z30 = n (6 + 7 * v + 2) := ez30.trans (hR.2.1 v (by omega) (by omega)).2.2
    refine v_istore_n (pc := 31) C [(3, .int (iI z30)), (0, .ref (bs γ + 0)), (1, .int (iI v)), (2, .int (iI b))] dX5_press_31 rfl (by decide) rfl ?_
    refine v_aload_n (pc := 32) C 1 rfl dX5_press_32 ?_
    refine v_getr (pc := 33) C inX5 goX5 (ci := 3) rfl 1 (by decide) (wF_X5_19 G) rfl sh_0 (4) rfl dX5_press_33 ?_
    refine v_iload_n (pc := 36) C 2 rfl dX5_press_36 ?_
    refine v_iload_n (pc := 37) C 3 rfl dX5_press_37 ?_
    refine v_cs (pc := 38) (as := [.ref (bs γ + 4), .int (iI v), .int (iI b)]) C (cy_X0_tryPress G) (wM_X5_212 G) (k_X0_tryPress G hN hR h (by first | omega | assumption) (by omega)) dX5_press_38 rfl rfl (by decide) (by decide) (Nat.le_of_ble_eq_true rfl) zc (k_I (fun z38 s38 q38 => ?_))
    rcases q38 with ⟨rfl, q38, α9, hR9, rfl⟩ | ⟨rfl, q38, rfl⟩
    · refine v_pop (pc := 41) C rfl dX5_press_41 ?_
      refine v_aload_n (pc := 42) C 1 rfl dX5_press_42 ?_
      refine v_getr (pc := 43) C inX5 goX5 (ci := 3) rfl 1 (by decide) (wF_X5_19 G) rfl sh_0 (4) rfl dX5_press_43 ?_
      refine v_getrN (pc := 46) C hN 7 4 (by decide) (wF_X5_124 G) rfl dX5_press_46 ?_
      refine v_iload_n (pc := 49) C 2 rfl dX5_press_49 ?_
      refine v_ialdN (pc := 50) C hN 4 (by decide) (m := 10) rfl (by first | omega | assumption) dX5_press_50 (fun z50 ez50 rz50 => ?_)
      have wz50 : z50 = b := ez50.trans (((hR9.2.1 v (by omega) (by rw [upr_ne _ _ (by omega)]; omega)).2.2).trans (upr_at _ _ _))
      refine v_iload_n (pc := 51) C 0 rfl dX5_press_51 ?_
      refine v_icmp_ne (pc := 52) C 59 (by first | omega | assumption) (by first | omega | assumption) dX5_press_52 (by decide) (fun h52 => ?_) (fun h52 => ?_)
      · refine v_iconst (pc := 59) C dX5_press_59 ?_
        exact v_iretX (pc := 60) C hr (rfl) dX5_press_60 (⟨_, rfl, cQ_ok (z' := if n (6 + 7 * v + 2) = b then 0 else 1) (by unfold op_press; rw [if_neg (by omega), if_neg (by omega)]) (by first | rw [if_pos (by omega)] | rw [if_neg (by omega)]) (hC9.now hR9) (fun c hc => (setN_out _ _ _ (by omega)).trans (hF8 c hc))⟩)
      · refine v_iconst (pc := 55) C dX5_press_55 ?_
        refine v_goto (pc := 56) C 60 dX5_press_56 (by decide) ?_
        exact v_iretX (pc := 60) C hr (rfl) dX5_press_60 (⟨_, rfl, cQ_ok (z' := if n (6 + 7 * v + 2) = b then 0 else 1) (by unfold op_press; rw [if_neg (by omega), if_neg (by omega)]) (by first | rw [if_pos (by omega)] | rw [if_neg (by omega)]) (hC9.now hR9) (fun c hc => (setN_out _ _ _ (by omega)).trans (hF8 c hc))⟩)
    · exact absurd (by omega) q38
  · exact v_csT (pc := 8) (as := [.int (iI 3)]) C hq (cy_X5_refuse G) (wM_X5_181 G) (k_X5_refuse3 G) dX5_press_8 rfl rfl (by decide) (by decide) (Nat.le_of_ble_eq_true rfl) (fun _ _ h => h) (by rintro E σ9 ⟨rfl, rfl⟩; exact (Or.inr (⟨rfl, cX_no (by unfold op_press; rw [if_neg (by omega), if_pos (by omega)]) (hC0) (hF0)⟩)))

set_option maxHeartbeats 4000000 in
set_option maxRecDepth 100000 in
theorem k_X5_leak {γ : Gm} (G : Glo γ) {σ : St} {s a : Int} {t n d k i : Int → Int} {e l : Int} (hC : CRep σ s a t n d k i) (hO : AOk s a t n d k i) (he : R3 e) (hl : R3 l)  : Cxx γ yX5_leak cX5_leak 4 (some .int) 4 [.ref (bs γ + 0), .int (iI e), .int (iI l)] σ (pI (fun z σ2 => cQ σ (op_leak s a t n d k i e l) z σ2)) (fun E σ2 => (E = eI ∧ cX σ (op_leak s a t n d k i e l) 1 σ2) ∨ (E = eA ∧ cX σ (op_leak s a t n d k i e l) 2 σ2)) := by
  refine Cxx.of G (by decide +kernel) (Nat.le_of_ble_eq_true rfl) (fun φ C hq hr => ?_)
  have C : Cx γ φ RX5 cX5_leak 4 4 := C
  obtain ⟨hO1, hO2, hO3, h, hO5, hO6⟩ := id hO
  have hN : NetB 4 := Or.inl rfl
  have hT : NetB 203 := Or.inr (Or.inl rfl)
  obtain ⟨α, hα⟩ : ∃ α, α = getN σ 4 := ⟨_, rfl⟩
  have hR : Rep α n := by rw [hα]; exact hC.2.2.1
  refine v_st (show σ = setN σ 4 α from by rw [hα]; exact (setN_eta σ 4).symm) ?_
  have hC0 : CRep (setN σ 4 α) s a t n d k i := hC.now hR
  have hF0 : ∀ c, 255 ≤ c → setN σ 4 α c = σ c := fun c hc => setN_out _ _ _ (by omega)
  have hn0 := h.1
  have hn1 := h.2.1
  have hn4 := h.2.2.1
  have hn5 := h.2.2.2.1
  refine v_lv [(0, .ref (bs γ + 0)), (1, .int (iI e)), (2, .int (iI l))] [0, 1, 2] rfl ?_
  refine v_aload_n (pc := 0) C 0 rfl dX5_leak_0 ?_
  refine v_getr (pc := 1) C inX5 goX5 (ci := 3) rfl 1 (by decide) (wF_X5_19 G) rfl sh_0 (4) rfl dX5_leak_1 ?_
  refine v_iload_n (pc := 4) C 1 rfl dX5_leak_4 ?_
  refine v_iload_n (pc := 5) C 2 rfl dX5_leak_5 ?_
  refine v_cs (pc := 6) (as := [.ref (bs γ + 4), .int (iI e), .int (iI l)]) C (cy_X0_faultOfLeak G) (wM_X5_216 G) (k_X0_faultOfLeak G hN hR h (by first | omega | assumption) (by first | omega | assumption)) dX5_leak_6 rfl rfl (by decide) (by decide) (Nat.le_of_ble_eq_true rfl) zc (k_I (fun z6 s6 q6 => ?_))
  rcases q6 with ⟨⟨rfl, q6⟩ | ⟨rfl, q6⟩ | ⟨rfl, q6⟩, rfl⟩
  · exact v_csT (pc := 9) (as := [.int (iI 1)]) C hq (cy_X5_refuse G) (wM_X5_181 G) (k_X5_refuse1 G) dX5_leak_9 rfl rfl (by decide) (by decide) (Nat.le_of_ble_eq_true rfl) (fun _ _ h => h) (by rintro E σ9 ⟨rfl, rfl⟩; exact (Or.inl (⟨rfl, cX_no (by unfold op_leak; rw [if_pos (by omega)]) (hC0) (hF0)⟩)))
  · refine v_cs (pc := 9) (as := [.int (iI 0)]) C (cy_X5_refuse G) (wM_X5_181 G) (k_X5_refuse0 G) dX5_leak_9 rfl rfl (by decide) (by decide) (Nat.le_of_ble_eq_true rfl) zc (k_V (fun s9 q9 => ?_))
    subst q9
    refine v_aload_n (pc := 12) C 0 rfl dX5_leak_12 ?_
    refine v_getr (pc := 13) C inX5 goX5 (ci := 3) rfl 2 (by decide) (wF_X5_26 G) rfl sh_0 (17) rfl dX5_leak_13 ?_
    refine v_aload_n (pc := 16) C 0 rfl dX5_leak_16 ?_
    refine v_getr (pc := 17) C inX5 goX5 (ci := 3) rfl 1 (by decide) (wF_X5_19 G) rfl sh_0 (4) rfl dX5_leak_17 ?_
    refine v_cv (pc := 20) (as := [.ref (bs γ + 4)]) C (cy_X1_keep G) (wM_X5_185 G) sh_17 (ci := 0) rfl rfl (k_X1_keep G hC0.2.2.2.1 hO2 hC0.2.2.1 h) dX5_leak_20 rfl rfl (by decide) (by decide) (Nat.le_of_ble_eq_true rfl) zc (k_V (fun s20 q20 => ?_))
    obtain ⟨hM9, hF9⟩ := q20
    have hC9 : CRep s20 s (remA a) t n (remD a n d) k i := hC0.mem hM9 hF9
    have hF8 : ∀ c, 255 ≤ c → s20 c = σ c := fun c hc => (hF9 c (by omega)).trans (hF0 c hc)
    obtain ⟨α5, hα5⟩ : ∃ α5, α5 = getN s20 4 := ⟨_, rfl⟩
    have hR : Rep α5 n := by rw [hα5]; exact hC9.2.2.1
    refine v_st (show s20 = setN s20 4 α5 from by rw [hα5]; exact (setN_eta s20 4).symm) ?_
    refine v_aload_n (pc := 23) C 0 rfl dX5_leak_23 ?_
    refine v_getr (pc := 24) C inX5 goX5 (ci := 3) rfl 1 (by decide) (wF_X5_19 G) rfl sh_0 (4) rfl dX5_leak_24 ?_
    refine v_getrN (pc := 27) C hN 13 10 (by decide) (wF_X5_163 G) rfl dX5_leak_27 ?_
    refine v_iload_n (pc := 30) C 1 rfl dX5_leak_30 ?_
    refine v_ialdN (pc := 31) C hN 10 (by decide) (m := 16) rfl (by first | omega | assumption) dX5_leak_31 (fun z31 ez31 rz31 => ?_)
    have wz31 : z31 = n (76 + 12 * e + 5) := ez31.trans (hR.2.2.2.1 e (by omega) (by omega)).2.2.2
    refine v_istore_n (pc := 32) C [(3, .int (iI z31)), (0, .ref (bs γ + 0)), (1, .int (iI e)), (2, .int (iI l))] dX5_leak_32 rfl (by decide) rfl ?_
    refine v_aload_n (pc := 33) C 1 rfl dX5_leak_33 ?_
    refine v_getr (pc := 34) C inX5 goX5 (ci := 3) rfl 1 (by decide) (wF_X5_19 G) rfl sh_0 (4) rfl dX5_leak_34 ?_
    refine v_iload_n (pc := 37) C 2 rfl dX5_leak_37 ?_
    refine v_iload_n (pc := 38) C 3 rfl dX5_leak_38 ?_
    refine v_cs (pc := 39) (as := [.ref (bs γ + 4), .int (iI e), .int (iI l)]) C (cy_X0_tryLeak G) (wM_X5_219 G) (k_X0_tryLeak G hN hR h (by first | omega | assumption) (by first | omega | assumption)) dX5_leak_39 rfl rfl (by decide) (by decide) (Nat.le_of_ble_eq_true rfl) zc (k_I (fun z39 s39 q39 => ?_))
    rcases q39 with ⟨rfl, q39, α9, hR9, rfl⟩ | ⟨rfl, q39, rfl⟩
    · refine v_pop (pc := 42) C rfl dX5_leak_42 ?_
      refine v_iload_n (pc := 43) C 0 rfl dX5_leak_43 ?_
      exact v_iretX (pc := 44) C hr (rfl) dX5_leak_44 (⟨_, rfl, cQ_ok (z' := n (76 + 12 * e + 5)) (by unfold op_leak; rw [if_neg (by omega), if_neg (by omega)]) (by assumption) (hC9.now hR9) (fun c hc => (setN_out _ _ _ (by omega)).trans (hF8 c hc))⟩)
    · exact absurd (by omega) q39
  · exact v_csT (pc := 9) (as := [.int (iI 2)]) C hq (cy_X5_refuse G) (wM_X5_181 G) (k_X5_refuse2 G) dX5_leak_9 rfl rfl (by decide) (by decide) (Nat.le_of_ble_eq_true rfl) (fun _ _ h => h) (by rintro E σ9 ⟨rfl, rfl⟩; exact (Or.inr (⟨rfl, cX_no (by unfold op_leak; rw [if_neg (by omega), if_pos (by omega)]) (hC0) (hF0)⟩)))

set_option maxHeartbeats 4000000 in
set_option maxRecDepth 100000 in
theorem k_X5_feed {γ : Gm} (G : Glo γ) {σ : St} {s a : Int} {t n d k i : Int → Int} {v m : Int} (hC : CRep σ s a t n d k i) (hO : AOk s a t n d k i) (hv : R3 v) (hm : R3 m)  : Cxx γ yX5_feed cX5_feed 4 (some .int) 4 [.ref (bs γ + 0), .int (iI v), .int (iI m)] σ (pI (fun z σ2 => cQ σ (op_feed s a t n d k i v m) z σ2)) (fun E σ2 => (E = eI ∧ cX σ (op_feed s a t n d k i v m) 1 σ2) ∨ (E = eA ∧ cX σ (op_feed s a t n d k i v m) 2 σ2)) := by
  refine Cxx.of G (by decide +kernel) (Nat.le_of_ble_eq_true rfl) (fun φ C hq hr => ?_)
  have C : Cx γ φ RX5 cX5_feed 4 4 := C
  obtain ⟨hO1, hO2, hO3, h, hO5, hO6⟩ := id hO
  have hN : NetB 4 := Or.inl rfl
  have hT : NetB 203 := Or.inr (Or.inl rfl)
  obtain ⟨α, hα⟩ : ∃ α, α = getN σ 4 := ⟨_, rfl⟩
  have hR : Rep α n := by rw [hα]; exact hC.2.2.1
  refine v_st (show σ = setN σ 4 α from by rw [hα]; exact (setN_eta σ 4).symm) ?_
  have hC0 : CRep (setN σ 4 α) s a t n d k i := hC.now hR
  have hF0 : ∀ c, 255 ≤ c → setN σ 4 α c = σ c := fun c hc => setN_out _ _ _ (by omega)
  have hn0 := h.1
  have hn1 := h.2.1
  have hn4 := h.2.2.1
  have hn5 := h.2.2.2.1
  refine v_lv [(0, .ref (bs γ + 0)), (1, .int (iI v)), (2, .int (iI m))] [0, 1, 2] rfl ?_
  refine v_aload_n (pc := 0) C 0 rfl dX5_feed_0 ?_
  refine v_getr (pc := 1) C inX5 goX5 (ci := 3) rfl 1 (by decide) (wF_X5_19 G) rfl sh_0 (4) rfl dX5_feed_1 ?_
  refine v_iload_n (pc := 4) C 1 rfl dX5_feed_4 ?_
  refine v_iload_n (pc := 5) C 2 rfl dX5_feed_5 ?_
  refine v_cs (pc := 6) (as := [.ref (bs γ + 4), .int (iI v), .int (iI m)]) C (cy_X0_faultOfFeed G) (wM_X5_222 G) (k_X0_faultOfFeed G hN hR h (by first | omega | assumption) (by first | omega | assumption)) dX5_feed_6 rfl rfl (by decide) (by decide) (Nat.le_of_ble_eq_true rfl) zc (k_I (fun z6 s6 q6 => ?_))
  rcases q6 with ⟨⟨rfl, q6⟩ | ⟨rfl, q6⟩ | ⟨rfl, q6⟩, rfl⟩
  · exact v_csT (pc := 9) (as := [.int (iI 1)]) C hq (cy_X5_refuse G) (wM_X5_181 G) (k_X5_refuse1 G) dX5_feed_9 rfl rfl (by decide) (by decide) (Nat.le_of_ble_eq_true rfl) (fun _ _ h => h) (by rintro E σ9 ⟨rfl, rfl⟩; exact (Or.inl (⟨rfl, cX_no (by unfold op_feed; rw [if_pos (by omega)]) (hC0) (hF0)⟩)))
  · refine v_cs (pc := 9) (as := [.int (iI 0)]) C (cy_X5_refuse G) (wM_X5_181 G) (k_X5_refuse0 G) dX5_feed_9 rfl rfl (by decide) (by decide) (Nat.le_of_ble_eq_true rfl) zc (k_V (fun s9 q9 => ?_))
    subst q9
    refine v_aload_n (pc := 12) C 0 rfl dX5_feed_12 ?_
    refine v_getr (pc := 13) C inX5 goX5 (ci := 3) rfl 2 (by decide) (wF_X5_26 G) rfl sh_0 (17) rfl dX5_feed_13 ?_
    refine v_aload_n (pc := 16) C 0 rfl dX5_feed_16 ?_
    refine v_getr (pc := 17) C inX5 goX5 (ci := 3) rfl 1 (by decide) (wF_X5_19 G) rfl sh_0 (4) rfl dX5_feed_17 ?_
    refine v_cv (pc := 20) (as := [.ref (bs γ + 4)]) C (cy_X1_keep G) (wM_X5_185 G) sh_17 (ci := 0) rfl rfl (k_X1_keep G hC0.2.2.2.1 hO2 hC0.2.2.1 h) dX5_feed_20 rfl rfl (by decide) (by decide) (Nat.le_of_ble_eq_true rfl) zc (k_V (fun s20 q20 => ?_))
    obtain ⟨hM9, hF9⟩ := q20
    have hC9 : CRep s20 s (remA a) t n (remD a n d) k i := hC0.mem hM9 hF9
    have hF8 : ∀ c, 255 ≤ c → s20 c = σ c := fun c hc => (hF9 c (by omega)).trans (hF0 c hc)
    obtain ⟨α5, hα5⟩ : ∃ α5, α5 = getN s20 4 := ⟨_, rfl⟩
    have hR : Rep α5 n := by rw [hα5]; exact hC9.2.2.1
    refine v_st (show s20 = setN s20 4 α5 from by rw [hα5]; exact (setN_eta s20 4).symm) ?_
    refine v_aload_n (pc := 23) C 0 rfl dX5_feed_23 ?_
    refine v_getr (pc := 24) C inX5 goX5 (ci := 3) rfl 1 (by decide) (wF_X5_19 G) rfl sh_0 (4) rfl dX5_feed_24 ?_
    refine v_getrN (pc := 27) C hN 6 3 (by decide) (wF_X5_121 G) rfl dX5_feed_27 ?_
    refine v_iload_n (pc := 30) C 1 rfl dX5_feed_30 ?_
    refine v_ialdN (pc := 31) C hN 3 (by decide) (m := 10) rfl (by first | omega | assumption) dX5_feed_31 (fun z31 ez31 rz31 => ?_)
    have wz31 : z31 = n (6 + 7 * v + 1) := ez31.trans (hR.2.1 v (by omega) (by omega)).2.1
    refine v_istore_n (pc := 32) C [(3, .int (iI z31)), (0, .ref (bs γ + 0)), (1, .int (iI v)), (2, .int (iI m))] dX5_feed_32 rfl (by decide) rfl ?_
    refine v_aload_n (pc := 33) C 1 rfl dX5_feed_33 ?_
    refine v_getr (pc := 34) C inX5 goX5 (ci := 3) rfl 1 (by decide) (wF_X5_19 G) rfl sh_0 (4) rfl dX5_feed_34 ?_
    refine v_iload_n (pc := 37) C 2 rfl dX5_feed_37 ?_
    refine v_iload_n (pc := 38) C 3 rfl dX5_feed_38 ?_
    refine v_cs (pc := 39) (as := [.ref (bs γ + 4), .int (iI v), .int (iI m)]) C (cy_X0_tryFeed G) (wM_X5_225 G) (k_X0_tryFeed G hN hR h (by first | omega | assumption) (by first | omega | assumption)) dX5_feed_39 rfl rfl (by decide) (by decide) (Nat.le_of_ble_eq_true rfl) zc (k_I (fun z39 s39 q39 => ?_))
    rcases q39 with ⟨rfl, q39, α9, hR9, rfl⟩ | ⟨rfl, q39, rfl⟩
    · refine v_pop (pc := 42) C rfl dX5_feed_42 ?_
      refine v_iload_n (pc := 43) C 0 rfl dX5_feed_43 ?_
      exact v_iretX (pc := 44) C hr (rfl) dX5_feed_44 (⟨_, rfl, cQ_ok (z' := n (6 + 7 * v + 1)) (by unfold op_feed; rw [if_neg (by omega), if_neg (by omega)]) (by assumption) (hC9.now hR9) (fun c hc => (setN_out _ _ _ (by omega)).trans (hF8 c hc))⟩)
    · exact absurd (by omega) q39
  · exact v_csT (pc := 9) (as := [.int (iI 2)]) C hq (cy_X5_refuse G) (wM_X5_181 G) (k_X5_refuse2 G) dX5_feed_9 rfl rfl (by decide) (by decide) (Nat.le_of_ble_eq_true rfl) (fun _ _ h => h) (by rintro E σ9 ⟨rfl, rfl⟩; exact (Or.inr (⟨rfl, cX_no (by unfold op_feed; rw [if_neg (by omega), if_pos (by omega)]) (hC0) (hF0)⟩)))

set_option maxHeartbeats 4000000 in
set_option maxRecDepth 100000 in
theorem k_X5_set {γ : Gm} (G : Glo γ) {σ : St} {s a : Int} {t n d k i : Int → Int} {w v : Int} (hC : CRep σ s a t n d k i) (hO : AOk s a t n d k i) (hw : R3 w) (hv : R3 v)  : Cxx γ yX5_set cX5_set 4 (some .int) 4 [.ref (bs γ + 0), .int (iI w), .int (iI v)] σ (pI (fun z σ2 => cQ σ (op_set s a t n d k i w v) z σ2)) (fun E σ2 => (E = eA ∧ cX σ (op_set s a t n d k i w v) 1 σ2)) := by
  refine Cxx.of G (by decide +kernel) (Nat.le_of_ble_eq_true rfl) (fun φ C hq hr => ?_)
  have C : Cx γ φ RX5 cX5_set 4 4 := C
  obtain ⟨hO1, hO2, hO3, h, hO5, hO6⟩ := id hO
  have hN : NetB 4 := Or.inl rfl
  have hT : NetB 203 := Or.inr (Or.inl rfl)
  obtain ⟨α, hα⟩ : ∃ α, α = getN σ 4 := ⟨_, rfl⟩
  have hR : Rep α n := by rw [hα]; exact hC.2.2.1
  refine v_st (show σ = setN σ 4 α from by rw [hα]; exact (setN_eta σ 4).symm) ?_
  have hC0 : CRep (setN σ 4 α) s a t n d k i := hC.now hR
  have hF0 : ∀ c, 255 ≤ c → setN σ 4 α c = σ c := fun c hc => setN_out _ _ _ (by omega)
  have hn0 := h.1
  have hn1 := h.2.1
  have hn4 := h.2.2.1
  have hn5 := h.2.2.2.1
  refine v_lv [(0, .ref (bs γ + 0)), (1, .int (iI w)), (2, .int (iI v))] [0, 1, 2] rfl ?_
  refine v_iload_n (pc := 0) C 1 rfl dX5_set_0 ?_
  refine v_iload_n (pc := 1) C 2 rfl dX5_set_1 ?_
  refine v_cs (pc := 2) (as := [.int (iI w), .int (iI v)]) C (cy_X0_faultOfSet G) (wM_X5_228 G) (k_X0_faultOfSet G (by first | omega | assumption) (by first | omega | assumption)) dX5_set_2 rfl rfl (by decide) (by decide) (Nat.le_of_ble_eq_true rfl) zc (k_I (fun z2 s2 q2 => ?_))
  rcases q2 with ⟨⟨rfl, q2⟩ | ⟨rfl, q2⟩, rfl⟩
  · refine v_cs (pc := 5) (as := [.int (iI 0)]) C (cy_X5_refuse G) (wM_X5_181 G) (k_X5_refuse0 G) dX5_set_5 rfl rfl (by decide) (by decide) (Nat.le_of_ble_eq_true rfl) zc (k_V (fun s5 q5 => ?_))
    subst q5
    refine v_aload_n (pc := 8) C 0 rfl dX5_set_8 ?_
    refine v_getr (pc := 9) C inX5 goX5 (ci := 3) rfl 2 (by decide) (wF_X5_26 G) rfl sh_0 (17) rfl dX5_set_9 ?_
    refine v_aload_n (pc := 12) C 0 rfl dX5_set_12 ?_
    refine v_getr (pc := 13) C inX5 goX5 (ci := 3) rfl 1 (by decide) (wF_X5_19 G) rfl sh_0 (4) rfl dX5_set_13 ?_
    refine v_cv (pc := 16) (as := [.ref (bs γ + 4)]) C (cy_X1_keep G) (wM_X5_185 G) sh_17 (ci := 0) rfl rfl (k_X1_keep G hC0.2.2.2.1 hO2 hC0.2.2.1 h) dX5_set_16 rfl rfl (by decide) (by decide) (Nat.le_of_ble_eq_true rfl) zc (k_V (fun s16 q16 => ?_))
    obtain ⟨hM9, hF9⟩ := q16
    have hC9 : CRep s16 s (remA a) t n (remD a n d) k i := hC0.mem hM9 hF9
    have hF8 : ∀ c, 255 ≤ c → s16 c = σ c := fun c hc => (hF9 c (by omega)).trans (hF0 c hc)
    obtain ⟨α5, hα5⟩ : ∃ α5, α5 = getN s16 4 := ⟨_, rfl⟩
    have hR : Rep α5 n := by rw [hα5]; exact hC9.2.2.1
    refine v_st (show s16 = setN s16 4 α5 from by rw [hα5]; exact (setN_eta s16 4).symm) ?_
    refine v_aload_n (pc := 19) C 0 rfl dX5_set_19 ?_
    refine v_getr (pc := 20) C inX5 goX5 (ci := 3) rfl 1 (by decide) (wF_X5_19 G) rfl sh_0 (4) rfl dX5_set_20 ?_
    refine v_getrN (pc := 23) C hN 4 1 (by decide) (wF_X5_172 G) rfl dX5_set_23 ?_
    refine v_iload_n (pc := 26) C 1 rfl dX5_set_26 ?_
    refine v_ialdN (pc := 27) C hN 1 (by decide) (m := 2) rfl (by first | omega | assumption) dX5_set_27 (fun z27 ez27 rz27 => ?_)
    have wz27 : z27 = n (4 + w) := by
      rw [ez27]
      rcases (show w = 0 ∨ w = 1 by omega) with rfl | rfl
      · exact hR.nl
      · exact hR.ns
    refine v_istore_n (pc := 28) C [(3, .int (iI z27)), (0, .ref (bs γ + 0)), (1, .int (iI w)), (2, .int (iI v))] dX5_set_28 rfl (by decide) rfl ?_
    refine v_aload_n (pc := 29) C 1 rfl dX5_set_29 ?_
    refine v_getr (pc := 30) C inX5 goX5 (ci := 3) rfl 1 (by decide) (wF_X5_19 G) rfl sh_0 (4) rfl dX5_set_30 ?_
    refine v_iload_n (pc := 33) C 2 rfl dX5_set_33 ?_
    refine v_iload_n (pc := 34) C 3 rfl dX5_set_34 ?_
    refine v_cs (pc := 35) (as := [.ref (bs γ + 4), .int (iI w), .int (iI v)]) C (cy_X0_trySet G) (wM_X5_231 G) (k_X0_trySet G hN hR h (by first | omega | assumption) (by first | omega | assumption)) dX5_set_35 rfl rfl (by decide) (by decide) (Nat.le_of_ble_eq_true rfl) zc (k_I (fun z35 s35 q35 => ?_))
    rcases q35 with ⟨rfl, q35, α9, hR9, rfl⟩ | ⟨rfl, q35, rfl⟩
    · refine v_pop (pc := 38) C rfl dX5_set_38 ?_
      refine v_iload_n (pc := 39) C 0 rfl dX5_set_39 ?_
      exact v_iretX (pc := 40) C hr (rfl) dX5_set_40 (⟨_, rfl, cQ_ok (z' := n (4 + w)) (by unfold op_set; rw [if_neg (by omega)]) (by assumption) (hC9.now hR9) (fun c hc => (setN_out _ _ _ (by omega)).trans (hF8 c hc))⟩)
    · exact absurd (by omega) q35
  · exact v_csT (pc := 5) (as := [.int (iI 2)]) C hq (cy_X5_refuse G) (wM_X5_181 G) (k_X5_refuse2 G) dX5_set_5 rfl rfl (by decide) (by decide) (Nat.le_of_ble_eq_true rfl) (fun _ _ h => h) (by rintro E σ9 ⟨rfl, rfl⟩; exact (⟨rfl, cX_no (by unfold op_set; rw [if_pos (by omega)]) (hC0) (hF0)⟩))

set_option maxHeartbeats 4000000 in
set_option maxRecDepth 100000 in
theorem k_X5_ticks {γ : Gm} (G : Glo γ) {σ : St} {s a : Int} {t n d k i : Int → Int} {m : Int} (hC : CRep σ s a t n d k i) (hO : AOk s a t n d k i) (hm : R3 m)  : Cxx γ yX5_ticks cX5_ticks 2 (some .int) 6 [.ref (bs γ + 0), .int (iI m)] σ (pI (fun z σ2 => cQ σ (op_ticks s a t n d k i m) z σ2)) (fun E σ2 => (E = eA ∧ cX σ (op_ticks s a t n d k i m) 1 σ2)) := by
  refine Cxx.of G (by decide +kernel) (Nat.le_of_ble_eq_true rfl) (fun φ C hq hr => ?_)
  have C : Cx γ φ RX5 cX5_ticks 2 6 := C
  obtain ⟨hO1, hO2, hO3, h, hO5, hO6⟩ := id hO
  have hN : NetB 4 := Or.inl rfl
  have hT : NetB 203 := Or.inr (Or.inl rfl)
  obtain ⟨α, hα⟩ : ∃ α, α = getN σ 4 := ⟨_, rfl⟩
  have hR : Rep α n := by rw [hα]; exact hC.2.2.1
  refine v_st (show σ = setN σ 4 α from by rw [hα]; exact (setN_eta σ 4).symm) ?_
  have hC0 : CRep (setN σ 4 α) s a t n d k i := hC.now hR
  have hF0 : ∀ c, 255 ≤ c → setN σ 4 α c = σ c := fun c hc => setN_out _ _ _ (by omega)
  have hn0 := h.1
  have hn1 := h.2.1
  have hn4 := h.2.2.1
  have hn5 := h.2.2.2.1
  refine v_lv [(0, .ref (bs γ + 0)), (1, .int (iI m))] [0, 1] rfl ?_
  refine v_iload_n (pc := 0) C 1 rfl dX5_ticks_0 ?_
  refine v_cs (pc := 1) (as := [.int (iI m)]) C (cy_X0_faultOfTicks G) (wM_X5_234 G) (k_X0_faultOfTicks G (by first | omega | assumption)) dX5_ticks_1 rfl rfl (by decide) (by decide) (Nat.le_of_ble_eq_true rfl) zc (k_I (fun z1 s1 q1 => ?_))
  rcases q1 with ⟨⟨rfl, q1⟩ | ⟨rfl, q1⟩, rfl⟩
  · refine v_cs (pc := 4) (as := [.int (iI 0)]) C (cy_X5_refuse G) (wM_X5_181 G) (k_X5_refuse0 G) dX5_ticks_4 rfl rfl (by decide) (by decide) (Nat.le_of_ble_eq_true rfl) zc (k_V (fun s4 q4 => ?_))
    subst q4
    refine v_aload_n (pc := 7) C 0 rfl dX5_ticks_7 ?_
    refine v_getr (pc := 8) C inX5 goX5 (ci := 3) rfl 2 (by decide) (wF_X5_26 G) rfl sh_0 (17) rfl dX5_ticks_8 ?_
    refine v_aload_n (pc := 11) C 0 rfl dX5_ticks_11 ?_
    refine v_getr (pc := 12) C inX5 goX5 (ci := 3) rfl 1 (by decide) (wF_X5_19 G) rfl sh_0 (4) rfl dX5_ticks_12 ?_
    refine v_cv (pc := 15) (as := [.ref (bs γ + 4)]) C (cy_X1_keep G) (wM_X5_185 G) sh_17 (ci := 0) rfl rfl (k_X1_keep G hC0.2.2.2.1 hO2 hC0.2.2.1 h) dX5_ticks_15 rfl rfl (by decide) (by decide) (Nat.le_of_ble_eq_true rfl) zc (k_V (fun s15 q15 => ?_))
    obtain ⟨hM9, hF9⟩ := q15
    have hC9 : CRep s15 s (remA a) t n (remD a n d) k i := hC0.mem hM9 hF9
    have hF8 : ∀ c, 255 ≤ c → s15 c = σ c := fun c hc => (hF9 c (by omega)).trans (hF0 c hc)
    obtain ⟨α5, hα5⟩ : ∃ α5, α5 = getN s15 4 := ⟨_, rfl⟩
    have hR : Rep α5 n := by rw [hα5]; exact hC9.2.2.1
    refine v_st (show s15 = setN s15 4 α5 from by rw [hα5]; exact (setN_eta s15 4).symm) ?_
    refine v_aload_n (pc := 18) C 0 rfl dX5_ticks_18 ?_
    refine v_getr (pc := 19) C inX5 goX5 (ci := 3) rfl 5 (by decide) (wF_X5_38 G) rfl sh_0 (203) rfl dX5_ticks_19 ?_
    refine v_aload_n (pc := 22) C 0 rfl dX5_ticks_22 ?_
    refine v_getr (pc := 23) C inX5 goX5 (ci := 3) rfl 1 (by decide) (wF_X5_19 G) rfl sh_0 (4) rfl dX5_ticks_23 ?_
    refine v_cv (pc := 26) (as := [.ref (bs γ + 4)]) C (cy_X2_copyFrom G) (wM_X5_237 G) sh_203 (ci := 1) rfl rfl (k_X2_copyFrom G hT hN (by omega)) dX5_ticks_26 rfl rfl (by decide) (by decide) (Nat.le_of_ble_eq_true rfl) zc (k_V (fun s26 q26 => ?_))
    obtain ⟨β9, c0, c1, rfl⟩ := q26
    have hT9 : Rep β9 n := Rep_of_copy (n := 203) (m := 4) hR h (fun k hk => setN_at _ _ _ hk) c0 c1
    refine v_st (setN_comm _ _ _ (by omega)) ?_
    refine v_aload_n (pc := 29) C 0 rfl dX5_ticks_29 ?_
    refine v_getr (pc := 30) C inX5 goX5 (ci := 3) rfl 1 (by decide) (wF_X5_19 G) rfl sh_0 (4) rfl dX5_ticks_30 ?_
    refine v_iload_n (pc := 33) C 1 rfl dX5_ticks_33 ?_
    refine v_cs (pc := 34) (as := [.ref (bs γ + 4), .int (iI m)]) C (cy_X0_tryTicks G) (wM_X5_240 G) (k_X0_tryTicks G hN hR h (by first | omega | assumption)) dX5_ticks_34 rfl rfl (by decide) (by decide) (Nat.le_of_ble_eq_true rfl) zc (k_I (fun z34 s34 q34 => ?_))
    rcases q34 with ⟨rfl, q34, α9, hR9, rfl⟩ | ⟨rfl, q34, rfl⟩
    · refine v_pop (pc := 37) C rfl dX5_ticks_37 ?_
      refine v_aload_n (pc := 38) C 0 rfl dX5_ticks_38 ?_
      refine v_getr (pc := 39) C inX5 goX5 (ci := 3) rfl 1 (by decide) (wF_X5_19 G) rfl sh_0 (4) rfl dX5_ticks_39 ?_
      refine v_aload_n (pc := 42) C 0 rfl dX5_ticks_42 ?_
      refine v_getr (pc := 43) C inX5 goX5 (ci := 3) rfl 5 (by decide) (wF_X5_38 G) rfl sh_0 (203) rfl dX5_ticks_43 ?_
      refine v_cv (pc := 46) (as := [.ref (bs γ + 203)]) C (cy_X2_legsUnlike G) (wM_X5_243 G) sh_4 (ci := 1) rfl rfl (k_X2_legsUnlike G (getN_at _ _ _ hR9) (by rw [getN_out _ _ (by omega)]; exact getN_at _ _ _ hT9) (runR_Wf h m.toNat).1 (runR_Wf h m.toNat).2.1.symm) dX5_ticks_46 rfl rfl (by decide) (by decide) (Nat.le_of_ble_eq_true rfl) zc (k_I (fun z46 s46 q46 => ?_))
      obtain ⟨ez46, rfl⟩ := q46
      exact v_iretX (pc := 49) C hr (rfl) dX5_ticks_49 (⟨_, rfl, cQ_ok (z' := diffR (runR n m.toNat) n (n 0).toNat) (by unfold op_ticks; rw [if_neg (by omega)]) (by rw [(runR_Wf h m.toNat).2.1] at ez46; exact ez46) ((hC9.oth (Or.inl rfl)).now hR9) (fun c hc => ((setN_out _ _ _ (by omega)).trans (setN_out _ _ _ (by omega))).trans (hF8 c hc))⟩)
    · exact absurd (by omega) q34
  · exact v_csT (pc := 4) (as := [.int (iI 2)]) C hq (cy_X5_refuse G) (wM_X5_181 G) (k_X5_refuse2 G) dX5_ticks_4 rfl rfl (by decide) (by decide) (Nat.le_of_ble_eq_true rfl) (fun _ _ h => h) (by rintro E σ9 ⟨rfl, rfl⟩; exact (⟨rfl, cX_no (by unfold op_ticks; rw [if_pos (by omega)]) (hC0) (hF0)⟩))
