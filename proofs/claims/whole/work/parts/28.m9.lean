set_option maxHeartbeats 4000000 in
set_option maxRecDepth 100000 in
theorem k_X6_rests {γ : Gm} (G : Glo γ) {σ : St} {w s a p u : Int} {t n x f d k i : Int → Int} (hX : Wf x) : Ct γ yX6_rests cX6_rests 3 (some .boolean) 6 [.ref (bs γ + 255), .ref (bs γ + 258)] (mS σ w s a p u t n x f d k i) (pI (fun z σ2 => (z = 1 ∧ restsR x ∨ z = 0 ∧ ¬ restsR x) ∧ σ2 = mS σ w s a p u t n x (tickR x) d k i)) := by
  refine Ct.of G (by decide +kernel) (Nat.le_of_ble_eq_true rfl) (fun φ C hr => ?_)
  have C : Cx γ φ RX6 cX6_rests 3 6 := C
  refine v_lv [(0, .ref (bs γ + 255)), (1, .ref (bs γ + 258))] [0, 1] rfl ?_
  refine v_aload_n (pc := 0) C 1 rfl dX6_rests_0 ?_
  refine v_iconst (pc := 1) C dX6_rests_1 ?_
  refine v_aload_n (pc := 2) C 0 rfl dX6_rests_2 ?_
  refine v_getr (pc := 3) C inX6 goX6 (ci := 4) rfl 5 (by decide) (wF_X6_19 G) rfl sh_255 (259) rfl dX6_rests_3 ?_
  refine v_iconst (pc := 6) C dX6_rests_6 ?_
  refine v_ok (fun hz => ?_)
  refine v_cs (pc := 7) (as := [.ref (bs γ + 258), .int (iI 0), .ref (bs γ + 259), .int (iI 0)]) C (cy_X6_copyState G) (wM_X6_93 G) (copyR G ⟨sh_258, by decide⟩ ⟨sh_259, by decide⟩ (by decide) (by omega) hz) dX6_rests_7 rfl rfl (by decide) (by decide) (Nat.le_of_ble_eq_true rfl) zc (k_V (fun s7 q7 => ?_))
  subst q7
  rw [blk0 hz sh_258, mS_o259, mS_x]
  refine v_aload_n (pc := 10) C 0 rfl dX6_rests_10 ?_
  refine v_getr (pc := 11) C inX6 goX6 (ci := 4) rfl 5 (by decide) (wF_X6_19 G) rfl sh_255 (259) rfl dX6_rests_11 ?_
  refine v_st (mS_i259 _ _ _ _ _ _ _ _ _ _ _ _ _ ) ?_
  refine v_cs (pc := 14) (as := [.ref (bs γ + 259)]) C (cy_X6_tick G) (wM_X6_90 G) (k_X6_tick G (⟨sh_259, by decide⟩ : sh 259 = (0, 268) ∧ 268 ≤ 4000) hX) dX6_rests_14 rfl rfl (by decide) (by decide) (Nat.le_of_ble_eq_true rfl) zc (k_V (fun s14 q14 => ?_))
  subst q14
  rw [mS_o259]
  refine v_bipush (pc := 17) C (by decide +kernel) dX6_rests_17 ?_
  refine v_istore_n (pc := 19) C [(2, .int (iI 6)), (0, .ref (bs γ + 255)), (1, .ref (bs γ + 258))] dX6_rests_19 rfl (by decide) rfl ?_
  have L20 : ∀ (fu : Nat) (j : Nat), (hj : j ≤ 262) → (hall : ∀ m : Nat, m < j → x (6 + (m : Int)) = tickR x (6 + (m : Int))) → 262 - j < fu → Vw γ φ 3 0 0 (QE γ φ (pI (fun z σ2 => (z = 1 ∧ restsR x ∨ z = 0 ∧ ¬ restsR x) ∧ σ2 = mS σ w s a p u t n x (tickR x) d k i))) (mS σ w s a p u t n x (tickR x) d k i) 20 [(2, .int (iI (6 + (j : Int)))), (1, .ref (bs γ + 258)), (0, .ref (bs γ + 255))] [] := by
    intro fu
    induction fu with
    | zero => intro j hj hall hz; exact absurd hz (Nat.not_lt_zero _)
    | succ fu ih =>
      intro j hj hall hz
      refine v_iload_n (pc := 20) C 0 rfl dX6_rests_20 ?_
      refine v_sipush (pc := 21) C (by decide +kernel) dX6_rests_21 ?_
      refine v_icmp_ge (pc := 24) C 47 (by first | omega | assumption) (by first | omega | assumption) dX6_rests_24 (by decide) (fun h24 => ?_) (fun h24 => ?_)
      · refine v_iconst (pc := 47) C dX6_rests_47 ?_
        exact v_iret (pc := 48) C hr (rfl) dX6_rests_48 (⟨_, rfl, Or.inl ⟨rfl, fun m hm => hall m (by omega)⟩, rfl⟩)
      · refine v_aload_n (pc := 27) C 1 rfl dX6_rests_27 ?_
        refine v_iload_n (pc := 28) C 0 rfl dX6_rests_28 ?_
        refine v_iald (pc := 29) C sh_258 (by decide) (by first | omega | assumption) dX6_rests_29 (fun z29 ez29 rz29 => ?_)
        rw [mS_x] at ez29
        refine v_aload_n (pc := 30) C 2 rfl dX6_rests_30 ?_
        refine v_getr (pc := 31) C inX6 goX6 (ci := 4) rfl 5 (by decide) (wF_X6_19 G) rfl sh_255 (259) rfl dX6_rests_31 ?_
        refine v_iload_n (pc := 34) C 0 rfl dX6_rests_34 ?_
        refine v_iald (pc := 35) C sh_259 (by decide) (by first | omega | assumption) dX6_rests_35 (fun z35 ez35 rz35 => ?_)
        rw [mS_f] at ez35
        refine v_icmp_eq (pc := 36) C 41 (by first | omega | assumption) (by first | omega | assumption) dX6_rests_36 (by decide) (fun h36 => ?_) (fun h36 => ?_)
        · refine v_iinc (pc := 41) C 0 [(2, .int (iI ((6 + (j : Int)) + 1))), (1, .ref (bs γ + 258)), (0, .ref (bs γ + 255))] dX6_rests_41 rfl (by decide) rfl ?_
          refine v_goto (pc := 44) C 20 dX6_rests_44 (by decide) ?_
          have hall2 : ∀ m : Nat, m < j + 1 → x (6 + (m : Int)) = tickR x (6 + (m : Int)) := by
            intro m hm
            by_cases e : m = j
            · rw [e, ← ez29, ← ez35]; omega
            · exact hall m (by omega)
          exact v_lv _ [0, 1, 2] (by rw [show (6 + ((j + 1 : Nat) : Int)) = 6 + (j : Int) + 1 by omega]; rfl) (ih (j + 1) (by omega) hall2 (by omega))
        · refine v_iconst (pc := 39) C dX6_rests_39 ?_
          exact v_iret (pc := 40) C hr (rfl) dX6_rests_40 (⟨_, rfl, Or.inr ⟨rfl, fun hh => by have := hh j (by omega); omega⟩, rfl⟩)
  exact v_lv _ [0, 2, 1] (by rw [show (6 + ((0 : Nat) : Int)) = 6 by omega]; rfl) (L20 263 0 (by omega) (fun m hm => absurd hm (Nat.not_lt_zero _)) (by omega))

set_option maxHeartbeats 4000000 in
set_option maxRecDepth 100000 in
theorem k_X6_restIn {γ : Gm} (G : Glo γ) {σ : St} {w s a p u : Int} {t n x f d k i : Int → Int}  (hW : Wf n) : Ct γ yX6_restIn cX6_restIn 2 (some .int) 8 [.ref (bs γ + 255)] (mS σ w s a p u t n x f d k i) (pI (fun z σ2 => mQ σ (op_restIn s a t n d k i) z σ2)) := by
  refine Ct.of G (by decide +kernel) (Nat.le_of_ble_eq_true rfl) (fun φ C hr => ?_)
  have C : Cx γ φ RX6 cX6_restIn 2 8 := C
  obtain ⟨V, hV⟩ : ∃ V, V = restL 301 n 0 := ⟨_, rfl⟩
  refine v_lv [(0, .ref (bs γ + 255))] [0] rfl ?_
  refine v_aload_n (pc := 0) C 0 rfl dX6_restIn_0 ?_
  refine v_iconst (pc := 1) C dX6_restIn_1 ?_
  refine v_puti (pc := 2) C inX6 goX6 (ci := 4) rfl 0 (by decide) (wF_X6_36 G) rfl sh_255 tyX6 tyX6_ok nmX6 rfl rfl (fun _ => Nat.le_of_ble_eq_true rfl) (fun _ _ => ob_set_X6_0) (by first | omega | assumption) dX6_restIn_2 ?_
  refine v_st (mS_f0 _ _ _ _ _ _ _ _ _ _ _ _ _ _ ) ?_
  refine v_aload_n (pc := 5) C 0 rfl dX6_restIn_5 ?_
  refine v_getr (pc := 6) C inX6 goX6 (ci := 4) rfl 3 (by decide) (wF_X6_13 G) rfl sh_255 (257) rfl dX6_restIn_6 ?_
  refine v_iconst (pc := 9) C dX6_restIn_9 ?_
  refine v_aload_n (pc := 10) C 0 rfl dX6_restIn_10 ?_
  refine v_getr (pc := 11) C inX6 goX6 (ci := 4) rfl 4 (by decide) (wF_X6_16 G) rfl sh_255 (258) rfl dX6_restIn_11 ?_
  refine v_iconst (pc := 14) C dX6_restIn_14 ?_
  refine v_ok (fun hz => ?_)
  refine v_cs (pc := 15) (as := [.ref (bs γ + 257), .int (iI 0), .ref (bs γ + 258), .int (iI 0)]) C (cy_X6_copyState G) (wM_X6_93 G) (copyR G ⟨sh_257, by decide⟩ ⟨sh_258, by decide⟩ (by decide) (by omega) hz) dX6_restIn_15 rfl rfl (by decide) (by decide) (Nat.le_of_ble_eq_true rfl) zc (k_V (fun s15 q15 => ?_))
  subst q15
  rw [blk0 hz sh_257, mS_o258, mS_n]
  refine v_iconst (pc := 18) C dX6_restIn_18 ?_
  refine v_istore_n (pc := 19) C [(1, .int (iI 0)), (0, .ref (bs γ + 255))] dX6_restIn_19 rfl (by decide) rfl ?_
  have L20 : ∀ (fu : Nat) (fl : Nat) (q : Int) (r g : Int → Int), (hrr : V = restL fl r q) → (hq : 0 ≤ q ∧ q + fl = 301) → (hX : Wf r) → fl < fu → Vw γ φ 2 0 0 (QE γ φ (pI (fun z σ2 => mQ σ (op_restIn s a t n d k i) z σ2))) (mS σ 0 s a p u t n r g d k i) 20 [(1, .int (iI q)), (0, .ref (bs γ + 255))] [] := by
    intro fu
    induction fu with
    | zero => intro fl q r g hrr hq hX hz; exact absurd hz (Nat.not_lt_zero _)
    | succ fu ih =>
      intro fl q r g hrr hq hX hz
      refine v_iload_n (pc := 20) C 0 rfl dX6_restIn_20 ?_
      refine v_sipush (pc := 21) C (by decide +kernel) dX6_restIn_21 ?_
      refine v_icmp_gt (pc := 24) C 53 (by first | omega | assumption) (by first | omega | assumption) dX6_restIn_24 (by decide) (fun h24 => ?_) (fun h24 => ?_)
      · obtain rfl : fl = 0 := by omega
        refine v_iconst (pc := 53) C dX6_restIn_53 ?_
        exact v_iret (pc := 54) C hr (rfl) dX6_restIn_54 (⟨_, rfl, mQ_ok (z' := restL 301 n 0) (by unfold op_restIn; rfl) (by rw [← hV, hrr]; try rfl)⟩)
      · obtain ⟨fl2, rfl⟩ : ∃ g, fl = g + 1 := ⟨fl - 1, by omega⟩
        unfold restL at hrr
        refine v_aload_n (pc := 27) C 1 rfl dX6_restIn_27 ?_
        refine v_aload_n (pc := 28) C 1 rfl dX6_restIn_28 ?_
        refine v_getr (pc := 29) C inX6 goX6 (ci := 4) rfl 4 (by decide) (wF_X6_16 G) rfl sh_255 (258) rfl dX6_restIn_29 ?_
        refine v_cv (pc := 32) (as := [.ref (bs γ + 258)]) C (cy_X6_rests G) (wM_X6_209 G) sh_255 (ci := 4) rfl rfl (k_X6_rests G ‹_›) dX6_restIn_32 rfl rfl (by decide) (by decide) (Nat.le_of_ble_eq_true rfl) zc (k_I (fun z32 s32 q32 => ?_))
        rcases q32 with ⟨⟨rfl, q32⟩ | ⟨rfl, q32⟩, rfl⟩
        · rw [if_pos q32] at hrr
          refine v_if_eq (pc := 35) C 40 (by first | omega | assumption) dX6_restIn_35 (by decide) (fun h => absurd h (by decide)) (fun _ => ?_)
          refine v_iload_n (pc := 38) C 0 rfl dX6_restIn_38 ?_
          exact v_iret (pc := 39) C hr (rfl) dX6_restIn_39 (⟨_, rfl, mQ_ok (z' := restL 301 n 0) (by unfold op_restIn; rfl) (by rw [← hV, hrr]; try rfl)⟩)
        · rw [if_neg q32] at hrr
          refine v_if_eq (pc := 35) C 40 (by first | omega | assumption) dX6_restIn_35 (by decide) (fun _ => ?_) (fun h => absurd h (by decide))
          refine v_aload_n (pc := 40) C 1 rfl dX6_restIn_40 ?_
          refine v_getr (pc := 41) C inX6 goX6 (ci := 4) rfl 4 (by decide) (wF_X6_16 G) rfl sh_255 (258) rfl dX6_restIn_41 ?_
          refine v_st (mS_i258 _ _ _ _ _ _ _ _ _ _ _ _ _ ) ?_
          refine v_cs (pc := 44) (as := [.ref (bs γ + 258)]) C (cy_X6_tick G) (wM_X6_90 G) (k_X6_tick G (⟨sh_258, by decide⟩ : sh 258 = (0, 268) ∧ 268 ≤ 4000) ‹_›) dX6_restIn_44 rfl rfl (by decide) (by decide) (Nat.le_of_ble_eq_true rfl) zc (k_V (fun s44 q44 => ?_))
          subst q44
          rw [mS_o258]
          refine v_iinc (pc := 47) C 0 [(1, .int (iI (q + 1))), (0, .ref (bs γ + 255))] dX6_restIn_47 rfl (by decide) rfl ?_
          refine v_goto (pc := 50) C 20 dX6_restIn_50 (by decide) ?_
          exact v_lv _ [0, 1] rfl (ih fl2 (q + 1) _ _ hrr (by omega) (tickR_Wf hX).1 (by omega))
  exact v_lv _ [0, 1] rfl (L20 302 301 0 n f hV (by omega) hW (by omega))

set_option maxHeartbeats 4000000 in
set_option maxRecDepth 100000 in
theorem k_X6_beatOf {γ : Gm} (G : Glo γ) {σ : St} {w s a p u : Int} {t n x f d k i : Int → Int} {v : Int} (hX : Wf x) (hv : 0 ≤ v ∧ v < x 0) : Ct γ yX6_beatOf cX6_beatOf 5 (some .int) 8 [.ref (bs γ + 255), .int (iI v)] (mS σ w s a p u t n x f d k i) (pI (fun z σ2 => (z = beatR x v ∧ R3 z) ∧ ∃ x9, σ2 = mS σ w s a p u t n x9 f d k i)) := by
  refine Ct.of G (by decide +kernel) (Nat.le_of_ble_eq_true rfl) (fun φ C hr => ?_)
  have C : Cx γ φ RX6 cX6_beatOf 5 8 := C
  obtain ⟨V, hV⟩ : ∃ V, V = beatR x v := ⟨_, rfl⟩
  have hn0 := hX.1
  obtain ⟨hr1, hr2, hr3⟩ := runR_Wf hX 100
  refine v_lv [(0, .ref (bs γ + 255)), (1, .int (iI v))] [0, 1] rfl ?_
  refine v_aload_n (pc := 0) C 0 rfl dX6_beatOf_0 ?_
  refine v_getr (pc := 1) C inX6 goX6 (ci := 4) rfl 4 (by decide) (wF_X6_16 G) rfl sh_255 (258) rfl dX6_beatOf_1 ?_
  refine v_bipush (pc := 4) C (by decide +kernel) dX6_beatOf_4 ?_
  refine v_st (mS_i258 _ _ _ _ _ _ _ _ _ _ _ _ _ ) ?_
  refine v_cs (pc := 6) (as := [.ref (bs γ + 258), .int (iI 100)]) C (cy_X6_run G) (wM_X6_97 G) (k_X6_run G (⟨sh_258, by decide⟩ : sh 258 = (0, 268) ∧ 268 ≤ 4000) hX (by decide)) dX6_beatOf_6 rfl rfl (by decide) (by decide) (Nat.le_of_ble_eq_true rfl) zc (k_V (fun s6 q6 => ?_))
  subst q6
  rw [mS_o258]
  refine v_st (show _ = mS σ w s a p u t n (runR x 100) f d k i from rfl) ?_
  refine v_iconst (pc := 9) C dX6_beatOf_9 ?_
  refine v_istore_n (pc := 10) C [(2, .int (iI (-1))), (0, .ref (bs γ + 255)), (1, .int (iI v))] dX6_beatOf_10 rfl (by decide) rfl ?_
  refine v_iconst (pc := 11) C dX6_beatOf_11 ?_
  refine v_istore_n (pc := 12) C [(3, .int (iI 1)), (2, .int (iI (-1))), (0, .ref (bs γ + 255)), (1, .int (iI v))] dX6_beatOf_12 rfl (by decide) rfl ?_
  have L13 : ∀ (fu : Nat) (fl : Nat) (q b : Int) (r : Int → Int), (hrr : V = beatL v fl r q b) → (hq : 1 ≤ q ∧ q + fl = 201) → (hb : b = -1 ∨ 1 ≤ b ∧ b < q) → (hR : Wf r) → (hr0 : r 0 = x 0) → fl < fu → Vw γ φ 5 0 0 (QE γ φ (pI (fun z σ2 => (z = beatR x v ∧ R3 z) ∧ ∃ x9, σ2 = mS σ w s a p u t n x9 f d k i))) (mS σ w s a p u t n r f d k i) 13 [(3, .int (iI q)), (2, .int (iI b)), (1, .int (iI v)), (0, .ref (bs γ + 255))] [] := by
    intro fu
    induction fu with
    | zero => intro fl q b r hrr hq hb hR hr0 hz; exact absurd hz (Nat.not_lt_zero _)
    | succ fu ih =>
      intro fl q b r hrr hq hb hR hr0 hz
      refine v_iload_n (pc := 13) C 0 rfl dX6_beatOf_13 ?_
      refine v_sipush (pc := 14) C (by decide +kernel) dX6_beatOf_14 ?_
      refine v_icmp_gt (pc := 17) C 72 (by first | omega | assumption) (by first | omega | assumption) dX6_beatOf_17 (by decide) (fun h17 => ?_) (fun h17 => ?_)
      · obtain rfl : fl = 0 := by omega
        refine v_iconst (pc := 72) C dX6_beatOf_72 ?_
        exact v_iret (pc := 73) C hr (rfl) dX6_beatOf_73 (⟨_, rfl, ⟨by rw [← hV, hrr]; try rfl, by decide⟩, _, rfl⟩)
      · obtain ⟨fl2, rfl⟩ : ∃ g, fl = g + 1 := ⟨fl - 1, by omega⟩
        unfold beatL at hrr
        obtain ⟨-, -, -, hl3, -⟩ := hR.2.2.2.2.1 v (by omega) (by omega)
        refine v_aload_n (pc := 20) C 3 rfl dX6_beatOf_20 ?_
        refine v_getr (pc := 21) C inX6 goX6 (ci := 4) rfl 4 (by decide) (wF_X6_16 G) rfl sh_255 (258) rfl dX6_beatOf_21 ?_
        refine v_iload_n (pc := 24) C 2 rfl dX6_beatOf_24 ?_
        refine v_iconst (pc := 25) C dX6_beatOf_25 ?_
        refine v_st (mS_i258 _ _ _ _ _ _ _ _ _ _ _ _ _ ) ?_
        refine v_cs (pc := 26) (as := [.ref (bs γ + 258), .int (iI v), .int (iI 3)]) C (cy_X6_of G) (wM_X6_48 G) (k_X6_of G (⟨sh_258, by decide⟩ : sh 258 = (0, 268) ∧ 268 ≤ 4000) (by omega)) dX6_beatOf_26 rfl rfl (by decide) (by decide) (Nat.le_of_ble_eq_true rfl) zc (k_I (fun z26 s26 q26 => ?_))
        obtain ⟨⟨ez26, rz26⟩, rfl⟩ := q26
        rw [mS_o258]
        refine v_istore (pc := 29) C [(4, .int (iI z26)), (3, .int (iI q)), (2, .int (iI b)), (1, .int (iI v)), (0, .ref (bs γ + 255))] dX6_beatOf_29 (by decide) rfl ?_
        refine v_aload_n (pc := 31) C 4 rfl dX6_beatOf_31 ?_
        refine v_getr (pc := 32) C inX6 goX6 (ci := 4) rfl 4 (by decide) (wF_X6_16 G) rfl sh_255 (258) rfl dX6_beatOf_32 ?_
        refine v_st (mS_i258 _ _ _ _ _ _ _ _ _ _ _ _ _ ) ?_
        refine v_cs (pc := 35) (as := [.ref (bs γ + 258)]) C (cy_X6_tick G) (wM_X6_90 G) (k_X6_tick G (⟨sh_258, by decide⟩ : sh 258 = (0, 268) ∧ 268 ≤ 4000) ‹_›) dX6_beatOf_35 rfl rfl (by decide) (by decide) (Nat.le_of_ble_eq_true rfl) zc (k_V (fun s35 q35 => ?_))
        subst q35
        rw [mS_o258]
        refine v_iload (pc := 38) C 0 rfl dX6_beatOf_38 ?_
        refine v_if_ne (pc := 40) C 66 (by first | omega | assumption) dX6_beatOf_40 (by decide) (fun h40 => ?_) (fun h40 => ?_)
        · refine v_iinc (pc := 66) C 1 [(3, .int (iI (q + 1))), (4, .int (iI z26)), (2, .int (iI b)), (1, .int (iI v)), (0, .ref (bs γ + 255))] dX6_beatOf_66 rfl (by decide) rfl ?_
          refine v_goto (pc := 69) C 13 dX6_beatOf_69 (by decide) ?_
          have htw := tickR_Wf hR
          have ht0 := htw.2 0 (by omega)
          rw [if_neg (by intro h; have h1 := h.1; have h2 := h.2; omega)] at hrr
          exact v_lv _ [0, 2, 3, 4] rfl (ih fl2 _ _ _ hrr (by omega) (by omega) htw.1 (by omega) (by omega))
        · refine v_aload_n (pc := 43) C 4 rfl dX6_beatOf_43 ?_
          refine v_getr (pc := 44) C inX6 goX6 (ci := 4) rfl 4 (by decide) (wF_X6_16 G) rfl sh_255 (258) rfl dX6_beatOf_44 ?_
          refine v_iload_n (pc := 47) C 3 rfl dX6_beatOf_47 ?_
          refine v_iconst (pc := 48) C dX6_beatOf_48 ?_
          refine v_st (mS_i258 _ _ _ _ _ _ _ _ _ _ _ _ _ ) ?_
          refine v_cs (pc := 49) (as := [.ref (bs γ + 258), .int (iI v), .int (iI 3)]) C (cy_X6_of G) (wM_X6_48 G) (k_X6_of G (⟨sh_258, by decide⟩ : sh 258 = (0, 268) ∧ 268 ≤ 4000) (by omega)) dX6_beatOf_49 rfl rfl (by decide) (by decide) (Nat.le_of_ble_eq_true rfl) zc (k_I (fun z49 s49 q49 => ?_))
          obtain ⟨⟨ez49, rz49⟩, rfl⟩ := q49
          rw [mS_o258]
          refine v_if_le (pc := 52) C 66 (by first | omega | assumption) dX6_beatOf_52 (by decide) (fun h52 => ?_) (fun h52 => ?_)
          · refine v_iinc (pc := 66) C 1 [(3, .int (iI (q + 1))), (4, .int (iI z26)), (2, .int (iI b)), (1, .int (iI v)), (0, .ref (bs γ + 255))] dX6_beatOf_66 rfl (by decide) rfl ?_
            refine v_goto (pc := 69) C 13 dX6_beatOf_69 (by decide) ?_
            have htw := tickR_Wf hR
            have ht0 := htw.2 0 (by omega)
            rw [if_neg (by intro h; have h1 := h.1; have h2 := h.2; omega)] at hrr
            exact v_lv _ [0, 2, 3, 4] rfl (ih fl2 _ _ _ hrr (by omega) (by omega) htw.1 (by omega) (by omega))
          · refine v_iload_n (pc := 55) C 2 rfl dX6_beatOf_55 ?_
            refine v_iconst (pc := 56) C dX6_beatOf_56 ?_
            refine v_icmp_eq (pc := 57) C 64 (by first | omega | assumption) (by first | omega | assumption) dX6_beatOf_57 (by decide) (fun h57 => ?_) (fun h57 => ?_)
            · refine v_iload_n (pc := 64) C 1 rfl dX6_beatOf_64 ?_
              refine v_istore_n (pc := 65) C [(2, .int (iI q)), (4, .int (iI z26)), (3, .int (iI q)), (1, .int (iI v)), (0, .ref (bs γ + 255))] dX6_beatOf_65 rfl (by decide) rfl ?_
              refine v_iinc (pc := 66) C 2 [(3, .int (iI (q + 1))), (2, .int (iI q)), (4, .int (iI z26)), (1, .int (iI v)), (0, .ref (bs γ + 255))] dX6_beatOf_66 rfl (by decide) rfl ?_
              refine v_goto (pc := 69) C 13 dX6_beatOf_69 (by decide) ?_
              have htw := tickR_Wf hR
              have ht0 := htw.2 0 (by omega)
              rw [if_pos ⟨by omega, by omega⟩, if_pos (by omega)] at hrr
              exact v_lv _ [0, 1, 3, 4] rfl (ih fl2 _ _ _ hrr (by omega) (by omega) htw.1 (by omega) (by omega))
            · refine v_iload_n (pc := 60) C 1 rfl dX6_beatOf_60 ?_
              refine v_iload_n (pc := 61) C 2 rfl dX6_beatOf_61 ?_
              refine v_isub (pc := 62) C dX6_beatOf_62 ?_
              exact v_iret (pc := 63) C hr (rfl) dX6_beatOf_63 (⟨_, rfl, ⟨by rw [← hV, hrr, if_pos ⟨by omega, by omega⟩, if_neg (by omega)], by omega⟩, _, rfl⟩)
  exact v_lv _ [0, 1, 3, 2] rfl (L13 201 200 1 (-1) _ hV (by omega) (by omega) hr1 hr2 (by omega))

set_option maxHeartbeats 4000000 in
set_option maxRecDepth 100000 in
theorem k_X6_beat {γ : Gm} (G : Glo γ) {σ : St} {w s a p u : Int} {t n x f d k i : Int → Int} {v : Int} (hv : R3 v) (hW : Wf n) : Ct γ yX6_beat cX6_beat 2 (some .int) 9 [.ref (bs γ + 255), .int (iI v)] (mS σ w s a p u t n x f d k i) (pI (fun z σ2 => mQ σ (op_beat s a t n d k i v) z σ2)) := by
  refine Ct.of G (by decide +kernel) (Nat.le_of_ble_eq_true rfl) (fun φ C hr => ?_)
  have C : Cx γ φ RX6 cX6_beat 2 9 := C
  have hn0 := hW.1
  have hn1 := hW.2.1
  have hn4 := hW.2.2.1
  have hn5 := hW.2.2.2.1
  refine v_lv [(0, .ref (bs γ + 255)), (1, .int (iI v))] [0, 1] rfl ?_
  refine v_aload_n (pc := 0) C 0 rfl dX6_beat_0 ?_
  refine v_aload_n (pc := 1) C 0 rfl dX6_beat_1 ?_
  refine v_getr (pc := 2) C inX6 goX6 (ci := 4) rfl 3 (by decide) (wF_X6_13 G) rfl sh_255 (257) rfl dX6_beat_2 ?_
  refine v_iload_n (pc := 5) C 1 rfl dX6_beat_5 ?_
  refine v_st (mS_i257 _ _ _ _ _ _ _ _ _ _ _ _ _ ) ?_
  refine v_cs (pc := 6) (as := [.ref (bs γ + 257), .int (iI v)]) C (cy_X6_isValve G) (wM_X6_44 G) (k_X6_isValve G (⟨sh_257, by decide⟩ : sh 257 = (0, 268) ∧ 268 ≤ 4000) (by first | omega | assumption) (by first | omega | assumption)) dX6_beat_6 rfl rfl (by decide) (by decide) (Nat.le_of_ble_eq_true rfl) zc (k_I (fun z6 s6 q6 => ?_))
  rcases q6 with ⟨⟨rfl, q6⟩ | ⟨rfl, q6⟩, rfl⟩
  · rw [mS_o257]
    refine v_if_eq (pc := 9) C 16 (by first | omega | assumption) dX6_beat_9 (by decide) (fun h => absurd h (by decide)) (fun _ => ?_)
    refine v_iconst (pc := 12) C dX6_beat_12 ?_
    refine v_goto (pc := 13) C 17 dX6_beat_13 (by decide) ?_
    refine v_cv (pc := 17) (as := [.int (iI 0)]) C (cy_X6_refused G) (wM_X6_124 G) sh_255 (ci := 4) rfl rfl (refN G) dX6_beat_17 rfl rfl (by decide) (by decide) (Nat.le_of_ble_eq_true rfl) zc (k_I (fun z17 s17 q17 => ?_))
    obtain ⟨rfl, rfl⟩ := q17
    refine v_if_eq (pc := 20) C 25 (by first | omega | assumption) dX6_beat_20 (by decide) (fun _ => ?_) (fun h => absurd h (by decide))
    refine v_aload_n (pc := 25) C 0 rfl dX6_beat_25 ?_
    refine v_getr (pc := 26) C inX6 goX6 (ci := 4) rfl 3 (by decide) (wF_X6_13 G) rfl sh_255 (257) rfl dX6_beat_26 ?_
    refine v_iconst (pc := 29) C dX6_beat_29 ?_
    refine v_aload_n (pc := 30) C 0 rfl dX6_beat_30 ?_
    refine v_getr (pc := 31) C inX6 goX6 (ci := 4) rfl 4 (by decide) (wF_X6_16 G) rfl sh_255 (258) rfl dX6_beat_31 ?_
    refine v_iconst (pc := 34) C dX6_beat_34 ?_
    refine v_ok (fun hz => ?_)
    refine v_cs (pc := 35) (as := [.ref (bs γ + 257), .int (iI 0), .ref (bs γ + 258), .int (iI 0)]) C (cy_X6_copyState G) (wM_X6_93 G) (copyR G ⟨sh_257, by decide⟩ ⟨sh_258, by decide⟩ (by decide) (by omega) hz) dX6_beat_35 rfl rfl (by decide) (by decide) (Nat.le_of_ble_eq_true rfl) zc (k_V (fun s35 q35 => ?_))
    subst q35
    rw [blk0 hz sh_257, mS_o258, mS_n]
    refine v_aload_n (pc := 38) C 0 rfl dX6_beat_38 ?_
    refine v_iload_n (pc := 39) C 1 rfl dX6_beat_39 ?_
    refine v_cv (pc := 40) (as := [.int (iI v)]) C (cy_X6_beatOf G) (wM_X6_212 G) sh_255 (ci := 4) rfl rfl (k_X6_beatOf G ‹_› (by omega)) dX6_beat_40 rfl rfl (by decide) (by decide) (Nat.le_of_ble_eq_true rfl) zc (k_I (fun z40 s40 q40 => ?_))
    obtain ⟨⟨ez40, rz40⟩, x9, rfl⟩ := q40
    exact v_iret (pc := 43) C hr (rfl) dX6_beat_43 (⟨_, rfl, mQ_ok (z' := beatR n v) (by unfold op_beat; rw [if_neg (by omega)]) (by assumption)⟩)
  · rw [mS_o257]
    refine v_if_eq (pc := 9) C 16 (by first | omega | assumption) dX6_beat_9 (by decide) (fun _ => ?_) (fun h => absurd h (by decide))
    refine v_iconst (pc := 16) C dX6_beat_16 ?_
    refine v_cv (pc := 17) (as := [.int (iI 1)]) C (cy_X6_refused G) (wM_X6_124 G) sh_255 (ci := 4) rfl rfl (refY G (by decide)) dX6_beat_17 rfl rfl (by decide) (by decide) (Nat.le_of_ble_eq_true rfl) zc (k_I (fun z17_1 s17_1 q17_1 => ?_))
    obtain ⟨rfl, rfl⟩ := q17_1
    refine v_if_eq (pc := 20) C 25 (by first | omega | assumption) dX6_beat_20 (by decide) (fun h => absurd h (by decide)) (fun _ => ?_)
    refine v_iconst (pc := 23) C dX6_beat_23 ?_
    exact v_iret (pc := 24) C hr (rfl) dX6_beat_24 (⟨_, rfl, mQ_no (by unfold op_beat; rw [if_pos (by omega)]) (by decide)⟩)

set_option maxHeartbeats 4000000 in
set_option maxRecDepth 100000 in
theorem k_X6_beatWith {γ : Gm} (G : Glo γ) {σ : St} {w s a p u : Int} {t n x f d k i : Int → Int} {e l v : Int} (hW : Wf n) (he : 0 ≤ e ∧ e < n 1) (hl : 0 ≤ l ∧ l ≤ 30) (hv : 0 ≤ v ∧ v < n 0) : Ct γ yX6_beatWith cX6_beatWith 4 (some .int) 9 [.ref (bs γ + 255), .int (iI e), .int (iI l), .int (iI v)] (mS σ w s a p u t n x f d k i) (pI (fun z σ2 => (z = leakB n e l v ∧ R3 z) ∧ ∃ x9, σ2 = mS σ w s a p u t n x9 f d k i)) := by
  refine Ct.of G (by decide +kernel) (Nat.le_of_ble_eq_true rfl) (fun φ C hr => ?_)
  have C : Cx γ φ RX6 cX6_beatWith 4 9 := C
  have hn0 := hW.1
  have hn1 := hW.2.1
  have hn4 := hW.2.2.1
  have hn5 := hW.2.2.2.1
  have hLk : Wf (upr n (76 + 12 * e + 5) l) := Wf_leak hW he hl
  have hL0 : (upr n (76 + 12 * e + 5) l) 0 = n 0 := upr_ne _ _ (by omega)
  refine v_lv [(0, .ref (bs γ + 255)), (1, .int (iI e)), (2, .int (iI l)), (3, .int (iI v))] [0, 1, 2, 3] rfl ?_
  refine v_aload_n (pc := 0) C 0 rfl dX6_beatWith_0 ?_
  refine v_getr (pc := 1) C inX6 goX6 (ci := 4) rfl 3 (by decide) (wF_X6_13 G) rfl sh_255 (257) rfl dX6_beatWith_1 ?_
  refine v_iconst (pc := 4) C dX6_beatWith_4 ?_
  refine v_aload_n (pc := 5) C 0 rfl dX6_beatWith_5 ?_
  refine v_getr (pc := 6) C inX6 goX6 (ci := 4) rfl 4 (by decide) (wF_X6_16 G) rfl sh_255 (258) rfl dX6_beatWith_6 ?_
  refine v_iconst (pc := 9) C dX6_beatWith_9 ?_
  refine v_ok (fun hz => ?_)
  refine v_cs (pc := 10) (as := [.ref (bs γ + 257), .int (iI 0), .ref (bs γ + 258), .int (iI 0)]) C (cy_X6_copyState G) (wM_X6_93 G) (copyR G ⟨sh_257, by decide⟩ ⟨sh_258, by decide⟩ (by decide) (by omega) hz) dX6_beatWith_10 rfl rfl (by decide) (by decide) (Nat.le_of_ble_eq_true rfl) zc (k_V (fun s10 q10 => ?_))
  subst q10
  rw [blk0 hz sh_257, mS_o258, mS_n]
  refine v_aload_n (pc := 13) C 0 rfl dX6_beatWith_13 ?_
  refine v_getr (pc := 14) C inX6 goX6 (ci := 4) rfl 4 (by decide) (wF_X6_16 G) rfl sh_255 (258) rfl dX6_beatWith_14 ?_
  refine v_bipush (pc := 17) C (by decide +kernel) dX6_beatWith_17 ?_
  refine v_bipush (pc := 19) C (by decide +kernel) dX6_beatWith_19 ?_
  refine v_iload_n (pc := 21) C 1 rfl dX6_beatWith_21 ?_
  refine v_imul (pc := 22) C dX6_beatWith_22 ?_
  refine v_iadd (pc := 23) C dX6_beatWith_23 ?_
  refine v_iconst (pc := 24) C dX6_beatWith_24 ?_
  refine v_iadd (pc := 25) C dX6_beatWith_25 ?_
  refine v_iload_n (pc := 26) C 2 rfl dX6_beatWith_26 ?_
  refine v_iast (pc := 27) C sh_258 (by decide) (by first | omega | assumption) (by first | omega | assumption) dX6_beatWith_27 ?_
  rw [mS_o258, mS_x]
  refine v_aload_n (pc := 28) C 0 rfl dX6_beatWith_28 ?_
  refine v_iload_n (pc := 29) C 3 rfl dX6_beatWith_29 ?_
  refine v_cv (pc := 30) (as := [.int (iI v)]) C (cy_X6_beatOf G) (wM_X6_212 G) sh_255 (ci := 4) rfl rfl (k_X6_beatOf G ‹_› (by omega)) dX6_beatWith_30 rfl rfl (by decide) (by decide) (Nat.le_of_ble_eq_true rfl) zc (k_I (fun z30 s30 q30 => ?_))
  obtain ⟨⟨ez30, rz30⟩, x9, rfl⟩ := q30
  exact v_iret (pc := 33) C hr (rfl) dX6_beatWith_33 (⟨_, rfl, ⟨by assumption, by assumption⟩, _, rfl⟩)

set_option maxHeartbeats 4000000 in
set_option maxRecDepth 100000 in
theorem k_X6_ifLeak {γ : Gm} (G : Glo γ) {σ : St} {w s a p u : Int} {t n x f d k i : Int → Int} {e l v : Int} (he : R3 e) (hl : R3 l) (hv : R3 v) (hW : Wf n) : Ct γ yX6_ifLeak cX6_ifLeak 4 (some .int) 10 [.ref (bs γ + 255), .int (iI e), .int (iI l), .int (iI v)] (mS σ w s a p u t n x f d k i) (pI (fun z σ2 => mQ σ (op_ifLeak s a t n d k i e l v) z σ2)) := by
  refine Ct.of G (by decide +kernel) (Nat.le_of_ble_eq_true rfl) (fun φ C hr => ?_)
  have C : Cx γ φ RX6 cX6_ifLeak 4 10 := C
  have hn0 := hW.1
  have hn1 := hW.2.1
  have hn4 := hW.2.2.1
  have hn5 := hW.2.2.2.1
  refine v_lv [(0, .ref (bs γ + 255)), (1, .int (iI e)), (2, .int (iI l)), (3, .int (iI v))] [0, 1, 2, 3] rfl ?_
  refine v_aload_n (pc := 0) C 0 rfl dX6_ifLeak_0 ?_
  refine v_aload_n (pc := 1) C 0 rfl dX6_ifLeak_1 ?_
  refine v_getr (pc := 2) C inX6 goX6 (ci := 4) rfl 3 (by decide) (wF_X6_13 G) rfl sh_255 (257) rfl dX6_ifLeak_2 ?_
  refine v_iload_n (pc := 5) C 1 rfl dX6_ifLeak_5 ?_
  refine v_st (mS_i257 _ _ _ _ _ _ _ _ _ _ _ _ _ ) ?_
  refine v_cs (pc := 6) (as := [.ref (bs γ + 257), .int (iI e)]) C (cy_X6_isDuct G) (wM_X6_167 G) (k_X6_isDuct G (⟨sh_257, by decide⟩ : sh 257 = (0, 268) ∧ 268 ≤ 4000) (by first | omega | assumption) (by first | omega | assumption)) dX6_ifLeak_6 rfl rfl (by decide) (by decide) (Nat.le_of_ble_eq_true rfl) zc (k_I (fun z6 s6 q6 => ?_))
  rcases q6 with ⟨⟨rfl, q6⟩ | ⟨rfl, q6⟩, rfl⟩
  · rw [mS_o257]
    refine v_if_eq (pc := 9) C 23 (by first | omega | assumption) dX6_ifLeak_9 (by decide) (fun h => absurd h (by decide)) (fun _ => ?_)
    refine v_aload_n (pc := 12) C 0 rfl dX6_ifLeak_12 ?_
    refine v_getr (pc := 13) C inX6 goX6 (ci := 4) rfl 3 (by decide) (wF_X6_13 G) rfl sh_255 (257) rfl dX6_ifLeak_13 ?_
    refine v_iload_n (pc := 16) C 3 rfl dX6_ifLeak_16 ?_
    refine v_st (mS_i257 _ _ _ _ _ _ _ _ _ _ _ _ _ ) ?_
    refine v_cs (pc := 17) (as := [.ref (bs γ + 257), .int (iI v)]) C (cy_X6_isValve G) (wM_X6_44 G) (k_X6_isValve G (⟨sh_257, by decide⟩ : sh 257 = (0, 268) ∧ 268 ≤ 4000) (by first | omega | assumption) (by first | omega | assumption)) dX6_ifLeak_17 rfl rfl (by decide) (by decide) (Nat.le_of_ble_eq_true rfl) zc (k_I (fun z17 s17 q17 => ?_))
    rcases q17 with ⟨⟨rfl, q17⟩ | ⟨rfl, q17⟩, rfl⟩
    · rw [mS_o257]
      refine v_if_ne (pc := 20) C 27 (by first | omega | assumption) dX6_ifLeak_20 (by decide) (fun _ => ?_) (fun h => absurd h (by decide))
      refine v_iload_n (pc := 27) C 2 rfl dX6_ifLeak_27 ?_
      refine v_i2l (pc := 28) C (by first | omega | assumption) dX6_ifLeak_28 ?_
      refine v_lconst (pc := 29) C (z := 0) rfl dX6_ifLeak_29 ?_
      refine v_ldc2 (pc := 30) C (wCL_X6_204 G) dX6_ifLeak_30 ?_
      refine v_cs (pc := 33) (as := [.long (lI l), .long (lI 0), .long (lI 30)]) C (cy_X6_in G) (wM_X6_40 G) (k_X6_in G (by first | omega | assumption) (by first | omega | assumption) (by first | omega | assumption)) dX6_ifLeak_33 rfl rfl (by decide) (by decide) (Nat.le_of_ble_eq_true rfl) zc (k_I (fun z33 s33 q33 => ?_))
      rcases q33 with ⟨⟨rfl, q33⟩ | ⟨rfl, q33⟩, rfl⟩
      · refine v_if_eq (pc := 36) C 43 (by first | omega | assumption) dX6_ifLeak_36 (by decide) (fun h => absurd h (by decide)) (fun _ => ?_)
        refine v_iconst (pc := 39) C dX6_ifLeak_39 ?_
        refine v_goto (pc := 40) C 44 dX6_ifLeak_40 (by decide) ?_
        refine v_cv (pc := 44) (as := [.int (iI 0)]) C (cy_X6_refused G) (wM_X6_124 G) sh_255 (ci := 4) rfl rfl (refN G) dX6_ifLeak_44 rfl rfl (by decide) (by decide) (Nat.le_of_ble_eq_true rfl) zc (k_I (fun z44 s44 q44 => ?_))
        obtain ⟨rfl, rfl⟩ := q44
        refine v_if_eq (pc := 47) C 52 (by first | omega | assumption) dX6_ifLeak_47 (by decide) (fun _ => ?_) (fun h => absurd h (by decide))
        refine v_aload_n (pc := 52) C 0 rfl dX6_ifLeak_52 ?_
        refine v_iload_n (pc := 53) C 1 rfl dX6_ifLeak_53 ?_
        refine v_iload_n (pc := 54) C 2 rfl dX6_ifLeak_54 ?_
        refine v_iload_n (pc := 55) C 3 rfl dX6_ifLeak_55 ?_
        refine v_cv (pc := 56) (as := [.int (iI e), .int (iI l), .int (iI v)]) C (cy_X6_beatWith G) (wM_X6_215 G) sh_255 (ci := 4) rfl rfl (k_X6_beatWith G ‹_› (by omega) (by omega) (by omega)) dX6_ifLeak_56 rfl rfl (by decide) (by decide) (Nat.le_of_ble_eq_true rfl) zc (k_I (fun z56 s56 q56 => ?_))
        obtain ⟨⟨ez56, rz56⟩, x9, rfl⟩ := q56
        exact v_iret (pc := 59) C hr (rfl) dX6_ifLeak_59 (⟨_, rfl, mQ_ok (z' := leakB n e l v) (by unfold op_ifLeak; rw [if_neg (by omega), if_neg (by omega)]) (by assumption)⟩)
      · refine v_if_eq (pc := 36) C 43 (by first | omega | assumption) dX6_ifLeak_36 (by decide) (fun _ => ?_) (fun h => absurd h (by decide))
        refine v_iconst (pc := 43) C dX6_ifLeak_43 ?_
        refine v_cv (pc := 44) (as := [.int (iI 2)]) C (cy_X6_refused G) (wM_X6_124 G) sh_255 (ci := 4) rfl rfl (refY G (by decide)) dX6_ifLeak_44 rfl rfl (by decide) (by decide) (Nat.le_of_ble_eq_true rfl) zc (k_I (fun z44_1 s44_1 q44_1 => ?_))
        obtain ⟨rfl, rfl⟩ := q44_1
        refine v_if_eq (pc := 47) C 52 (by first | omega | assumption) dX6_ifLeak_47 (by decide) (fun h => absurd h (by decide)) (fun _ => ?_)
        refine v_iconst (pc := 50) C dX6_ifLeak_50 ?_
        exact v_iret (pc := 51) C hr (rfl) dX6_ifLeak_51 (⟨_, rfl, mQ_no (by unfold op_ifLeak; rw [if_neg (by omega), if_pos (by omega)]) (by decide)⟩)
    · rw [mS_o257]
      refine v_if_ne (pc := 20) C 27 (by first | omega | assumption) dX6_ifLeak_20 (by decide) (fun h => absurd h (by decide)) (fun _ => ?_)
      refine v_iconst (pc := 23) C dX6_ifLeak_23 ?_
      refine v_goto (pc := 24) C 44 dX6_ifLeak_24 (by decide) ?_
      refine v_cv (pc := 44) (as := [.int (iI 1)]) C (cy_X6_refused G) (wM_X6_124 G) sh_255 (ci := 4) rfl rfl (refY G (by decide)) dX6_ifLeak_44 rfl rfl (by decide) (by decide) (Nat.le_of_ble_eq_true rfl) zc (k_I (fun z44_2 s44_2 q44_2 => ?_))
      obtain ⟨rfl, rfl⟩ := q44_2
      refine v_if_eq (pc := 47) C 52 (by first | omega | assumption) dX6_ifLeak_47 (by decide) (fun h => absurd h (by decide)) (fun _ => ?_)
      refine v_iconst (pc := 50) C dX6_ifLeak_50 ?_
      exact v_iret (pc := 51) C hr (rfl) dX6_ifLeak_51 (⟨_, rfl, mQ_no (by unfold op_ifLeak; rw [if_pos (by omega)]) (by decide)⟩)
  · rw [mS_o257]
    refine v_if_eq (pc := 9) C 23 (by first | omega | assumption) dX6_ifLeak_9 (by decide) (fun _ => ?_) (fun h => absurd h (by decide))
    refine v_iconst (pc := 23) C dX6_ifLeak_23 ?_
    refine v_goto (pc := 24) C 44 dX6_ifLeak_24 (by decide) ?_
    refine v_cv (pc := 44) (as := [.int (iI 1)]) C (cy_X6_refused G) (wM_X6_124 G) sh_255 (ci := 4) rfl rfl (refY G (by decide)) dX6_ifLeak_44 rfl rfl (by decide) (by decide) (Nat.le_of_ble_eq_true rfl) zc (k_I (fun z44_3 s44_3 q44_3 => ?_))
    obtain ⟨rfl, rfl⟩ := q44_3
    refine v_if_eq (pc := 47) C 52 (by first | omega | assumption) dX6_ifLeak_47 (by decide) (fun h => absurd h (by decide)) (fun _ => ?_)
    refine v_iconst (pc := 50) C dX6_ifLeak_50 ?_
    exact v_iret (pc := 51) C hr (rfl) dX6_ifLeak_51 (⟨_, rfl, mQ_no (by unfold op_ifLeak; rw [if_pos (by omega)]) (by decide)⟩)

set_option maxHeartbeats 4000000 in
set_option maxRecDepth 100000 in
theorem k_X6_suspect {γ : Gm} (G : Glo γ) {σ : St} {w s a p u : Int} {t n x f d k i : Int → Int} {v b : Int} (hv : R3 v) (hb : R3 b) (hW : Wf n) : Ct γ yX6_suspect cX6_suspect 5 (some .int) 11 [.ref (bs γ + 255), .int (iI v), .int (iI b)] (mS σ w s a p u t n x f d k i) (pI (fun z σ2 => mQ σ (op_suspect s a t n d k i v b) z σ2)) := by
  refine Ct.of G (by decide +kernel) (Nat.le_of_ble_eq_true rfl) (fun φ C hr => ?_)
  have C : Cx γ φ RX6 cX6_suspect 5 11 := C
  have hn0 := hW.1
  have hn1 := hW.2.1
  have hn4 := hW.2.2.1
  have hn5 := hW.2.2.2.1
  obtain ⟨V, hV⟩ : ∃ V, V = suspD n v b (n 1).toNat 0 := ⟨_, rfl⟩
  refine v_lv [(0, .ref (bs γ + 255)), (1, .int (iI v)), (2, .int (iI b))] [0, 1, 2] rfl ?_
  refine v_aload_n (pc := 0) C 0 rfl dX6_suspect_0 ?_
  refine v_aload_n (pc := 1) C 0 rfl dX6_suspect_1 ?_
  refine v_getr (pc := 2) C inX6 goX6 (ci := 4) rfl 3 (by decide) (wF_X6_13 G) rfl sh_255 (257) rfl dX6_suspect_2 ?_
  refine v_iload_n (pc := 5) C 1 rfl dX6_suspect_5 ?_
  refine v_st (mS_i257 _ _ _ _ _ _ _ _ _ _ _ _ _ ) ?_
  refine v_cs (pc := 6) (as := [.ref (bs γ + 257), .int (iI v)]) C (cy_X6_isValve G) (wM_X6_44 G) (k_X6_isValve G (⟨sh_257, by decide⟩ : sh 257 = (0, 268) ∧ 268 ≤ 4000) (by first | omega | assumption) (by first | omega | assumption)) dX6_suspect_6 rfl rfl (by decide) (by decide) (Nat.le_of_ble_eq_true rfl) zc (k_I (fun z6 s6 q6 => ?_))
  rcases q6 with ⟨⟨rfl, q6⟩ | ⟨rfl, q6⟩, rfl⟩
  · rw [mS_o257]
    refine v_if_ne (pc := 9) C 16 (by first | omega | assumption) dX6_suspect_9 (by decide) (fun _ => ?_) (fun h => absurd h (by decide))
    refine v_iload_n (pc := 16) C 2 rfl dX6_suspect_16 ?_
    refine v_iconst (pc := 17) C dX6_suspect_17 ?_
    refine v_icmp_eq (pc := 18) C 33 (by first | omega | assumption) (by first | omega | assumption) dX6_suspect_18 (by decide) (fun h18 => ?_) (fun h18 => ?_)
    · refine v_iconst (pc := 33) C dX6_suspect_33 ?_
      refine v_goto (pc := 34) C 38 dX6_suspect_34 (by decide) ?_
      refine v_cv (pc := 38) (as := [.int (iI 0)]) C (cy_X6_refused G) (wM_X6_124 G) sh_255 (ci := 4) rfl rfl (refN G) dX6_suspect_38 rfl rfl (by decide) (by decide) (Nat.le_of_ble_eq_true rfl) zc (k_I (fun z38 s38 q38 => ?_))
      obtain ⟨rfl, rfl⟩ := q38
      refine v_if_eq (pc := 41) C 46 (by first | omega | assumption) dX6_suspect_41 (by decide) (fun _ => ?_) (fun h => absurd h (by decide))
      refine v_iconst (pc := 46) C dX6_suspect_46 ?_
      refine v_istore_n (pc := 47) C [(3, .int (iI 0)), (0, .ref (bs γ + 255)), (1, .int (iI v)), (2, .int (iI b))] dX6_suspect_47 rfl (by decide) rfl ?_
      have L48 : ∀ (fu : Nat) (fl : Nat) (e : Int) (r : Int → Int), (hrr : V = suspD n v b fl e) → (he : 0 ≤ e ∧ e + fl = n 1) → fl < fu → Vw γ φ 5 0 0 (QE γ φ (pI (fun z σ2 => mQ σ (op_suspect s a t n d k i v b) z σ2))) (mS σ 0 s a p u t n r f d k i) 48 [(3, .int (iI e)), (2, .int (iI b)), (1, .int (iI v)), (0, .ref (bs γ + 255))] [] := by
        intro fu
        induction fu with
        | zero => intro fl e r hrr he hz; exact absurd hz (Nat.not_lt_zero _)
        | succ fu ih =>
          intro fl e r hrr he hz
          refine v_iload_n (pc := 48) C 0 rfl dX6_suspect_48 ?_
          refine v_aload_n (pc := 49) C 3 rfl dX6_suspect_49 ?_
          refine v_getr (pc := 50) C inX6 goX6 (ci := 4) rfl 3 (by decide) (wF_X6_13 G) rfl sh_255 (257) rfl dX6_suspect_50 ?_
          refine v_iconst (pc := 53) C dX6_suspect_53 ?_
          refine v_iald (pc := 54) C sh_257 (by decide) (by first | omega | assumption) dX6_suspect_54 (fun z54 ez54 rz54 => ?_)
          rw [mS_n] at ez54
          refine v_icmp_ge (pc := 55) C 106 (by first | omega | assumption) (by first | omega | assumption) dX6_suspect_55 (by decide) (fun h55 => ?_) (fun h55 => ?_)
          · obtain rfl : fl = 0 := by omega
            refine v_iconst (pc := 106) C dX6_suspect_106 ?_
            exact v_iret (pc := 107) C hr (rfl) dX6_suspect_107 (⟨_, rfl, mQ_ok (z' := suspD n v b (n 1).toNat 0) (by unfold op_suspect; rw [if_neg (by omega), if_neg (by omega)]) (by rw [← hV, hrr]; try rfl)⟩)
          · obtain ⟨fl2, rfl⟩ : ∃ g, fl = g + 1 := ⟨fl - 1, by omega⟩
            unfold suspD at hrr
            obtain ⟨V2, hV2⟩ : ∃ V2, V2 = suspI n v b e 30 1 := ⟨_, rfl⟩
            rw [← hV2] at hrr
            refine v_iconst (pc := 58) C dX6_suspect_58 ?_
            refine v_istore (pc := 59) C [(4, .int (iI 1)), (3, .int (iI e)), (2, .int (iI b)), (1, .int (iI v)), (0, .ref (bs γ + 255))] dX6_suspect_59 (by decide) rfl ?_
            have L61 : ∀ (fu : Nat) (fm : Nat) (l : Int) (r2 : Int → Int), (hs2 : V2 = suspI n v b e fm l) → (hl : 1 ≤ l ∧ l + fm = 31) → fm < fu → Vw γ φ 5 0 0 (QE γ φ (pI (fun z σ2 => mQ σ (op_suspect s a t n d k i v b) z σ2))) (mS σ 0 s a p u t n r2 f d k i) 61 [(4, .int (iI l)), (3, .int (iI e)), (2, .int (iI b)), (1, .int (iI v)), (0, .ref (bs γ + 255))] [] := by
              intro fu2
              induction fu2 with
              | zero => intro fm l r2 hs2 hl hz; exact absurd hz (Nat.not_lt_zero _)
              | succ fu2 ih2 =>
                intro fm l r2 hs2 hl hz
                refine v_iload (pc := 61) C 0 rfl dX6_suspect_61 ?_
                refine v_bipush (pc := 63) C (by decide +kernel) dX6_suspect_63 ?_
                refine v_icmp_gt (pc := 65) C 100 (by first | omega | assumption) (by first | omega | assumption) dX6_suspect_65 (by decide) (fun h65 => ?_) (fun h65 => ?_)
                · obtain rfl : fm = 0 := by omega
                  have hs3 : V2 = 0 := hs2
                  rw [if_neg (by omega)] at hrr
                  refine v_iinc (pc := 100) C 1 [(3, .int (iI (e + 1))), (4, .int (iI l)), (2, .int (iI b)), (1, .int (iI v)), (0, .ref (bs γ + 255))] dX6_suspect_100 rfl (by decide) rfl ?_
                  refine v_goto (pc := 103) C 48 dX6_suspect_103 (by decide) ?_
                  exact v_lv _ [0, 2, 3, 4] rfl (ih fl2 (e + 1) _ hrr (by omega) (by omega))
                · obtain ⟨fm2, rfl⟩ : ∃ g, fm = g + 1 := ⟨fm - 1, by omega⟩
                  unfold suspI at hs2
                  refine v_aload_n (pc := 68) C 4 rfl dX6_suspect_68 ?_
                  refine v_getr (pc := 69) C inX6 goX6 (ci := 4) rfl 3 (by decide) (wF_X6_13 G) rfl sh_255 (257) rfl dX6_suspect_69 ?_
                  refine v_iload_n (pc := 72) C 1 rfl dX6_suspect_72 ?_
                  refine v_iconst (pc := 73) C dX6_suspect_73 ?_
                  refine v_st (mS_i257 _ _ _ _ _ _ _ _ _ _ _ _ _ ) ?_
                  refine v_cs (pc := 74) (as := [.ref (bs γ + 257), .int (iI e), .int (iI 5)]) C (cy_X6_ofDuct G) (wM_X6_62 G) (k_X6_ofDuct G (⟨sh_257, by decide⟩ : sh 257 = (0, 268) ∧ 268 ≤ 4000) (by omega)) dX6_suspect_74 rfl rfl (by decide) (by decide) (Nat.le_of_ble_eq_true rfl) zc (k_I (fun z74 s74 q74 => ?_))
                  obtain ⟨⟨ez74, rz74⟩, rfl⟩ := q74
                  rw [mS_o257]
                  refine v_if_ne (pc := 77) C 100 (by first | omega | assumption) dX6_suspect_77 (by decide) (fun h77 => ?_) (fun h77 => ?_)
                  · rw [if_neg (fun h => by have := h.1; omega)] at hrr
                    refine v_iinc (pc := 100) C 1 [(3, .int (iI (e + 1))), (4, .int (iI l)), (2, .int (iI b)), (1, .int (iI v)), (0, .ref (bs γ + 255))] dX6_suspect_100 rfl (by decide) rfl ?_
                    refine v_goto (pc := 103) C 48 dX6_suspect_103 (by decide) ?_
                    exact v_lv _ [0, 2, 3, 4] rfl (ih fl2 (e + 1) _ hrr (by omega) (by omega))
                  · refine v_aload_n (pc := 80) C 4 rfl dX6_suspect_80 ?_
                    refine v_iload_n (pc := 81) C 1 rfl dX6_suspect_81 ?_
                    refine v_iload (pc := 82) C 0 rfl dX6_suspect_82 ?_
                    refine v_iload_n (pc := 84) C 3 rfl dX6_suspect_84 ?_
                    refine v_cv (pc := 85) (as := [.int (iI e), .int (iI l), .int (iI v)]) C (cy_X6_beatWith G) (wM_X6_215 G) sh_255 (ci := 4) rfl rfl (k_X6_beatWith G ‹_› (by omega) (by omega) (by omega)) dX6_suspect_85 rfl rfl (by decide) (by decide) (Nat.le_of_ble_eq_true rfl) zc (k_I (fun z85 s85 q85 => ?_))
                    obtain ⟨⟨ez85, rz85⟩, x9, rfl⟩ := q85
                    refine v_iload_n (pc := 88) C 2 rfl dX6_suspect_88 ?_
                    refine v_icmp_ne (pc := 89) C 94 (by first | omega | assumption) (by first | omega | assumption) dX6_suspect_89 (by decide) (fun h89 => ?_) (fun h89 => ?_)
                    · rw [if_neg (by omega)] at hs2
                      refine v_iinc (pc := 94) C 0 [(4, .int (iI (l + 1))), (3, .int (iI e)), (2, .int (iI b)), (1, .int (iI v)), (0, .ref (bs γ + 255))] dX6_suspect_94 rfl (by decide) rfl ?_
                      refine v_goto (pc := 97) C 61 dX6_suspect_97 (by decide) ?_
                      exact v_lv _ [0, 1, 2, 3, 4] rfl (ih2 fm2 (l + 1) _ hs2 (by omega) (by omega))
                    · rw [if_pos (by omega)] at hs2
                      rw [if_pos ⟨by omega, by omega⟩] at hrr
                      refine v_iload_n (pc := 92) C 1 rfl dX6_suspect_92 ?_
                      exact v_iret (pc := 93) C hr (rfl) dX6_suspect_93 (⟨_, rfl, mQ_ok (z' := suspD n v b (n 1).toNat 0) (by unfold op_suspect; rw [if_neg (by omega), if_neg (by omega)]) (by rw [← hV, hrr]; try rfl)⟩)
            exact v_lv _ [0, 1, 2, 3, 4] rfl (L61 31 30 1 r hV2 (by omega) (by omega))
      exact v_lv _ [0, 3, 2, 1] rfl (L48 ((n 1).toNat + 1) (n 1).toNat 0 x hV (by omega) (by omega))
    · refine v_iload_n (pc := 21) C 2 rfl dX6_suspect_21 ?_
      refine v_i2l (pc := 22) C (by first | omega | assumption) dX6_suspect_22 ?_
      refine v_lconst (pc := 23) C (z := 1) rfl dX6_suspect_23 ?_
      refine v_ldc2 (pc := 24) C (wCL_X6_219 G) dX6_suspect_24 ?_
      refine v_cs (pc := 27) (as := [.long (lI b), .long (lI 1), .long (lI 200)]) C (cy_X6_in G) (wM_X6_40 G) (k_X6_in G (by first | omega | assumption) (by first | omega | assumption) (by first | omega | assumption)) dX6_suspect_27 rfl rfl (by decide) (by decide) (Nat.le_of_ble_eq_true rfl) zc (k_I (fun z27 s27 q27 => ?_))
      rcases q27 with ⟨⟨rfl, q27⟩ | ⟨rfl, q27⟩, rfl⟩
      · refine v_if_eq (pc := 30) C 37 (by first | omega | assumption) dX6_suspect_30 (by decide) (fun h => absurd h (by decide)) (fun _ => ?_)
        refine v_iconst (pc := 33) C dX6_suspect_33 ?_
        refine v_goto (pc := 34) C 38 dX6_suspect_34 (by decide) ?_
        refine v_cv (pc := 38) (as := [.int (iI 0)]) C (cy_X6_refused G) (wM_X6_124 G) sh_255 (ci := 4) rfl rfl (refN G) dX6_suspect_38 rfl rfl (by decide) (by decide) (Nat.le_of_ble_eq_true rfl) zc (k_I (fun z38_1 s38_1 q38_1 => ?_))
        obtain ⟨rfl, rfl⟩ := q38_1
        refine v_if_eq (pc := 41) C 46 (by first | omega | assumption) dX6_suspect_41 (by decide) (fun _ => ?_) (fun h => absurd h (by decide))
        refine v_iconst (pc := 46) C dX6_suspect_46 ?_
        refine v_istore_n (pc := 47) C [(3, .int (iI 0)), (0, .ref (bs γ + 255)), (1, .int (iI v)), (2, .int (iI b))] dX6_suspect_47 rfl (by decide) rfl ?_
        have L48 : ∀ (fu : Nat) (fl : Nat) (e : Int) (r : Int → Int), (hrr : V = suspD n v b fl e) → (he : 0 ≤ e ∧ e + fl = n 1) → fl < fu → Vw γ φ 5 0 0 (QE γ φ (pI (fun z σ2 => mQ σ (op_suspect s a t n d k i v b) z σ2))) (mS σ 0 s a p u t n r f d k i) 48 [(3, .int (iI e)), (2, .int (iI b)), (1, .int (iI v)), (0, .ref (bs γ + 255))] [] := by
          intro fu
          induction fu with
          | zero => intro fl e r hrr he hz; exact absurd hz (Nat.not_lt_zero _)
          | succ fu ih =>
            intro fl e r hrr he hz
            refine v_iload_n (pc := 48) C 0 rfl dX6_suspect_48 ?_
            refine v_aload_n (pc := 49) C 3 rfl dX6_suspect_49 ?_
            refine v_getr (pc := 50) C inX6 goX6 (ci := 4) rfl 3 (by decide) (wF_X6_13 G) rfl sh_255 (257) rfl dX6_suspect_50 ?_
            refine v_iconst (pc := 53) C dX6_suspect_53 ?_
            refine v_iald (pc := 54) C sh_257 (by decide) (by first | omega | assumption) dX6_suspect_54 (fun z54_1 ez54_1 rz54_1 => ?_)
            rw [mS_n] at ez54_1
            refine v_icmp_ge (pc := 55) C 106 (by first | omega | assumption) (by first | omega | assumption) dX6_suspect_55 (by decide) (fun h55_1 => ?_) (fun h55_1 => ?_)
            · obtain rfl : fl = 0 := by omega
              refine v_iconst (pc := 106) C dX6_suspect_106 ?_
              exact v_iret (pc := 107) C hr (rfl) dX6_suspect_107 (⟨_, rfl, mQ_ok (z' := suspD n v b (n 1).toNat 0) (by unfold op_suspect; rw [if_neg (by omega), if_neg (by omega)]) (by rw [← hV, hrr]; try rfl)⟩)
            · obtain ⟨fl2, rfl⟩ : ∃ g, fl = g + 1 := ⟨fl - 1, by omega⟩
              unfold suspD at hrr
              obtain ⟨V2, hV2⟩ : ∃ V2, V2 = suspI n v b e 30 1 := ⟨_, rfl⟩
              rw [← hV2] at hrr
              refine v_iconst (pc := 58) C dX6_suspect_58 ?_
              refine v_istore (pc := 59) C [(4, .int (iI 1)), (3, .int (iI e)), (2, .int (iI b)), (1, .int (iI v)), (0, .ref (bs γ + 255))] dX6_suspect_59 (by decide) rfl ?_
              have L61 : ∀ (fu : Nat) (fm : Nat) (l : Int) (r2 : Int → Int), (hs2 : V2 = suspI n v b e fm l) → (hl : 1 ≤ l ∧ l + fm = 31) → fm < fu → Vw γ φ 5 0 0 (QE γ φ (pI (fun z σ2 => mQ σ (op_suspect s a t n d k i v b) z σ2))) (mS σ 0 s a p u t n r2 f d k i) 61 [(4, .int (iI l)), (3, .int (iI e)), (2, .int (iI b)), (1, .int (iI v)), (0, .ref (bs γ + 255))] [] := by
                intro fu2
                induction fu2 with
                | zero => intro fm l r2 hs2 hl hz; exact absurd hz (Nat.not_lt_zero _)
                | succ fu2 ih2 =>
                  intro fm l r2 hs2 hl hz
                  refine v_iload (pc := 61) C 0 rfl dX6_suspect_61 ?_
                  refine v_bipush (pc := 63) C (by decide +kernel) dX6_suspect_63 ?_
                  refine v_icmp_gt (pc := 65) C 100 (by first | omega | assumption) (by first | omega | assumption) dX6_suspect_65 (by decide) (fun h65_1 => ?_) (fun h65_1 => ?_)
                  · obtain rfl : fm = 0 := by omega
                    have hs3 : V2 = 0 := hs2
                    rw [if_neg (by omega)] at hrr
                    refine v_iinc (pc := 100) C 1 [(3, .int (iI (e + 1))), (4, .int (iI l)), (2, .int (iI b)), (1, .int (iI v)), (0, .ref (bs γ + 255))] dX6_suspect_100 rfl (by decide) rfl ?_
                    refine v_goto (pc := 103) C 48 dX6_suspect_103 (by decide) ?_
                    exact v_lv _ [0, 2, 3, 4] rfl (ih fl2 (e + 1) _ hrr (by omega) (by omega))
                  · obtain ⟨fm2, rfl⟩ : ∃ g, fm = g + 1 := ⟨fm - 1, by omega⟩
                    unfold suspI at hs2
                    refine v_aload_n (pc := 68) C 4 rfl dX6_suspect_68 ?_
                    refine v_getr (pc := 69) C inX6 goX6 (ci := 4) rfl 3 (by decide) (wF_X6_13 G) rfl sh_255 (257) rfl dX6_suspect_69 ?_
                    refine v_iload_n (pc := 72) C 1 rfl dX6_suspect_72 ?_
                    refine v_iconst (pc := 73) C dX6_suspect_73 ?_
                    refine v_st (mS_i257 _ _ _ _ _ _ _ _ _ _ _ _ _ ) ?_
                    refine v_cs (pc := 74) (as := [.ref (bs γ + 257), .int (iI e), .int (iI 5)]) C (cy_X6_ofDuct G) (wM_X6_62 G) (k_X6_ofDuct G (⟨sh_257, by decide⟩ : sh 257 = (0, 268) ∧ 268 ≤ 4000) (by omega)) dX6_suspect_74 rfl rfl (by decide) (by decide) (Nat.le_of_ble_eq_true rfl) zc (k_I (fun z74_1 s74_1 q74_1 => ?_))
                    obtain ⟨⟨ez74_1, rz74_1⟩, rfl⟩ := q74_1
                    rw [mS_o257]
                    refine v_if_ne (pc := 77) C 100 (by first | omega | assumption) dX6_suspect_77 (by decide) (fun h77_1 => ?_) (fun h77_1 => ?_)
                    · rw [if_neg (fun h => by have := h.1; omega)] at hrr
                      refine v_iinc (pc := 100) C 1 [(3, .int (iI (e + 1))), (4, .int (iI l)), (2, .int (iI b)), (1, .int (iI v)), (0, .ref (bs γ + 255))] dX6_suspect_100 rfl (by decide) rfl ?_
                      refine v_goto (pc := 103) C 48 dX6_suspect_103 (by decide) ?_
                      exact v_lv _ [0, 2, 3, 4] rfl (ih fl2 (e + 1) _ hrr (by omega) (by omega))
                    · refine v_aload_n (pc := 80) C 4 rfl dX6_suspect_80 ?_
                      refine v_iload_n (pc := 81) C 1 rfl dX6_suspect_81 ?_
                      refine v_iload (pc := 82) C 0 rfl dX6_suspect_82 ?_
                      refine v_iload_n (pc := 84) C 3 rfl dX6_suspect_84 ?_
                      refine v_cv (pc := 85) (as := [.int (iI e), .int (iI l), .int (iI v)]) C (cy_X6_beatWith G) (wM_X6_215 G) sh_255 (ci := 4) rfl rfl (k_X6_beatWith G ‹_› (by omega) (by omega) (by omega)) dX6_suspect_85 rfl rfl (by decide) (by decide) (Nat.le_of_ble_eq_true rfl) zc (k_I (fun z85_1 s85_1 q85_1 => ?_))
                      obtain ⟨⟨ez85_1, rz85_1⟩, x9, rfl⟩ := q85_1
                      refine v_iload_n (pc := 88) C 2 rfl dX6_suspect_88 ?_
                      refine v_icmp_ne (pc := 89) C 94 (by first | omega | assumption) (by first | omega | assumption) dX6_suspect_89 (by decide) (fun h89_1 => ?_) (fun h89_1 => ?_)
                      · rw [if_neg (by omega)] at hs2
                        refine v_iinc (pc := 94) C 0 [(4, .int (iI (l + 1))), (3, .int (iI e)), (2, .int (iI b)), (1, .int (iI v)), (0, .ref (bs γ + 255))] dX6_suspect_94 rfl (by decide) rfl ?_
                        refine v_goto (pc := 97) C 61 dX6_suspect_97 (by decide) ?_
                        exact v_lv _ [0, 1, 2, 3, 4] rfl (ih2 fm2 (l + 1) _ hs2 (by omega) (by omega))
                      · rw [if_pos (by omega)] at hs2
                        rw [if_pos ⟨by omega, by omega⟩] at hrr
                        refine v_iload_n (pc := 92) C 1 rfl dX6_suspect_92 ?_
                        exact v_iret (pc := 93) C hr (rfl) dX6_suspect_93 (⟨_, rfl, mQ_ok (z' := suspD n v b (n 1).toNat 0) (by unfold op_suspect; rw [if_neg (by omega), if_neg (by omega)]) (by rw [← hV, hrr]; try rfl)⟩)
              exact v_lv _ [0, 1, 2, 3, 4] rfl (L61 31 30 1 r hV2 (by omega) (by omega))
        exact v_lv _ [0, 3, 2, 1] rfl (L48 ((n 1).toNat + 1) (n 1).toNat 0 x hV (by omega) (by omega))
      · refine v_if_eq (pc := 30) C 37 (by first | omega | assumption) dX6_suspect_30 (by decide) (fun _ => ?_) (fun h => absurd h (by decide))
        refine v_iconst (pc := 37) C dX6_suspect_37 ?_
        refine v_cv (pc := 38) (as := [.int (iI 2)]) C (cy_X6_refused G) (wM_X6_124 G) sh_255 (ci := 4) rfl rfl (refY G (by decide)) dX6_suspect_38 rfl rfl (by decide) (by decide) (Nat.le_of_ble_eq_true rfl) zc (k_I (fun z38_2 s38_2 q38_2 => ?_))
        obtain ⟨rfl, rfl⟩ := q38_2
        refine v_if_eq (pc := 41) C 46 (by first | omega | assumption) dX6_suspect_41 (by decide) (fun h => absurd h (by decide)) (fun _ => ?_)
        refine v_iconst (pc := 44) C dX6_suspect_44 ?_
        exact v_iret (pc := 45) C hr (rfl) dX6_suspect_45 (⟨_, rfl, mQ_no (by unfold op_suspect; rw [if_neg (by omega), if_pos (by omega)]) (by decide)⟩)
  · rw [mS_o257]
    refine v_if_ne (pc := 9) C 16 (by first | omega | assumption) dX6_suspect_9 (by decide) (fun h => absurd h (by decide)) (fun _ => ?_)
    refine v_iconst (pc := 12) C dX6_suspect_12 ?_
    refine v_goto (pc := 13) C 38 dX6_suspect_13 (by decide) ?_
    refine v_cv (pc := 38) (as := [.int (iI 1)]) C (cy_X6_refused G) (wM_X6_124 G) sh_255 (ci := 4) rfl rfl (refY G (by decide)) dX6_suspect_38 rfl rfl (by decide) (by decide) (Nat.le_of_ble_eq_true rfl) zc (k_I (fun z38_3 s38_3 q38_3 => ?_))
    obtain ⟨rfl, rfl⟩ := q38_3
    refine v_if_eq (pc := 41) C 46 (by first | omega | assumption) dX6_suspect_41 (by decide) (fun h => absurd h (by decide)) (fun _ => ?_)
    refine v_iconst (pc := 44) C dX6_suspect_44 ?_
    exact v_iret (pc := 45) C hr (rfl) dX6_suspect_45 (⟨_, rfl, mQ_no (by unfold op_suspect; rw [if_pos (by omega)]) (by decide)⟩)

set_option maxHeartbeats 4000000 in
set_option maxRecDepth 100000 in
theorem k_X6_tightest {γ : Gm} (G : Glo γ) {σ : St} {w s a p u : Int} {t n x f d k i : Int → Int}  (hW : Wf n) : Ct γ yX6_tightest cX6_tightest 8 (some .int) 4 [.ref (bs γ + 255)] (mS σ w s a p u t n x f d k i) (pI (fun z σ2 => mQ σ (op_tightest s a t n d k i) z σ2)) := by
  refine Ct.of G (by decide +kernel) (Nat.le_of_ble_eq_true rfl) (fun φ C hr => ?_)
  have C : Cx γ φ RX6 cX6_tightest 8 4 := C
  have hn0 := hW.1
  have hn1 := hW.2.1
  have hn4 := hW.2.2.1
  have hn5 := hW.2.2.2.1
  obtain ⟨V, hV⟩ : ∃ V, V = tightL n (n 1).toNat 0 (-1) 0 := ⟨_, rfl⟩
  refine v_lv [(0, .ref (bs γ + 255))] [0] rfl ?_
  refine v_aload_n (pc := 0) C 0 rfl dX6_tightest_0 ?_
  refine v_iconst (pc := 1) C dX6_tightest_1 ?_
  refine v_puti (pc := 2) C inX6 goX6 (ci := 4) rfl 0 (by decide) (wF_X6_36 G) rfl sh_255 tyX6 tyX6_ok nmX6 rfl rfl (fun _ => Nat.le_of_ble_eq_true rfl) (fun _ _ => ob_set_X6_0) (by first | omega | assumption) dX6_tightest_2 ?_
  refine v_st (mS_f0 _ _ _ _ _ _ _ _ _ _ _ _ _ _ ) ?_
  refine v_iconst (pc := 5) C dX6_tightest_5 ?_
  refine v_istore_n (pc := 6) C [(1, .int (iI (-1))), (0, .ref (bs γ + 255))] dX6_tightest_6 rfl (by decide) rfl ?_
  refine v_iconst (pc := 7) C dX6_tightest_7 ?_
  refine v_istore_n (pc := 8) C [(2, .int (iI 0)), (1, .int (iI (-1))), (0, .ref (bs γ + 255))] dX6_tightest_8 rfl (by decide) rfl ?_
  refine v_iconst (pc := 9) C dX6_tightest_9 ?_
  refine v_istore_n (pc := 10) C [(3, .int (iI 0)), (2, .int (iI 0)), (1, .int (iI (-1))), (0, .ref (bs γ + 255))] dX6_tightest_10 rfl (by decide) rfl ?_
  have L11 : ∀ (fu : Nat) (fl : Nat) (e b l : Int), (hrr : V = tightL n fl e b l) → (he : 0 ≤ e ∧ e + fl = n 1) → (hb : -1 ≤ b ∧ b < 20 ∧ -1000 ≤ l ∧ l ≤ 1000) → fl < fu → Vw γ φ 8 0 0 (QE γ φ (pI (fun z σ2 => mQ σ (op_tightest s a t n d k i) z σ2))) (mS σ 0 s a p u t n x f d k i) 11 [(3, .int (iI e)), (2, .int (iI l)), (1, .int (iI b)), (0, .ref (bs γ + 255))] [] := by
    intro fu
    induction fu with
    | zero => intro fl e b l hrr he hb hz; exact absurd hz (Nat.not_lt_zero _)
    | succ fu ih =>
      intro fl e b l hrr he hb hz
      refine v_iload_n (pc := 11) C 0 rfl dX6_tightest_11 ?_
      refine v_aload_n (pc := 12) C 3 rfl dX6_tightest_12 ?_
      refine v_getr (pc := 13) C inX6 goX6 (ci := 4) rfl 3 (by decide) (wF_X6_13 G) rfl sh_255 (257) rfl dX6_tightest_13 ?_
      refine v_iconst (pc := 16) C dX6_tightest_16 ?_
      refine v_iald (pc := 17) C sh_257 (by decide) (by first | omega | assumption) dX6_tightest_17 (fun z17 ez17 rz17 => ?_)
      rw [mS_n] at ez17
      refine v_icmp_ge (pc := 18) C 130 (by first | omega | assumption) (by first | omega | assumption) dX6_tightest_18 (by decide) (fun h18 => ?_) (fun h18 => ?_)
      · obtain rfl : fl = 0 := by omega
        refine v_iload_n (pc := 130) C 2 rfl dX6_tightest_130 ?_
        exact v_iret (pc := 131) C hr (rfl) dX6_tightest_131 (⟨_, rfl, mQ_ok (z' := tightL n (n 1).toNat 0 (-1) 0) (by unfold op_tightest; rfl) (by rw [← hV, hrr]; try rfl)⟩)
      · obtain ⟨fl2, rfl⟩ : ∃ g, fl = g + 1 := ⟨fl - 1, by omega⟩
        unfold tightL at hrr
        obtain ⟨d0, d1, -⟩ := hW.2.2.2.2.2 e (by omega) (by omega)
        have hlg := hW.lg d0 d1
        refine v_aload_n (pc := 21) C 3 rfl dX6_tightest_21 ?_
        refine v_getr (pc := 22) C inX6 goX6 (ci := 4) rfl 3 (by decide) (wF_X6_13 G) rfl sh_255 (257) rfl dX6_tightest_22 ?_
        refine v_aload_n (pc := 25) C 3 rfl dX6_tightest_25 ?_
        refine v_getr (pc := 26) C inX6 goX6 (ci := 4) rfl 3 (by decide) (wF_X6_13 G) rfl sh_255 (257) rfl dX6_tightest_26 ?_
        refine v_iload_n (pc := 29) C 0 rfl dX6_tightest_29 ?_
        refine v_iconst (pc := 30) C dX6_tightest_30 ?_
        refine v_st (mS_i257 _ _ _ _ _ _ _ _ _ _ _ _ _ ) ?_
        refine v_cs (pc := 31) (as := [.ref (bs γ + 257), .int (iI e), .int (iI 0)]) C (cy_X6_ofDuct G) (wM_X6_62 G) (k_X6_ofDuct G (⟨sh_257, by decide⟩ : sh 257 = (0, 268) ∧ 268 ≤ 4000) (by omega)) dX6_tightest_31 rfl rfl (by decide) (by decide) (Nat.le_of_ble_eq_true rfl) zc (k_I (fun z31 s31 q31 => ?_))
        obtain ⟨⟨ez31, rz31⟩, rfl⟩ := q31
        rw [mS_o257]
        rw [← ez31] at hlg d0
        refine v_iconst (pc := 34) C dX6_tightest_34 ?_
        refine v_aload_n (pc := 35) C 3 rfl dX6_tightest_35 ?_
        refine v_getr (pc := 36) C inX6 goX6 (ci := 4) rfl 3 (by decide) (wF_X6_13 G) rfl sh_255 (257) rfl dX6_tightest_36 ?_
        refine v_iload_n (pc := 39) C 0 rfl dX6_tightest_39 ?_
        refine v_iconst (pc := 40) C dX6_tightest_40 ?_
        refine v_st (mS_i257 _ _ _ _ _ _ _ _ _ _ _ _ _ ) ?_
        refine v_cs (pc := 41) (as := [.ref (bs γ + 257), .int (iI e), .int (iI 1)]) C (cy_X6_ofDuct G) (wM_X6_62 G) (k_X6_ofDuct G (⟨sh_257, by decide⟩ : sh 257 = (0, 268) ∧ 268 ≤ 4000) (by omega)) dX6_tightest_41 rfl rfl (by decide) (by decide) (Nat.le_of_ble_eq_true rfl) zc (k_I (fun z41 s41 q41 => ?_))
        obtain ⟨⟨ez41, rz41⟩, rfl⟩ := q41
        rw [mS_o257]
        rw [← ez41] at hlg d1
        refine v_iadd (pc := 44) C dX6_tightest_44 ?_
        refine v_st (mS_i257 _ _ _ _ _ _ _ _ _ _ _ _ _ ) ?_
        refine v_cs (pc := 45) (as := [.ref (bs γ + 257), .int (iI z31), .int (iI (3 + z41))]) C (cy_X6_of G) (wM_X6_48 G) (k_X6_of G (⟨sh_257, by decide⟩ : sh 257 = (0, 268) ∧ 268 ≤ 4000) (by omega)) dX6_tightest_45 rfl rfl (by decide) (by decide) (Nat.le_of_ble_eq_true rfl) zc (k_I (fun z45 s45 q45 => ?_))
        obtain ⟨⟨ez45, rz45⟩, rfl⟩ := q45
        rw [mS_o257]
        have hhas : z45 = hasR n e := by unfold hasR; rw [ez45, ez31, ez41]
        refine v_istore (pc := 48) C [(4, .int (iI z45)), (3, .int (iI e)), (2, .int (iI l)), (1, .int (iI b)), (0, .ref (bs γ + 255))] dX6_tightest_48 (by decide) rfl ?_
        refine v_aload_n (pc := 50) C 4 rfl dX6_tightest_50 ?_
        refine v_getr (pc := 51) C inX6 goX6 (ci := 4) rfl 3 (by decide) (wF_X6_13 G) rfl sh_255 (257) rfl dX6_tightest_51 ?_
        refine v_iload_n (pc := 54) C 1 rfl dX6_tightest_54 ?_
        refine v_st (mS_i257 _ _ _ _ _ _ _ _ _ _ _ _ _ ) ?_
        refine v_cs (pc := 55) (as := [.ref (bs γ + 257), .int (iI e)]) C (cy_X6_needs G) (wM_X6_191 G) (k_X6_needs G (⟨sh_257, by decide⟩ : sh 257 = (0, 268) ∧ 268 ≤ 4000) ‹_› (by omega)) dX6_tightest_55 rfl rfl (by decide) (by decide) (Nat.le_of_ble_eq_true rfl) zc (k_I (fun z55 s55 q55 => ?_))
        obtain ⟨⟨ez55, rz55⟩, rfl⟩ := q55
        rw [mS_o257]
        refine v_istore (pc := 58) C [(5, .int (iI z55)), (4, .int (iI z45)), (3, .int (iI e)), (2, .int (iI l)), (1, .int (iI b)), (0, .ref (bs γ + 255))] dX6_tightest_58 (by decide) rfl ?_
        refine v_iload (pc := 60) C 0 rfl dX6_tightest_60 ?_
        refine v_iconst (pc := 62) C dX6_tightest_62 ?_
        refine v_icmp_ne (pc := 63) C 71 (by first | omega | assumption) (by first | omega | assumption) dX6_tightest_63 (by decide) (fun h63 => ?_) (fun h63 => ?_)
        · refine v_iload (pc := 71) C 1 rfl dX6_tightest_71 ?_
          refine v_iload (pc := 73) C 0 rfl dX6_tightest_73 ?_
          refine v_isub (pc := 75) C dX6_tightest_75 ?_
          refine v_istore (pc := 76) C [(6, .int (iI (z45 - z55))), (5, .int (iI z55)), (4, .int (iI z45)), (3, .int (iI e)), (2, .int (iI l)), (1, .int (iI b)), (0, .ref (bs γ + 255))] dX6_tightest_76 (by decide) rfl ?_
          have hsp : spareR n e = z45 - z55 := by unfold spareR; first | rw [if_pos (by omega)] | (rw [if_neg (by omega)]; omega)
          refine v_iload (pc := 78) C 2 rfl dX6_tightest_78 ?_
          refine v_if_le (pc := 80) C 98 (by first | omega | assumption) dX6_tightest_80 (by decide) (fun h80 => ?_) (fun h80 => ?_)
          · refine v_iconst (pc := 98) C dX6_tightest_98 ?_
            refine v_istore (pc := 99) C [(7, .int (iI 0)), (6, .int (iI (z45 - z55))), (5, .int (iI z55)), (4, .int (iI z45)), (3, .int (iI e)), (2, .int (iI l)), (1, .int (iI b)), (0, .ref (bs γ + 255))] dX6_tightest_99 (by decide) rfl ?_
            refine v_iload (pc := 101) C 0 rfl dX6_tightest_101 ?_
            refine v_if_eq (pc := 103) C 110 (by first | omega | assumption) dX6_tightest_103 (by decide) (fun _ => ?_) (fun h => absurd h (by decide))
            refine v_iload_n (pc := 110) C 6 rfl dX6_tightest_110 ?_
            refine v_istore_n (pc := 111) C [(1, .int (iI b)), (7, .int (iI 0)), (6, .int (iI (z45 - z55))), (5, .int (iI z55)), (4, .int (iI z45)), (3, .int (iI e)), (2, .int (iI l)), (0, .ref (bs γ + 255))] dX6_tightest_111 rfl (by decide) rfl ?_
            refine v_iload (pc := 112) C 1 rfl dX6_tightest_112 ?_
            refine v_if_eq (pc := 114) C 122 (by first | omega | assumption) dX6_tightest_114 (by decide) (fun _ => ?_) (fun h => absurd h (by decide))
            refine v_iload_n (pc := 122) C 6 rfl dX6_tightest_122 ?_
            refine v_istore_n (pc := 123) C [(2, .int (iI l)), (1, .int (iI b)), (7, .int (iI 0)), (6, .int (iI (z45 - z55))), (5, .int (iI z55)), (4, .int (iI z45)), (3, .int (iI e)), (0, .ref (bs γ + 255))] dX6_tightest_123 rfl (by decide) rfl ?_
            refine v_iinc (pc := 124) C 6 [(3, .int (iI (e + 1))), (2, .int (iI l)), (1, .int (iI b)), (7, .int (iI 0)), (6, .int (iI (z45 - z55))), (5, .int (iI z55)), (4, .int (iI z45)), (0, .ref (bs γ + 255))] dX6_tightest_124 rfl (by decide) rfl ?_
            refine v_goto (pc := 127) C 11 dX6_tightest_127 (by decide) ?_
            rw [if_neg (by intro h; have h1 := h.1; have h2 := h.2; omega)] at hrr
            exact v_lv _ [0, 1, 2, 7] rfl (ih fl2 _ _ _ hrr (by omega) (by omega) (by omega))
          · refine v_iload_n (pc := 83) C 5 rfl dX6_tightest_83 ?_
            refine v_iconst (pc := 84) C dX6_tightest_84 ?_
            refine v_icmp_eq (pc := 85) C 94 (by first | omega | assumption) (by first | omega | assumption) dX6_tightest_85 (by decide) (fun h85 => ?_) (fun h85 => ?_)
            · refine v_iconst (pc := 94) C dX6_tightest_94 ?_
              refine v_goto (pc := 95) C 99 dX6_tightest_95 (by decide) ?_
              refine v_istore (pc := 99) C [(7, .int (iI 1)), (6, .int (iI (z45 - z55))), (5, .int (iI z55)), (4, .int (iI z45)), (3, .int (iI e)), (2, .int (iI l)), (1, .int (iI b)), (0, .ref (bs γ + 255))] dX6_tightest_99 (by decide) rfl ?_
              refine v_iload (pc := 101) C 0 rfl dX6_tightest_101 ?_
              refine v_if_eq (pc := 103) C 110 (by first | omega | assumption) dX6_tightest_103 (by decide) (fun h => absurd h (by decide)) (fun _ => ?_)
              refine v_iload_n (pc := 106) C 4 rfl dX6_tightest_106 ?_
              refine v_goto (pc := 107) C 111 dX6_tightest_107 (by decide) ?_
              refine v_istore_n (pc := 111) C [(1, .int (iI e)), (7, .int (iI 1)), (6, .int (iI (z45 - z55))), (5, .int (iI z55)), (4, .int (iI z45)), (3, .int (iI e)), (2, .int (iI l)), (0, .ref (bs γ + 255))] dX6_tightest_111 rfl (by decide) rfl ?_
              refine v_iload (pc := 112) C 1 rfl dX6_tightest_112 ?_
              refine v_if_eq (pc := 114) C 122 (by first | omega | assumption) dX6_tightest_114 (by decide) (fun h => absurd h (by decide)) (fun _ => ?_)
              refine v_iload (pc := 117) C 2 rfl dX6_tightest_117 ?_
              refine v_goto (pc := 119) C 123 dX6_tightest_119 (by decide) ?_
              refine v_istore_n (pc := 123) C [(2, .int (iI (z45 - z55))), (1, .int (iI e)), (7, .int (iI 1)), (6, .int (iI (z45 - z55))), (5, .int (iI z55)), (4, .int (iI z45)), (3, .int (iI e)), (0, .ref (bs γ + 255))] dX6_tightest_123 rfl (by decide) rfl ?_
              refine v_iinc (pc := 124) C 6 [(3, .int (iI (e + 1))), (2, .int (iI (z45 - z55))), (1, .int (iI e)), (7, .int (iI 1)), (6, .int (iI (z45 - z55))), (5, .int (iI z55)), (4, .int (iI z45)), (0, .ref (bs γ + 255))] dX6_tightest_124 rfl (by decide) rfl ?_
              refine v_goto (pc := 127) C 11 dX6_tightest_127 (by decide) ?_
              rw [if_pos ⟨by omega, by omega⟩, hsp] at hrr
              exact v_lv _ [0, 1, 2, 7] rfl (ih fl2 _ _ _ hrr (by omega) (by omega) (by omega))
            · refine v_iload (pc := 88) C 0 rfl dX6_tightest_88 ?_
              refine v_iload_n (pc := 90) C 4 rfl dX6_tightest_90 ?_
              refine v_icmp_ge (pc := 91) C 98 (by first | omega | assumption) (by first | omega | assumption) dX6_tightest_91 (by decide) (fun h91 => ?_) (fun h91 => ?_)
              · refine v_iconst (pc := 98) C dX6_tightest_98 ?_
                refine v_istore (pc := 99) C [(7, .int (iI 0)), (6, .int (iI (z45 - z55))), (5, .int (iI z55)), (4, .int (iI z45)), (3, .int (iI e)), (2, .int (iI l)), (1, .int (iI b)), (0, .ref (bs γ + 255))] dX6_tightest_99 (by decide) rfl ?_
                refine v_iload (pc := 101) C 0 rfl dX6_tightest_101 ?_
                refine v_if_eq (pc := 103) C 110 (by first | omega | assumption) dX6_tightest_103 (by decide) (fun _ => ?_) (fun h => absurd h (by decide))
                refine v_iload_n (pc := 110) C 6 rfl dX6_tightest_110 ?_
                refine v_istore_n (pc := 111) C [(1, .int (iI b)), (7, .int (iI 0)), (6, .int (iI (z45 - z55))), (5, .int (iI z55)), (4, .int (iI z45)), (3, .int (iI e)), (2, .int (iI l)), (0, .ref (bs γ + 255))] dX6_tightest_111 rfl (by decide) rfl ?_
                refine v_iload (pc := 112) C 1 rfl dX6_tightest_112 ?_
                refine v_if_eq (pc := 114) C 122 (by first | omega | assumption) dX6_tightest_114 (by decide) (fun _ => ?_) (fun h => absurd h (by decide))
                refine v_iload_n (pc := 122) C 6 rfl dX6_tightest_122 ?_
                refine v_istore_n (pc := 123) C [(2, .int (iI l)), (1, .int (iI b)), (7, .int (iI 0)), (6, .int (iI (z45 - z55))), (5, .int (iI z55)), (4, .int (iI z45)), (3, .int (iI e)), (0, .ref (bs γ + 255))] dX6_tightest_123 rfl (by decide) rfl ?_
                refine v_iinc (pc := 124) C 6 [(3, .int (iI (e + 1))), (2, .int (iI l)), (1, .int (iI b)), (7, .int (iI 0)), (6, .int (iI (z45 - z55))), (5, .int (iI z55)), (4, .int (iI z45)), (0, .ref (bs γ + 255))] dX6_tightest_124 rfl (by decide) rfl ?_
                refine v_goto (pc := 127) C 11 dX6_tightest_127 (by decide) ?_
                rw [if_neg (by intro h; have h1 := h.1; have h2 := h.2; omega)] at hrr
                exact v_lv _ [0, 1, 2, 7] rfl (ih fl2 _ _ _ hrr (by omega) (by omega) (by omega))
              · refine v_iconst (pc := 94) C dX6_tightest_94 ?_
                refine v_goto (pc := 95) C 99 dX6_tightest_95 (by decide) ?_
                refine v_istore (pc := 99) C [(7, .int (iI 1)), (6, .int (iI (z45 - z55))), (5, .int (iI z55)), (4, .int (iI z45)), (3, .int (iI e)), (2, .int (iI l)), (1, .int (iI b)), (0, .ref (bs γ + 255))] dX6_tightest_99 (by decide) rfl ?_
                refine v_iload (pc := 101) C 0 rfl dX6_tightest_101 ?_
                refine v_if_eq (pc := 103) C 110 (by first | omega | assumption) dX6_tightest_103 (by decide) (fun h => absurd h (by decide)) (fun _ => ?_)
                refine v_iload_n (pc := 106) C 4 rfl dX6_tightest_106 ?_
                refine v_goto (pc := 107) C 111 dX6_tightest_107 (by decide) ?_
                refine v_istore_n (pc := 111) C [(1, .int (iI e)), (7, .int (iI 1)), (6, .int (iI (z45 - z55))), (5, .int (iI z55)), (4, .int (iI z45)), (3, .int (iI e)), (2, .int (iI l)), (0, .ref (bs γ + 255))] dX6_tightest_111 rfl (by decide) rfl ?_
                refine v_iload (pc := 112) C 1 rfl dX6_tightest_112 ?_
                refine v_if_eq (pc := 114) C 122 (by first | omega | assumption) dX6_tightest_114 (by decide) (fun h => absurd h (by decide)) (fun _ => ?_)
                refine v_iload (pc := 117) C 2 rfl dX6_tightest_117 ?_
                refine v_goto (pc := 119) C 123 dX6_tightest_119 (by decide) ?_
                refine v_istore_n (pc := 123) C [(2, .int (iI (z45 - z55))), (1, .int (iI e)), (7, .int (iI 1)), (6, .int (iI (z45 - z55))), (5, .int (iI z55)), (4, .int (iI z45)), (3, .int (iI e)), (0, .ref (bs γ + 255))] dX6_tightest_123 rfl (by decide) rfl ?_
                refine v_iinc (pc := 124) C 6 [(3, .int (iI (e + 1))), (2, .int (iI (z45 - z55))), (1, .int (iI e)), (7, .int (iI 1)), (6, .int (iI (z45 - z55))), (5, .int (iI z55)), (4, .int (iI z45)), (0, .ref (bs γ + 255))] dX6_tightest_124 rfl (by decide) rfl ?_
                refine v_goto (pc := 127) C 11 dX6_tightest_127 (by decide) ?_
                rw [if_pos ⟨by omega, by omega⟩, hsp] at hrr
                exact v_lv _ [0, 1, 2, 7] rfl (ih fl2 _ _ _ hrr (by omega) (by omega) (by omega))
        · refine v_bipush (pc := 66) C (by decide +kernel) dX6_tightest_66 ?_
          refine v_goto (pc := 68) C 76 dX6_tightest_68 (by decide) ?_
          refine v_istore (pc := 76) C [(6, .int (iI (-99))), (5, .int (iI z55)), (4, .int (iI z45)), (3, .int (iI e)), (2, .int (iI l)), (1, .int (iI b)), (0, .ref (bs γ + 255))] dX6_tightest_76 (by decide) rfl ?_
          have hsp : spareR n e = -99 := by unfold spareR; first | rw [if_pos (by omega)] | (rw [if_neg (by omega)]; omega)
          refine v_iload (pc := 78) C 2 rfl dX6_tightest_78 ?_
          refine v_if_le (pc := 80) C 98 (by first | omega | assumption) dX6_tightest_80 (by decide) (fun h80_1 => ?_) (fun h80_1 => ?_)
          · refine v_iconst (pc := 98) C dX6_tightest_98 ?_
            refine v_istore (pc := 99) C [(7, .int (iI 0)), (6, .int (iI (-99))), (5, .int (iI z55)), (4, .int (iI z45)), (3, .int (iI e)), (2, .int (iI l)), (1, .int (iI b)), (0, .ref (bs γ + 255))] dX6_tightest_99 (by decide) rfl ?_
            refine v_iload (pc := 101) C 0 rfl dX6_tightest_101 ?_
            refine v_if_eq (pc := 103) C 110 (by first | omega | assumption) dX6_tightest_103 (by decide) (fun _ => ?_) (fun h => absurd h (by decide))
            refine v_iload_n (pc := 110) C 6 rfl dX6_tightest_110 ?_
            refine v_istore_n (pc := 111) C [(1, .int (iI b)), (7, .int (iI 0)), (6, .int (iI (-99))), (5, .int (iI z55)), (4, .int (iI z45)), (3, .int (iI e)), (2, .int (iI l)), (0, .ref (bs γ + 255))] dX6_tightest_111 rfl (by decide) rfl ?_
            refine v_iload (pc := 112) C 1 rfl dX6_tightest_112 ?_
            refine v_if_eq (pc := 114) C 122 (by first | omega | assumption) dX6_tightest_114 (by decide) (fun _ => ?_) (fun h => absurd h (by decide))
            refine v_iload_n (pc := 122) C 6 rfl dX6_tightest_122 ?_
            refine v_istore_n (pc := 123) C [(2, .int (iI l)), (1, .int (iI b)), (7, .int (iI 0)), (6, .int (iI (-99))), (5, .int (iI z55)), (4, .int (iI z45)), (3, .int (iI e)), (0, .ref (bs γ + 255))] dX6_tightest_123 rfl (by decide) rfl ?_
            refine v_iinc (pc := 124) C 6 [(3, .int (iI (e + 1))), (2, .int (iI l)), (1, .int (iI b)), (7, .int (iI 0)), (6, .int (iI (-99))), (5, .int (iI z55)), (4, .int (iI z45)), (0, .ref (bs γ + 255))] dX6_tightest_124 rfl (by decide) rfl ?_
            refine v_goto (pc := 127) C 11 dX6_tightest_127 (by decide) ?_
            rw [if_neg (by intro h; have h1 := h.1; have h2 := h.2; omega)] at hrr
            exact v_lv _ [0, 1, 2, 7] rfl (ih fl2 _ _ _ hrr (by omega) (by omega) (by omega))
          · refine v_iload_n (pc := 83) C 5 rfl dX6_tightest_83 ?_
            refine v_iconst (pc := 84) C dX6_tightest_84 ?_
            refine v_icmp_eq (pc := 85) C 94 (by first | omega | assumption) (by first | omega | assumption) dX6_tightest_85 (by decide) (fun h85_1 => ?_) (fun h85_1 => ?_)
            · refine v_iconst (pc := 94) C dX6_tightest_94 ?_
              refine v_goto (pc := 95) C 99 dX6_tightest_95 (by decide) ?_
              refine v_istore (pc := 99) C [(7, .int (iI 1)), (6, .int (iI (-99))), (5, .int (iI z55)), (4, .int (iI z45)), (3, .int (iI e)), (2, .int (iI l)), (1, .int (iI b)), (0, .ref (bs γ + 255))] dX6_tightest_99 (by decide) rfl ?_
              refine v_iload (pc := 101) C 0 rfl dX6_tightest_101 ?_
              refine v_if_eq (pc := 103) C 110 (by first | omega | assumption) dX6_tightest_103 (by decide) (fun h => absurd h (by decide)) (fun _ => ?_)
              refine v_iload_n (pc := 106) C 4 rfl dX6_tightest_106 ?_
              refine v_goto (pc := 107) C 111 dX6_tightest_107 (by decide) ?_
              refine v_istore_n (pc := 111) C [(1, .int (iI e)), (7, .int (iI 1)), (6, .int (iI (-99))), (5, .int (iI z55)), (4, .int (iI z45)), (3, .int (iI e)), (2, .int (iI l)), (0, .ref (bs γ + 255))] dX6_tightest_111 rfl (by decide) rfl ?_
              refine v_iload (pc := 112) C 1 rfl dX6_tightest_112 ?_
              refine v_if_eq (pc := 114) C 122 (by first | omega | assumption) dX6_tightest_114 (by decide) (fun h => absurd h (by decide)) (fun _ => ?_)
              refine v_iload (pc := 117) C 2 rfl dX6_tightest_117 ?_
              refine v_goto (pc := 119) C 123 dX6_tightest_119 (by decide) ?_
              refine v_istore_n (pc := 123) C [(2, .int (iI (-99))), (1, .int (iI e)), (7, .int (iI 1)), (6, .int (iI (-99))), (5, .int (iI z55)), (4, .int (iI z45)), (3, .int (iI e)), (0, .ref (bs γ + 255))] dX6_tightest_123 rfl (by decide) rfl ?_
              refine v_iinc (pc := 124) C 6 [(3, .int (iI (e + 1))), (2, .int (iI (-99))), (1, .int (iI e)), (7, .int (iI 1)), (6, .int (iI (-99))), (5, .int (iI z55)), (4, .int (iI z45)), (0, .ref (bs γ + 255))] dX6_tightest_124 rfl (by decide) rfl ?_
              refine v_goto (pc := 127) C 11 dX6_tightest_127 (by decide) ?_
              rw [if_pos ⟨by omega, by omega⟩, hsp] at hrr
              exact v_lv _ [0, 1, 2, 7] rfl (ih fl2 _ _ _ hrr (by omega) (by omega) (by omega))
            · refine v_iload (pc := 88) C 0 rfl dX6_tightest_88 ?_
              refine v_iload_n (pc := 90) C 4 rfl dX6_tightest_90 ?_
              refine v_icmp_ge (pc := 91) C 98 (by first | omega | assumption) (by first | omega | assumption) dX6_tightest_91 (by decide) (fun h91_1 => ?_) (fun h91_1 => ?_)
              · refine v_iconst (pc := 98) C dX6_tightest_98 ?_
                refine v_istore (pc := 99) C [(7, .int (iI 0)), (6, .int (iI (-99))), (5, .int (iI z55)), (4, .int (iI z45)), (3, .int (iI e)), (2, .int (iI l)), (1, .int (iI b)), (0, .ref (bs γ + 255))] dX6_tightest_99 (by decide) rfl ?_
                refine v_iload (pc := 101) C 0 rfl dX6_tightest_101 ?_
                refine v_if_eq (pc := 103) C 110 (by first | omega | assumption) dX6_tightest_103 (by decide) (fun _ => ?_) (fun h => absurd h (by decide))
                refine v_iload_n (pc := 110) C 6 rfl dX6_tightest_110 ?_
                refine v_istore_n (pc := 111) C [(1, .int (iI b)), (7, .int (iI 0)), (6, .int (iI (-99))), (5, .int (iI z55)), (4, .int (iI z45)), (3, .int (iI e)), (2, .int (iI l)), (0, .ref (bs γ + 255))] dX6_tightest_111 rfl (by decide) rfl ?_
                refine v_iload (pc := 112) C 1 rfl dX6_tightest_112 ?_
                refine v_if_eq (pc := 114) C 122 (by first | omega | assumption) dX6_tightest_114 (by decide) (fun _ => ?_) (fun h => absurd h (by decide))
                refine v_iload_n (pc := 122) C 6 rfl dX6_tightest_122 ?_
                refine v_istore_n (pc := 123) C [(2, .int (iI l)), (1, .int (iI b)), (7, .int (iI 0)), (6, .int (iI (-99))), (5, .int (iI z55)), (4, .int (iI z45)), (3, .int (iI e)), (0, .ref (bs γ + 255))] dX6_tightest_123 rfl (by decide) rfl ?_
                refine v_iinc (pc := 124) C 6 [(3, .int (iI (e + 1))), (2, .int (iI l)), (1, .int (iI b)), (7, .int (iI 0)), (6, .int (iI (-99))), (5, .int (iI z55)), (4, .int (iI z45)), (0, .ref (bs γ + 255))] dX6_tightest_124 rfl (by decide) rfl ?_
                refine v_goto (pc := 127) C 11 dX6_tightest_127 (by decide) ?_
                rw [if_neg (by intro h; have h1 := h.1; have h2 := h.2; omega)] at hrr
                exact v_lv _ [0, 1, 2, 7] rfl (ih fl2 _ _ _ hrr (by omega) (by omega) (by omega))
              · refine v_iconst (pc := 94) C dX6_tightest_94 ?_
                refine v_goto (pc := 95) C 99 dX6_tightest_95 (by decide) ?_
                refine v_istore (pc := 99) C [(7, .int (iI 1)), (6, .int (iI (-99))), (5, .int (iI z55)), (4, .int (iI z45)), (3, .int (iI e)), (2, .int (iI l)), (1, .int (iI b)), (0, .ref (bs γ + 255))] dX6_tightest_99 (by decide) rfl ?_
                refine v_iload (pc := 101) C 0 rfl dX6_tightest_101 ?_
                refine v_if_eq (pc := 103) C 110 (by first | omega | assumption) dX6_tightest_103 (by decide) (fun h => absurd h (by decide)) (fun _ => ?_)
                refine v_iload_n (pc := 106) C 4 rfl dX6_tightest_106 ?_
                refine v_goto (pc := 107) C 111 dX6_tightest_107 (by decide) ?_
                refine v_istore_n (pc := 111) C [(1, .int (iI e)), (7, .int (iI 1)), (6, .int (iI (-99))), (5, .int (iI z55)), (4, .int (iI z45)), (3, .int (iI e)), (2, .int (iI l)), (0, .ref (bs γ + 255))] dX6_tightest_111 rfl (by decide) rfl ?_
                refine v_iload (pc := 112) C 1 rfl dX6_tightest_112 ?_
                refine v_if_eq (pc := 114) C 122 (by first | omega | assumption) dX6_tightest_114 (by decide) (fun h => absurd h (by decide)) (fun _ => ?_)
                refine v_iload (pc := 117) C 2 rfl dX6_tightest_117 ?_
                refine v_goto (pc := 119) C 123 dX6_tightest_119 (by decide) ?_
                refine v_istore_n (pc := 123) C [(2, .int (iI (-99))), (1, .int (iI e)), (7, .int (iI 1)), (6, .int (iI (-99))), (5, .int (iI z55)), (4, .int (iI z45)), (3, .int (iI e)), (0, .ref (bs γ + 255))] dX6_tightest_123 rfl (by decide) rfl ?_
                refine v_iinc (pc := 124) C 6 [(3, .int (iI (e + 1))), (2, .int (iI (-99))), (1, .int (iI e)), (7, .int (iI 1)), (6, .int (iI (-99))), (5, .int (iI z55)), (4, .int (iI z45)), (0, .ref (bs γ + 255))] dX6_tightest_124 rfl (by decide) rfl ?_
                refine v_goto (pc := 127) C 11 dX6_tightest_127 (by decide) ?_
                rw [if_pos ⟨by omega, by omega⟩, hsp] at hrr
                exact v_lv _ [0, 1, 2, 7] rfl (ih fl2 _ _ _ hrr (by omega) (by omega) (by omega))
  exact v_lv _ [0, 1, 2, 3] rfl (L11 ((n 1).toNat + 1) (n 1).toNat 0 (-1) 0 hV (by omega) (by omega) (by omega))
