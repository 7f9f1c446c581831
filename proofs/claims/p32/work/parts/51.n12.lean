/-! the class's face: what each call answers, and the state behind it -/
def cP (σ : St) (A : Abs) (σ2 : St) : Prop := CRep σ2 A.1 A.2.1 A.2.2.1 A.2.2.2.1 A.2.2.2.2.1 A.2.2.2.2.2.1 A.2.2.2.2.2.2 ∧ ∀ c, 255 ≤ c → σ2 c = σ c
def cQ (σ : St) (o : Rs) (z : Int) (σ2 : St) : Prop := o.1 = 0 ∧ z = o.2.1 ∧ cP σ o.2.2 σ2
def cX (σ : St) (o : Rs) (cd : Int) (σ2 : St) : Prop := o.1 = cd ∧ cP σ o.2.2 σ2
theorem cQ_ok {σ σ2 : St} {o : Rs} {z' z s a : Int} {t n d k i : Int → Int} (h : o = (0, z', (s, a, t, n, d, k, i))) (hz : z = z') (hC : CRep σ2 s a t n d k i) (hF : ∀ c, 255 ≤ c → σ2 c = σ c) : cQ σ o z σ2 := by
  subst h; exact ⟨rfl, hz, hC, hF⟩
theorem cX_no {σ σ2 : St} {o : Rs} {cd s a : Int} {t n d k i : Int → Int} (h : o = (cd, 0, (s, a, t, n, d, k, i))) (hC : CRep σ2 s a t n d k i) (hF : ∀ c, 255 ≤ c → σ2 c = σ c) : cX σ o cd σ2 := by
  subst h; exact ⟨rfl, hC, hF⟩
theorem CRep.text {σ σ' : St} {s s' a : Int} {t t' n d k i : Int → Int} (h : CRep σ s a t n d k i) (e1 : σ' 1 1 = s') (e2 : ∀ j, 0 ≤ j → j < s' → σ' 2 j = t' j) (e : ∀ c, 4 ≤ c → c < 255 → σ' c = σ c) : CRep σ' s' a t' n d k i := by
  obtain ⟨-, -, h3, h4, h5⟩ := h
  refine ⟨e1, e2, ?_, h4.cong (fun c a b => e c (by omega) (by omega)), fun j hj => ?_⟩
  · rw [getN_cong (σ := σ) (fun k hk => e _ (by omega) (by omega))]; exact h3
  · rw [e 202 (by omega) (by omega)]
    refine ⟨(h5 j hj).1, fun q => ?_⟩
    rw [getN_cong (σ := σ) (fun k hk => e _ (by omega) (by omega))]
    exact (h5 j hj).2 q

set_option maxHeartbeats 4000000 in
set_option maxRecDepth 100000 in
theorem k_X5_refuse1 {γ : Gm} (G : Glo γ) {σ : St}  : Cxx γ yX5_refuse cX5_refuse 1 none 1 [.int (iI 1)] σ (fun _ _ => False) (fun E σ2 => E = eI ∧ σ2 = σ) := by
  refine Cxx.of G (by decide +kernel) (Nat.le_of_ble_eq_true rfl) (fun φ C hq hr => ?_)
  have C : Cx γ φ RX5 cX5_refuse 1 1 := C
  refine v_lv [(0, .int (iI 1))] [0] rfl ?_
  refine v_iload_n (pc := 0) C 0 rfl dX5_refuse_0 ?_
  refine v_iconst (pc := 1) C dX5_refuse_1 ?_
  refine v_icmp_ne (pc := 2) C 13 (by first | omega | assumption) (by first | omega | assumption) dX5_refuse_2 (by decide) (fun h => absurd h (by decide)) (fun _ => ?_)
  exact v_tI (pc := 5) C hq dX5_refuse_5 dX5_refuse_8 dX5_refuse_9 dX5_refuse_12 (Nat.le_of_ble_eq_true rfl) (⟨rfl, rfl⟩)

set_option maxHeartbeats 4000000 in
set_option maxRecDepth 100000 in
theorem k_X5_refuse2 {γ : Gm} (G : Glo γ) {σ : St}  : Cxx γ yX5_refuse cX5_refuse 1 none 1 [.int (iI 2)] σ (fun _ _ => False) (fun E σ2 => E = eA ∧ σ2 = σ) := by
  refine Cxx.of G (by decide +kernel) (Nat.le_of_ble_eq_true rfl) (fun φ C hq hr => ?_)
  have C : Cx γ φ RX5 cX5_refuse 1 1 := C
  refine v_lv [(0, .int (iI 2))] [0] rfl ?_
  refine v_iload_n (pc := 0) C 0 rfl dX5_refuse_0 ?_
  refine v_iconst (pc := 1) C dX5_refuse_1 ?_
  refine v_icmp_ne (pc := 2) C 13 (by first | omega | assumption) (by first | omega | assumption) dX5_refuse_2 (by decide) (fun _ => ?_) (fun h => absurd h (by decide))
  refine v_iload_n (pc := 13) C 0 rfl dX5_refuse_13 ?_
  refine v_iconst (pc := 14) C dX5_refuse_14 ?_
  refine v_icmp_ne (pc := 15) C 26 (by first | omega | assumption) (by first | omega | assumption) dX5_refuse_15 (by decide) (fun h => absurd h (by decide)) (fun _ => ?_)
  exact v_tA (pc := 18) C hq dX5_refuse_18 dX5_refuse_21 dX5_refuse_22 dX5_refuse_25 (Nat.le_of_ble_eq_true rfl) (⟨rfl, rfl⟩)

set_option maxHeartbeats 4000000 in
set_option maxRecDepth 100000 in
theorem k_X5_refuse3 {γ : Gm} (G : Glo γ) {σ : St}  : Cxx γ yX5_refuse cX5_refuse 1 none 1 [.int (iI 3)] σ (fun _ _ => False) (fun E σ2 => E = eS ∧ σ2 = σ) := by
  refine Cxx.of G (by decide +kernel) (Nat.le_of_ble_eq_true rfl) (fun φ C hq hr => ?_)
  have C : Cx γ φ RX5 cX5_refuse 1 1 := C
  refine v_lv [(0, .int (iI 3))] [0] rfl ?_
  refine v_iload_n (pc := 0) C 0 rfl dX5_refuse_0 ?_
  refine v_iconst (pc := 1) C dX5_refuse_1 ?_
  refine v_icmp_ne (pc := 2) C 13 (by first | omega | assumption) (by first | omega | assumption) dX5_refuse_2 (by decide) (fun _ => ?_) (fun h => absurd h (by decide))
  refine v_iload_n (pc := 13) C 0 rfl dX5_refuse_13 ?_
  refine v_iconst (pc := 14) C dX5_refuse_14 ?_
  refine v_icmp_ne (pc := 15) C 26 (by first | omega | assumption) (by first | omega | assumption) dX5_refuse_15 (by decide) (fun _ => ?_) (fun h => absurd h (by decide))
  refine v_iload_n (pc := 26) C 0 rfl dX5_refuse_26 ?_
  refine v_iconst (pc := 27) C dX5_refuse_27 ?_
  refine v_icmp_ne (pc := 28) C 39 (by first | omega | assumption) (by first | omega | assumption) dX5_refuse_28 (by decide) (fun h => absurd h (by decide)) (fun _ => ?_)
  exact v_tS (pc := 31) C hq dX5_refuse_31 dX5_refuse_34 dX5_refuse_35 dX5_refuse_38 (Nat.le_of_ble_eq_true rfl) (⟨rfl, rfl⟩)

set_option maxHeartbeats 4000000 in
set_option maxRecDepth 100000 in
theorem k_X5_refuse0 {γ : Gm} (G : Glo γ) {σ : St}  : Ct γ yX5_refuse cX5_refuse 1 none 1 [.int (iI 0)] σ (pV (fun σ2 => σ2 = σ)) := by
  refine Ct.of G (by decide +kernel) (Nat.le_of_ble_eq_true rfl) (fun φ C hr => ?_)
  have C : Cx γ φ RX5 cX5_refuse 1 1 := C
  refine v_lv [(0, .int (iI 0))] [0] rfl ?_
  refine v_iload_n (pc := 0) C 0 rfl dX5_refuse_0 ?_
  refine v_iconst (pc := 1) C dX5_refuse_1 ?_
  refine v_icmp_ne (pc := 2) C 13 (by first | omega | assumption) (by first | omega | assumption) dX5_refuse_2 (by decide) (fun _ => ?_) (fun h => absurd h (by decide))
  refine v_iload_n (pc := 13) C 0 rfl dX5_refuse_13 ?_
  refine v_iconst (pc := 14) C dX5_refuse_14 ?_
  refine v_icmp_ne (pc := 15) C 26 (by first | omega | assumption) (by first | omega | assumption) dX5_refuse_15 (by decide) (fun _ => ?_) (fun h => absurd h (by decide))
  refine v_iload_n (pc := 26) C 0 rfl dX5_refuse_26 ?_
  refine v_iconst (pc := 27) C dX5_refuse_27 ?_
  refine v_icmp_ne (pc := 28) C 39 (by first | omega | assumption) (by first | omega | assumption) dX5_refuse_28 (by decide) (fun _ => ?_) (fun h => absurd h (by decide))
  exact v_vret (pc := 39) C hr dX5_refuse_39 ⟨rfl, rfl⟩

set_option maxHeartbeats 4000000 in
set_option maxRecDepth 100000 in
theorem k_X5_emptySlots {γ : Gm} (G : Glo γ) {σ : St}  : Ct γ yX5_emptySlots cX5_emptySlots 2 none 1 [.ref (bs γ + 0)] σ (pV (fun σ2 => σ2 = setc σ 202 (upr (upr (σ 202) 0 0) 1 0))) := by
  refine Ct.of G (by decide +kernel) (Nat.le_of_ble_eq_true rfl) (fun φ C hr => ?_)
  have C : Cx γ φ RX5 cX5_emptySlots 2 1 := C
  refine v_lv [(0, .ref (bs γ + 0))] [0] rfl ?_
  refine v_iconst (pc := 0) C dX5_emptySlots_0 ?_
  refine v_istore_n (pc := 1) C [(1, .int (iI 0)), (0, .ref (bs γ + 0))] dX5_emptySlots_1 rfl (by decide) rfl ?_
  refine v_iload_n (pc := 2) C 0 rfl dX5_emptySlots_2 ?_
  refine v_iconst (pc := 3) C dX5_emptySlots_3 ?_
  refine v_icmp_ge (pc := 4) C 20 (by first | omega | assumption) (by first | omega | assumption) dX5_emptySlots_4 (by decide) (fun h => absurd h (by decide)) (fun _ => ?_)
  refine v_aload_n (pc := 7) C 1 rfl dX5_emptySlots_7 ?_
  refine v_getr (pc := 8) C inX5 goX5 (ci := 3) rfl 4 (by decide) (wF_X5_34 G) rfl sh_0 (202) rfl dX5_emptySlots_8 ?_
  refine v_iload_n (pc := 11) C 0 rfl dX5_emptySlots_11 ?_
  refine v_iconst (pc := 12) C dX5_emptySlots_12 ?_
  refine v_zast (pc := 13) C sh_202 (by decide) (by first | omega | assumption) (by first | omega | assumption) dX5_emptySlots_13 ?_
  refine v_iinc (pc := 14) C 0 [(1, .int (iI 1)), (0, .ref (bs γ + 0))] dX5_emptySlots_14 rfl (by decide) rfl ?_
  refine v_goto (pc := 17) C 2 dX5_emptySlots_17 (by decide) ?_
  refine v_iload_n (pc := 2) C 0 rfl dX5_emptySlots_2 ?_
  refine v_iconst (pc := 3) C dX5_emptySlots_3 ?_
  refine v_icmp_ge (pc := 4) C 20 (by first | omega | assumption) (by first | omega | assumption) dX5_emptySlots_4 (by decide) (fun h => absurd h (by decide)) (fun _ => ?_)
  refine v_aload_n (pc := 7) C 1 rfl dX5_emptySlots_7 ?_
  refine v_getr (pc := 8) C inX5 goX5 (ci := 3) rfl 4 (by decide) (wF_X5_34 G) rfl sh_0 (202) rfl dX5_emptySlots_8 ?_
  refine v_iload_n (pc := 11) C 0 rfl dX5_emptySlots_11 ?_
  refine v_iconst (pc := 12) C dX5_emptySlots_12 ?_
  refine v_zast (pc := 13) C sh_202 (by decide) (by first | omega | assumption) (by first | omega | assumption) dX5_emptySlots_13 ?_
  refine v_iinc (pc := 14) C 0 [(1, .int (iI 2)), (0, .ref (bs γ + 0))] dX5_emptySlots_14 rfl (by decide) rfl ?_
  refine v_goto (pc := 17) C 2 dX5_emptySlots_17 (by decide) ?_
  refine v_iload_n (pc := 2) C 0 rfl dX5_emptySlots_2 ?_
  refine v_iconst (pc := 3) C dX5_emptySlots_3 ?_
  refine v_icmp_ge (pc := 4) C 20 (by first | omega | assumption) (by first | omega | assumption) dX5_emptySlots_4 (by decide) (fun _ => ?_) (fun h => absurd h (by decide))
  exact v_vret (pc := 20) C hr dX5_emptySlots_20 ⟨rfl, by rw [setc_at, setc_setc]⟩

set_option maxHeartbeats 4000000 in
set_option maxRecDepth 100000 in
theorem k_X5_withoutGroups {γ : Gm} (G : Glo γ) {σ : St} {b m : Int} (hb : 0 ≤ b ∧ b < 9223372036854775808) (hm : 0 ≤ m ∧ m ≤ 3) : Ct γ yX5_withoutGroups cX5_withoutGroups 6 (some .long) 1 [.long (lI b), .int (iI m)] σ (pL (fun z σ2 => (z = b / 1000000 ^ m.toNat ∧ 0 ≤ z ∧ z < 9223372036854775808) ∧ σ2 = σ)) := by
  refine Ct.of G (by decide +kernel) (Nat.le_of_ble_eq_true rfl) (fun φ C hr => ?_)
  have C : Cx γ φ RX5 cX5_withoutGroups 6 1 := C
  refine v_lv [(0, .long (lI b)), (2, .int (iI m))] [0, 1] rfl ?_
  refine v_lload_n (pc := 0) C 0 rfl dX5_withoutGroups_0 ?_
  refine v_lstore_n (pc := 1) C [(3, .long (lI b)), (0, .long (lI b)), (2, .int (iI m))] dX5_withoutGroups_1 rfl (by decide) rfl ?_
  refine v_iconst (pc := 2) C dX5_withoutGroups_2 ?_
  refine v_istore (pc := 3) C [(5, .int (iI 0)), (3, .long (lI b)), (0, .long (lI b)), (2, .int (iI m))] dX5_withoutGroups_3 (by decide) rfl ?_
  have L5 : ∀ (fu : Nat) (j : Nat) (q : Int), (hj : (j : Int) ≤ m) → (hq : q = b / 1000000 ^ j) → (hqr : 0 ≤ q ∧ q < 9223372036854775808) → m.toNat - j < fu → Vw γ φ 6 0 0 (QE γ φ (pL (fun z σ2 => (z = b / 1000000 ^ m.toNat ∧ 0 ≤ z ∧ z < 9223372036854775808) ∧ σ2 = σ))) σ 5 [(5, .int (iI (j : Int))), (3, .long (lI q)), (0, .long (lI b)), (2, .int (iI m))] [] := by
    intro fu
    induction fu with
    | zero => intro j q hj hq hqr hz; exact absurd hz (Nat.not_lt_zero _)
    | succ fu ih =>
      intro j q hj hq hqr hz
      refine v_iload (pc := 5) C 0 rfl dX5_withoutGroups_5 ?_
      refine v_iload_n (pc := 7) C 3 rfl dX5_withoutGroups_7 ?_
      refine v_icmp_ge (pc := 8) C 23 (by first | omega | assumption) (by first | omega | assumption) dX5_withoutGroups_8 (by decide) (fun h8 => ?_) (fun h8 => ?_)
      · refine v_lload_n (pc := 23) C 1 rfl dX5_withoutGroups_23 ?_
        exact v_lret (pc := 24) C hr dX5_withoutGroups_24 ⟨_, rfl, ⟨by rw [hq, show m.toNat = j by omega], by omega⟩, rfl⟩
      · refine v_lload_n (pc := 11) C 1 rfl dX5_withoutGroups_11 ?_
        refine v_ldc2 (pc := 12) C (wCL_X5_270 G) dX5_withoutGroups_12 ?_
        refine v_ldiv (pc := 15) C (by first | omega | assumption) (by first | omega | assumption) dX5_withoutGroups_15 ?_
        refine v_lstore_n (pc := 16) C [(3, .long (lI (q / 1000000))), (5, .int (iI (j : Int))), (0, .long (lI b)), (2, .int (iI m))] dX5_withoutGroups_16 rfl (by decide) rfl ?_
        refine v_iinc (pc := 17) C 1 [(5, .int (iI ((j : Int) + 1))), (3, .long (lI (q / 1000000))), (0, .long (lI b)), (2, .int (iI m))] dX5_withoutGroups_17 rfl (by decide) rfl ?_
        refine v_goto (pc := 20) C 5 dX5_withoutGroups_20 (by decide) ?_
        exact v_lv _ [0, 1, 2, 3] rfl (ih (j + 1) _ (by omega) (by rw [hq, Int.pow_succ, Int.ediv_ediv_of_nonneg (by exact Int.pow_nonneg (by decide))]) (by omega) (by omega))
  exact v_lv _ [0, 1, 2, 3] rfl (L5 (m.toNat + 1) 0 b (by omega) (by rw [Int.pow_zero, Int.ediv_one]) (by omega) (by omega))

set_option maxHeartbeats 4000000 in
set_option maxRecDepth 100000 in
theorem k_X5_append {γ : Gm} (G : Glo γ) {σ : St} {s a : Int} {t n d k i : Int → Int} {c : Int} (hC : CRep σ s a t n d k i) (hO : AOk s a t n d k i) (hc : R3 c)  : Cxx γ yX5_append cX5_append 2 (some .int) 2 [.ref (bs γ + 0), .int (iI c)] σ (pI (fun z σ2 => cQ σ (op_append s a t n d k i c) z σ2)) (fun E σ2 => (E = eA ∧ cX σ (op_append s a t n d k i c) 1 σ2) ∨ (E = eS ∧ cX σ (op_append s a t n d k i c) 2 σ2)) := by
  refine Cxx.of G (by decide +kernel) (Nat.le_of_ble_eq_true rfl) (fun φ C hq hr => ?_)
  have C : Cx γ φ RX5 cX5_append 2 2 := C
  obtain ⟨hO1, hO2, hO3, h, hO5, hO6⟩ := id hO
  have hC0 : CRep σ s a t n d k i := hC
  have hF0 : ∀ c, 255 ≤ c → σ c = σ c := fun _ _ => rfl
  refine v_lv [(0, .ref (bs γ + 0)), (1, .int (iI c))] [0, 1] rfl ?_
  refine v_iload_n (pc := 0) C 1 rfl dX5_append_0 ?_
  refine v_iconst (pc := 1) C dX5_append_1 ?_
  refine v_sipush (pc := 2) C (by decide +kernel) dX5_append_2 ?_
  refine v_cs (pc := 5) (as := [.int (iI c), .int (iI 0), .int (iI 255)]) C (cy_X5_isIn G) (wM_X5_44 G) (k_X5_isIn G (by first | omega | assumption) (by first | omega | assumption) (by first | omega | assumption)) dX5_append_5 rfl rfl (by decide) (by decide) (Nat.le_of_ble_eq_true rfl) zc (k_I (fun z5 s5 q5 => ?_))
  rcases q5 with ⟨⟨rfl, q5⟩ | ⟨rfl, q5⟩, rfl⟩
  · refine v_if_ne (pc := 8) C 19 (by first | omega | assumption) dX5_append_8 (by decide) (fun _ => ?_) (fun h => absurd h (by decide))
    refine v_aload_n (pc := 19) C 0 rfl dX5_append_19 ?_
    refine v_getr (pc := 20) C inX5 goX5 (ci := 3) rfl 0 (by decide) (wF_X5_10 G) rfl sh_0 (1) rfl dX5_append_20 ?_
    refine v_geti (pc := 23) C inX4 goX4 (ci := 2) rfl 1 (by decide) (wF_X5_51 G) rfl sh_1 1 rfl dX5_append_23 (fun z23 ez23 rz23 => ?_)
    have wz23 : z23 = s := ez23.trans hC.1
    refine v_bipush (pc := 26) C (by decide +kernel) dX5_append_26 ?_
    refine v_icmp_lt (pc := 28) C 39 (by first | omega | assumption) (by first | omega | assumption) dX5_append_28 (by decide) (fun h28 => ?_) (fun h28 => ?_)
    · refine v_aload_n (pc := 39) C 0 rfl dX5_append_39 ?_
      refine v_getr (pc := 40) C inX5 goX5 (ci := 3) rfl 0 (by decide) (wF_X5_10 G) rfl sh_0 (1) rfl dX5_append_40 ?_
      refine v_getr (pc := 43) C inX4 goX4 (ci := 2) rfl 0 (by decide) (wF_X5_58 G) rfl sh_1 (2) rfl dX5_append_43 ?_
      refine v_aload_n (pc := 46) C 0 rfl dX5_append_46 ?_
      refine v_getr (pc := 47) C inX5 goX5 (ci := 3) rfl 0 (by decide) (wF_X5_10 G) rfl sh_0 (1) rfl dX5_append_47 ?_
      refine v_geti (pc := 50) C inX4 goX4 (ci := 2) rfl 1 (by decide) (wF_X5_51 G) rfl sh_1 1 rfl dX5_append_50 (fun z50 ez50 rz50 => ?_)
      have wz50 : z50 = s := ez50.trans hC.1
      refine v_iload_n (pc := 53) C 1 rfl dX5_append_53 ?_
      refine v_i2c (pc := 54) C (by first | omega | assumption) dX5_append_54 ?_
      refine v_cast (pc := 55) C sh_2 (by decide) (by first | omega | assumption) (by first | omega | assumption) dX5_append_55 ?_
      refine v_aload_n (pc := 56) C 0 rfl dX5_append_56 ?_
      refine v_getr (pc := 57) C inX5 goX5 (ci := 3) rfl 0 (by decide) (wF_X5_10 G) rfl sh_0 (1) rfl dX5_append_57 ?_
      refine v_dup (pc := 60) C rfl dX5_append_60 ?_
      refine v_geti (pc := 61) C inX4 goX4 (ci := 2) rfl 1 (by decide) (wF_X5_51 G) rfl sh_1 1 rfl dX5_append_61 (fun z61 ez61 rz61 => ?_)
      have wz61 : z61 = s := ez61.trans hC.1
      refine v_iconst (pc := 64) C dX5_append_64 ?_
      refine v_iadd (pc := 65) C dX5_append_65 ?_
      refine v_puti (pc := 66) C inX4 goX4 (ci := 2) rfl 1 (by decide) (wF_X5_51 G) rfl sh_1 tyX4 tyX4_ok nmX4 rfl rfl (fun _ => Nat.le_of_ble_eq_true rfl) (fun _ _ => ob_set_X4_1) (by first | omega | assumption) dX5_append_66 ?_
      refine v_aload_n (pc := 69) C 0 rfl dX5_append_69 ?_
      refine v_getr (pc := 70) C inX5 goX5 (ci := 3) rfl 0 (by decide) (wF_X5_10 G) rfl sh_0 (1) rfl dX5_append_70 ?_
      refine v_geti (pc := 73) C inX4 goX4 (ci := 2) rfl 1 (by decide) (wF_X5_51 G) rfl sh_1 1 rfl dX5_append_73 (fun z73 ez73 rz73 => ?_)
      have wz73 : z73 = s + 1 := by rw [ez73, setc_at]; show upr _ ((1 : Nat) : Int) _ 1 = _; rw [upr_if, if_pos (by decide), wz61]
      exact v_iretX (pc := 76) C hr (rfl) dX5_append_76 (⟨_, rfl, cQ_ok (z' := s + 1) (by unfold op_append; rw [if_neg (by omega), if_neg (by omega)]) (by omega) (hC.text (by rw [setc_at]; show upr _ ((1 : Nat) : Int) _ 1 = _; rw [upr_if, if_pos (by decide), wz61]) (fun j j0 j1 => by rw [setc_ne _ _ (by decide), setc_at, upr_if, upr_if, wz50]; split; rfl; exact hC.2.1 j j0 (by omega)) (fun c c0 c1 => by rw [setc_ne _ _ (by omega), setc_ne _ _ (by omega)])) (fun c hc => by rw [setc_ne _ _ (by omega), setc_ne _ _ (by omega)])⟩)
    · exact v_tS (pc := 31) C hq dX5_append_31 dX5_append_34 dX5_append_35 dX5_append_38 (Nat.le_of_ble_eq_true rfl) (Or.inr (⟨rfl, cX_no (by unfold op_append; rw [if_neg (by omega), if_pos (by omega)]) (hC0) (hF0)⟩))
  · refine v_if_ne (pc := 8) C 19 (by first | omega | assumption) dX5_append_8 (by decide) (fun h => absurd h (by decide)) (fun _ => ?_)
    exact v_tA (pc := 11) C hq dX5_append_11 dX5_append_14 dX5_append_15 dX5_append_18 (Nat.le_of_ble_eq_true rfl) (Or.inl (⟨rfl, cX_no (by unfold op_append; rw [if_pos (by omega)]) (hC0) (hF0)⟩))

set_option maxHeartbeats 4000000 in
set_option maxRecDepth 100000 in
theorem k_X5_setting {γ : Gm} (G : Glo γ) {σ : St} {s a : Int} {t n d k i : Int → Int} {w : Int} (hC : CRep σ s a t n d k i) (hO : AOk s a t n d k i) (hw : R3 w)  : Cxx γ yX5_setting cX5_setting 2 (some .int) 2 [.ref (bs γ + 0), .int (iI w)] σ (pI (fun z σ2 => cQ σ (op_setting s a t n d k i w) z σ2)) (fun E σ2 => (E = eA ∧ cX σ (op_setting s a t n d k i w) 1 σ2)) := by
  refine Cxx.of G (by decide +kernel) (Nat.le_of_ble_eq_true rfl) (fun φ C hq hr => ?_)
  have C : Cx γ φ RX5 cX5_setting 2 2 := C
  obtain ⟨hO1, hO2, hO3, h, hO5, hO6⟩ := id hO
  have hN : NetB 4 := Or.inl rfl
  have hT : NetB 203 := Or.inr (Or.inl rfl)
  obtain ⟨α, hα⟩ : ∃ α, α = getN σ 4 := ⟨_, rfl⟩
  have hR : Rep α n := by rw [hα]; exact hC.2.2.1
  refine v_st (show σ = setN σ 4 α from by rw [hα]; exact (setN_eta σ 4).symm) ?_
  have hC0 : CRep (setN σ 4 α) s a t n d k i := hC.now hR
  have hF0 : ∀ c, 255 ≤ c → setN σ 4 α c = σ c := fun c hc => setN_out _ _ _ (by omega)
  have hn0 := h.1
  have hn1 := h.2.1
  have hn4 := h.2.2.1
  have hn5 := h.2.2.2.1
  refine v_lv [(0, .ref (bs γ + 0)), (1, .int (iI w))] [0, 1] rfl ?_
  refine v_iload_n (pc := 0) C 1 rfl dX5_setting_0 ?_
  refine v_iconst (pc := 1) C dX5_setting_1 ?_
  refine v_iconst (pc := 2) C dX5_setting_2 ?_
  refine v_cs (pc := 3) (as := [.int (iI w), .int (iI 0), .int (iI 1)]) C (cy_X5_isIn G) (wM_X5_44 G) (k_X5_isIn G (by first | omega | assumption) (by first | omega | assumption) (by first | omega | assumption)) dX5_setting_3 rfl rfl (by decide) (by decide) (Nat.le_of_ble_eq_true rfl) zc (k_I (fun z3 s3 q3 => ?_))
  rcases q3 with ⟨⟨rfl, q3⟩ | ⟨rfl, q3⟩, rfl⟩
  · refine v_if_ne (pc := 6) C 17 (by first | omega | assumption) dX5_setting_6 (by decide) (fun _ => ?_) (fun h => absurd h (by decide))
    refine v_aload_n (pc := 17) C 0 rfl dX5_setting_17 ?_
    refine v_getr (pc := 18) C inX5 goX5 (ci := 3) rfl 1 (by decide) (wF_X5_19 G) rfl sh_0 (4) rfl dX5_setting_18 ?_
    refine v_getrN (pc := 21) C hN 4 1 (by decide) (wF_X5_172 G) rfl dX5_setting_21 ?_
    refine v_iload_n (pc := 24) C 1 rfl dX5_setting_24 ?_
    refine v_ialdN (pc := 25) C hN 1 (by decide) (m := 2) rfl (by first | omega | assumption) dX5_setting_25 (fun z25 ez25 rz25 => ?_)
    have wz25 : z25 = n (4 + w) := by
      rw [ez25]
      rcases (show w = 0 ∨ w = 1 by omega) with rfl | rfl
      · exact hR.nl
      · exact hR.ns
    exact v_iretX (pc := 26) C hr (rfl) dX5_setting_26 (⟨_, rfl, cQ_ok (z' := n (4 + w)) (by unfold op_setting; rw [if_neg (by omega)]) (by assumption) (hC0) (hF0)⟩)
  · refine v_if_ne (pc := 6) C 17 (by first | omega | assumption) dX5_setting_6 (by decide) (fun h => absurd h (by decide)) (fun _ => ?_)
    exact v_tA (pc := 9) C hq dX5_setting_9 dX5_setting_12 dX5_setting_13 dX5_setting_16 (Nat.le_of_ble_eq_true rfl) (⟨rfl, cX_no (by unfold op_setting; rw [if_pos (by omega)]) (hC0) (hF0)⟩)

set_option maxHeartbeats 4000000 in
set_option maxRecDepth 100000 in
theorem k_X5_leg {γ : Gm} (G : Glo γ) {σ : St} {s a : Int} {t n d k i : Int → Int} {v g : Int} (hC : CRep σ s a t n d k i) (hO : AOk s a t n d k i) (hv : R3 v) (hg : R3 g)  : Cxx γ yX5_leg cX5_leg 3 (some .int) 3 [.ref (bs γ + 0), .int (iI v), .int (iI g)] σ (pI (fun z σ2 => cQ σ (op_leg s a t n d k i v g) z σ2)) (fun E σ2 => (E = eI ∧ cX σ (op_leg s a t n d k i v g) 1 σ2)) := by
  refine Cxx.of G (by decide +kernel) (Nat.le_of_ble_eq_true rfl) (fun φ C hq hr => ?_)
  have C : Cx γ φ RX5 cX5_leg 3 3 := C
  obtain ⟨hO1, hO2, hO3, h, hO5, hO6⟩ := id hO
  have hN : NetB 4 := Or.inl rfl
  have hT : NetB 203 := Or.inr (Or.inl rfl)
  obtain ⟨α, hα⟩ : ∃ α, α = getN σ 4 := ⟨_, rfl⟩
  have hR : Rep α n := by rw [hα]; exact hC.2.2.1
  refine v_st (show σ = setN σ 4 α from by rw [hα]; exact (setN_eta σ 4).symm) ?_
  have hC0 : CRep (setN σ 4 α) s a t n d k i := hC.now hR
  have hF0 : ∀ c, 255 ≤ c → setN σ 4 α c = σ c := fun c hc => setN_out _ _ _ (by omega)
  have hn0 := h.1
  have hn1 := h.2.1
  have hn4 := h.2.2.1
  have hn5 := h.2.2.2.1
  refine v_lv [(0, .ref (bs γ + 0)), (1, .int (iI v)), (2, .int (iI g))] [0, 1, 2] rfl ?_
  refine v_aload_n (pc := 0) C 0 rfl dX5_leg_0 ?_
  refine v_getr (pc := 1) C inX5 goX5 (ci := 3) rfl 1 (by decide) (wF_X5_19 G) rfl sh_0 (4) rfl dX5_leg_1 ?_
  refine v_iload_n (pc := 4) C 1 rfl dX5_leg_4 ?_
  refine v_iload_n (pc := 5) C 2 rfl dX5_leg_5 ?_
  refine v_cv (pc := 6) (as := [.int (iI v), .int (iI g)]) C (cy_X2_hasEnd G) (wM_X5_134 G) sh_4 (ci := 1) rfl rfl (k_X2_hasEnd G hN hR h (by first | omega | assumption) (by first | omega | assumption)) dX5_leg_6 rfl rfl (by decide) (by decide) (Nat.le_of_ble_eq_true rfl) zc (k_I (fun z6 s6 q6 => ?_))
  rcases q6 with ⟨⟨rfl, q6⟩ | ⟨rfl, q6⟩, rfl⟩
  · refine v_if_ne (pc := 9) C 20 (by first | omega | assumption) dX5_leg_9 (by decide) (fun _ => ?_) (fun h => absurd h (by decide))
    refine v_aload_n (pc := 20) C 0 rfl dX5_leg_20 ?_
    refine v_getr (pc := 21) C inX5 goX5 (ci := 3) rfl 1 (by decide) (wF_X5_19 G) rfl sh_0 (4) rfl dX5_leg_21 ?_
    refine v_getrN (pc := 24) C hN 8 5 (by decide) (wF_X5_138 G) rfl dX5_leg_24 ?_
    refine v_iload_n (pc := 27) C 1 rfl dX5_leg_27 ?_
    refine v_iload_n (pc := 28) C 2 rfl dX5_leg_28 ?_
    refine v_cs (pc := 29) (as := [.int (iI v), .int (iI g)]) C (cy_X5_endOf G) (wM_X5_141 G) (k_X5_endOf G) dX5_leg_29 rfl rfl (by decide) (by decide) (Nat.le_of_ble_eq_true rfl) zc (k_I (fun z29 s29 q29 => ?_))
    obtain ⟨ez29, rfl⟩ := q29
    refine v_ialdN (pc := 32) C hN 5 (by decide) (m := 20) rfl (by first | omega | assumption) dX5_leg_32 (fun z32 ez32 rz32 => ?_)
    have wz32 : z32 = n (6 + 7 * v + (3 + g)) := by rw [ez32, ez29]; exact (hR.2.2.1 v g (by omega) (by omega) (by omega) (by omega)).1
    exact v_iretX (pc := 33) C hr (rfl) dX5_leg_33 (⟨_, rfl, cQ_ok (z' := n (6 + 7 * v + (3 + g))) (by unfold op_leg; rw [if_neg (by omega)]) (by assumption) (hC0) (hF0)⟩)
  · refine v_if_ne (pc := 9) C 20 (by first | omega | assumption) dX5_leg_9 (by decide) (fun h => absurd h (by decide)) (fun _ => ?_)
    exact v_tI (pc := 12) C hq dX5_leg_12 dX5_leg_15 dX5_leg_16 dX5_leg_19 (Nat.le_of_ble_eq_true rfl) (⟨rfl, cX_no (by unfold op_leg; rw [if_pos (by omega)]) (hC0) (hF0)⟩)
