/-! the law: rules -/
def ruA (x : Int) (A : Abs) : Abs := st_tryUndo (st_tryUndo (pS (wP 60 (st_keys (st_keys A 0 (x / 16 % 4 % 2)) 1 (x / 16 % 4 / 2)) (cntN 60)) (cntN 60)))
theorem ruA_inv {T x : Int} {A : Abs} (h : Inv T A) (hT : T < 900000) (hx : 0 ≤ x) : Inv T (ruA x A) ∧ nA (ruA x A) = nA A := by
  obtain ⟨-, -, -, -, -, -, -, hI, hn⟩ := rules_pure h hT (b1 := x / 16 % 4 % 2) (b2 := x / 16 % 4 / 2) (by omega) (by omega)
  exact ⟨hI, hn⟩
set_option maxHeartbeats 1000000 in
set_option maxRecDepth 100000 in
theorem k_rules {γ : Gm} (G : GL γ) {T : Int} {A : Abs} {x : Int} (h : Inv T A) (hT : T < 900000) (hx : 0 ≤ x ∧ x < 2147483648) : Cl γ yL_rules (.code yL_rules cL_rules 10 (some .boolean)) 14 60 [.ref (bs (gw γ false)), .ref (bs (gw γ true)), .int (iI x)] (A, A) 1 (ruA x A, ruA x A) := by
  refine Cl.of G (by decide +kernel) (Nat.le_of_ble_eq_true rfl) (fun φ C hcr hr => ?_)
  have C : Cx γ φ RL cL_rules 10 14 := C
  have h0 := h.1.wf.1
  have h1 := h.1.wf.2.1
  have htt := h.2.1.2.2.1
  obtain ⟨h4, k0, k1⟩ := h.2.1.2.1
  refine x_lv [(0, .ref (bs (gw γ false))), (1, .ref (bs (gw γ true))), (2, .int (iI x))] [0, 1, 2] rfl ?_
  refine x_iload_n (pc := 0) C 2 rfl dL_rules_0 ?_
  refine x_aload_n (pc := 1) C 0 rfl dL_rules_1 ?_
  refine x_iconst (pc := 2) C dL_rules_2 ?_
  refine x_iconst (pc := 3) C dL_rules_3 ?_
  refine x_iconst (pc := 4) C dL_rules_4 ?_
  refine x_iconst (pc := 5) C dL_rules_5 ?_
  refine x_cs (pc := 6) (a := 0) (m := 1) (S' := (A, A)) (z := nA A 0) (as := [.ref (bs (gw γ false)), .int (iI 2), .int (iI 0), .int (iI 0), .int (iI 0)]) C (cy_L_call G.1) (wM_L_172 G.1) (t_ab0 G false (A := A) (rfl : gat (A, A) false = A) h.1) dL_rules_6 rfl rfl (by decide) (by decide) (Nat.le_of_ble_eq_true rfl) ⟨by omega, by omega⟩ ?_
  refine x_irem (pc := 9) C (by omega) (by omega) dL_rules_9 ?_
  refine x_nm (fun v ev => ?_)
  have hv : 0 ≤ v ∧ v < nA A 0 := ⟨ev ▸ Int.emod_nonneg _ (by omega), ev ▸ Int.emod_lt_of_pos _ (by omega)⟩
  refine x_istore_n (pc := 10) C [(3, .int (iI v)), (0, .ref (bs (gw γ false))), (1, .ref (bs (gw γ true))), (2, .int (iI x))] dL_rules_10 rfl (by decide) rfl ?_
  refine x_aload_n (pc := 11) C 1 rfl dL_rules_11 ?_
  refine x_bipush (pc := 12) C (by decide +kernel) dL_rules_12 ?_
  refine x_iconst (pc := 14) C dL_rules_14 ?_
  refine x_iconst (pc := 15) C dL_rules_15 ?_
  refine x_iload_n (pc := 16) C 0 rfl dL_rules_16 ?_
  refine x_cs (pc := 17) (a := 1) (m := 1) (S' := (A, A)) (z := ruleL (nA A) 0 1 v 4 0 0) (as := [.ref (bs (gw γ false)), .int (iI 16), .int (iI 0), .int (iI 1), .int (iI v)]) C (cy_L_call G.1) (wM_L_172 G.1) (t_rule G false (A := A) (rfl : gat (A, A) false = A) h.1 (c := 0) (y := 1) (v := v) ⟨by decide, by omega⟩ ⟨by decide, by omega⟩ hv (by decide) k0 k1) dL_rules_17 rfl rfl (by decide) (by decide) (Nat.le_of_ble_eq_true rfl) ⟨by omega, by omega⟩ ?_
  refine x_nm (fun sr esr => ?_)
  have hsr := ruleL_b (nA A) 0 1 v
  rw [← esr] at hsr
  have hsR : -2147483648 ≤ sr ∧ sr < 2147483648 := by omega
  refine x_istore (pc := 20) C [(4, .int (iI sr)), (3, .int (iI v)), (0, .ref (bs (gw γ false))), (1, .ref (bs (gw γ true))), (2, .int (iI x))] dL_rules_20 (by decide) rfl ?_
  refine x_aload_n (pc := 22) C 2 rfl dL_rules_22 ?_
  refine x_iconst (pc := 23) C dL_rules_23 ?_
  refine x_iconst (pc := 24) C dL_rules_24 ?_
  refine x_iconst (pc := 25) C dL_rules_25 ?_
  refine x_iconst (pc := 26) C dL_rules_26 ?_
  refine x_cs (pc := 27) (a := 2) (m := 1) (S' := (A, A)) (z := nA A 2) (as := [.ref (bs (gw γ false)), .int (iI 2), .int (iI 2), .int (iI 0), .int (iI 0)]) C (cy_L_call G.1) (wM_L_172 G.1) (t_ab2 G false (A := A) (rfl : gat (A, A) false = A) h.1 (by omega)) dL_rules_27 rfl rfl (by decide) (by decide) (Nat.le_of_ble_eq_true rfl) ⟨by omega, by omega⟩ ?_
  refine x_nm (fun tm etm => ?_)
  refine x_istore (pc := 30) C [(5, .int (iI tm)), (4, .int (iI sr)), (3, .int (iI v)), (0, .ref (bs (gw γ false))), (1, .ref (bs (gw γ true))), (2, .int (iI x))] dL_rules_30 (by decide) rfl ?_
  refine x_iload_n (pc := 32) C 5 rfl dL_rules_32 ?_
  refine x_bipush (pc := 33) C (by decide +kernel) dL_rules_33 ?_
  refine x_idiv (pc := 35) C (by omega) (by decide) dL_rules_35 ?_
  refine x_iconst (pc := 36) C dL_rules_36 ?_
  refine x_irem (pc := 37) C (by omega) (by decide) dL_rules_37 ?_
  refine x_nm (fun hq ehq => ?_)
  have hhq : 0 ≤ hq ∧ hq < 4 := by omega
  obtain ⟨hO1, hO2, hO3, ⟨hn3, hn30⟩, hU4, hU5, hU6, hI, hnE⟩ := rules_pure h hT (b1 := hq % 2) (b2 := hq / 2) (by omega) (by omega)
  generalize hB1 : st_keys A 0 (hq % 2) = B1 at *
  generalize hB2 : st_keys B1 1 (hq / 2) = B2 at *
  generalize hB3 : wP 60 B2 (cntN 60) = B3 at *
  generalize hB4 : pS B3 (cntN 60) = B4 at *
  generalize hB5 : st_tryUndo B4 = B5 at *
  generalize hB6 : st_tryUndo B5 = B6 at *
  have hn3' : nA B3 = ruleRow (nA A) 0 1 hq := hn3
  refine x_istore (pc := 38) C [(6, .int (iI hq)), (5, .int (iI tm)), (4, .int (iI sr)), (3, .int (iI v)), (0, .ref (bs (gw γ false))), (1, .ref (bs (gw γ true))), (2, .int (iI x))] dL_rules_38 (by decide) rfl ?_
  refine x_iload (pc := 40) C 2 rfl dL_rules_40 ?_
  refine x_iconst (pc := 42) C dL_rules_42 ?_
  refine x_icmp_lt (pc := 43) C 57 hsR (by decide) dL_rules_43 (by decide) (fun h => by exfalso; omega) (fun h43 => ?_)
  refine x_iload (pc := 46) C 2 rfl dL_rules_46 ?_
  refine x_bipush (pc := 48) C (by decide +kernel) dL_rules_48 ?_
  refine x_icmp_ge (pc := 50) C 57 hsR (by decide) dL_rules_50 (by decide) (fun h => by exfalso; omega) (fun h50 => ?_)
  refine x_iconst (pc := 53) C dL_rules_53 ?_
  refine x_goto (pc := 54) C 58 dL_rules_54 (by decide) ?_
  refine x_istore (pc := 58) C [(7, .int (iI 1)), (6, .int (iI hq)), (5, .int (iI tm)), (4, .int (iI sr)), (3, .int (iI v)), (0, .ref (bs (gw γ false))), (1, .ref (bs (gw γ true))), (2, .int (iI x))] dL_rules_58 (by decide) rfl ?_
  refine x_aload_n (pc := 60) C 5 rfl dL_rules_60 ?_
  refine x_iconst (pc := 61) C dL_rules_61 ?_
  refine x_iload (pc := 62) C 1 rfl dL_rules_62 ?_
  refine x_iconst (pc := 64) C dL_rules_64 ?_
  refine x_iand (pc := 65) C dL_rules_65 ?_
  refine x_ti (x2 := hq % 2) (iAnd_1 hhq) ?_
  refine x_iconst (pc := 66) C dL_rules_66 ?_
  suffices K67 : Vl γ φ 10 (3) (QL γ φ 60 1 (ruA x A, ruA x A)) (A, A) 75 [(7, .int (iI 1)), (6, .int (iI hq)), (5, .int (iI tm)), (4, .int (iI sr)), (3, .int (iI v)), (0, .ref (bs (gw γ false))), (1, .ref (bs (gw γ true))), (2, .int (iI x))] [.int (iI (hq % 2)), .int (iI 0), .ref (bs (gw γ false))] by
    refine x_icmp_ne (pc := 67) C 74 (by omega) (by decide) dL_rules_67 (by decide) (fun h67 => ?_) (fun h67 => ?_)
    · refine x_iconst (pc := 74) C dL_rules_74 ?_
      exact x_ti (x2 := hq % 2) (by omega) K67
    · refine x_iconst (pc := 70) C dL_rules_70 ?_
      refine x_goto (pc := 71) C 75 dL_rules_71 (by decide) ?_
      exact x_ti (x2 := hq % 2) (by omega) K67
  refine x_cw (pc := 75) (a := 3) (m := 1) (S' := (B1, A)) (z := an_keys A 0 (hq % 2)) (as := [.ref (bs (gw γ false)), .int (iI 0), .int (iI (hq % 2))]) C (cy_L_keys G.1) (wM_L_180 G.1) ((by have hc9 := da_keys G false (A := A) (rfl : gat (A, A) false = A) (v := 0) (b := hq % 2) (by decide) (by omega); rw [hB1] at hc9; exact hc9)) dL_rules_75 rfl rfl (by decide) (by decide) (Nat.le_of_ble_eq_true rfl) ⟨by omega, by omega⟩ ?_
  refine x_nm (fun k1v ek1v => ?_)
  have hk1v := an_keys_r A 0 (hq % 2)
  rw [← ek1v] at hk1v
  refine x_istore (pc := 78) C [(8, .int (iI k1v)), (7, .int (iI 1)), (6, .int (iI hq)), (5, .int (iI tm)), (4, .int (iI sr)), (3, .int (iI v)), (0, .ref (bs (gw γ false))), (1, .ref (bs (gw γ true))), (2, .int (iI x))] dL_rules_78 (by decide) rfl ?_
  refine x_aload_n (pc := 80) C 6 rfl dL_rules_80 ?_
  refine x_iconst (pc := 81) C dL_rules_81 ?_
  refine x_iload (pc := 82) C 2 rfl dL_rules_82 ?_
  refine x_iconst (pc := 84) C dL_rules_84 ?_
  suffices K85 : Vl γ φ 10 (4) (QL γ φ 60 1 (ruA x A, ruA x A)) (B1, A) 93 [(8, .int (iI k1v)), (7, .int (iI 1)), (6, .int (iI hq)), (5, .int (iI tm)), (4, .int (iI sr)), (3, .int (iI v)), (0, .ref (bs (gw γ false))), (1, .ref (bs (gw γ true))), (2, .int (iI x))] [.int (iI (hq / 2)), .int (iI 1), .ref (bs (gw γ false))] by
    refine x_icmp_le (pc := 85) C 92 (by omega) (by decide) dL_rules_85 (by decide) (fun h85 => ?_) (fun h85 => ?_)
    · refine x_iconst (pc := 92) C dL_rules_92 ?_
      exact x_ti (x2 := hq / 2) (by omega) K85
    · refine x_iconst (pc := 88) C dL_rules_88 ?_
      refine x_goto (pc := 89) C 93 dL_rules_89 (by decide) ?_
      exact x_ti (x2 := hq / 2) (by omega) K85
  refine x_cw (pc := 93) (a := 4) (m := 1) (S' := (B2, A)) (z := an_keys B1 1 (hq / 2)) (as := [.ref (bs (gw γ false)), .int (iI 1), .int (iI (hq / 2))]) C (cy_L_keys G.1) (wM_L_180 G.1) ((by have hc9 := da_keys G false (A := B1) (rfl : gat (B1, A) false = B1) (v := 1) (b := hq / 2) (by decide) (by omega); rw [hB2] at hc9; exact hc9)) dL_rules_93 rfl rfl (by decide) (by decide) (Nat.le_of_ble_eq_true rfl) ⟨by omega, by omega⟩ ?_
  refine x_nm (fun k2v ek2v => ?_)
  have hk2v := an_keys_r B1 1 (hq / 2)
  rw [← ek2v] at hk2v
  refine x_istore (pc := 96) C [(9, .int (iI k2v)), (8, .int (iI k1v)), (7, .int (iI 1)), (6, .int (iI hq)), (5, .int (iI tm)), (4, .int (iI sr)), (3, .int (iI v)), (0, .ref (bs (gw γ false))), (1, .ref (bs (gw γ true))), (2, .int (iI x))] dL_rules_96 (by decide) rfl ?_
  refine x_iload (pc := 98) C 2 rfl dL_rules_98 ?_
  refine x_if_eq (pc := 100) C 209 (by decide) dL_rules_100 (by decide) (fun h => absurd h (by decide)) (fun h100 => ?_)
  refine x_aload_n (pc := 103) C 8 rfl dL_rules_103 ?_
  refine x_iconst (pc := 104) C dL_rules_104 ?_
  refine x_iload (pc := 105) C 3 rfl dL_rules_105 ?_
  refine x_iconst (pc := 107) C dL_rules_107 ?_
  refine x_iand (pc := 108) C dL_rules_108 ?_
  refine x_ti (x2 := hq % 2) (iAnd_1 hhq) ?_
  refine x_iconst (pc := 109) C dL_rules_109 ?_
  suffices K110 : Vl γ φ 10 (5) (QL γ φ 60 1 (ruA x A, ruA x A)) (B2, A) 118 [(9, .int (iI k2v)), (8, .int (iI k1v)), (7, .int (iI 1)), (6, .int (iI hq)), (5, .int (iI tm)), (4, .int (iI sr)), (3, .int (iI v)), (0, .ref (bs (gw γ false))), (1, .ref (bs (gw γ true))), (2, .int (iI x))] [.int (iI (hq % 2)), .int (iI 0), .ref (bs (gw γ true))] by
    refine x_icmp_ne (pc := 110) C 117 (by omega) (by decide) dL_rules_110 (by decide) (fun h110 => ?_) (fun h110 => ?_)
    · refine x_iconst (pc := 117) C dL_rules_117 ?_
      exact x_ti (x2 := hq % 2) (by omega) K110
    · refine x_iconst (pc := 113) C dL_rules_113 ?_
      refine x_goto (pc := 114) C 118 dL_rules_114 (by decide) ?_
      exact x_ti (x2 := hq % 2) (by omega) K110
  refine x_cw (pc := 118) (a := 5) (m := 1) (S' := (B2, B1)) (z := an_keys A 0 (hq % 2)) (as := [.ref (bs (gw γ true)), .int (iI 0), .int (iI (hq % 2))]) C (cy_L_keys G.1) (wM_L_180 G.1) ((by have hc9 := da_keys G true (A := A) (rfl : gat (B2, A) true = A) (v := 0) (b := hq % 2) (by decide) (by omega); rw [hB1] at hc9; exact hc9)) dL_rules_118 rfl rfl (by decide) (by decide) (Nat.le_of_ble_eq_true rfl) ⟨by omega, by omega⟩ ?_
  refine x_iload (pc := 121) C 1 rfl dL_rules_121 ?_
  refine x_icmp_ne (pc := 123) C 209 (by apply an_keys_r) hk1v dL_rules_123 (by decide) (fun h9 => absurd ek1v.symm h9) (fun h123 => ?_)
  refine x_aload_n (pc := 126) C 8 rfl dL_rules_126 ?_
  refine x_iconst (pc := 127) C dL_rules_127 ?_
  refine x_iload (pc := 128) C 3 rfl dL_rules_128 ?_
  refine x_iconst (pc := 130) C dL_rules_130 ?_
  suffices K131 : Vl γ φ 10 (6) (QL γ φ 60 1 (ruA x A, ruA x A)) (B2, B1) 139 [(9, .int (iI k2v)), (8, .int (iI k1v)), (7, .int (iI 1)), (6, .int (iI hq)), (5, .int (iI tm)), (4, .int (iI sr)), (3, .int (iI v)), (0, .ref (bs (gw γ false))), (1, .ref (bs (gw γ true))), (2, .int (iI x))] [.int (iI (hq / 2)), .int (iI 1), .ref (bs (gw γ true))] by
    refine x_icmp_le (pc := 131) C 138 (by omega) (by decide) dL_rules_131 (by decide) (fun h131 => ?_) (fun h131 => ?_)
    · refine x_iconst (pc := 138) C dL_rules_138 ?_
      exact x_ti (x2 := hq / 2) (by omega) K131
    · refine x_iconst (pc := 134) C dL_rules_134 ?_
      refine x_goto (pc := 135) C 139 dL_rules_135 (by decide) ?_
      exact x_ti (x2 := hq / 2) (by omega) K131
  refine x_cw (pc := 139) (a := 6) (m := 1) (S' := (B2, B2)) (z := an_keys B1 1 (hq / 2)) (as := [.ref (bs (gw γ true)), .int (iI 1), .int (iI (hq / 2))]) C (cy_L_keys G.1) (wM_L_180 G.1) ((by have hc9 := da_keys G true (A := B1) (rfl : gat (B2, B1) true = B1) (v := 1) (b := hq / 2) (by decide) (by omega); rw [hB2] at hc9; exact hc9)) dL_rules_139 rfl rfl (by decide) (by decide) (Nat.le_of_ble_eq_true rfl) ⟨by omega, by omega⟩ ?_
  refine x_iload (pc := 142) C 0 rfl dL_rules_142 ?_
  refine x_icmp_ne (pc := 144) C 209 (by apply an_keys_r) hk2v dL_rules_144 (by decide) (fun h9 => absurd ek2v.symm h9) (fun h144 => ?_)
  refine x_aload_n (pc := 147) C 7 rfl dL_rules_147 ?_
  refine x_aload_n (pc := 148) C 8 rfl dL_rules_148 ?_
  refine x_bipush (pc := 149) C (by decide +kernel) dL_rules_149 ?_
  refine x_cs (pc := 151) (a := 7) (m := 12) (S' := (B3, B3)) (z := 1) (as := [.ref (bs (gw γ false)), .ref (bs (gw γ true)), .int (iI 60)]) C (cy_L_waits G.1) (wM_L_237 G.1) ((by rw [← hB3]; exact k_waits G (A := B2) (n := 60) (by decide))) dL_rules_151 rfl rfl (by decide) (by decide) (Nat.le_of_ble_eq_true rfl) ⟨by omega, by omega⟩ ?_
  refine x_if_eq (pc := 154) C 209 (by decide) dL_rules_154 (by decide) (fun h => absurd h (by decide)) (fun h154 => ?_)
  refine x_iload (pc := 157) C 5 rfl dL_rules_157 ?_
  refine x_iconst (pc := 159) C dL_rules_159 ?_
  suffices K160 : Vl γ φ 10 (20) (QL γ φ 60 1 (ruA x A, ruA x A)) (B3, B3) 205 [(9, .int (iI k2v)), (8, .int (iI k1v)), (7, .int (iI 1)), (6, .int (iI hq)), (5, .int (iI tm)), (4, .int (iI sr)), (3, .int (iI v)), (0, .ref (bs (gw γ false))), (1, .ref (bs (gw γ true))), (2, .int (iI x))] [] by
    refine x_icmp_eq (pc := 160) C 205 hsR (by decide) dL_rules_160 (by decide) (fun h160 => ?_) (fun h160 => ?_)
    · exact x_wide (by omega) K160
    · refine x_aload_n (pc := 163) C 7 rfl dL_rules_163 ?_
      refine x_iconst (pc := 164) C dL_rules_164 ?_
      refine x_iload_n (pc := 165) C 6 rfl dL_rules_165 ?_
      refine x_iconst (pc := 166) C dL_rules_166 ?_
      refine x_iconst (pc := 167) C dL_rules_167 ?_
      have hlr : -2147483648 ≤ ruleRow (nA A) 0 1 hq (6 + 7 * v + 3) ∧ ruleRow (nA A) 0 1 hq (6 + 7 * v + 3) < 2147483648 := by
        rw [← hn3']
        obtain ⟨-, -, -, q3, -⟩ := hO3.wf.2.2.2.2.1 v hv.1 (by rw [hn30]; exact hv.2)
        omega
      have hrb := rule_bit (n := nA A) (x := 0) (y := 1) (v := v) hhq (fun q => h160 (esr.trans q))
      rw [← esr] at hrb
      refine x_cs (pc := 168) (a := 19) (m := 1) (S' := (B3, B3)) (z := nA B3 (6 + 7 * v + 3)) (as := [.ref (bs (gw γ false)), .int (iI 4), .int (iI v), .int (iI 0), .int (iI 0)]) C (cy_L_call G.1) (wM_L_172 G.1) (t_leg0 G false (A := B3) (rfl : gat (B3, B3) false = B3) hO3 (v := v) (by rw [hn30]; exact hv)) dL_rules_168 rfl rfl (by decide) (by decide) (Nat.le_of_ble_eq_true rfl) ⟨by omega, by omega⟩ ?_
      refine x_ti (x2 := ruleRow (nA A) 0 1 hq (6 + 7 * v + 3)) (by rw [hn3']) ?_
      suffices K171 : Vl γ φ 10 (20) (QL γ φ 60 1 (ruA x A, ruA x A)) (B3, B3) 179 [(9, .int (iI k2v)), (8, .int (iI k1v)), (7, .int (iI 1)), (6, .int (iI hq)), (5, .int (iI tm)), (4, .int (iI sr)), (3, .int (iI v)), (0, .ref (bs (gw γ false))), (1, .ref (bs (gw γ true))), (2, .int (iI x))] [.int (iI (if 0 < ruleRow (nA A) 0 1 hq (6 + 7 * v + 3) then 1 else 0))] by
        refine x_if_le (pc := 171) C 178 hlr dL_rules_171 (by decide) (fun h171 => ?_) (fun h171 => ?_)
        · refine x_iconst (pc := 178) C dL_rules_178 ?_
          exact x_ti (x2 := (if 0 < ruleRow (nA A) 0 1 hq (6 + 7 * v + 3) then 1 else 0)) (by split <;> first | rfl | omega) K171
        · refine x_iconst (pc := 174) C dL_rules_174 ?_
          refine x_goto (pc := 175) C 179 dL_rules_175 (by decide) ?_
          exact x_ti (x2 := (if 0 < ruleRow (nA A) 0 1 hq (6 + 7 * v + 3) then 1 else 0)) (by split <;> first | rfl | omega) K171
      refine x_nm (fun bb ebb => ?_)
      have hbb : bb = 0 ∨ bb = 1 := by rw [ebb]; split <;> simp
      refine x_iload (pc := 179) C 5 rfl dL_rules_179 ?_
      refine x_iload (pc := 181) C 3 rfl dL_rules_181 ?_
      refine x_ishr (pc := 183) C dL_rules_183 ?_
      refine x_iconst (pc := 184) C dL_rules_184 ?_
      refine x_iand (pc := 185) C dL_rules_185 ?_
      refine x_ti (x2 := bb) (hrb.1.trans ebb.symm) ?_
      refine x_iconst (pc := 186) C dL_rules_186 ?_
      suffices K187 : Vl γ φ 10 (20) (QL γ φ 60 1 (ruA x A, ruA x A)) (B3, B3) 195 [(9, .int (iI k2v)), (8, .int (iI k1v)), (7, .int (iI 1)), (6, .int (iI hq)), (5, .int (iI tm)), (4, .int (iI sr)), (3, .int (iI v)), (0, .ref (bs (gw γ false))), (1, .ref (bs (gw γ true))), (2, .int (iI x))] [.int (iI bb), .int (iI bb)] by
        refine x_icmp_ne (pc := 187) C 194 (by omega) (by decide) dL_rules_187 (by decide) (fun h187 => ?_) (fun h187 => ?_)
        · refine x_iconst (pc := 194) C dL_rules_194 ?_
          exact x_ti (x2 := bb) (by omega) K187
        · refine x_iconst (pc := 190) C dL_rules_190 ?_
          refine x_goto (pc := 191) C 195 dL_rules_191 (by decide) ?_
          exact x_ti (x2 := bb) (by omega) K187
      refine x_icmp_ne (pc := 195) C 209 (by omega) (by omega) dL_rules_195 (by decide) (fun h9 => absurd rfl h9) (fun h195 => ?_)
      refine x_aload_n (pc := 198) C 7 rfl dL_rules_198 ?_
      refine x_cv (pc := 199) (a := 20) (w := false) (as := []) C (cy_X5_restIn G.1) (wM_L_232 G.1) rfl (fun σ hC9 hO9 => k_X5_restIn (G.w false) hC9 hO9) (z := restL 301 (nA B3) 0) (fun _ _ _ q => ⟨q.2.1, q.2.2.1⟩) dL_rules_199 rfl rfl (by decide) (by decide) (Nat.le_of_ble_eq_true rfl) ⟨by omega, by omega⟩ ?_
      refine x_ti (x2 := 0) (restL_rest (by rw [hn3']; exact hrb.2) 300 0) ?_
      refine x_if_ne (pc := 202) C 209 (by decide) dL_rules_202 (by decide) (fun h => absurd h (by decide)) (fun h202 => ?_)
      exact K160
  refine x_iconst (pc := 205) C dL_rules_205 ?_
  refine x_goto (pc := 206) C 210 dL_rules_206 (by decide) ?_
  refine x_istore (pc := 210) C [(7, .int (iI 1)), (9, .int (iI k2v)), (8, .int (iI k1v)), (6, .int (iI hq)), (5, .int (iI tm)), (4, .int (iI sr)), (3, .int (iI v)), (0, .ref (bs (gw γ false))), (1, .ref (bs (gw γ true))), (2, .int (iI x))] dL_rules_210 (by decide) rfl ?_
  refine x_iload (pc := 212) C 0 rfl dL_rules_212 ?_
  refine x_if_eq (pc := 214) C 331 (by decide) dL_rules_214 (by decide) (fun h => absurd h (by decide)) (fun h214 => ?_)
  refine x_aload_n (pc := 217) C 7 rfl dL_rules_217 ?_
  refine x_aload_n (pc := 218) C 8 rfl dL_rules_218 ?_
  refine x_bipush (pc := 219) C (by decide +kernel) dL_rules_219 ?_
  refine x_cs (pc := 221) (a := 20) (m := 12) (S' := (B4, B4)) (z := 1) (as := [.ref (bs (gw γ false)), .ref (bs (gw γ true)), .int (iI 60)]) C (cy_L_undoes G.1) (wM_L_240 G.1) ((by rw [← hB4]; exact k_undoes G (A := B3) (n := 60) (by decide) hU4)) dL_rules_221 rfl rfl (by decide) (by decide) (Nat.le_of_ble_eq_true rfl) ⟨by omega, by omega⟩ ?_
  refine x_if_eq (pc := 224) C 331 (by decide) dL_rules_224 (by decide) (fun h => absurd h (by decide)) (fun h224 => ?_)
  refine x_aload_n (pc := 227) C 7 rfl dL_rules_227 ?_
  refine x_bipush (pc := 228) C (by decide +kernel) dL_rules_228 ?_
  refine x_iconst (pc := 230) C dL_rules_230 ?_
  refine x_iconst (pc := 231) C dL_rules_231 ?_
  refine x_iconst (pc := 232) C dL_rules_232 ?_
  refine x_cs (pc := 233) (a := 32) (m := 1) (S' := (B5, B4)) (z := an_tryUndo B4) (as := [.ref (bs (gw γ false)), .int (iI 14), .int (iI 0), .int (iI 0), .int (iI 0)]) C (cy_L_call G.1) (wM_L_172 G.1) ((by have hc9 := dc_tryUndo G false (A := B4) (rfl : gat (B4, B4) false = B4) (x := 0) (y9 := 0) (z9 := 0) ; rw [hB5] at hc9; exact hc9)) dL_rules_233 rfl rfl (by decide) (by decide) (Nat.le_of_ble_eq_true rfl) ⟨by omega, by omega⟩ ?_
  refine x_cs (pc := 236) (a := 33) (m := 0) (S' := (B5, B4)) (z := 0) (as := [.int (iI (an_tryUndo B4))]) C (cy_L_thrown G.1) (wM_L_228 G.1) (k_thrown G (by omega)) dL_rules_236 rfl rfl (by decide) (by decide) (Nat.le_of_ble_eq_true rfl) ⟨by omega, by omega⟩ ?_
  refine x_if_ne (pc := 239) C 331 (by decide) dL_rules_239 (by decide) (fun h => absurd h (by decide)) (fun h239 => ?_)
  refine x_aload_n (pc := 242) C 8 rfl dL_rules_242 ?_
  refine x_bipush (pc := 243) C (by decide +kernel) dL_rules_243 ?_
  refine x_iconst (pc := 245) C dL_rules_245 ?_
  refine x_iconst (pc := 246) C dL_rules_246 ?_
  refine x_iconst (pc := 247) C dL_rules_247 ?_
  refine x_cs (pc := 248) (a := 33) (m := 1) (S' := (B5, B5)) (z := an_tryUndo B4) (as := [.ref (bs (gw γ true)), .int (iI 14), .int (iI 0), .int (iI 0), .int (iI 0)]) C (cy_L_call G.1) (wM_L_172 G.1) ((by have hc9 := dc_tryUndo G true (A := B4) (rfl : gat (B5, B4) true = B4) (x := 0) (y9 := 0) (z9 := 0) ; rw [hB5] at hc9; exact hc9)) dL_rules_248 rfl rfl (by decide) (by decide) (Nat.le_of_ble_eq_true rfl) ⟨by omega, by omega⟩ ?_
  refine x_cs (pc := 251) (a := 34) (m := 0) (S' := (B5, B5)) (z := 0) (as := [.int (iI (an_tryUndo B4))]) C (cy_L_thrown G.1) (wM_L_228 G.1) (k_thrown G (by omega)) dL_rules_251 rfl rfl (by decide) (by decide) (Nat.le_of_ble_eq_true rfl) ⟨by omega, by omega⟩ ?_
  refine x_if_ne (pc := 254) C 331 (by decide) dL_rules_254 (by decide) (fun h => absurd h (by decide)) (fun h254 => ?_)
  refine x_aload_n (pc := 257) C 7 rfl dL_rules_257 ?_
  refine x_bipush (pc := 258) C (by decide +kernel) dL_rules_258 ?_
  refine x_iconst (pc := 260) C dL_rules_260 ?_
  refine x_iconst (pc := 261) C dL_rules_261 ?_
  refine x_iconst (pc := 262) C dL_rules_262 ?_
  refine x_cs (pc := 263) (a := 34) (m := 1) (S' := (B6, B5)) (z := an_tryUndo B5) (as := [.ref (bs (gw γ false)), .int (iI 14), .int (iI 0), .int (iI 0), .int (iI 0)]) C (cy_L_call G.1) (wM_L_172 G.1) ((by have hc9 := dc_tryUndo G false (A := B5) (rfl : gat (B5, B5) false = B5) (x := 0) (y9 := 0) (z9 := 0) ; rw [hB6] at hc9; exact hc9)) dL_rules_263 rfl rfl (by decide) (by decide) (Nat.le_of_ble_eq_true rfl) ⟨by omega, by omega⟩ ?_
  refine x_cs (pc := 266) (a := 35) (m := 0) (S' := (B6, B5)) (z := 0) (as := [.int (iI (an_tryUndo B5))]) C (cy_L_thrown G.1) (wM_L_228 G.1) (k_thrown G (by omega)) dL_rules_266 rfl rfl (by decide) (by decide) (Nat.le_of_ble_eq_true rfl) ⟨by omega, by omega⟩ ?_
  refine x_if_ne (pc := 269) C 331 (by decide) dL_rules_269 (by decide) (fun h => absurd h (by decide)) (fun h269 => ?_)
  refine x_aload_n (pc := 272) C 8 rfl dL_rules_272 ?_
  refine x_bipush (pc := 273) C (by decide +kernel) dL_rules_273 ?_
  refine x_iconst (pc := 275) C dL_rules_275 ?_
  refine x_iconst (pc := 276) C dL_rules_276 ?_
  refine x_iconst (pc := 277) C dL_rules_277 ?_
  refine x_cs (pc := 278) (a := 35) (m := 1) (S' := (B6, B6)) (z := an_tryUndo B5) (as := [.ref (bs (gw γ true)), .int (iI 14), .int (iI 0), .int (iI 0), .int (iI 0)]) C (cy_L_call G.1) (wM_L_172 G.1) ((by have hc9 := dc_tryUndo G true (A := B5) (rfl : gat (B6, B5) true = B5) (x := 0) (y9 := 0) (z9 := 0) ; rw [hB6] at hc9; exact hc9)) dL_rules_278 rfl rfl (by decide) (by decide) (Nat.le_of_ble_eq_true rfl) ⟨by omega, by omega⟩ ?_
  refine x_cs (pc := 281) (a := 36) (m := 0) (S' := (B6, B6)) (z := 0) (as := [.int (iI (an_tryUndo B5))]) C (cy_L_thrown G.1) (wM_L_228 G.1) (k_thrown G (by omega)) dL_rules_281 rfl rfl (by decide) (by decide) (Nat.le_of_ble_eq_true rfl) ⟨by omega, by omega⟩ ?_
  refine x_if_ne (pc := 284) C 331 (by decide) dL_rules_284 (by decide) (fun h => absurd h (by decide)) (fun h284 => ?_)
  refine x_aload_n (pc := 287) C 7 rfl dL_rules_287 ?_
  refine x_iconst (pc := 288) C dL_rules_288 ?_
  refine x_iconst (pc := 289) C dL_rules_289 ?_
  refine x_iconst (pc := 290) C dL_rules_290 ?_
  refine x_iconst (pc := 291) C dL_rules_291 ?_
  refine x_cs (pc := 292) (a := 36) (m := 1) (S' := (B6, B6)) (z := nA B6 2) (as := [.ref (bs (gw γ false)), .int (iI 2), .int (iI 2), .int (iI 0), .int (iI 0)]) C (cy_L_call G.1) (wM_L_172 G.1) (t_ab2 G false (A := B6) (rfl : gat (B6, B6) false = B6) hI.1 (by rw [hnE]; omega)) dL_rules_292 rfl rfl (by decide) (by decide) (Nat.le_of_ble_eq_true rfl) ⟨by omega, by omega⟩ ?_
  refine x_ti (x2 := tm) (by rw [hnE, etm]) ?_
  refine x_iload (pc := 295) C 4 rfl dL_rules_295 ?_
  refine x_icmp_ne (pc := 297) C 331 (by omega) (by omega) dL_rules_297 (by decide) (fun h9 => absurd rfl h9) (fun h297 => ?_)
  refine x_iload (pc := 300) C 5 rfl dL_rules_300 ?_
  refine x_iconst (pc := 302) C dL_rules_302 ?_
  suffices K303 : Vl γ φ 10 (37) (QL γ φ 60 1 (ruA x A, ruA x A)) (B6, B6) 327 [(7, .int (iI 1)), (9, .int (iI k2v)), (8, .int (iI k1v)), (6, .int (iI hq)), (5, .int (iI tm)), (4, .int (iI sr)), (3, .int (iI v)), (0, .ref (bs (gw γ false))), (1, .ref (bs (gw γ true))), (2, .int (iI x))] [] by
    refine x_icmp_eq (pc := 303) C 327 hsR (by decide) dL_rules_303 (by decide) (fun h303 => ?_) (fun h303 => ?_)
    · exact K303
    · refine x_iload_n (pc := 306) C 6 rfl dL_rules_306 ?_
      refine x_iconst (pc := 307) C dL_rules_307 ?_
      refine x_icmp_gt (pc := 308) C 327 (by omega) (by decide) dL_rules_308 (by decide) (fun h308 => ?_) (fun h308 => ?_)
      · exact K303
      · refine x_iload (pc := 311) C 5 rfl dL_rules_311 ?_
        refine x_iload_n (pc := 313) C 6 rfl dL_rules_313 ?_
        suffices K314 : Vl γ φ 10 (37) (QL γ φ 60 1 (ruA x A, ruA x A)) (B6, B6) 324 [(7, .int (iI 1)), (9, .int (iI k2v)), (8, .int (iI k1v)), (6, .int (iI hq)), (5, .int (iI tm)), (4, .int (iI sr)), (3, .int (iI v)), (0, .ref (bs (gw γ false))), (1, .ref (bs (gw γ true))), (2, .int (iI x))] [.int (iI (if v = 0 then 10 else 12)), .int (iI sr)] by
          refine x_if_ne (pc := 314) C 322 (by omega) dL_rules_314 (by decide) (fun h314 => ?_) (fun h314 => ?_)
          · refine x_bipush (pc := 322) C (by decide +kernel) dL_rules_322 ?_
            exact x_ti (x2 := (if v = 0 then 10 else 12)) (by split <;> first | rfl | omega) K314
          · refine x_bipush (pc := 317) C (by decide +kernel) dL_rules_317 ?_
            refine x_goto (pc := 319) C 324 dL_rules_319 (by decide) ?_
            exact x_ti (x2 := (if v = 0 then 10 else 12)) (by split <;> first | rfl | omega) K314
        refine x_icmp_ne (pc := 324) C 331 hsR (by split <;> decide) dL_rules_324 (by decide) (fun h9 => absurd (esr.trans (rule_01 h.1.wf h4 k0 k1 (v := v) (by omega) (fun q => h303 (esr.trans q)))) h9) (fun h324 => ?_)
        exact K303
  refine x_iconst (pc := 327) C dL_rules_327 ?_
  refine x_goto (pc := 328) C 332 dL_rules_328 (by decide) ?_
  exact x_ret (pc := 332) C (by omega) hr rfl dL_rules_332 rfl (by unfold ruA; rw [← ehq, hB1, hB2, hB3, hB4, hB5, hB6])

