/-! the law: act -/
set_option maxHeartbeats 4000000 in
set_option maxRecDepth 100000 in
theorem k_act {γ : Gm} (G : GL γ) (w : Bool) {S : St2} {A : Abs} (hS : gat S w = A) (hO : AOkA A) {x : Int} (h4 : 4 ≤ nA A 0) (ht : 0 ≤ nA A 2 ∧ nA A 2 < 1000000) (hx : 0 ≤ x ∧ x < 2147483648) : Cl γ yL_act (.code yL_act cL_act 7 (some .int)) 12 5 [.ref (bs (gw γ w)), .int (iI x)] S ((acO x A).1) (gup S w (acO x A).2) := by
  refine Cl.of G (by decide +kernel) (Nat.le_of_ble_eq_true rfl) (fun φ C hcr hr => ?_)
  have C : Cx γ φ RL cL_act 7 12 := C
  have h0 := hO.wf.1
  have h1 := hO.wf.2.1
  refine x_lv [(0, .ref (bs (gw γ w))), (1, .int (iI x))] [0, 1] rfl ?_
  refine x_iload_n (pc := 0) C 1 rfl dL_act_0 ?_
  refine x_bipush (pc := 1) C (by decide +kernel) dL_act_1 ?_
  refine x_idiv (pc := 3) C (by omega) (by decide) dL_act_3 ?_
  refine x_istore_n (pc := 4) C [(2, .int (iI (x / 16))), (0, .ref (bs (gw γ w))), (1, .int (iI x))] dL_act_4 rfl (by decide) rfl ?_
  refine x_aload_n (pc := 5) C 1 rfl dL_act_5 ?_
  refine x_iconst (pc := 6) C dL_act_6 ?_
  refine x_iconst (pc := 7) C dL_act_7 ?_
  refine x_iconst (pc := 8) C dL_act_8 ?_
  refine x_iconst (pc := 9) C dL_act_9 ?_
  refine x_cs (pc := 10) (a := 0) (m := 1) (S' := S) (z := nA A 0) (as := [.ref (bs (gw γ w)), .int (iI 2), .int (iI 0), .int (iI 0), .int (iI 0)]) C (cy_L_call G.1) (wM_L_172 G.1) (t_ab0 G w hS hO) dL_act_10 rfl rfl (by decide) (by decide) (Nat.le_of_ble_eq_true rfl) ⟨by omega, by omega⟩ ?_
  refine x_istore_n (pc := 13) C [(3, .int (iI (nA A 0))), (2, .int (iI (x / 16))), (0, .ref (bs (gw γ w))), (1, .int (iI x))] dL_act_13 rfl (by decide) rfl ?_
  refine x_aload_n (pc := 14) C 2 rfl dL_act_14 ?_
  refine x_iconst (pc := 15) C dL_act_15 ?_
  refine x_iconst (pc := 16) C dL_act_16 ?_
  refine x_iconst (pc := 17) C dL_act_17 ?_
  refine x_iconst (pc := 18) C dL_act_18 ?_
  refine x_cs (pc := 19) (a := 1) (m := 1) (S' := S) (z := nA A 1) (as := [.ref (bs (gw γ w)), .int (iI 2), .int (iI 1), .int (iI 0), .int (iI 0)]) C (cy_L_call G.1) (wM_L_172 G.1) (t_ab1 G w hS hO) dL_act_19 rfl rfl (by decide) (by decide) (Nat.le_of_ble_eq_true rfl) ⟨by omega, by omega⟩ ?_
  refine x_istore (pc := 22) C [(4, .int (iI (nA A 1))), (3, .int (iI (nA A 0))), (2, .int (iI (x / 16))), (0, .ref (bs (gw γ w))), (1, .int (iI x))] dL_act_22 (by decide) rfl ?_
  refine x_iload_n (pc := 24) C 2 rfl dL_act_24 ?_
  refine x_iload_n (pc := 25) C 1 rfl dL_act_25 ?_
  refine x_irem (pc := 26) C (by omega) (by omega) dL_act_26 ?_
  refine x_istore (pc := 27) C [(5, .int (iI ((x / 16) % (nA A 0)))), (4, .int (iI (nA A 1))), (3, .int (iI (nA A 0))), (2, .int (iI (x / 16))), (0, .ref (bs (gw γ w))), (1, .int (iI x))] dL_act_27 (by decide) rfl ?_
  have hv : 0 ≤ x / 16 % nA A 0 ∧ x / 16 % nA A 0 < nA A 0 := ⟨Int.emod_nonneg _ (by omega), Int.emod_lt_of_pos _ (by omega)⟩
  refine x_iload (pc := 29) C 1 rfl dL_act_29 ?_
  suffices K31 : Vl γ φ 7 (2) (QL γ φ 5 ((acO x A).1) (gup S w (acO x A).2)) S 42 [(5, .int (iI ((x / 16) % (nA A 0)))), (4, .int (iI (nA A 1))), (3, .int (iI (nA A 0))), (2, .int (iI (x / 16))), (0, .ref (bs (gw γ w))), (1, .int (iI x))] [.int (iI (if nA A 1 = 0 then 0 else x / 16 % nA A 1))] by
    refine x_if_ne (pc := 31) C 38 (by omega) dL_act_31 (by decide) (fun h31 => ?_) (fun h31 => ?_)
    · refine x_iload_n (pc := 38) C 3 rfl dL_act_38 ?_
      refine x_iload (pc := 39) C 1 rfl dL_act_39 ?_
      refine x_irem (pc := 41) C (by omega) (by omega) dL_act_41 ?_
      exact x_ti (x2 := (if nA A 1 = 0 then 0 else x / 16 % nA A 1)) (by split <;> first | rfl | omega | (exfalso; omega)) K31
    · refine x_iconst (pc := 34) C dL_act_34 ?_
      refine x_goto (pc := 35) C 42 dL_act_35 (by decide) ?_
      exact x_ti (x2 := (if nA A 1 = 0 then 0 else x / 16 % nA A 1)) (by split <;> first | rfl | omega | (exfalso; omega)) K31
  refine x_istore (pc := 42) C [(6, .int (iI (if nA A 1 = 0 then 0 else x / 16 % nA A 1))), (5, .int (iI ((x / 16) % (nA A 0)))), (4, .int (iI (nA A 1))), (3, .int (iI (nA A 0))), (2, .int (iI (x / 16))), (0, .ref (bs (gw γ w))), (1, .int (iI x))] dL_act_42 (by decide) rfl ?_
  have hd : 0 ≤ (if nA A 1 = 0 then 0 else x / 16 % nA A 1) ∧ (if nA A 1 = 0 then 0 else x / 16 % nA A 1) ≤ 16 := by
    split
    · omega
    · rename_i c
      have h1 := Int.emod_nonneg (x / 16) c
      have h2 := Int.emod_lt_of_pos (x / 16) (show 0 < nA A 1 by omega)
      omega
  refine x_iload_n (pc := 44) C 6 rfl dL_act_44 ?_
  refine x_bipush (pc := 45) C (by decide +kernel) dL_act_45 ?_
  refine x_irem (pc := 47) C (by omega) (by decide) dL_act_47 ?_
  have hs : x % 16 = 0 ∨ x % 16 = 1 ∨ x % 16 = 2 ∨ x % 16 = 3 ∨ x % 16 = 4 ∨ x % 16 = 5 ∨ x % 16 = 6 ∨ x % 16 = 7 ∨ x % 16 = 8 ∨ x % 16 = 9 ∨ x % 16 = 10 ∨ x % 16 = 11 ∨ 11 < x % 16 := by omega
  rcases hs with hs | hs | hs | hs | hs | hs | hs | hs | hs | hs | hs | hs | hs
  · refine x_tabIn (pc := 48) C 112 (by omega) dL_act_48 (by omega) (by rw [hs]; rfl) (by decide) ?_
    refine x_aload_n (pc := 112) C 5 rfl dL_act_112 ?_
    refine x_bipush (pc := 113) C (by decide +kernel) dL_act_113 ?_
    refine x_iload_n (pc := 115) C 4 rfl dL_act_115 ?_
    refine x_iconst (pc := 116) C dL_act_116 ?_
    refine x_irem (pc := 117) C (by omega) (by decide) dL_act_117 ?_
    refine x_bipush (pc := 118) C (by decide +kernel) dL_act_118 ?_
    refine x_iload_n (pc := 120) C 4 rfl dL_act_120 ?_
    refine x_iconst (pc := 121) C dL_act_121 ?_
    refine x_idiv (pc := 122) C (by omega) (by decide) dL_act_122 ?_
    refine x_bipush (pc := 123) C (by decide +kernel) dL_act_123 ?_
    refine x_irem (pc := 125) C (by omega) (by decide) dL_act_125 ?_
    refine x_iadd (pc := 126) C dL_act_126 ?_
    refine x_iconst (pc := 127) C dL_act_127 ?_
    refine x_cs (pc := 128) (a := 2) (m := 1) (S' := gup S w (st_tryValve A ((x / 16) % 5) (10 + (((x / 16) / 5) % 90)))) (z := an_tryValve A ((x / 16) % 5) (10 + (((x / 16) / 5) % 90))) (as := [.ref (bs (gw γ w)), .int (iI 8), .int (iI ((x / 16) % 5)), .int (iI (10 + (((x / 16) / 5) % 90))), .int (iI 0)]) C (cy_L_call G.1) (wM_L_172 G.1) (dc_tryValve G w hS (c := (x / 16) % 5) (v := 10 + (((x / 16) / 5) % 90)) (by omega) (by omega)) dL_act_128 rfl rfl (by decide) (by decide) (Nat.le_of_ble_eq_true rfl) ⟨by omega, by omega⟩ ?_
    exact x_ret (pc := 131) C (by omega) hr rfl dL_act_131 (by unfold acO; rw [if_pos (show x % 16 < 2 by omega)]) (by unfold acO; rw [if_pos (show x % 16 < 2 by omega)])
  · refine x_tabIn (pc := 48) C 112 (by omega) dL_act_48 (by omega) (by rw [hs]; rfl) (by decide) ?_
    refine x_aload_n (pc := 112) C 5 rfl dL_act_112 ?_
    refine x_bipush (pc := 113) C (by decide +kernel) dL_act_113 ?_
    refine x_iload_n (pc := 115) C 4 rfl dL_act_115 ?_
    refine x_iconst (pc := 116) C dL_act_116 ?_
    refine x_irem (pc := 117) C (by omega) (by decide) dL_act_117 ?_
    refine x_bipush (pc := 118) C (by decide +kernel) dL_act_118 ?_
    refine x_iload_n (pc := 120) C 4 rfl dL_act_120 ?_
    refine x_iconst (pc := 121) C dL_act_121 ?_
    refine x_idiv (pc := 122) C (by omega) (by decide) dL_act_122 ?_
    refine x_bipush (pc := 123) C (by decide +kernel) dL_act_123 ?_
    refine x_irem (pc := 125) C (by omega) (by decide) dL_act_125 ?_
    refine x_iadd (pc := 126) C dL_act_126 ?_
    refine x_iconst (pc := 127) C dL_act_127 ?_
    refine x_cs (pc := 128) (a := 2) (m := 1) (S' := gup S w (st_tryValve A ((x / 16) % 5) (10 + (((x / 16) / 5) % 90)))) (z := an_tryValve A ((x / 16) % 5) (10 + (((x / 16) / 5) % 90))) (as := [.ref (bs (gw γ w)), .int (iI 8), .int (iI ((x / 16) % 5)), .int (iI (10 + (((x / 16) / 5) % 90))), .int (iI 0)]) C (cy_L_call G.1) (wM_L_172 G.1) (dc_tryValve G w hS (c := (x / 16) % 5) (v := 10 + (((x / 16) / 5) % 90)) (by omega) (by omega)) dL_act_128 rfl rfl (by decide) (by decide) (Nat.le_of_ble_eq_true rfl) ⟨by omega, by omega⟩ ?_
    exact x_ret (pc := 131) C (by omega) hr rfl dL_act_131 (by unfold acO; rw [if_pos (show x % 16 < 2 by omega)]) (by unfold acO; rw [if_pos (show x % 16 < 2 by omega)])
  · refine x_tabIn (pc := 48) C 132 (by omega) dL_act_48 (by omega) (by rw [hs]; rfl) (by decide) ?_
    refine x_aload_n (pc := 132) C 5 rfl dL_act_132 ?_
    refine x_iload (pc := 133) C 1 rfl dL_act_133 ?_
    refine x_iload_n (pc := 135) C 4 rfl dL_act_135 ?_
    refine x_bipush (pc := 136) C (by decide +kernel) dL_act_136 ?_
    refine x_idiv (pc := 138) C (by omega) (by decide) dL_act_138 ?_
    refine x_iconst (pc := 139) C dL_act_139 ?_
    refine x_irem (pc := 140) C (by omega) (by decide) dL_act_140 ?_
    refine x_iload_n (pc := 141) C 4 rfl dL_act_141 ?_
    refine x_bipush (pc := 142) C (by decide +kernel) dL_act_142 ?_
    refine x_idiv (pc := 144) C (by omega) (by decide) dL_act_144 ?_
    refine x_iload_n (pc := 145) C 3 rfl dL_act_145 ?_
    refine x_irem (pc := 146) C (by omega) (by omega) dL_act_146 ?_
    have hv2 : 0 ≤ x / 16 / 20 % nA A 0 ∧ x / 16 / 20 % nA A 0 < nA A 0 := ⟨Int.emod_nonneg _ (by omega), Int.emod_lt_of_pos _ (by omega)⟩
    refine x_iload_n (pc := 147) C 4 rfl dL_act_147 ?_
    refine x_sipush (pc := 148) C (by decide +kernel) dL_act_148 ?_
    refine x_idiv (pc := 151) C (by omega) (by decide) dL_act_151 ?_
    refine x_iconst (pc := 152) C dL_act_152 ?_
    refine x_irem (pc := 153) C (by omega) (by decide) dL_act_153 ?_
    refine x_iconst (pc := 154) C dL_act_154 ?_
    refine x_iload_n (pc := 155) C 4 rfl dL_act_155 ?_
    refine x_sipush (pc := 156) C (by decide +kernel) dL_act_156 ?_
    refine x_idiv (pc := 159) C (by omega) (by decide) dL_act_159 ?_
    refine x_bipush (pc := 160) C (by decide +kernel) dL_act_160 ?_
    refine x_irem (pc := 162) C (by omega) (by decide) dL_act_162 ?_
    refine x_iadd (pc := 163) C dL_act_163 ?_
    refine x_cw (pc := 164) (a := 2) (m := 1) (S' := gup S w (st_ducts A ((x / 16) % (nA A 0)) (((x / 16) / 10) % 2) (((x / 16) / 20) % (nA A 0)) (((x / 16) / 200) % 2) (1 + (((x / 16) / 400) % 6)))) (z := an_ducts A ((x / 16) % (nA A 0)) (((x / 16) / 10) % 2) (((x / 16) / 20) % (nA A 0)) (((x / 16) / 200) % 2) (1 + (((x / 16) / 400) % 6))) (as := [.ref (bs (gw γ w)), .int (iI ((x / 16) % (nA A 0))), .int (iI (((x / 16) / 10) % 2)), .int (iI (((x / 16) / 20) % (nA A 0))), .int (iI (((x / 16) / 200) % 2)), .int (iI (1 + (((x / 16) / 400) % 6)))]) C (cy_L_ducts G.1) (wM_L_176 G.1) (da_ducts G w hS (c := (x / 16) % (nA A 0)) (g := ((x / 16) / 10) % 2) (y := ((x / 16) / 20) % (nA A 0)) (q := ((x / 16) / 200) % 2) (m := 1 + (((x / 16) / 400) % 6)) (by omega) (by omega) (by omega) (by omega) (by omega)) dL_act_164 rfl rfl (by decide) (by decide) (Nat.le_of_ble_eq_true rfl) ⟨by omega, by omega⟩ ?_
    exact x_ret (pc := 167) C (by omega) hr rfl dL_act_167 (by unfold acO; rw [if_neg (show ¬ x % 16 < 2 by omega), if_pos (show x % 16 < 6 by omega)]) (by unfold acO; rw [if_neg (show ¬ x % 16 < 2 by omega), if_pos (show x % 16 < 6 by omega)])
  · refine x_tabIn (pc := 48) C 132 (by omega) dL_act_48 (by omega) (by rw [hs]; rfl) (by decide) ?_
    refine x_aload_n (pc := 132) C 5 rfl dL_act_132 ?_
    refine x_iload (pc := 133) C 1 rfl dL_act_133 ?_
    refine x_iload_n (pc := 135) C 4 rfl dL_act_135 ?_
    refine x_bipush (pc := 136) C (by decide +kernel) dL_act_136 ?_
    refine x_idiv (pc := 138) C (by omega) (by decide) dL_act_138 ?_
    refine x_iconst (pc := 139) C dL_act_139 ?_
    refine x_irem (pc := 140) C (by omega) (by decide) dL_act_140 ?_
    refine x_iload_n (pc := 141) C 4 rfl dL_act_141 ?_
    refine x_bipush (pc := 142) C (by decide +kernel) dL_act_142 ?_
    refine x_idiv (pc := 144) C (by omega) (by decide) dL_act_144 ?_
    refine x_iload_n (pc := 145) C 3 rfl dL_act_145 ?_
    refine x_irem (pc := 146) C (by omega) (by omega) dL_act_146 ?_
    have hv2 : 0 ≤ x / 16 / 20 % nA A 0 ∧ x / 16 / 20 % nA A 0 < nA A 0 := ⟨Int.emod_nonneg _ (by omega), Int.emod_lt_of_pos _ (by omega)⟩
    refine x_iload_n (pc := 147) C 4 rfl dL_act_147 ?_
    refine x_sipush (pc := 148) C (by decide +kernel) dL_act_148 ?_
    refine x_idiv (pc := 151) C (by omega) (by decide) dL_act_151 ?_
    refine x_iconst (pc := 152) C dL_act_152 ?_
    refine x_irem (pc := 153) C (by omega) (by decide) dL_act_153 ?_
    refine x_iconst (pc := 154) C dL_act_154 ?_
    refine x_iload_n (pc := 155) C 4 rfl dL_act_155 ?_
    refine x_sipush (pc := 156) C (by decide +kernel) dL_act_156 ?_
    refine x_idiv (pc := 159) C (by omega) (by decide) dL_act_159 ?_
    refine x_bipush (pc := 160) C (by decide +kernel) dL_act_160 ?_
    refine x_irem (pc := 162) C (by omega) (by decide) dL_act_162 ?_
    refine x_iadd (pc := 163) C dL_act_163 ?_
    refine x_cw (pc := 164) (a := 2) (m := 1) (S' := gup S w (st_ducts A ((x / 16) % (nA A 0)) (((x / 16) / 10) % 2) (((x / 16) / 20) % (nA A 0)) (((x / 16) / 200) % 2) (1 + (((x / 16) / 400) % 6)))) (z := an_ducts A ((x / 16) % (nA A 0)) (((x / 16) / 10) % 2) (((x / 16) / 20) % (nA A 0)) (((x / 16) / 200) % 2) (1 + (((x / 16) / 400) % 6))) (as := [.ref (bs (gw γ w)), .int (iI ((x / 16) % (nA A 0))), .int (iI (((x / 16) / 10) % 2)), .int (iI (((x / 16) / 20) % (nA A 0))), .int (iI (((x / 16) / 200) % 2)), .int (iI (1 + (((x / 16) / 400) % 6)))]) C (cy_L_ducts G.1) (wM_L_176 G.1) (da_ducts G w hS (c := (x / 16) % (nA A 0)) (g := ((x / 16) / 10) % 2) (y := ((x / 16) / 20) % (nA A 0)) (q := ((x / 16) / 200) % 2) (m := 1 + (((x / 16) / 400) % 6)) (by omega) (by omega) (by omega) (by omega) (by omega)) dL_act_164 rfl rfl (by decide) (by decide) (Nat.le_of_ble_eq_true rfl) ⟨by omega, by omega⟩ ?_
    exact x_ret (pc := 167) C (by omega) hr rfl dL_act_167 (by unfold acO; rw [if_neg (show ¬ x % 16 < 2 by omega), if_pos (show x % 16 < 6 by omega)]) (by unfold acO; rw [if_neg (show ¬ x % 16 < 2 by omega), if_pos (show x % 16 < 6 by omega)])
  · refine x_tabIn (pc := 48) C 132 (by omega) dL_act_48 (by omega) (by rw [hs]; rfl) (by decide) ?_
    refine x_aload_n (pc := 132) C 5 rfl dL_act_132 ?_
    refine x_iload (pc := 133) C 1 rfl dL_act_133 ?_
    refine x_iload_n (pc := 135) C 4 rfl dL_act_135 ?_
    refine x_bipush (pc := 136) C (by decide +kernel) dL_act_136 ?_
    refine x_idiv (pc := 138) C (by omega) (by decide) dL_act_138 ?_
    refine x_iconst (pc := 139) C dL_act_139 ?_
    refine x_irem (pc := 140) C (by omega) (by decide) dL_act_140 ?_
    refine x_iload_n (pc := 141) C 4 rfl dL_act_141 ?_
    refine x_bipush (pc := 142) C (by decide +kernel) dL_act_142 ?_
    refine x_idiv (pc := 144) C (by omega) (by decide) dL_act_144 ?_
    refine x_iload_n (pc := 145) C 3 rfl dL_act_145 ?_
    refine x_irem (pc := 146) C (by omega) (by omega) dL_act_146 ?_
    have hv2 : 0 ≤ x / 16 / 20 % nA A 0 ∧ x / 16 / 20 % nA A 0 < nA A 0 := ⟨Int.emod_nonneg _ (by omega), Int.emod_lt_of_pos _ (by omega)⟩
    refine x_iload_n (pc := 147) C 4 rfl dL_act_147 ?_
    refine x_sipush (pc := 148) C (by decide +kernel) dL_act_148 ?_
    refine x_idiv (pc := 151) C (by omega) (by decide) dL_act_151 ?_
    refine x_iconst (pc := 152) C dL_act_152 ?_
    refine x_irem (pc := 153) C (by omega) (by decide) dL_act_153 ?_
    refine x_iconst (pc := 154) C dL_act_154 ?_
    refine x_iload_n (pc := 155) C 4 rfl dL_act_155 ?_
    refine x_sipush (pc := 156) C (by decide +kernel) dL_act_156 ?_
    refine x_idiv (pc := 159) C (by omega) (by decide) dL_act_159 ?_
    refine x_bipush (pc := 160) C (by decide +kernel) dL_act_160 ?_
    refine x_irem (pc := 162) C (by omega) (by decide) dL_act_162 ?_
    refine x_iadd (pc := 163) C dL_act_163 ?_
    refine x_cw (pc := 164) (a := 2) (m := 1) (S' := gup S w (st_ducts A ((x / 16) % (nA A 0)) (((x / 16) / 10) % 2) (((x / 16) / 20) % (nA A 0)) (((x / 16) / 200) % 2) (1 + (((x / 16) / 400) % 6)))) (z := an_ducts A ((x / 16) % (nA A 0)) (((x / 16) / 10) % 2) (((x / 16) / 20) % (nA A 0)) (((x / 16) / 200) % 2) (1 + (((x / 16) / 400) % 6))) (as := [.ref (bs (gw γ w)), .int (iI ((x / 16) % (nA A 0))), .int (iI (((x / 16) / 10) % 2)), .int (iI (((x / 16) / 20) % (nA A 0))), .int (iI (((x / 16) / 200) % 2)), .int (iI (1 + (((x / 16) / 400) % 6)))]) C (cy_L_ducts G.1) (wM_L_176 G.1) (da_ducts G w hS (c := (x / 16) % (nA A 0)) (g := ((x / 16) / 10) % 2) (y := ((x / 16) / 20) % (nA A 0)) (q := ((x / 16) / 200) % 2) (m := 1 + (((x / 16) / 400) % 6)) (by omega) (by omega) (by omega) (by omega) (by omega)) dL_act_164 rfl rfl (by decide) (by decide) (Nat.le_of_ble_eq_true rfl) ⟨by omega, by omega⟩ ?_
    exact x_ret (pc := 167) C (by omega) hr rfl dL_act_167 (by unfold acO; rw [if_neg (show ¬ x % 16 < 2 by omega), if_pos (show x % 16 < 6 by omega)]) (by unfold acO; rw [if_neg (show ¬ x % 16 < 2 by omega), if_pos (show x % 16 < 6 by omega)])
  · refine x_tabIn (pc := 48) C 132 (by omega) dL_act_48 (by omega) (by rw [hs]; rfl) (by decide) ?_
    refine x_aload_n (pc := 132) C 5 rfl dL_act_132 ?_
    refine x_iload (pc := 133) C 1 rfl dL_act_133 ?_
    refine x_iload_n (pc := 135) C 4 rfl dL_act_135 ?_
    refine x_bipush (pc := 136) C (by decide +kernel) dL_act_136 ?_
    refine x_idiv (pc := 138) C (by omega) (by decide) dL_act_138 ?_
    refine x_iconst (pc := 139) C dL_act_139 ?_
    refine x_irem (pc := 140) C (by omega) (by decide) dL_act_140 ?_
    refine x_iload_n (pc := 141) C 4 rfl dL_act_141 ?_
    refine x_bipush (pc := 142) C (by decide +kernel) dL_act_142 ?_
    refine x_idiv (pc := 144) C (by omega) (by decide) dL_act_144 ?_
    refine x_iload_n (pc := 145) C 3 rfl dL_act_145 ?_
    refine x_irem (pc := 146) C (by omega) (by omega) dL_act_146 ?_
    have hv2 : 0 ≤ x / 16 / 20 % nA A 0 ∧ x / 16 / 20 % nA A 0 < nA A 0 := ⟨Int.emod_nonneg _ (by omega), Int.emod_lt_of_pos _ (by omega)⟩
    refine x_iload_n (pc := 147) C 4 rfl dL_act_147 ?_
    refine x_sipush (pc := 148) C (by decide +kernel) dL_act_148 ?_
    refine x_idiv (pc := 151) C (by omega) (by decide) dL_act_151 ?_
    refine x_iconst (pc := 152) C dL_act_152 ?_
    refine x_irem (pc := 153) C (by omega) (by decide) dL_act_153 ?_
    refine x_iconst (pc := 154) C dL_act_154 ?_
    refine x_iload_n (pc := 155) C 4 rfl dL_act_155 ?_
    refine x_sipush (pc := 156) C (by decide +kernel) dL_act_156 ?_
    refine x_idiv (pc := 159) C (by omega) (by decide) dL_act_159 ?_
    refine x_bipush (pc := 160) C (by decide +kernel) dL_act_160 ?_
    refine x_irem (pc := 162) C (by omega) (by decide) dL_act_162 ?_
    refine x_iadd (pc := 163) C dL_act_163 ?_
    refine x_cw (pc := 164) (a := 2) (m := 1) (S' := gup S w (st_ducts A ((x / 16) % (nA A 0)) (((x / 16) / 10) % 2) (((x / 16) / 20) % (nA A 0)) (((x / 16) / 200) % 2) (1 + (((x / 16) / 400) % 6)))) (z := an_ducts A ((x / 16) % (nA A 0)) (((x / 16) / 10) % 2) (((x / 16) / 20) % (nA A 0)) (((x / 16) / 200) % 2) (1 + (((x / 16) / 400) % 6))) (as := [.ref (bs (gw γ w)), .int (iI ((x / 16) % (nA A 0))), .int (iI (((x / 16) / 10) % 2)), .int (iI (((x / 16) / 20) % (nA A 0))), .int (iI (((x / 16) / 200) % 2)), .int (iI (1 + (((x / 16) / 400) % 6)))]) C (cy_L_ducts G.1) (wM_L_176 G.1) (da_ducts G w hS (c := (x / 16) % (nA A 0)) (g := ((x / 16) / 10) % 2) (y := ((x / 16) / 20) % (nA A 0)) (q := ((x / 16) / 200) % 2) (m := 1 + (((x / 16) / 400) % 6)) (by omega) (by omega) (by omega) (by omega) (by omega)) dL_act_164 rfl rfl (by decide) (by decide) (Nat.le_of_ble_eq_true rfl) ⟨by omega, by omega⟩ ?_
    exact x_ret (pc := 167) C (by omega) hr rfl dL_act_167 (by unfold acO; rw [if_neg (show ¬ x % 16 < 2 by omega), if_pos (show x % 16 < 6 by omega)]) (by unfold acO; rw [if_neg (show ¬ x % 16 < 2 by omega), if_pos (show x % 16 < 6 by omega)])
  · refine x_tabIn (pc := 48) C 168 (by omega) dL_act_48 (by omega) (by rw [hs]; rfl) (by decide) ?_
    refine x_iload_n (pc := 168) C 4 rfl dL_act_168 ?_
    refine x_iconst (pc := 169) C dL_act_169 ?_
    refine x_irem (pc := 170) C (by omega) (by decide) dL_act_170 ?_
    refine x_if_ne (pc := 171) C 187 (by omega) dL_act_171 (by decide) (fun h171 => ?_) (fun h171 => ?_)
    · refine x_aload_n (pc := 187) C 5 rfl dL_act_187 ?_
      refine x_bipush (pc := 188) C (by decide +kernel) dL_act_188 ?_
      refine x_iload (pc := 190) C 0 rfl dL_act_190 ?_
      refine x_iload_n (pc := 192) C 4 rfl dL_act_192 ?_
      refine x_bipush (pc := 193) C (by decide +kernel) dL_act_193 ?_
      refine x_idiv (pc := 195) C (by omega) (by decide) dL_act_195 ?_
      refine x_bipush (pc := 196) C (by decide +kernel) dL_act_196 ?_
      refine x_irem (pc := 198) C (by omega) (by decide) dL_act_198 ?_
      refine x_iconst (pc := 199) C dL_act_199 ?_
      refine x_cs (pc := 200) (a := 2) (m := 1) (S' := gup S w (st_tryLeak A (if nA A 1 = 0 then 0 else x / 16 % nA A 1) (((x / 16) / 16) % 31))) (z := an_tryLeak A (if nA A 1 = 0 then 0 else x / 16 % nA A 1) (((x / 16) / 16) % 31)) (as := [.ref (bs (gw γ w)), .int (iI 10), .int (iI (if nA A 1 = 0 then 0 else x / 16 % nA A 1)), .int (iI (((x / 16) / 16) % 31)), .int (iI 0)]) C (cy_L_call G.1) (wM_L_172 G.1) (dc_tryLeak G w hS (e := (if nA A 1 = 0 then 0 else x / 16 % nA A 1)) (l := ((x / 16) / 16) % 31) (by omega) (by omega)) dL_act_200 rfl rfl (by decide) (by decide) (Nat.le_of_ble_eq_true rfl) ⟨by omega, by omega⟩ ?_
      exact x_ret (pc := 203) C (by omega) hr rfl dL_act_203 (by unfold acO; rw [if_neg (show ¬ x % 16 < 2 by omega), if_neg (show ¬ x % 16 < 6 by omega), if_pos (show x % 16 = 6 by omega), if_neg (show ¬ x / 16 % 3 = 0 by omega)]) (by unfold acO; rw [if_neg (show ¬ x % 16 < 2 by omega), if_neg (show ¬ x % 16 < 6 by omega), if_pos (show x % 16 = 6 by omega), if_neg (show ¬ x / 16 % 3 = 0 by omega)])
    · refine x_aload_n (pc := 174) C 5 rfl dL_act_174 ?_
      refine x_bipush (pc := 175) C (by decide +kernel) dL_act_175 ?_
      refine x_iload (pc := 177) C 0 rfl dL_act_177 ?_
      refine x_iconst (pc := 179) C dL_act_179 ?_
      refine x_iconst (pc := 180) C dL_act_180 ?_
      refine x_cs (pc := 181) (a := 2) (m := 1) (S' := gup S w (st_tryDrop A (if nA A 1 = 0 then 0 else x / 16 % nA A 1))) (z := an_tryDrop A (if nA A 1 = 0 then 0 else x / 16 % nA A 1)) (as := [.ref (bs (gw γ w)), .int (iI 9), .int (iI (if nA A 1 = 0 then 0 else x / 16 % nA A 1)), .int (iI 0), .int (iI 0)]) C (cy_L_call G.1) (wM_L_172 G.1) (dc_tryDrop G w hS (e := (if nA A 1 = 0 then 0 else x / 16 % nA A 1)) (by omega)) dL_act_181 rfl rfl (by decide) (by decide) (Nat.le_of_ble_eq_true rfl) ⟨by omega, by omega⟩ ?_
      refine x_goto (pc := 184) C 203 dL_act_184 (by decide) ?_
      exact x_ret (pc := 203) C (by omega) hr rfl dL_act_203 (by unfold acO; rw [if_neg (show ¬ x % 16 < 2 by omega), if_neg (show ¬ x % 16 < 6 by omega), if_pos (show x % 16 = 6 by omega), if_pos (show x / 16 % 3 = 0 by omega)]) (by unfold acO; rw [if_neg (show ¬ x % 16 < 2 by omega), if_neg (show ¬ x % 16 < 6 by omega), if_pos (show x % 16 = 6 by omega), if_pos (show x / 16 % 3 = 0 by omega)])
  · refine x_tabIn (pc := 48) C 204 (by omega) dL_act_48 (by omega) (by rw [hs]; rfl) (by decide) ?_
    refine x_aload_n (pc := 204) C 5 rfl dL_act_204 ?_
    refine x_iload (pc := 205) C 1 rfl dL_act_205 ?_
    refine x_iload_n (pc := 207) C 4 rfl dL_act_207 ?_
    refine x_bipush (pc := 208) C (by decide +kernel) dL_act_208 ?_
    refine x_idiv (pc := 210) C (by omega) (by decide) dL_act_210 ?_
    refine x_iconst (pc := 211) C dL_act_211 ?_
    refine x_irem (pc := 212) C (by omega) (by decide) dL_act_212 ?_
    suffices K213 : Vl γ φ 7 (2) (QL γ φ 5 ((acO x A).1) (gup S w (acO x A).2)) S 221 [(6, .int (iI (if nA A 1 = 0 then 0 else x / 16 % nA A 1))), (5, .int (iI ((x / 16) % (nA A 0)))), (4, .int (iI (nA A 1))), (3, .int (iI (nA A 0))), (2, .int (iI (x / 16))), (0, .ref (bs (gw γ w))), (1, .int (iI x))] [.int (iI (if x / 16 / 10 % 2 = 0 then 1 else 0)), .int (iI ((x / 16) % (nA A 0))), .ref (bs (gw γ w))] by
      refine x_if_ne (pc := 213) C 220 (by omega) dL_act_213 (by decide) (fun h213 => ?_) (fun h213 => ?_)
      · refine x_iconst (pc := 220) C dL_act_220 ?_
        exact x_ti (x2 := (if x / 16 / 10 % 2 = 0 then 1 else 0)) (by split <;> first | rfl | omega | (exfalso; omega)) K213
      · refine x_iconst (pc := 216) C dL_act_216 ?_
        refine x_goto (pc := 217) C 221 dL_act_217 (by decide) ?_
        exact x_ti (x2 := (if x / 16 / 10 % 2 = 0 then 1 else 0)) (by split <;> first | rfl | omega | (exfalso; omega)) K213
    refine x_cw (pc := 221) (a := 2) (m := 1) (S' := gup S w (st_keys A ((x / 16) % (nA A 0)) (if x / 16 / 10 % 2 = 0 then 1 else 0))) (z := an_keys A ((x / 16) % (nA A 0)) (if x / 16 / 10 % 2 = 0 then 1 else 0)) (as := [.ref (bs (gw γ w)), .int (iI ((x / 16) % (nA A 0))), .int (iI (if x / 16 / 10 % 2 = 0 then 1 else 0))]) C (cy_L_keys G.1) (wM_L_180 G.1) (da_keys G w hS (v := (x / 16) % (nA A 0)) (b := (if x / 16 / 10 % 2 = 0 then 1 else 0)) (by omega) (by split <;> omega)) dL_act_221 rfl rfl (by decide) (by decide) (Nat.le_of_ble_eq_true rfl) ⟨by omega, by omega⟩ ?_
    exact x_ret (pc := 224) C (by omega) hr rfl dL_act_224 (by unfold acO; rw [if_neg (show ¬ x % 16 < 2 by omega), if_neg (show ¬ x % 16 < 6 by omega), if_neg (show ¬ x % 16 = 6 by omega), if_pos (show x % 16 < 9 by omega)]) (by unfold acO; rw [if_neg (show ¬ x % 16 < 2 by omega), if_neg (show ¬ x % 16 < 6 by omega), if_neg (show ¬ x % 16 = 6 by omega), if_pos (show x % 16 < 9 by omega)])
  · refine x_tabIn (pc := 48) C 204 (by omega) dL_act_48 (by omega) (by rw [hs]; rfl) (by decide) ?_
    refine x_aload_n (pc := 204) C 5 rfl dL_act_204 ?_
    refine x_iload (pc := 205) C 1 rfl dL_act_205 ?_
    refine x_iload_n (pc := 207) C 4 rfl dL_act_207 ?_
    refine x_bipush (pc := 208) C (by decide +kernel) dL_act_208 ?_
    refine x_idiv (pc := 210) C (by omega) (by decide) dL_act_210 ?_
    refine x_iconst (pc := 211) C dL_act_211 ?_
    refine x_irem (pc := 212) C (by omega) (by decide) dL_act_212 ?_
    suffices K213 : Vl γ φ 7 (2) (QL γ φ 5 ((acO x A).1) (gup S w (acO x A).2)) S 221 [(6, .int (iI (if nA A 1 = 0 then 0 else x / 16 % nA A 1))), (5, .int (iI ((x / 16) % (nA A 0)))), (4, .int (iI (nA A 1))), (3, .int (iI (nA A 0))), (2, .int (iI (x / 16))), (0, .ref (bs (gw γ w))), (1, .int (iI x))] [.int (iI (if x / 16 / 10 % 2 = 0 then 1 else 0)), .int (iI ((x / 16) % (nA A 0))), .ref (bs (gw γ w))] by
      refine x_if_ne (pc := 213) C 220 (by omega) dL_act_213 (by decide) (fun h213 => ?_) (fun h213 => ?_)
      · refine x_iconst (pc := 220) C dL_act_220 ?_
        exact x_ti (x2 := (if x / 16 / 10 % 2 = 0 then 1 else 0)) (by split <;> first | rfl | omega | (exfalso; omega)) K213
      · refine x_iconst (pc := 216) C dL_act_216 ?_
        refine x_goto (pc := 217) C 221 dL_act_217 (by decide) ?_
        exact x_ti (x2 := (if x / 16 / 10 % 2 = 0 then 1 else 0)) (by split <;> first | rfl | omega | (exfalso; omega)) K213
    refine x_cw (pc := 221) (a := 2) (m := 1) (S' := gup S w (st_keys A ((x / 16) % (nA A 0)) (if x / 16 / 10 % 2 = 0 then 1 else 0))) (z := an_keys A ((x / 16) % (nA A 0)) (if x / 16 / 10 % 2 = 0 then 1 else 0)) (as := [.ref (bs (gw γ w)), .int (iI ((x / 16) % (nA A 0))), .int (iI (if x / 16 / 10 % 2 = 0 then 1 else 0))]) C (cy_L_keys G.1) (wM_L_180 G.1) (da_keys G w hS (v := (x / 16) % (nA A 0)) (b := (if x / 16 / 10 % 2 = 0 then 1 else 0)) (by omega) (by split <;> omega)) dL_act_221 rfl rfl (by decide) (by decide) (Nat.le_of_ble_eq_true rfl) ⟨by omega, by omega⟩ ?_
    exact x_ret (pc := 224) C (by omega) hr rfl dL_act_224 (by unfold acO; rw [if_neg (show ¬ x % 16 < 2 by omega), if_neg (show ¬ x % 16 < 6 by omega), if_neg (show ¬ x % 16 = 6 by omega), if_pos (show x % 16 < 9 by omega)]) (by unfold acO; rw [if_neg (show ¬ x % 16 < 2 by omega), if_neg (show ¬ x % 16 < 6 by omega), if_neg (show ¬ x % 16 = 6 by omega), if_pos (show x % 16 < 9 by omega)])
  · refine x_tabIn (pc := 48) C 225 (by omega) dL_act_48 (by omega) (by rw [hs]; rfl) (by decide) ?_
    refine x_iload_n (pc := 225) C 4 rfl dL_act_225 ?_
    refine x_iconst (pc := 226) C dL_act_226 ?_
    refine x_irem (pc := 227) C (by omega) (by decide) dL_act_227 ?_
    refine x_if_ne (pc := 228) C 253 (by omega) dL_act_228 (by decide) (fun h228 => ?_) (fun h228 => ?_)
    · refine x_aload_n (pc := 253) C 5 rfl dL_act_253 ?_
      refine x_bipush (pc := 254) C (by decide +kernel) dL_act_254 ?_
      refine x_iload_n (pc := 256) C 4 rfl dL_act_256 ?_
      refine x_iconst (pc := 257) C dL_act_257 ?_
      refine x_irem (pc := 258) C (by omega) (by decide) dL_act_258 ?_
      refine x_iload_n (pc := 259) C 4 rfl dL_act_259 ?_
      refine x_bipush (pc := 260) C (by decide +kernel) dL_act_260 ?_
      refine x_idiv (pc := 262) C (by omega) (by decide) dL_act_262 ?_
      refine x_bipush (pc := 263) C (by decide +kernel) dL_act_263 ?_
      refine x_irem (pc := 265) C (by omega) (by decide) dL_act_265 ?_
      refine x_iconst (pc := 266) C dL_act_266 ?_
      refine x_cs (pc := 267) (a := 2) (m := 1) (S' := gup S w (st_tryLay A ((x / 16) % 2) (((x / 16) / 6) % 40))) (z := an_tryLay A ((x / 16) % 2) (((x / 16) / 6) % 40)) (as := [.ref (bs (gw γ w)), .int (iI 12), .int (iI ((x / 16) % 2)), .int (iI (((x / 16) / 6) % 40)), .int (iI 0)]) C (cy_L_call G.1) (wM_L_172 G.1) (dc_tryLay G w hS (w := (x / 16) % 2) (v := ((x / 16) / 6) % 40) (by omega) (by omega)) dL_act_267 rfl rfl (by decide) (by decide) (Nat.le_of_ble_eq_true rfl) ⟨by omega, by omega⟩ ?_
      exact x_ret (pc := 270) C (by omega) hr rfl dL_act_270 (by unfold acO; rw [if_neg (show ¬ x % 16 < 2 by omega), if_neg (show ¬ x % 16 < 6 by omega), if_neg (show ¬ x % 16 = 6 by omega), if_neg (show ¬ x % 16 < 9 by omega), if_pos (show x % 16 = 9 by omega), if_neg (show ¬ x / 16 % 3 = 0 by omega)]) (by unfold acO; rw [if_neg (show ¬ x % 16 < 2 by omega), if_neg (show ¬ x % 16 < 6 by omega), if_neg (show ¬ x % 16 = 6 by omega), if_neg (show ¬ x % 16 < 9 by omega), if_pos (show x % 16 = 9 by omega), if_neg (show ¬ x / 16 % 3 = 0 by omega)])
    · refine x_aload_n (pc := 231) C 5 rfl dL_act_231 ?_
      refine x_bipush (pc := 232) C (by decide +kernel) dL_act_232 ?_
      refine x_iload (pc := 234) C 1 rfl dL_act_234 ?_
      refine x_bipush (pc := 236) C (by decide +kernel) dL_act_236 ?_
      refine x_iload_n (pc := 238) C 4 rfl dL_act_238 ?_
      refine x_bipush (pc := 239) C (by decide +kernel) dL_act_239 ?_
      refine x_idiv (pc := 241) C (by omega) (by decide) dL_act_241 ?_
      refine x_bipush (pc := 242) C (by decide +kernel) dL_act_242 ?_
      refine x_irem (pc := 244) C (by omega) (by decide) dL_act_244 ?_
      refine x_iadd (pc := 245) C dL_act_245 ?_
      refine x_iconst (pc := 246) C dL_act_246 ?_
      refine x_cs (pc := 247) (a := 2) (m := 1) (S' := gup S w (st_tryFeed A ((x / 16) % (nA A 0)) (10 + (((x / 16) / 10) % 90)))) (z := an_tryFeed A ((x / 16) % (nA A 0)) (10 + (((x / 16) / 10) % 90))) (as := [.ref (bs (gw γ w)), .int (iI 11), .int (iI ((x / 16) % (nA A 0))), .int (iI (10 + (((x / 16) / 10) % 90))), .int (iI 0)]) C (cy_L_call G.1) (wM_L_172 G.1) (dc_tryFeed G w hS (v := (x / 16) % (nA A 0)) (m := 10 + (((x / 16) / 10) % 90)) (by omega) (by omega)) dL_act_247 rfl rfl (by decide) (by decide) (Nat.le_of_ble_eq_true rfl) ⟨by omega, by omega⟩ ?_
      refine x_goto (pc := 250) C 270 dL_act_250 (by decide) ?_
      exact x_ret (pc := 270) C (by omega) hr rfl dL_act_270 (by unfold acO; rw [if_neg (show ¬ x % 16 < 2 by omega), if_neg (show ¬ x % 16 < 6 by omega), if_neg (show ¬ x % 16 = 6 by omega), if_neg (show ¬ x % 16 < 9 by omega), if_pos (show x % 16 = 9 by omega), if_pos (show x / 16 % 3 = 0 by omega)]) (by unfold acO; rw [if_neg (show ¬ x % 16 < 2 by omega), if_neg (show ¬ x % 16 < 6 by omega), if_neg (show ¬ x % 16 = 6 by omega), if_neg (show ¬ x % 16 < 9 by omega), if_pos (show x % 16 = 9 by omega), if_pos (show x / 16 % 3 = 0 by omega)])
  · refine x_tabIn (pc := 48) C 271 (by omega) dL_act_48 (by omega) (by rw [hs]; rfl) (by decide) ?_
    refine x_aload_n (pc := 271) C 5 rfl dL_act_271 ?_
    refine x_iconst (pc := 272) C dL_act_272 ?_
    refine x_iconst (pc := 273) C dL_act_273 ?_
    refine x_iconst (pc := 274) C dL_act_274 ?_
    refine x_iconst (pc := 275) C dL_act_275 ?_
    refine x_cs (pc := 276) (a := 2) (m := 1) (S' := S) (z := nA A 2) (as := [.ref (bs (gw γ w)), .int (iI 2), .int (iI 2), .int (iI 0), .int (iI 0)]) C (cy_L_call G.1) (wM_L_172 G.1) (t_ab2 G w hS hO ht) dL_act_276 rfl rfl (by decide) (by decide) (Nat.le_of_ble_eq_true rfl) ⟨by omega, by omega⟩ ?_
    refine x_iconst (pc := 279) C dL_act_279 ?_
    refine x_icmp_ge (pc := 280) C 287 (by omega) (by decide) dL_act_280 (by decide) (fun h280 => ?_) (fun h280 => ?_)
    · refine x_aload_n (pc := 287) C 5 rfl dL_act_287 ?_
      refine x_bipush (pc := 288) C (by decide +kernel) dL_act_288 ?_
      refine x_iconst (pc := 290) C dL_act_290 ?_
      refine x_iconst (pc := 291) C dL_act_291 ?_
      refine x_iconst (pc := 292) C dL_act_292 ?_
      refine x_cs (pc := 293) (a := 3) (m := 1) (S' := gup S w (st_tryUndo A)) (z := an_tryUndo A) (as := [.ref (bs (gw γ w)), .int (iI 14), .int (iI 0), .int (iI 0), .int (iI 0)]) C (cy_L_call G.1) (wM_L_172 G.1) (dc_tryUndo G w hS ) dL_act_293 rfl rfl (by decide) (by decide) (Nat.le_of_ble_eq_true rfl) ⟨by omega, by omega⟩ ?_
      exact x_ret (pc := 296) C (by omega) hr rfl dL_act_296 (by unfold acO; rw [if_neg (show ¬ x % 16 < 2 by omega), if_neg (show ¬ x % 16 < 6 by omega), if_neg (show ¬ x % 16 = 6 by omega), if_neg (show ¬ x % 16 < 9 by omega), if_neg (show ¬ x % 16 = 9 by omega), if_pos (show x % 16 = 10 by omega), if_neg (show ¬ nA A 2 < 2 by omega)]) (by unfold acO; rw [if_neg (show ¬ x % 16 < 2 by omega), if_neg (show ¬ x % 16 < 6 by omega), if_neg (show ¬ x % 16 = 6 by omega), if_neg (show ¬ x % 16 < 9 by omega), if_neg (show ¬ x % 16 = 9 by omega), if_pos (show x % 16 = 10 by omega), if_neg (show ¬ nA A 2 < 2 by omega)])
    · refine x_iconst (pc := 283) C dL_act_283 ?_
      refine x_goto (pc := 284) C 296 dL_act_284 (by decide) ?_
      exact x_ret (pc := 296) C (by omega) hr rfl dL_act_296 (by unfold acO; rw [if_neg (show ¬ x % 16 < 2 by omega), if_neg (show ¬ x % 16 < 6 by omega), if_neg (show ¬ x % 16 = 6 by omega), if_neg (show ¬ x % 16 < 9 by omega), if_neg (show ¬ x % 16 = 9 by omega), if_pos (show x % 16 = 10 by omega), if_pos (show nA A 2 < 2 by omega)]) (by unfold acO; rw [if_neg (show ¬ x % 16 < 2 by omega), if_neg (show ¬ x % 16 < 6 by omega), if_neg (show ¬ x % 16 = 6 by omega), if_neg (show ¬ x % 16 < 9 by omega), if_neg (show ¬ x % 16 = 9 by omega), if_pos (show x % 16 = 10 by omega), if_pos (show nA A 2 < 2 by omega)]; rw [← hS]; exact (gup_at S w).symm)
  · refine x_tabIn (pc := 48) C 297 (by omega) dL_act_48 (by omega) (by rw [hs]; rfl) (by decide) ?_
    refine x_iload_n (pc := 297) C 4 rfl dL_act_297 ?_
    refine x_iconst (pc := 298) C dL_act_298 ?_
    refine x_irem (pc := 299) C (by omega) (by decide) dL_act_299 ?_
    refine x_if_ne (pc := 300) C 319 (by omega) dL_act_300 (by decide) (fun h300 => ?_) (fun h300 => ?_)
    · refine x_aload_n (pc := 319) C 5 rfl dL_act_319 ?_
      refine x_bipush (pc := 320) C (by decide +kernel) dL_act_320 ?_
      refine x_iload_n (pc := 322) C 4 rfl dL_act_322 ?_
      refine x_iconst (pc := 323) C dL_act_323 ?_
      refine x_idiv (pc := 324) C (by omega) (by decide) dL_act_324 ?_
      refine x_iconst (pc := 325) C dL_act_325 ?_
      refine x_irem (pc := 326) C (by omega) (by decide) dL_act_326 ?_
      refine x_iconst (pc := 327) C dL_act_327 ?_
      refine x_iconst (pc := 328) C dL_act_328 ?_
      refine x_cs (pc := 329) (a := 2) (m := 1) (S' := gup S w (st_tryBack A (((x / 16) / 2) % 2))) (z := an_tryBack A (((x / 16) / 2) % 2)) (as := [.ref (bs (gw γ w)), .int (iI 20), .int (iI (((x / 16) / 2) % 2)), .int (iI 0), .int (iI 0)]) C (cy_L_call G.1) (wM_L_172 G.1) (dc_tryBack G w hS (q := ((x / 16) / 2) % 2) (by omega)) dL_act_329 rfl rfl (by decide) (by decide) (Nat.le_of_ble_eq_true rfl) ⟨by omega, by omega⟩ ?_
      exact x_ret (pc := 332) C (by omega) hr rfl dL_act_332 (by unfold acO; rw [if_neg (show ¬ x % 16 < 2 by omega), if_neg (show ¬ x % 16 < 6 by omega), if_neg (show ¬ x % 16 = 6 by omega), if_neg (show ¬ x % 16 < 9 by omega), if_neg (show ¬ x % 16 = 9 by omega), if_neg (show ¬ x % 16 = 10 by omega), if_pos (show x % 16 = 11 by omega), if_neg (show ¬ x / 16 % 2 = 0 by omega)]) (by unfold acO; rw [if_neg (show ¬ x % 16 < 2 by omega), if_neg (show ¬ x % 16 < 6 by omega), if_neg (show ¬ x % 16 = 6 by omega), if_neg (show ¬ x % 16 < 9 by omega), if_neg (show ¬ x % 16 = 9 by omega), if_neg (show ¬ x % 16 = 10 by omega), if_pos (show x % 16 = 11 by omega), if_neg (show ¬ x / 16 % 2 = 0 by omega)])
    · refine x_aload_n (pc := 303) C 5 rfl dL_act_303 ?_
      refine x_bipush (pc := 304) C (by decide +kernel) dL_act_304 ?_
      refine x_iload_n (pc := 306) C 4 rfl dL_act_306 ?_
      refine x_iconst (pc := 307) C dL_act_307 ?_
      refine x_idiv (pc := 308) C (by omega) (by decide) dL_act_308 ?_
      refine x_iconst (pc := 309) C dL_act_309 ?_
      refine x_irem (pc := 310) C (by omega) (by decide) dL_act_310 ?_
      refine x_iconst (pc := 311) C dL_act_311 ?_
      refine x_iconst (pc := 312) C dL_act_312 ?_
      refine x_cs (pc := 313) (a := 2) (m := 1) (S' := gup S w (st_tryKeep A (((x / 16) / 2) % 2))) (z := an_tryKeep A (((x / 16) / 2) % 2)) (as := [.ref (bs (gw γ w)), .int (iI 19), .int (iI (((x / 16) / 2) % 2)), .int (iI 0), .int (iI 0)]) C (cy_L_call G.1) (wM_L_172 G.1) (dc_tryKeep G w hS (q := ((x / 16) / 2) % 2) (by omega)) dL_act_313 rfl rfl (by decide) (by decide) (Nat.le_of_ble_eq_true rfl) ⟨by omega, by omega⟩ ?_
      refine x_goto (pc := 316) C 332 dL_act_316 (by decide) ?_
      exact x_ret (pc := 332) C (by omega) hr rfl dL_act_332 (by unfold acO; rw [if_neg (show ¬ x % 16 < 2 by omega), if_neg (show ¬ x % 16 < 6 by omega), if_neg (show ¬ x % 16 = 6 by omega), if_neg (show ¬ x % 16 < 9 by omega), if_neg (show ¬ x % 16 = 9 by omega), if_neg (show ¬ x % 16 = 10 by omega), if_pos (show x % 16 = 11 by omega), if_pos (show x / 16 % 2 = 0 by omega)]) (by unfold acO; rw [if_neg (show ¬ x % 16 < 2 by omega), if_neg (show ¬ x % 16 < 6 by omega), if_neg (show ¬ x % 16 = 6 by omega), if_neg (show ¬ x % 16 < 9 by omega), if_neg (show ¬ x % 16 = 9 by omega), if_neg (show ¬ x % 16 = 10 by omega), if_pos (show x % 16 = 11 by omega), if_pos (show x / 16 % 2 = 0 by omega)])
  · refine x_tabOut (pc := 48) C 333 (by omega) dL_act_48 (by omega) (by decide) ?_
    refine x_aload_n (pc := 333) C 5 rfl dL_act_333 ?_
    refine x_bipush (pc := 334) C (by decide +kernel) dL_act_334 ?_
    refine x_iconst (pc := 336) C dL_act_336 ?_
    refine x_iload_n (pc := 337) C 4 rfl dL_act_337 ?_
    refine x_bipush (pc := 338) C (by decide +kernel) dL_act_338 ?_
    refine x_irem (pc := 340) C (by omega) (by decide) dL_act_340 ?_
    refine x_iadd (pc := 341) C dL_act_341 ?_
    refine x_iconst (pc := 342) C dL_act_342 ?_
    refine x_iconst (pc := 343) C dL_act_343 ?_
    refine x_cs (pc := 344) (a := 2) (m := 1) (S' := gup S w (st_tryTicks A (1 + ((x / 16) % 9)))) (z := an_tryTicks A (1 + ((x / 16) % 9))) (as := [.ref (bs (gw γ w)), .int (iI 13), .int (iI (1 + ((x / 16) % 9))), .int (iI 0), .int (iI 0)]) C (cy_L_call G.1) (wM_L_172 G.1) (dc_tryTicks G w hS (m := 1 + ((x / 16) % 9)) (by omega)) dL_act_344 rfl rfl (by decide) (by decide) (Nat.le_of_ble_eq_true rfl) ⟨by omega, by omega⟩ ?_
    exact x_ret (pc := 347) C (by omega) hr rfl dL_act_347 (by unfold acO; rw [if_neg (show ¬ x % 16 < 2 by omega), if_neg (show ¬ x % 16 < 6 by omega), if_neg (show ¬ x % 16 = 6 by omega), if_neg (show ¬ x % 16 < 9 by omega), if_neg (show ¬ x % 16 = 9 by omega), if_neg (show ¬ x % 16 = 10 by omega), if_neg (show ¬ x % 16 = 11 by omega)]) (by unfold acO; rw [if_neg (show ¬ x % 16 < 2 by omega), if_neg (show ¬ x % 16 < 6 by omega), if_neg (show ¬ x % 16 = 6 by omega), if_neg (show ¬ x % 16 < 9 by omega), if_neg (show ¬ x % 16 = 9 by omega), if_neg (show ¬ x % 16 = 10 by omega), if_neg (show ¬ x % 16 = 11 by omega)])

