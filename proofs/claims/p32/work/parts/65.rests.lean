/-! the law: rests -/
def rsA (A : Abs) : Abs := if restL 301 (nA A) 0 = -1 ∨ 200 < restL 301 (nA A) 0 then A else pS (st_tryUndo (st_tryTicks (wP (restL 301 (nA A) 0) A (cntN (restL 301 (nA A) 0))) 31)) (cntN (restL 301 (nA A) 0))
theorem rsA_inv {T : Int} {A : Abs} (h : Inv T A) (hT : T < 900000) : Inv T (rsA A) ∧ nA (rsA A) = nA A := by
  unfold rsA
  by_cases c : restL 301 (nA A) 0 = -1 ∨ 200 < restL 301 (nA A) 0
  · rw [if_pos c]; exact ⟨h, rfl⟩
  · rw [if_neg c]
    have hb := restL_b (nA A)
    obtain ⟨-, -, -, -, -, -, -, -, -, -, -, -, hI, hn⟩ := rests_pure h hT rfl (by omega)
    exact ⟨hI, hn⟩
set_option maxHeartbeats 4000000 in
set_option maxRecDepth 100000 in
theorem k_rests {γ : Gm} (G : GL γ) {T : Int} {A : Abs} (h : Inv T A) (hT : T < 900000) : Cl γ yL_rests (.code yL_rests cL_rests 7 (some .boolean)) 14 60 [.ref (bs (gw γ false)), .ref (bs (gw γ true))] (A, A) 1 (rsA A, rsA A) := by
  refine Cl.of G (by decide +kernel) (Nat.le_of_ble_eq_true rfl) (fun φ C hcr hr => ?_)
  have C : Cx γ φ RL cL_rests 7 14 := C
  have h0 := h.1.wf.1
  have h1 := h.1.wf.2.1
  refine x_lv [(0, .ref (bs (gw γ false))), (1, .ref (bs (gw γ true)))] [0, 1] rfl ?_
  refine x_aload_n (pc := 0) C 0 rfl dL_rests_0 ?_
  refine x_cv (pc := 1) (a := 0) (w := false) (as := []) C (cy_X5_restIn G.1) (wM_L_232 G.1) rfl (fun σ hC9 hO9 => k_X5_restIn (G.w false) hC9 hO9) (z := restL 301 (nA A) 0) (fun _ _ _ q => ⟨q.2.1, q.2.2.1⟩) dL_rests_1 rfl rfl (by decide) (by decide) (Nat.le_of_ble_eq_true rfl) ⟨by omega, by omega⟩ ?_
  refine x_nm (fun n9 en9 => ?_)
  have hn9 := restL_b (nA A)
  rw [← en9] at hn9
  have htt := h.2.1.2.2.1
  refine x_istore_n (pc := 4) C [(2, .int (iI n9)), (0, .ref (bs (gw γ false))), (1, .ref (bs (gw γ true)))] dL_rests_4 rfl (by decide) rfl ?_
  refine x_aload_n (pc := 5) C 1 rfl dL_rests_5 ?_
  refine x_iconst (pc := 6) C dL_rests_6 ?_
  refine x_iconst (pc := 7) C dL_rests_7 ?_
  refine x_iconst (pc := 8) C dL_rests_8 ?_
  refine x_iconst (pc := 9) C dL_rests_9 ?_
  refine x_cs (pc := 10) (a := 0) (m := 1) (S' := (A, A)) (z := nA A 2) (as := [.ref (bs (gw γ false)), .int (iI 2), .int (iI 2), .int (iI 0), .int (iI 0)]) C (cy_L_call G.1) (wM_L_172 G.1) (t_ab2 G false (A := A) (rfl : gat (A, A) false = A) h.1 ⟨by omega, by omega⟩) dL_rests_10 rfl rfl (by decide) (by decide) (Nat.le_of_ble_eq_true rfl) ⟨by omega, by omega⟩ ?_
  refine x_nm (fun tm etm => ?_)
  refine x_istore_n (pc := 13) C [(3, .int (iI tm)), (2, .int (iI n9)), (0, .ref (bs (gw γ false))), (1, .ref (bs (gw γ true)))] dL_rests_13 rfl (by decide) rfl ?_
  refine x_iload_n (pc := 14) C 1 rfl dL_rests_14 ?_
  refine x_iconst (pc := 15) C dL_rests_15 ?_
  refine x_icmp_lt (pc := 16) C 59 (by omega) (by decide) dL_rests_16 (by decide) (fun h => by exfalso; omega) (fun h16 => ?_)
  refine x_iload_n (pc := 19) C 1 rfl dL_rests_19 ?_
  refine x_sipush (pc := 20) C (by decide +kernel) dL_rests_20 ?_
  refine x_icmp_gt (pc := 23) C 59 (by omega) (by decide) dL_rests_23 (by decide) (fun h => by exfalso; omega) (fun h23 => ?_)
  refine x_aload_n (pc := 26) C 2 rfl dL_rests_26 ?_
  refine x_iconst (pc := 27) C dL_rests_27 ?_
  refine x_ldc2 (pc := 28) C (wCL_L_235 G.1) dL_rests_28 ?_
  refine x_cw (pc := 31) (a := 1) (m := 1) (S' := (A, A)) (z := an_doScript A 1 800000) (as := [.ref (bs (gw γ false)), .int (iI 1), .long (lI 800000)]) C (cy_L_doScript G.1) (wM_L_184 G.1) (da_doScript G false (A := A) (rfl : gat (A, A) false = A) (m := 1) (b := 800000) (by decide) (by decide)) dL_rests_31 rfl rfl (by decide) (by decide) (Nat.le_of_ble_eq_true rfl) ⟨by omega, by omega⟩ ?_
  refine x_nm (fun z1 ez1 => ?_)
  have hz1 : (z1 = -1 ∧ n9 = 0) ∨ (z1 = 0 ∧ ¬ n9 = 0) := by
    rw [ez1, an_rest]
    by_cases c : restsR (nA A)
    · rw [if_pos c]; exact Or.inl ⟨rfl, en9.trans ((restL_0 _).mpr c)⟩
    · rw [if_neg c]; exact Or.inr ⟨rfl, fun q => c ((restL_0 _).mp (en9 ▸ q))⟩
  refine x_iconst (pc := 34) C dL_rests_34 ?_
  suffices K35 : Vl γ φ 7 (2) (QL γ φ 60 1 (rsA A, rsA A)) (A, A) 55 [(3, .int (iI tm)), (2, .int (iI n9)), (0, .ref (bs (gw γ false))), (1, .ref (bs (gw γ true)))] [] by
    refine x_icmp_ne (pc := 35) C 42 (by omega) (by decide) dL_rests_35 (by decide) (fun h35 => ?_) (fun h35 => ?_)
    · refine x_iconst (pc := 42) C dL_rests_42 ?_
      refine x_iload_n (pc := 43) C 1 rfl dL_rests_43 ?_
      refine x_if_ne (pc := 44) C 51 (by omega) dL_rests_44 (by decide) (fun h44 => ?_) (fun h => by exfalso; omega)
      refine x_iconst (pc := 51) C dL_rests_51 ?_
      refine x_icmp_ne (pc := 52) C 59 (by decide) (by decide) dL_rests_52 (by decide) (fun h => absurd h (by decide)) (fun h52 => ?_)
      exact K35
    · refine x_iconst (pc := 38) C dL_rests_38 ?_
      refine x_goto (pc := 39) C 43 dL_rests_39 (by decide) ?_
      refine x_iload_n (pc := 43) C 1 rfl dL_rests_43 ?_
      refine x_if_ne (pc := 44) C 51 (by omega) dL_rests_44 (by decide) (fun h => by exfalso; omega) (fun h44 => ?_)
      refine x_iconst (pc := 47) C dL_rests_47 ?_
      refine x_goto (pc := 48) C 52 dL_rests_48 (by decide) ?_
      refine x_icmp_ne (pc := 52) C 59 (by decide) (by decide) dL_rests_52 (by decide) (fun h => absurd h (by decide)) (fun h52 => ?_)
      exact K35
  refine x_iconst (pc := 55) C dL_rests_55 ?_
  refine x_goto (pc := 56) C 60 dL_rests_56 (by decide) ?_
  refine x_istore (pc := 60) C [(4, .int (iI 1)), (3, .int (iI tm)), (2, .int (iI n9)), (0, .ref (bs (gw γ false))), (1, .ref (bs (gw γ true)))] dL_rests_60 (by decide) rfl ?_
  refine x_iload_n (pc := 62) C 2 rfl dL_rests_62 ?_
  refine x_iconst (pc := 63) C dL_rests_63 ?_
  refine x_icmp_eq (pc := 64) C 74 (by omega) (by decide) dL_rests_64 (by decide) (fun h64 => ?_) (fun h64 => ?_)
  · refine x_iload (pc := 74) C 0 rfl dL_rests_74 ?_
    exact x_ret (pc := 76) C (by omega) hr rfl dL_rests_76 rfl (by unfold rsA; rw [if_pos (show restL 301 (nA A) 0 = -1 ∨ 200 < restL 301 (nA A) 0 by omega)])
  · refine x_iload_n (pc := 67) C 2 rfl dL_rests_67 ?_
    refine x_sipush (pc := 68) C (by decide +kernel) dL_rests_68 ?_
    refine x_icmp_le (pc := 71) C 77 (by omega) (by decide) dL_rests_71 (by decide) (fun h71 => ?_) (fun h71 => ?_)
    · obtain ⟨hO1, hO2, hr1, ht0, hp1, hp3, hr2, hbt, htm, hv0, hu2, hu3, hI, hnE⟩ := rests_pure h hT en9 (by omega)
      generalize hA1 : wP n9 A (cntN n9) = A1 at *
      generalize hA2 : st_tryTicks A1 31 = A2 at *
      generalize hA3 : st_tryUndo A2 = A3 at *
      generalize hA4 : pS A3 (cntN n9) = A4 at *
      refine x_iload (pc := 77) C 0 rfl dL_rests_77 ?_
      refine x_if_eq (pc := 79) C 118 (by decide) dL_rests_79 (by decide) (fun h => absurd h (by decide)) (fun h79 => ?_)
      refine x_aload_n (pc := 82) C 3 rfl dL_rests_82 ?_
      refine x_aload_n (pc := 83) C 4 rfl dL_rests_83 ?_
      refine x_iload_n (pc := 84) C 2 rfl dL_rests_84 ?_
      refine x_cs (pc := 85) (a := 2) (m := 12) (S' := (A1, A1)) (z := 1) (as := [.ref (bs (gw γ false)), .ref (bs (gw γ true)), .int (iI n9)]) C (cy_L_waits G.1) (wM_L_237 G.1) ((by rw [← hA1]; exact k_waits G (A := A) (n := n9) (by omega))) dL_rests_85 rfl rfl (by decide) (by decide) (Nat.le_of_ble_eq_true rfl) ⟨by omega, by omega⟩ ?_
      refine x_if_eq (pc := 88) C 118 (by decide) dL_rests_88 (by decide) (fun h => absurd h (by decide)) (fun h88 => ?_)
      refine x_aload_n (pc := 91) C 3 rfl dL_rests_91 ?_
      refine x_cv (pc := 92) (a := 14) (w := false) (as := []) C (cy_X5_restIn G.1) (wM_L_232 G.1) rfl (fun σ hC9 hO9 => k_X5_restIn (G.w false) hC9 hO9) (z := restL 301 (nA A1) 0) (fun _ _ _ q => ⟨q.2.1, q.2.2.1⟩) dL_rests_92 rfl rfl (by decide) (by decide) (Nat.le_of_ble_eq_true rfl) ⟨by omega, by omega⟩ ?_
      refine x_ti (x2 := 0) (restL_rest hr1 300 0) ?_
      refine x_if_ne (pc := 95) C 118 (by decide) dL_rests_95 (by decide) (fun h => absurd h (by decide)) (fun h95 => ?_)
      refine x_iload_n (pc := 98) C 2 rfl dL_rests_98 ?_
      suffices K99 : Vl γ φ 7 (15) (QL γ φ 60 1 (rsA A, rsA A)) (A1, A1) 114 [(4, .int (iI 1)), (3, .int (iI tm)), (2, .int (iI n9)), (0, .ref (bs (gw γ false))), (1, .ref (bs (gw γ true)))] [] by
        refine x_if_eq (pc := 99) C 114 (by omega) dL_rests_99 (by decide) (fun h99 => ?_) (fun h99 => ?_)
        · exact x_wide (by omega) K99
        · refine x_aload_n (pc := 102) C 3 rfl dL_rests_102 ?_
          refine x_iconst (pc := 103) C dL_rests_103 ?_
          refine x_ldc2 (pc := 104) C (wCL_L_235 G.1) dL_rests_104 ?_
          refine x_cw (pc := 107) (a := 14) (m := 1) (S' := (A1, A1)) (z := an_doScript A1 1 800000) (as := [.ref (bs (gw γ false)), .int (iI 1), .long (lI 800000)]) C (cy_L_doScript G.1) (wM_L_184 G.1) (da_doScript G false (A := A1) (rfl : gat (A1, A1) false = A1) (m := 1) (b := 800000) (by decide) (by decide)) dL_rests_107 rfl rfl (by decide) (by decide) (Nat.le_of_ble_eq_true rfl) ⟨by omega, by omega⟩ ?_
          refine x_ti (x2 := (-1)) (by rw [an_rest, if_pos hr1]) ?_
          refine x_iconst (pc := 110) C dL_rests_110 ?_
          refine x_icmp_ne (pc := 111) C 118 (by decide) (by decide) dL_rests_111 (by decide) (fun h => absurd h (by decide)) (fun h111 => ?_)
          exact K99
      refine x_iconst (pc := 114) C dL_rests_114 ?_
      refine x_goto (pc := 115) C 119 dL_rests_115 (by decide) ?_
      refine x_istore (pc := 119) C [(4, .int (iI 1)), (3, .int (iI tm)), (2, .int (iI n9)), (0, .ref (bs (gw γ false))), (1, .ref (bs (gw γ true)))] dL_rests_119 (by decide) rfl ?_
      refine x_aload_n (pc := 121) C 3 rfl dL_rests_121 ?_
      refine x_iconst (pc := 122) C dL_rests_122 ?_
      refine x_iconst (pc := 123) C dL_rests_123 ?_
      refine x_iconst (pc := 124) C dL_rests_124 ?_
      refine x_iconst (pc := 125) C dL_rests_125 ?_
      refine x_cs (pc := 126) (a := 15) (m := 1) (S' := (A1, A1)) (z := allPR (nA A1) (nA A1 0).toNat) (as := [.ref (bs (gw γ false)), .int (iI 2), .int (iI 4), .int (iI 0), .int (iI 0)]) C (cy_L_call G.1) (wM_L_172 G.1) (t_ab4 G false (A := A1) (rfl : gat (A1, A1) false = A1) hO1) dL_rests_126 rfl rfl (by decide) (by decide) (Nat.le_of_ble_eq_true rfl) ⟨by omega, by omega⟩ ?_
      refine x_nm (fun sm esm => ?_)
      have hsm := allPR_r hO1
      rw [← esm] at hsm
      refine x_istore (pc := 129) C [(5, .int (iI sm)), (4, .int (iI 1)), (3, .int (iI tm)), (2, .int (iI n9)), (0, .ref (bs (gw γ false))), (1, .ref (bs (gw γ true)))] dL_rests_129 (by decide) rfl ?_
      refine x_aload_n (pc := 131) C 4 rfl dL_rests_131 ?_
      refine x_iconst (pc := 132) C dL_rests_132 ?_
      refine x_bipush (pc := 133) C (by decide +kernel) dL_rests_133 ?_
      refine x_iconst (pc := 135) C dL_rests_135 ?_
      refine x_iconst (pc := 136) C dL_rests_136 ?_
      refine x_cs (pc := 137) (a := 16) (m := 1) (S' := (A1, A1)) (z := bmz (nA A1 3)) (as := [.ref (bs (gw γ false)), .int (iI 2), .int (iI 6), .int (iI 0), .int (iI 0)]) C (cy_L_call G.1) (wM_L_172 G.1) (t_ab6 G false (A := A1) (rfl : gat (A1, A1) false = A1) hO1) dL_rests_137 rfl rfl (by decide) (by decide) (Nat.le_of_ble_eq_true rfl) ⟨by omega, by omega⟩ ?_
      refine x_nm (fun ov eov => ?_)
      have hov := bmz_r (nA (A1) 3)
      rw [← eov] at hov
      refine x_istore (pc := 140) C [(6, .int (iI ov)), (5, .int (iI sm)), (4, .int (iI 1)), (3, .int (iI tm)), (2, .int (iI n9)), (0, .ref (bs (gw γ false))), (1, .ref (bs (gw γ true)))] dL_rests_140 (by decide) rfl ?_
      refine x_iload (pc := 142) C 2 rfl dL_rests_142 ?_
      refine x_if_eq (pc := 144) C 241 (by decide) dL_rests_144 (by decide) (fun h => absurd h (by decide)) (fun h144 => ?_)
      refine x_aload_n (pc := 147) C 5 rfl dL_rests_147 ?_
      refine x_bipush (pc := 148) C (by decide +kernel) dL_rests_148 ?_
      refine x_bipush (pc := 150) C (by decide +kernel) dL_rests_150 ?_
      refine x_iconst (pc := 152) C dL_rests_152 ?_
      refine x_iconst (pc := 153) C dL_rests_153 ?_
      refine x_cs (pc := 154) (a := 17) (m := 1) (S' := (A2, A1)) (z := an_tryTicks A1 31) (as := [.ref (bs (gw γ false)), .int (iI 13), .int (iI 31), .int (iI 0), .int (iI 0)]) C (cy_L_call G.1) (wM_L_172 G.1) ((by have hc9 := dc_tryTicks G false (A := A1) (rfl : gat (A1, A1) false = A1) (m := 31) (y9 := 0) (z9 := 0) (by decide); rw [hA2] at hc9; exact hc9)) dL_rests_154 rfl rfl (by decide) (by decide) (Nat.le_of_ble_eq_true rfl) ⟨by omega, by omega⟩ ?_
      refine x_ti (x2 := 0) ht0 ?_
      refine x_if_ne (pc := 157) C 241 (by decide) dL_rests_157 (by decide) (fun h => absurd h (by decide)) (fun h157 => ?_)
      refine x_aload_n (pc := 160) C 6 rfl dL_rests_160 ?_
      refine x_bipush (pc := 161) C (by decide +kernel) dL_rests_161 ?_
      refine x_bipush (pc := 163) C (by decide +kernel) dL_rests_163 ?_
      refine x_iconst (pc := 165) C dL_rests_165 ?_
      refine x_iconst (pc := 166) C dL_rests_166 ?_
      refine x_cs (pc := 167) (a := 18) (m := 1) (S' := (A2, A2)) (z := an_tryTicks A1 31) (as := [.ref (bs (gw γ true)), .int (iI 13), .int (iI 31), .int (iI 0), .int (iI 0)]) C (cy_L_call G.1) (wM_L_172 G.1) ((by have hc9 := dc_tryTicks G true (A := A1) (rfl : gat (A2, A1) true = A1) (m := 31) (y9 := 0) (z9 := 0) (by decide); rw [hA2] at hc9; exact hc9)) dL_rests_167 rfl rfl (by decide) (by decide) (Nat.le_of_ble_eq_true rfl) ⟨by omega, by omega⟩ ?_
      refine x_ti (x2 := 0) ht0 ?_
      refine x_if_ne (pc := 170) C 241 (by decide) dL_rests_170 (by decide) (fun h => absurd h (by decide)) (fun h170 => ?_)
      refine x_aload_n (pc := 173) C 5 rfl dL_rests_173 ?_
      refine x_iconst (pc := 174) C dL_rests_174 ?_
      refine x_iconst (pc := 175) C dL_rests_175 ?_
      refine x_iconst (pc := 176) C dL_rests_176 ?_
      refine x_iconst (pc := 177) C dL_rests_177 ?_
      refine x_cs (pc := 178) (a := 19) (m := 1) (S' := (A2, A2)) (z := allPR (nA A2) (nA A2 0).toNat) (as := [.ref (bs (gw γ false)), .int (iI 2), .int (iI 4), .int (iI 0), .int (iI 0)]) C (cy_L_call G.1) (wM_L_172 G.1) (t_ab4 G false (A := A2) (rfl : gat (A2, A2) false = A2) hO2) dL_rests_178 rfl rfl (by decide) (by decide) (Nat.le_of_ble_eq_true rfl) ⟨by omega, by omega⟩ ?_
      refine x_iload (pc := 181) C 1 rfl dL_rests_181 ?_
      refine x_icmp_ne (pc := 183) C 241 (allPR_r hO2) hsm dL_rests_183 (by decide) (fun h => absurd (hp1.trans esm.symm) h) (fun h183 => ?_)
      refine x_aload_n (pc := 186) C 5 rfl dL_rests_186 ?_
      refine x_iconst (pc := 187) C dL_rests_187 ?_
      refine x_bipush (pc := 188) C (by decide +kernel) dL_rests_188 ?_
      refine x_iconst (pc := 190) C dL_rests_190 ?_
      refine x_iconst (pc := 191) C dL_rests_191 ?_
      refine x_cs (pc := 192) (a := 20) (m := 1) (S' := (A2, A2)) (z := bmz (nA A2 3)) (as := [.ref (bs (gw γ false)), .int (iI 2), .int (iI 6), .int (iI 0), .int (iI 0)]) C (cy_L_call G.1) (wM_L_172 G.1) (t_ab6 G false (A := A2) (rfl : gat (A2, A2) false = A2) hO2) dL_rests_192 rfl rfl (by decide) (by decide) (Nat.le_of_ble_eq_true rfl) ⟨by omega, by omega⟩ ?_
      refine x_iload (pc := 195) C 0 rfl dL_rests_195 ?_
      refine x_icmp_ne (pc := 197) C 241 (bmz_r _) hov dL_rests_197 (by decide) (fun h => absurd (hp3.trans eov.symm) h) (fun h197 => ?_)
      refine x_aload_n (pc := 200) C 5 rfl dL_rests_200 ?_
      refine x_cv (pc := 201) (a := 21) (w := false) (as := []) C (cy_X5_restIn G.1) (wM_L_232 G.1) rfl (fun σ hC9 hO9 => k_X5_restIn (G.w false) hC9 hO9) (z := restL 301 (nA A2) 0) (fun _ _ _ q => ⟨q.2.1, q.2.2.1⟩) dL_rests_201 rfl rfl (by decide) (by decide) (Nat.le_of_ble_eq_true rfl) ⟨by omega, by omega⟩ ?_
      refine x_ti (x2 := 0) (restL_rest hr2 300 0) ?_
      refine x_if_ne (pc := 204) C 241 (by decide) dL_rests_204 (by decide) (fun h => absurd h (by decide)) (fun h204 => ?_)
      refine x_aload_n (pc := 207) C 5 rfl dL_rests_207 ?_
      refine x_bipush (pc := 208) C (by decide +kernel) dL_rests_208 ?_
      refine x_iconst (pc := 210) C dL_rests_210 ?_
      refine x_iconst (pc := 211) C dL_rests_211 ?_
      refine x_iconst (pc := 212) C dL_rests_212 ?_
      refine x_cs (pc := 213) (a := 21) (m := 1) (S' := (A2, A2)) (z := beatR (nA A2) 0) (as := [.ref (bs (gw γ false)), .int (iI 15), .int (iI 0), .int (iI 0), .int (iI 0)]) C (cy_L_call G.1) (wM_L_172 G.1) (t_beat G false (A := A2) (rfl : gat (A2, A2) false = A2) hO2 (v := 0) ⟨by decide, hv0⟩) dL_rests_213 rfl rfl (by decide) (by decide) (Nat.le_of_ble_eq_true rfl) ⟨by omega, by omega⟩ ?_
      refine x_ti (x2 := (-1)) hbt ?_
      refine x_iconst (pc := 216) C dL_rests_216 ?_
      refine x_icmp_ne (pc := 217) C 241 (by decide) (by decide) dL_rests_217 (by decide) (fun h => absurd h (by decide)) (fun h217 => ?_)
      refine x_aload_n (pc := 220) C 5 rfl dL_rests_220 ?_
      refine x_iconst (pc := 221) C dL_rests_221 ?_
      refine x_iconst (pc := 222) C dL_rests_222 ?_
      refine x_iconst (pc := 223) C dL_rests_223 ?_
      refine x_iconst (pc := 224) C dL_rests_224 ?_
      refine x_cs (pc := 225) (a := 22) (m := 1) (S' := (A2, A2)) (z := nA A2 2) (as := [.ref (bs (gw γ false)), .int (iI 2), .int (iI 2), .int (iI 0), .int (iI 0)]) C (cy_L_call G.1) (wM_L_172 G.1) (t_ab2 G false (A := A2) (rfl : gat (A2, A2) false = A2) hO2 ⟨by omega, by omega⟩) dL_rests_225 rfl rfl (by decide) (by decide) (Nat.le_of_ble_eq_true rfl) ⟨by omega, by omega⟩ ?_
      refine x_iload_n (pc := 228) C 3 rfl dL_rests_228 ?_
      refine x_iload_n (pc := 229) C 4 rfl dL_rests_229 ?_
      refine x_iadd (pc := 230) C dL_rests_230 ?_
      refine x_bipush (pc := 231) C (by decide +kernel) dL_rests_231 ?_
      refine x_iadd (pc := 233) C dL_rests_233 ?_
      refine x_icmp_ne (pc := 234) C 241 (by omega) (by omega) dL_rests_234 (by decide) (fun h => by exfalso; omega) (fun h234 => ?_)
      refine x_iconst (pc := 237) C dL_rests_237 ?_
      refine x_goto (pc := 238) C 242 dL_rests_238 (by decide) ?_
      refine x_istore (pc := 242) C [(4, .int (iI 1)), (6, .int (iI ov)), (5, .int (iI sm)), (3, .int (iI tm)), (2, .int (iI n9)), (0, .ref (bs (gw γ false))), (1, .ref (bs (gw γ true)))] dL_rests_242 (by decide) rfl ?_
      refine x_iload (pc := 244) C 0 rfl dL_rests_244 ?_
      refine x_if_eq (pc := 246) C 312 (by decide) dL_rests_246 (by decide) (fun h => absurd h (by decide)) (fun h246 => ?_)
      refine x_aload_n (pc := 249) C 5 rfl dL_rests_249 ?_
      refine x_bipush (pc := 250) C (by decide +kernel) dL_rests_250 ?_
      refine x_iconst (pc := 252) C dL_rests_252 ?_
      refine x_iconst (pc := 253) C dL_rests_253 ?_
      refine x_iconst (pc := 254) C dL_rests_254 ?_
      refine x_cs (pc := 255) (a := 23) (m := 1) (S' := (A3, A2)) (z := an_tryUndo A2) (as := [.ref (bs (gw γ false)), .int (iI 14), .int (iI 0), .int (iI 0), .int (iI 0)]) C (cy_L_call G.1) (wM_L_172 G.1) ((by have hc9 := dc_tryUndo G false (A := A2) (rfl : gat (A2, A2) false = A2) (x := 0) (y9 := 0) (z9 := 0) ; rw [hA3] at hc9; exact hc9)) dL_rests_255 rfl rfl (by decide) (by decide) (Nat.le_of_ble_eq_true rfl) ⟨by omega, by omega⟩ ?_
      refine x_cs (pc := 258) (a := 24) (m := 0) (S' := (A3, A2)) (z := 0) (as := [.int (iI (an_tryUndo A2))]) C (cy_L_thrown G.1) (wM_L_228 G.1) (k_thrown G (by omega)) dL_rests_258 rfl rfl (by decide) (by decide) (Nat.le_of_ble_eq_true rfl) ⟨by omega, by omega⟩ ?_
      refine x_if_ne (pc := 261) C 312 (by decide) dL_rests_261 (by decide) (fun h => absurd h (by decide)) (fun h261 => ?_)
      refine x_aload_n (pc := 264) C 6 rfl dL_rests_264 ?_
      refine x_bipush (pc := 265) C (by decide +kernel) dL_rests_265 ?_
      refine x_iconst (pc := 267) C dL_rests_267 ?_
      refine x_iconst (pc := 268) C dL_rests_268 ?_
      refine x_iconst (pc := 269) C dL_rests_269 ?_
      refine x_cs (pc := 270) (a := 24) (m := 1) (S' := (A3, A3)) (z := an_tryUndo A2) (as := [.ref (bs (gw γ true)), .int (iI 14), .int (iI 0), .int (iI 0), .int (iI 0)]) C (cy_L_call G.1) (wM_L_172 G.1) ((by have hc9 := dc_tryUndo G true (A := A2) (rfl : gat (A3, A2) true = A2) (x := 0) (y9 := 0) (z9 := 0) ; rw [hA3] at hc9; exact hc9)) dL_rests_270 rfl rfl (by decide) (by decide) (Nat.le_of_ble_eq_true rfl) ⟨by omega, by omega⟩ ?_
      refine x_cs (pc := 273) (a := 25) (m := 0) (S' := (A3, A3)) (z := 0) (as := [.int (iI (an_tryUndo A2))]) C (cy_L_thrown G.1) (wM_L_228 G.1) (k_thrown G (by omega)) dL_rests_273 rfl rfl (by decide) (by decide) (Nat.le_of_ble_eq_true rfl) ⟨by omega, by omega⟩ ?_
      refine x_if_ne (pc := 276) C 312 (by decide) dL_rests_276 (by decide) (fun h => absurd h (by decide)) (fun h276 => ?_)
      refine x_aload_n (pc := 279) C 5 rfl dL_rests_279 ?_
      refine x_aload_n (pc := 280) C 6 rfl dL_rests_280 ?_
      refine x_iload_n (pc := 281) C 4 rfl dL_rests_281 ?_
      refine x_cs (pc := 282) (a := 25) (m := 12) (S' := (A4, A4)) (z := 1) (as := [.ref (bs (gw γ false)), .ref (bs (gw γ true)), .int (iI n9)]) C (cy_L_undoes G.1) (wM_L_240 G.1) ((by rw [← hA4]; exact k_undoes G (A := A3) (n := n9) (by omega) hu3)) dL_rests_282 rfl rfl (by decide) (by decide) (Nat.le_of_ble_eq_true rfl) ⟨by omega, by omega⟩ ?_
      refine x_if_eq (pc := 285) C 312 (by decide) dL_rests_285 (by decide) (fun h => absurd h (by decide)) (fun h285 => ?_)
      refine x_aload_n (pc := 288) C 5 rfl dL_rests_288 ?_
      refine x_iconst (pc := 289) C dL_rests_289 ?_
      refine x_iconst (pc := 290) C dL_rests_290 ?_
      refine x_iconst (pc := 291) C dL_rests_291 ?_
      refine x_iconst (pc := 292) C dL_rests_292 ?_
      refine x_cs (pc := 293) (a := 37) (m := 1) (S' := (A4, A4)) (z := nA A4 2) (as := [.ref (bs (gw γ false)), .int (iI 2), .int (iI 2), .int (iI 0), .int (iI 0)]) C (cy_L_call G.1) (wM_L_172 G.1) (t_ab2 G false (A := A4) (rfl : gat (A4, A4) false = A4) hI.1 (by rw [hnE]; omega)) dL_rests_293 rfl rfl (by decide) (by decide) (Nat.le_of_ble_eq_true rfl) ⟨by omega, by omega⟩ ?_
      refine x_iload_n (pc := 296) C 3 rfl dL_rests_296 ?_
      refine x_icmp_ne (pc := 297) C 312 (by rw [hnE]; omega) (by omega) dL_rests_297 (by decide) (fun h => by exfalso; rw [hnE] at h; omega) (fun h297 => ?_)
      refine x_aload_n (pc := 300) C 5 rfl dL_rests_300 ?_
      refine x_cv (pc := 301) (a := 38) (w := false) (as := []) C (cy_X5_restIn G.1) (wM_L_232 G.1) rfl (fun σ hC9 hO9 => k_X5_restIn (G.w false) hC9 hO9) (z := restL 301 (nA A4) 0) (fun _ _ _ q => ⟨q.2.1, q.2.2.1⟩) dL_rests_301 rfl rfl (by decide) (by decide) (Nat.le_of_ble_eq_true rfl) ⟨by omega, by omega⟩ ?_
      refine x_iload_n (pc := 304) C 4 rfl dL_rests_304 ?_
      refine x_icmp_ne (pc := 305) C 312 (restL_r _) (by omega) dL_rests_305 (by decide) (fun h => absurd (by rw [hnE]; exact en9.symm) h) (fun h305 => ?_)
      refine x_iconst (pc := 308) C dL_rests_308 ?_
      refine x_goto (pc := 309) C 313 dL_rests_309 (by decide) ?_
      exact x_ret (pc := 313) C (by omega) hr rfl dL_rests_313 rfl (by unfold rsA; rw [if_neg (show ¬ (restL 301 (nA A) 0 = -1 ∨ 200 < restL 301 (nA A) 0) by omega), ← en9, hA1, hA2, hA3, hA4])
    · refine x_iload (pc := 74) C 0 rfl dL_rests_74 ?_
      exact x_ret (pc := 76) C (by omega) hr rfl dL_rests_76 rfl (by unfold rsA; rw [if_pos (show restL 301 (nA A) 0 = -1 ∨ 200 < restL 301 (nA A) 0 by omega)])

