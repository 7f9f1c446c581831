set_option maxHeartbeats 4000000 in
set_option maxRecDepth 100000 in
theorem k_X5_rule {γ : Gm} (G : Glo γ) {σ : St} {s a : Int} {t n d k i : Int → Int} {c y v : Int} (hC : CRep σ s a t n d k i) (hO : AOk s a t n d k i) (hc : R3 c) (hy : R3 y) (hv : R3 v)  : Cxx γ yX5_rule cX5_rule 6 (some .int) 6 [.ref (bs γ + 0), .int (iI c), .int (iI y), .int (iI v)] σ (pI (fun z σ2 => cQ σ (op_rule s a t n d k i c y v) z σ2)) (fun E σ2 => (E = eI ∧ cX σ (op_rule s a t n d k i c y v) 1 σ2) ∨ (E = eA ∧ cX σ (op_rule s a t n d k i c y v) 2 σ2)) := by
  refine Cxx.of G (by decide +kernel) (Nat.le_of_ble_eq_true rfl) (fun φ C hq hr => ?_)
  have C : Cx γ φ RX5 cX5_rule 6 6 := C
  obtain ⟨hO1, hO2, hO3, h, hO5, hO6⟩ := id hO
  have hN : NetB 4 := Or.inl rfl
  have hT : NetB 203 := Or.inr (Or.inl rfl)
  obtain ⟨α, hα⟩ : ∃ α, α = getN σ 4 := ⟨_, rfl⟩
  have hR : Rep α n := by rw [hα]; exact hC.2.2.1
  refine v_st (show σ = setN σ 4 α from by rw [hα]; exact (setN_eta σ 4).symm) ?_
  have hC0 : CRep (setN σ 4 α) s a t n d k i := hC.now hR
  have hF0 : ∀ c, 255 ≤ c → setN σ 4 α c = σ c := fun c hc => setN_out _ _ _ (by omega)
  have hn0 := h.1
  have hn1 := h.2.1
  have hn4 := h.2.2.1
  have hn5 := h.2.2.2.1
  obtain ⟨V, hV⟩ : ∃ V, V = ruleL n c y v 4 0 0 := ⟨_, rfl⟩
  refine v_lv [(0, .ref (bs γ + 0)), (1, .int (iI c)), (2, .int (iI y)), (3, .int (iI v))] [0, 1, 2, 3] rfl ?_
  refine v_aload_n (pc := 0) C 0 rfl dX5_rule_0 ?_
  refine v_getr (pc := 1) C inX5 goX5 (ci := 3) rfl 1 (by decide) (wF_X5_19 G) rfl sh_0 (4) rfl dX5_rule_1 ?_
  refine v_iload_n (pc := 4) C 1 rfl dX5_rule_4 ?_
  refine v_cv (pc := 5) (as := [.int (iI c)]) C (cy_X2_hasValve G) (wM_X5_110 G) sh_4 (ci := 1) rfl rfl (k_X2_hasValve G hN hR h (by first | omega | assumption)) dX5_rule_5 rfl rfl (by decide) (by decide) (Nat.le_of_ble_eq_true rfl) zc (k_I (fun z5 s5 q5 => ?_))
  rcases q5 with ⟨⟨rfl, q5⟩ | ⟨rfl, q5⟩, rfl⟩
  · refine v_if_eq (pc := 8) C 33 (by first | omega | assumption) dX5_rule_8 (by decide) (fun h => absurd h (by decide)) (fun _ => ?_)
    refine v_aload_n (pc := 11) C 0 rfl dX5_rule_11 ?_
    refine v_getr (pc := 12) C inX5 goX5 (ci := 3) rfl 1 (by decide) (wF_X5_19 G) rfl sh_0 (4) rfl dX5_rule_12 ?_
    refine v_iload_n (pc := 15) C 2 rfl dX5_rule_15 ?_
    refine v_cv (pc := 16) (as := [.int (iI y)]) C (cy_X2_hasValve G) (wM_X5_110 G) sh_4 (ci := 1) rfl rfl (k_X2_hasValve G hN hR h (by first | omega | assumption)) dX5_rule_16 rfl rfl (by decide) (by decide) (Nat.le_of_ble_eq_true rfl) zc (k_I (fun z16 s16 q16 => ?_))
    rcases q16 with ⟨⟨rfl, q16⟩ | ⟨rfl, q16⟩, rfl⟩
    · refine v_if_eq (pc := 19) C 33 (by first | omega | assumption) dX5_rule_19 (by decide) (fun h => absurd h (by decide)) (fun _ => ?_)
      refine v_aload_n (pc := 22) C 0 rfl dX5_rule_22 ?_
      refine v_getr (pc := 23) C inX5 goX5 (ci := 3) rfl 1 (by decide) (wF_X5_19 G) rfl sh_0 (4) rfl dX5_rule_23 ?_
      refine v_iload_n (pc := 26) C 3 rfl dX5_rule_26 ?_
      refine v_cv (pc := 27) (as := [.int (iI v)]) C (cy_X2_hasValve G) (wM_X5_110 G) sh_4 (ci := 1) rfl rfl (k_X2_hasValve G hN hR h (by first | omega | assumption)) dX5_rule_27 rfl rfl (by decide) (by decide) (Nat.le_of_ble_eq_true rfl) zc (k_I (fun z27 s27 q27 => ?_))
      rcases q27 with ⟨⟨rfl, q27⟩ | ⟨rfl, q27⟩, rfl⟩
      · refine v_if_ne (pc := 30) C 41 (by first | omega | assumption) dX5_rule_30 (by decide) (fun _ => ?_) (fun h => absurd h (by decide))
        refine v_iload_n (pc := 41) C 1 rfl dX5_rule_41 ?_
        refine v_iload_n (pc := 42) C 2 rfl dX5_rule_42 ?_
        refine v_icmp_eq (pc := 43) C 70 (by first | omega | assumption) (by first | omega | assumption) dX5_rule_43 (by decide) (fun h43 => ?_) (fun h43 => ?_)
        · exact v_tA (pc := 70) C hq dX5_rule_70 dX5_rule_73 dX5_rule_74 dX5_rule_77 (Nat.le_of_ble_eq_true rfl) (Or.inr (⟨rfl, cX_no (by unfold op_rule; rw [if_neg (by omega), if_pos (by omega)]) (hC0) (hF0)⟩))
        · refine v_aload_n (pc := 46) C 0 rfl dX5_rule_46 ?_
          refine v_getr (pc := 47) C inX5 goX5 (ci := 3) rfl 1 (by decide) (wF_X5_19 G) rfl sh_0 (4) rfl dX5_rule_47 ?_
          refine v_getrN (pc := 50) C hN 5 2 (by decide) (wF_X5_117 G) rfl dX5_rule_50 ?_
          refine v_iload_n (pc := 53) C 1 rfl dX5_rule_53 ?_
          refine v_ialdN (pc := 54) C hN 2 (by decide) (m := 10) rfl (by first | omega | assumption) dX5_rule_54 (fun z54 ez54 rz54 => ?_)
          have wz54 : z54 = n (6 + 7 * c + 0) := ez54.trans (hR.2.1 c (by omega) (by omega)).1
          refine v_if_ne (pc := 55) C 70 (by first | omega | assumption) dX5_rule_55 (by decide) (fun h55 => ?_) (fun h55 => ?_)
          · exact v_tA (pc := 70) C hq dX5_rule_70 dX5_rule_73 dX5_rule_74 dX5_rule_77 (Nat.le_of_ble_eq_true rfl) (Or.inr (⟨rfl, cX_no (by unfold op_rule; rw [if_neg (by omega), if_pos (by omega)]) (hC0) (hF0)⟩))
          · refine v_aload_n (pc := 58) C 0 rfl dX5_rule_58 ?_
            refine v_getr (pc := 59) C inX5 goX5 (ci := 3) rfl 1 (by decide) (wF_X5_19 G) rfl sh_0 (4) rfl dX5_rule_59 ?_
            refine v_getrN (pc := 62) C hN 5 2 (by decide) (wF_X5_117 G) rfl dX5_rule_62 ?_
            refine v_iload_n (pc := 65) C 2 rfl dX5_rule_65 ?_
            refine v_ialdN (pc := 66) C hN 2 (by decide) (m := 10) rfl (by first | omega | assumption) dX5_rule_66 (fun z66 ez66 rz66 => ?_)
            have wz66 : z66 = n (6 + 7 * y + 0) := ez66.trans (hR.2.1 y (by omega) (by omega)).1
            refine v_if_eq (pc := 67) C 78 (by first | omega | assumption) dX5_rule_67 (by decide) (fun h67 => ?_) (fun h67 => ?_)
            · refine v_iconst (pc := 78) C dX5_rule_78 ?_
              refine v_istore (pc := 79) C [(4, .int (iI 0)), (0, .ref (bs γ + 0)), (1, .int (iI c)), (2, .int (iI y)), (3, .int (iI v))] dX5_rule_79 (by decide) rfl ?_
              refine v_iconst (pc := 81) C dX5_rule_81 ?_
              refine v_istore (pc := 82) C [(5, .int (iI 0)), (4, .int (iI 0)), (0, .ref (bs γ + 0)), (1, .int (iI c)), (2, .int (iI y)), (3, .int (iI v))] dX5_rule_82 (by decide) rfl ?_
              have L84 : ∀ (fu : Nat) (fl : Nat) (q b : Int) (β1 : St), (hrr : V = ruleL n c y v fl q b) → (hq4 : 0 ≤ q ∧ q + fl = 4) → (hb : -2147483648 ≤ b ∧ b < 2147483648) → fl < fu → Vw γ φ 6 0 0 (QX γ φ (pI (fun z σ2 => cQ σ (op_rule s a t n d k i c y v) z σ2)) (fun E σ2 => (E = eI ∧ cX σ (op_rule s a t n d k i c y v) 1 σ2) ∨ (E = eA ∧ cX σ (op_rule s a t n d k i c y v) 2 σ2))) (setN (setN σ 4 α) 203 β1) 84 [(5, .int (iI q)), (4, .int (iI b)), (3, .int (iI v)), (2, .int (iI y)), (1, .int (iI c)), (0, .ref (bs γ + 0))] [] := by
                intro fu
                induction fu with
                | zero => intro fl q b β1 hrr hq4 hb hz; exact absurd hz (Nat.not_lt_zero _)
                | succ fu ih =>
                  intro fl q b β1 hrr hq4 hb hz
                  refine v_iload (pc := 84) C 0 rfl dX5_rule_84 ?_
                  refine v_iconst (pc := 86) C dX5_rule_86 ?_
                  refine v_icmp_ge (pc := 87) C 180 (by first | omega | assumption) (by first | omega | assumption) dX5_rule_87 (by decide) (fun h87 => ?_) (fun h87 => ?_)
                  · obtain rfl : fl = 0 := by omega
                    refine v_iload (pc := 180) C 1 rfl dX5_rule_180 ?_
                    exact v_iretX (pc := 182) C hr (rfl) dX5_rule_182 (⟨_, rfl, cQ_ok (z' := ruleL n c y v 4 0 0) (by unfold op_rule; rw [if_neg (by omega), if_neg (by omega)]) (by rw [← hV, hrr]; try rfl) (hC0.oth (Or.inl rfl)) (fun c hc => (setN_out _ _ _ (by omega)).trans (hF0 c hc))⟩)
                  · obtain ⟨fl2, rfl⟩ : ∃ g, fl = g + 1 := ⟨fl - 1, by omega⟩
                    unfold ruleL at hrr
                    have hW8 : Wf (upr n (6 + 7 * c + 2) (q % 2)) := Wf_press h (by omega) (by omega) (by omega)
                    have hW9 : Wf (upr (upr n (6 + 7 * c + 2) (q % 2)) (6 + 7 * y + 2) (q / 2)) := Wf_press hW8 (by rw [upr_ne _ _ (by omega)]; omega) (by rw [upr_ne _ _ (by omega)]; omega) (by omega)
                    obtain ⟨hW7, hW70, -⟩ := runR_Wf hW9 60
                    have hW7 : Wf (ruleRow n c y q) := hW7
                    have hw0 : ruleRow n c y q 0 = n 0 := by unfold ruleRow; rw [hW70, upr_ne _ _ (by omega), upr_ne _ _ (by omega)]
                    refine v_aload_n (pc := 90) C 5 rfl dX5_rule_90 ?_
                    refine v_getr (pc := 91) C inX5 goX5 (ci := 3) rfl 5 (by decide) (wF_X5_38 G) rfl sh_0 (203) rfl dX5_rule_91 ?_
                    refine v_aload_n (pc := 94) C 5 rfl dX5_rule_94 ?_
                    refine v_getr (pc := 95) C inX5 goX5 (ci := 3) rfl 1 (by decide) (wF_X5_19 G) rfl sh_0 (4) rfl dX5_rule_95 ?_
                    refine v_cv (pc := 98) (as := [.ref (bs γ + 4)]) C (cy_X2_copyFrom G) (wM_X5_237 G) sh_203 (ci := 1) rfl rfl (k_X2_copyFrom G hT hN (by omega)) dX5_rule_98 rfl rfl (by decide) (by decide) (Nat.le_of_ble_eq_true rfl) zc (k_V (fun s98 q98 => ?_))
                    obtain ⟨β9, c0, c1, rfl⟩ := q98
                    rw [setN_setN]
                    have hT9 : Rep β9 n := Rep_of_copy (n := 203) (m := 4) hR h (fun k hk => by rw [setN_out _ _ _ (by omega)]; exact setN_at _ _ _ hk) c0 c1
                    have hT8 := (hT9.sid (v := c) (z := q % 2) (by omega) hn0.2).sid (v := y) (z := q / 2) (by rw [upr_ne _ _ (by omega)]; omega) (by rw [upr_ne _ _ (by omega)]; omega)
                    refine v_aload_n (pc := 101) C 5 rfl dX5_rule_101 ?_
                    refine v_getr (pc := 102) C inX5 goX5 (ci := 3) rfl 5 (by decide) (wF_X5_38 G) rfl sh_0 (203) rfl dX5_rule_102 ?_
                    refine v_getrN (pc := 105) C hT 7 4 (by decide) (wF_X5_124 G) rfl dX5_rule_105 ?_
                    refine v_iload_n (pc := 108) C 4 rfl dX5_rule_108 ?_
                    refine v_iload (pc := 109) C 0 rfl dX5_rule_109 ?_
                    refine v_iconst (pc := 111) C dX5_rule_111 ?_
                    refine v_irem (pc := 112) C (by first | omega | assumption) (by first | omega | assumption) dX5_rule_112 ?_
                    refine v_iastN (pc := 113) C hT 4 (by decide) (m := 10) rfl (by first | omega | assumption) (by first | omega | assumption) dX5_rule_113 ?_
                    refine v_aload_n (pc := 114) C 5 rfl dX5_rule_114 ?_
                    refine v_getr (pc := 115) C inX5 goX5 (ci := 3) rfl 5 (by decide) (wF_X5_38 G) rfl sh_0 (203) rfl dX5_rule_115 ?_
                    refine v_getrN (pc := 118) C hT 7 4 (by decide) (wF_X5_124 G) rfl dX5_rule_118 ?_
                    refine v_iload_n (pc := 121) C 3 rfl dX5_rule_121 ?_
                    refine v_iload (pc := 122) C 0 rfl dX5_rule_122 ?_
                    refine v_iconst (pc := 124) C dX5_rule_124 ?_
                    refine v_idiv (pc := 125) C (by first | omega | assumption) (by first | omega | assumption) dX5_rule_125 ?_
                    refine v_iastN (pc := 126) C hT 4 (by decide) (m := 10) rfl (by first | omega | assumption) (by first | omega | assumption) dX5_rule_126 ?_
                    refine v_aload_n (pc := 127) C 5 rfl dX5_rule_127 ?_
                    refine v_getr (pc := 128) C inX5 goX5 (ci := 3) rfl 5 (by decide) (wF_X5_38 G) rfl sh_0 (203) rfl dX5_rule_128 ?_
                    refine v_bipush (pc := 131) C (by decide +kernel) dX5_rule_131 ?_
                    refine v_cs (pc := 133) (as := [.ref (bs γ + 203), .int (iI 60)]) C (cy_X0_tryTicks G) (wM_X5_240 G) (k_X0_tryTicks G hT hT8 hW9 (by decide)) dX5_rule_133 rfl rfl (by decide) (by decide) (Nat.le_of_ble_eq_true rfl) zc (k_I (fun z133 s133 q133 => ?_))
                    rcases q133 with ⟨rfl, q133, α9, hR9, rfl⟩ | ⟨rfl, q133, rfl⟩
                    · have hT7 : Rep α9 (ruleRow n c y q) := hR9
                      refine v_pop (pc := 136) C rfl dX5_rule_136 ?_
                      refine v_aload_n (pc := 137) C 5 rfl dX5_rule_137 ?_
                      refine v_getr (pc := 138) C inX5 goX5 (ci := 3) rfl 5 (by decide) (wF_X5_38 G) rfl sh_0 (203) rfl dX5_rule_138 ?_
                      refine v_getrN (pc := 141) C hT 8 5 (by decide) (wF_X5_138 G) rfl dX5_rule_141 ?_
                      refine v_iload_n (pc := 144) C 2 rfl dX5_rule_144 ?_
                      refine v_iconst (pc := 145) C dX5_rule_145 ?_
                      refine v_cs (pc := 146) (as := [.int (iI v), .int (iI 0)]) C (cy_X5_endOf G) (wM_X5_141 G) (k_X5_endOf G) dX5_rule_146 rfl rfl (by decide) (by decide) (Nat.le_of_ble_eq_true rfl) zc (k_I (fun z146 s146 q146 => ?_))
                      obtain ⟨ez146, rfl⟩ := q146
                      refine v_ialdN (pc := 149) C hT 5 (by decide) (m := 20) rfl (by first | omega | assumption) dX5_rule_149 (fun z149 ez149 rz149 => ?_)
                      have wz149 : z149 = ruleRow n c y q (6 + 7 * v + 3) := by rw [ez149, ez146]; exact hT7.l0 (by omega)
                      refine v_if_le (pc := 150) C 162 (by first | omega | assumption) dX5_rule_150 (by decide) (fun h150 => ?_) (fun h150 => ?_)
                      · rw [if_neg (c := 0 < ruleRow n c y q (6 + 7 * v + 3)) (by omega), iOr_z hb] at hrr
                        refine v_aload_n (pc := 162) C 5 rfl dX5_rule_162 ?_
                        refine v_getr (pc := 163) C inX5 goX5 (ci := 3) rfl 5 (by decide) (wF_X5_38 G) rfl sh_0 (203) rfl dX5_rule_163 ?_
                        refine v_cv (pc := 166) (as := []) C (cy_X2_passTick G) (wM_X5_253 G) sh_203 (ci := 1) rfl rfl (k_X2_passTick G hT hT7 hW7) dX5_rule_166 rfl rfl (by decide) (by decide) (Nat.le_of_ble_eq_true rfl) zc (k_I (fun z166 s166 q166 => ?_))
                        rcases q166 with ⟨⟨rfl, hq9⟩ | ⟨rfl, hq9⟩, α8, hR8, rfl⟩
                        · rw [if_neg hq9] at hrr
                          refine v_if_eq (pc := 169) C 174 (by first | omega | assumption) dX5_rule_169 (by decide) (fun h => absurd h (by decide)) (fun _ => ?_)
                          refine v_iconst (pc := 172) C dX5_rule_172 ?_
                          exact v_iretX (pc := 173) C hr (rfl) dX5_rule_173 (⟨_, rfl, cQ_ok (z' := ruleL n c y v 4 0 0) (by unfold op_rule; rw [if_neg (by omega), if_neg (by omega)]) (by rw [← hV, hrr]; try rfl) (hC0.oth (Or.inl rfl)) (fun c hc => (setN_out _ _ _ (by omega)).trans (hF0 c hc))⟩)
                        · rw [if_pos hq9] at hrr
                          refine v_if_eq (pc := 169) C 174 (by first | omega | assumption) dX5_rule_169 (by decide) (fun _ => ?_) (fun h => absurd h (by decide))
                          refine v_iinc (pc := 174) C 0 [(5, .int (iI (q + 1))), (4, .int (iI b)), (3, .int (iI v)), (2, .int (iI y)), (1, .int (iI c)), (0, .ref (bs γ + 0))] dX5_rule_174 rfl (by decide) rfl ?_
                          refine v_goto (pc := 177) C 84 dX5_rule_177 (by decide) ?_
                          exact v_lv _ [0, 1, 2, 3, 4, 5] rfl (ih fl2 (q + 1) _ _ hrr (by omega) (by first | exact iOr_r _ _ | omega) (by omega))
                      · rw [if_pos (c := 0 < ruleRow n c y q (6 + 7 * v + 3)) (by omega)] at hrr
                        refine v_iload (pc := 153) C 1 rfl dX5_rule_153 ?_
                        refine v_iconst (pc := 155) C dX5_rule_155 ?_
                        refine v_iload (pc := 156) C 0 rfl dX5_rule_156 ?_
                        refine v_ishl (pc := 158) C dX5_rule_158 ?_
                        refine v_ior (pc := 159) C dX5_rule_159 ?_
                        refine v_istore (pc := 160) C [(4, .int (iI (iOr b (iShl 1 q)))), (5, .int (iI q)), (3, .int (iI v)), (2, .int (iI y)), (1, .int (iI c)), (0, .ref (bs γ + 0))] dX5_rule_160 (by decide) rfl ?_
                        refine v_aload_n (pc := 162) C 5 rfl dX5_rule_162 ?_
                        refine v_getr (pc := 163) C inX5 goX5 (ci := 3) rfl 5 (by decide) (wF_X5_38 G) rfl sh_0 (203) rfl dX5_rule_163 ?_
                        refine v_cv (pc := 166) (as := []) C (cy_X2_passTick G) (wM_X5_253 G) sh_203 (ci := 1) rfl rfl (k_X2_passTick G hT hT7 hW7) dX5_rule_166 rfl rfl (by decide) (by decide) (Nat.le_of_ble_eq_true rfl) zc (k_I (fun z166_1 s166_1 q166_1 => ?_))
                        rcases q166_1 with ⟨⟨rfl, hq9⟩ | ⟨rfl, hq9⟩, α8, hR8, rfl⟩
                        · rw [if_neg hq9] at hrr
                          refine v_if_eq (pc := 169) C 174 (by first | omega | assumption) dX5_rule_169 (by decide) (fun h => absurd h (by decide)) (fun _ => ?_)
                          refine v_iconst (pc := 172) C dX5_rule_172 ?_
                          exact v_iretX (pc := 173) C hr (rfl) dX5_rule_173 (⟨_, rfl, cQ_ok (z' := ruleL n c y v 4 0 0) (by unfold op_rule; rw [if_neg (by omega), if_neg (by omega)]) (by rw [← hV, hrr]; try rfl) (hC0.oth (Or.inl rfl)) (fun c hc => (setN_out _ _ _ (by omega)).trans (hF0 c hc))⟩)
                        · rw [if_pos hq9] at hrr
                          refine v_if_eq (pc := 169) C 174 (by first | omega | assumption) dX5_rule_169 (by decide) (fun _ => ?_) (fun h => absurd h (by decide))
                          refine v_iinc (pc := 174) C 1 [(5, .int (iI (q + 1))), (4, .int (iI (iOr b (iShl 1 q)))), (3, .int (iI v)), (2, .int (iI y)), (1, .int (iI c)), (0, .ref (bs γ + 0))] dX5_rule_174 rfl (by decide) rfl ?_
                          refine v_goto (pc := 177) C 84 dX5_rule_177 (by decide) ?_
                          exact v_lv _ [0, 1, 2, 3, 4, 5] rfl (ih fl2 (q + 1) _ _ hrr (by omega) (by first | exact iOr_r _ _ | omega) (by omega))
                    · exact absurd (by decide) q133
              refine v_st (show _ = setN (setN σ 4 α) 203 (getN (setN σ 4 α) 203) from (setN_eta _ 203).symm) ?_
              exact v_lv _ [0, 1, 5, 4, 3, 2] rfl (L84 5 4 0 0 (getN (setN σ 4 α) 203) hV (by omega) (by omega) (by omega))
            · exact v_tA (pc := 70) C hq dX5_rule_70 dX5_rule_73 dX5_rule_74 dX5_rule_77 (Nat.le_of_ble_eq_true rfl) (Or.inr (⟨rfl, cX_no (by unfold op_rule; rw [if_neg (by omega), if_pos (by omega)]) (hC0) (hF0)⟩))
      · refine v_if_ne (pc := 30) C 41 (by first | omega | assumption) dX5_rule_30 (by decide) (fun h => absurd h (by decide)) (fun _ => ?_)
        exact v_tI (pc := 33) C hq dX5_rule_33 dX5_rule_36 dX5_rule_37 dX5_rule_40 (Nat.le_of_ble_eq_true rfl) (Or.inl (⟨rfl, cX_no (by unfold op_rule; rw [if_pos (by omega)]) (hC0) (hF0)⟩))
    · refine v_if_eq (pc := 19) C 33 (by first | omega | assumption) dX5_rule_19 (by decide) (fun _ => ?_) (fun h => absurd h (by decide))
      exact v_tI (pc := 33) C hq dX5_rule_33 dX5_rule_36 dX5_rule_37 dX5_rule_40 (Nat.le_of_ble_eq_true rfl) (Or.inl (⟨rfl, cX_no (by unfold op_rule; rw [if_pos (by omega)]) (hC0) (hF0)⟩))
  · refine v_if_eq (pc := 8) C 33 (by first | omega | assumption) dX5_rule_8 (by decide) (fun _ => ?_) (fun h => absurd h (by decide))
    exact v_tI (pc := 33) C hq dX5_rule_33 dX5_rule_36 dX5_rule_37 dX5_rule_40 (Nat.le_of_ble_eq_true rfl) (Or.inl (⟨rfl, cX_no (by unfold op_rule; rw [if_pos (by omega)]) (hC0) (hF0)⟩))

set_option maxHeartbeats 4000000 in
set_option maxRecDepth 100000 in
theorem k_X5_simulate {γ : Gm} (G : Glo γ) {σ : St} {s a : Int} {t n d k i : Int → Int} {b m : Int} (hC : CRep σ s a t n d k i) (hO : AOk s a t n d k i) (hm : R3 m)  : Cxx γ yX5_simulate cX5_simulate 7 (some .int) 7 [.ref (bs γ + 0), .long (lI b), .int (iI m)] σ (pI (fun z σ2 => cQ σ (op_simulate s a t n d k i b m) z σ2)) (fun E σ2 => (E = eA ∧ cX σ (op_simulate s a t n d k i b m) 1 σ2)) := by
  refine Cxx.of G (by decide +kernel) (Nat.le_of_ble_eq_true rfl) (fun φ C hq hr => ?_)
  have C : Cx γ φ RX5 cX5_simulate 7 7 := C
  obtain ⟨hO1, hO2, hO3, h, hO5, hO6⟩ := id hO
  have hN : NetB 4 := Or.inl rfl
  have hT : NetB 203 := Or.inr (Or.inl rfl)
  obtain ⟨α, hα⟩ : ∃ α, α = getN σ 4 := ⟨_, rfl⟩
  have hR : Rep α n := by rw [hα]; exact hC.2.2.1
  refine v_st (show σ = setN σ 4 α from by rw [hα]; exact (setN_eta σ 4).symm) ?_
  have hC0 : CRep (setN σ 4 α) s a t n d k i := hC.now hR
  have hF0 : ∀ c, 255 ≤ c → setN σ 4 α c = σ c := fun c hc => setN_out _ _ _ (by omega)
  have hn0 := h.1
  have hn1 := h.2.1
  have hn4 := h.2.2.1
  have hn5 := h.2.2.2.1
  refine v_lv [(0, .ref (bs γ + 0)), (1, .long (lI b)), (3, .int (iI m))] [0, 1, 2] rfl ?_
  refine v_iload_n (pc := 0) C 2 rfl dX5_simulate_0 ?_
  refine v_iconst (pc := 1) C dX5_simulate_1 ?_
  refine v_bipush (pc := 2) C (by decide +kernel) dX5_simulate_2 ?_
  refine v_cs (pc := 4) (as := [.int (iI m), .int (iI 1), .int (iI 60)]) C (cy_X5_isIn G) (wM_X5_44 G) (k_X5_isIn G (by first | omega | assumption) (by first | omega | assumption) (by first | omega | assumption)) dX5_simulate_4 rfl rfl (by decide) (by decide) (Nat.le_of_ble_eq_true rfl) zc (k_I (fun z4 s4 q4 => ?_))
  rcases q4 with ⟨⟨rfl, q4⟩ | ⟨rfl, q4⟩, rfl⟩
  · refine v_if_ne (pc := 7) C 18 (by first | omega | assumption) dX5_simulate_7 (by decide) (fun _ => ?_) (fun h => absurd h (by decide))
    refine v_aload_n (pc := 18) C 0 rfl dX5_simulate_18 ?_
    refine v_getr (pc := 19) C inX5 goX5 (ci := 3) rfl 5 (by decide) (wF_X5_38 G) rfl sh_0 (203) rfl dX5_simulate_19 ?_
    refine v_aload_n (pc := 22) C 0 rfl dX5_simulate_22 ?_
    refine v_getr (pc := 23) C inX5 goX5 (ci := 3) rfl 1 (by decide) (wF_X5_19 G) rfl sh_0 (4) rfl dX5_simulate_23 ?_
    refine v_cv (pc := 26) (as := [.ref (bs γ + 4)]) C (cy_X2_copyFrom G) (wM_X5_237 G) sh_203 (ci := 1) rfl rfl (k_X2_copyFrom G hT hN (by omega)) dX5_simulate_26 rfl rfl (by decide) (by decide) (Nat.le_of_ble_eq_true rfl) zc (k_V (fun s26 q26 => ?_))
    obtain ⟨β9, c0, c1, rfl⟩ := q26
    have hT9 : Rep β9 n := Rep_of_copy (n := 203) (m := 4) hR h (fun k hk => setN_at _ _ _ hk) c0 c1
    refine v_lload_n (pc := 29) C 1 rfl dX5_simulate_29 ?_
    refine v_lstore (pc := 30) C [(4, .long (lI b)), (0, .ref (bs γ + 0)), (1, .long (lI b)), (3, .int (iI m))] dX5_simulate_30 (by decide) rfl ?_
    refine v_iconst (pc := 32) C dX5_simulate_32 ?_
    refine v_istore (pc := 33) C [(6, .int (iI 0)), (4, .long (lI b)), (0, .ref (bs γ + 0)), (1, .long (lI b)), (3, .int (iI m))] dX5_simulate_33 (by decide) rfl ?_
    have L35 : ∀ (fu : Nat) (j : Nat) (β1 : St), (hj : j ≤ m.toNat) → (hT1 : Rep β1 (simR n b j)) → m.toNat - j < fu → Vw γ φ 7 0 0 (QX γ φ (pI (fun z σ2 => cQ σ (op_simulate s a t n d k i b m) z σ2)) (fun E σ2 => (E = eA ∧ cX σ (op_simulate s a t n d k i b m) 1 σ2))) (setN (setN σ 4 α) 203 β1) 35 [(6, .int (iI (j : Int))), (4, .long (lI (simX b j))), (3, .int (iI m)), (1, .long (lI b)), (0, .ref (bs γ + 0))] [] := by
      intro fu
      induction fu with
      | zero => intro j β1 hj hT1 hz; exact absurd hz (Nat.not_lt_zero _)
      | succ fu ih =>
        intro j β1 hj hT1 hz
        have hsw := simR_Wf h b j
        refine v_iload (pc := 35) C 0 rfl dX5_simulate_35 ?_
        refine v_iload_n (pc := 37) C 2 rfl dX5_simulate_37 ?_
        refine v_icmp_ge (pc := 38) C 72 (by first | omega | assumption) (by first | omega | assumption) dX5_simulate_38 (by decide) (fun h38 => ?_) (fun h38 => ?_)
        · obtain rfl : j = m.toNat := by omega
          have hl3 := hsw.1
          have hl1 := livelyR_b (simR n b m.toNat) (simR n b m.toNat 0).toNat
          have hl2 := allPR_b hsw (simR n b m.toNat 0).toNat (by omega)
          refine v_sipush (pc := 72) C (by decide +kernel) dX5_simulate_72 ?_
          refine v_aload_n (pc := 75) C 4 rfl dX5_simulate_75 ?_
          refine v_getr (pc := 76) C inX5 goX5 (ci := 3) rfl 5 (by decide) (wF_X5_38 G) rfl sh_0 (203) rfl dX5_simulate_76 ?_
          refine v_cv (pc := 79) (as := []) C (cy_X2_legsUnderPressure G) (wM_X5_98 G) sh_203 (ci := 1) rfl rfl (k_X2_legsUnderPressure G hT hT1 hsw) dX5_simulate_79 rfl rfl (by decide) (by decide) (Nat.le_of_ble_eq_true rfl) zc (k_I (fun z79 s79 q79 => ?_))
          obtain ⟨ez79, rfl⟩ := q79
          refine v_imul (pc := 82) C dX5_simulate_82 ?_
          refine v_aload_n (pc := 83) C 4 rfl dX5_simulate_83 ?_
          refine v_getr (pc := 84) C inX5 goX5 (ci := 3) rfl 5 (by decide) (wF_X5_38 G) rfl sh_0 (203) rfl dX5_simulate_84 ?_
          refine v_cv (pc := 87) (as := []) C (cy_X2_pressureOfAllLegs G) (wM_X5_101 G) sh_203 (ci := 1) rfl rfl (k_X2_pressureOfAllLegs G hT hT1 hsw) dX5_simulate_87 rfl rfl (by decide) (by decide) (Nat.le_of_ble_eq_true rfl) zc (k_I (fun z87 s87 q87 => ?_))
          obtain ⟨ez87, rfl⟩ := q87
          refine v_sipush (pc := 90) C (by decide +kernel) dX5_simulate_90 ?_
          refine v_irem (pc := 93) C (by first | omega | assumption) (by first | omega | assumption) dX5_simulate_93 ?_
          refine v_iadd (pc := 94) C dX5_simulate_94 ?_
          exact v_iretX (pc := 95) C hr (rfl) dX5_simulate_95 (⟨_, rfl, cQ_ok (z' := simA (simR n b m.toNat)) (by unfold op_simulate; rw [if_neg (by omega)]) (by unfold simA; rw [ez79, ez87]) (hC0.oth (Or.inl rfl)) (fun c hc => (setN_out _ _ _ (by omega)).trans (hF0 c hc))⟩)
        · refine v_lload (pc := 41) C 1 rfl dX5_simulate_41 ?_
          refine v_ldc2 (pc := 43) C (wCL_X5_278 G) dX5_simulate_43 ?_
          refine v_lmul (pc := 46) C dX5_simulate_46 ?_
          refine v_ldc2 (pc := 47) C (wCL_X5_280 G) dX5_simulate_47 ?_
          refine v_ladd (pc := 50) C dX5_simulate_50 ?_
          refine v_lstore (pc := 51) C [(4, .long (lI (((simX b j) * 6364136223846793005) + 1442695040888963407))), (6, .int (iI (j : Int))), (3, .int (iI m)), (1, .long (lI b)), (0, .ref (bs γ + 0))] dX5_simulate_51 (by decide) rfl ?_
          refine v_aload_n (pc := 53) C 4 rfl dX5_simulate_53 ?_
          refine v_getr (pc := 54) C inX5 goX5 (ci := 3) rfl 5 (by decide) (wF_X5_38 G) rfl sh_0 (203) rfl dX5_simulate_54 ?_
          refine v_lload (pc := 57) C 0 rfl dX5_simulate_57 ?_
          refine v_bipush (pc := 59) C (by decide +kernel) dX5_simulate_59 ?_
          refine v_lushr (pc := 61) C dX5_simulate_61 ?_
          refine v_l2i (pc := 62) C dX5_simulate_62 ?_
          refine v_cs (pc := 63) (as := [.ref (bs γ + 203), .int (iI (lUsh (((simX b j) * 6364136223846793005) + 1442695040888963407) 33))]) C (cy_X3_doTurn G) (wM_X5_282 G) (k_X3_doTurn G hT hT1 hsw (lUsh33 _)) dX5_simulate_63 rfl rfl (by decide) (by decide) (Nat.le_of_ble_eq_true rfl) zc (k_V (fun s63 q63 => ?_))
          obtain ⟨α9, hR9, rfl⟩ := q63
          refine v_iinc (pc := 66) C 1 [(6, .int (iI ((j : Int) + 1))), (4, .long (lI (((simX b j) * 6364136223846793005) + 1442695040888963407))), (3, .int (iI m)), (1, .long (lI b)), (0, .ref (bs γ + 0))] dX5_simulate_66 rfl (by decide) rfl ?_
          refine v_goto (pc := 69) C 35 dX5_simulate_69 (by decide) ?_
          exact v_lv _ [0, 1, 2, 3, 4] rfl (ih (j + 1) _ (by omega) hR9 (by omega))
    exact v_lv _ [0, 1, 4, 3, 2] rfl (L35 (m.toNat + 1) 0 β9 (by omega) hT9 (by omega))
  · refine v_if_ne (pc := 7) C 18 (by first | omega | assumption) dX5_simulate_7 (by decide) (fun h => absurd h (by decide)) (fun _ => ?_)
    exact v_tA (pc := 10) C hq dX5_simulate_10 dX5_simulate_13 dX5_simulate_14 dX5_simulate_17 (Nat.le_of_ble_eq_true rfl) (⟨rfl, cX_no (by unfold op_simulate; rw [if_pos (by omega)]) (hC0) (hF0)⟩)

theorem grp_0 {b : Int} {k : Nat} (hb : 0 ≤ b) : (¬ b / 1000000 ^ k = 0) ↔ ¬ b ≤ 1000000 ^ k - 1 := by
  have hp : (0 : Int) < 1000000 ^ k := Int.pow_pos (by decide)
  refine not_congr ⟨fun e => ?_, fun e => Int.ediv_eq_zero_of_lt hb (by omega)⟩
  have h1 := Int.emod_add_mul_ediv b (1000000 ^ k)
  have h2 := Int.emod_lt_of_pos b hp
  rw [e, Int.mul_zero] at h1
  omega

set_option maxHeartbeats 4000000 in
set_option maxRecDepth 100000 in
theorem k_X5_runScript {γ : Gm} (G : Glo γ) {σ : St} {s a : Int} {t n d k i : Int → Int} {m b : Int} (hC : CRep σ s a t n d k i) (hO : AOk s a t n d k i) (hm : R3 m) (hb : R6 b) : Cxx γ yX5_runScript cX5_runScript 6 (some .int) 7 [.ref (bs γ + 0), .int (iI m), .long (lI b)] σ (pI (fun z σ2 => cQ σ (op_runScript s a t n d k i m b) z σ2)) (fun E σ2 => (E = eA ∧ cX σ (op_runScript s a t n d k i m b) 1 σ2)) := by
  refine Cxx.of G (by decide +kernel) (Nat.le_of_ble_eq_true rfl) (fun φ C hq hr => ?_)
  have C : Cx γ φ RX5 cX5_runScript 6 7 := C
  obtain ⟨hO1, hO2, hO3, h, hO5, hO6⟩ := id hO
  have hN : NetB 4 := Or.inl rfl
  have hT : NetB 203 := Or.inr (Or.inl rfl)
  obtain ⟨α, hα⟩ : ∃ α, α = getN σ 4 := ⟨_, rfl⟩
  have hR : Rep α n := by rw [hα]; exact hC.2.2.1
  refine v_st (show σ = setN σ 4 α from by rw [hα]; exact (setN_eta σ 4).symm) ?_
  have hC0 : CRep (setN σ 4 α) s a t n d k i := hC.now hR
  have hF0 : ∀ c, 255 ≤ c → setN σ 4 α c = σ c := fun c hc => setN_out _ _ _ (by omega)
  have hn0 := h.1
  have hn1 := h.2.1
  have hn4 := h.2.2.1
  have hn5 := h.2.2.2.1
  obtain ⟨V, hV⟩ : ∃ V, V = scrL b m m.toNat n 0 := ⟨_, rfl⟩
  have hP : NetB 216 := Or.inr (Or.inr (Or.inl rfl))
  refine v_lv [(0, .ref (bs γ + 0)), (1, .int (iI m)), (2, .long (lI b))] [0, 1, 2] rfl ?_
  refine v_iload_n (pc := 0) C 1 rfl dX5_runScript_0 ?_
  refine v_iconst (pc := 1) C dX5_runScript_1 ?_
  refine v_iconst (pc := 2) C dX5_runScript_2 ?_
  refine v_cs (pc := 3) (as := [.int (iI m), .int (iI 1), .int (iI 3)]) C (cy_X5_isIn G) (wM_X5_44 G) (k_X5_isIn G (by first | omega | assumption) (by first | omega | assumption) (by first | omega | assumption)) dX5_runScript_3 rfl rfl (by decide) (by decide) (Nat.le_of_ble_eq_true rfl) zc (k_I (fun z3 s3 q3 => ?_))
  rcases q3 with ⟨⟨rfl, q3⟩ | ⟨rfl, q3⟩, rfl⟩
  · refine v_if_eq (pc := 6) C 25 (by first | omega | assumption) dX5_runScript_6 (by decide) (fun h => absurd h (by decide)) (fun _ => ?_)
    refine v_lload_n (pc := 9) C 2 rfl dX5_runScript_9 ?_
    refine v_lconst (pc := 10) C (z := 0) rfl dX5_runScript_10 ?_
    refine v_lcmp (pc := 11) C (by first | omega | assumption) (by first | omega | assumption) dX5_runScript_11 ?_
    refine v_if_lt (pc := 12) C 25 (lc_r _ _) dX5_runScript_12 (by decide) (fun h12 => ?_) (fun h12 => ?_)
    · have h12 : b < 0 := lc_lt.mp h12
      try have hg0 := grp_0 (b := b) (k := m.toNat) (by omega)
      exact v_tA (pc := 25) C hq dX5_runScript_25 dX5_runScript_28 dX5_runScript_29 dX5_runScript_32 (Nat.le_of_ble_eq_true rfl) (⟨rfl, cX_no (by unfold op_runScript; rw [if_pos (by omega)]) (hC0) (hF0)⟩)
    · have h12 : ¬ b < 0 := fun e => h12 (lc_lt.mpr e)
      refine v_lload_n (pc := 15) C 2 rfl dX5_runScript_15 ?_
      refine v_iload_n (pc := 16) C 1 rfl dX5_runScript_16 ?_
      refine v_cs (pc := 17) (as := [.long (lI b), .int (iI m)]) C (cy_X5_withoutGroups G) (wM_X5_266 G) (k_X5_withoutGroups G (by omega) (by omega)) dX5_runScript_17 rfl rfl (by decide) (by decide) (Nat.le_of_ble_eq_true rfl) zc (k_L (fun z17 s17 q17 => ?_))
      obtain ⟨⟨ez17, rz17⟩, rfl⟩ := q17
      refine v_lconst (pc := 20) C (z := 0) rfl dX5_runScript_20 ?_
      refine v_lcmp (pc := 21) C (by first | omega | assumption) (by first | omega | assumption) dX5_runScript_21 ?_
      refine v_if_eq (pc := 22) C 33 (lc_r _ _) dX5_runScript_22 (by decide) (fun h22 => ?_) (fun h22 => ?_)
      · have h22 : z17 = 0 := lc_eq.mp h22
        have hg0 := grp_0 (b := b) (k := m.toNat) (by omega)
        refine v_aload_n (pc := 33) C 0 rfl dX5_runScript_33 ?_
        refine v_getr (pc := 34) C inX5 goX5 (ci := 3) rfl 5 (by decide) (wF_X5_38 G) rfl sh_0 (203) rfl dX5_runScript_34 ?_
        refine v_aload_n (pc := 37) C 0 rfl dX5_runScript_37 ?_
        refine v_getr (pc := 38) C inX5 goX5 (ci := 3) rfl 1 (by decide) (wF_X5_19 G) rfl sh_0 (4) rfl dX5_runScript_38 ?_
        refine v_cv (pc := 41) (as := [.ref (bs γ + 4)]) C (cy_X2_copyFrom G) (wM_X5_237 G) sh_203 (ci := 1) rfl rfl (k_X2_copyFrom G hT hN (by omega)) dX5_runScript_41 rfl rfl (by decide) (by decide) (Nat.le_of_ble_eq_true rfl) zc (k_V (fun s41 q41 => ?_))
        obtain ⟨β9, c0, c1, rfl⟩ := q41
        have hT9 : Rep β9 n := Rep_of_copy (n := 203) (m := 4) hR h (fun k hk => setN_at _ _ _ hk) c0 c1
        refine v_iconst (pc := 44) C dX5_runScript_44 ?_
        refine v_istore (pc := 45) C [(4, .int (iI 0)), (0, .ref (bs γ + 0)), (1, .int (iI m)), (2, .long (lI b))] dX5_runScript_45 (by decide) rfl ?_
        have L47 : ∀ (fu : Nat) (fl : Nat) (q : Int) (r : Int → Int) (β1 π1 : St), (hrr : V = scrL b m fl r q) → (hq9 : 0 ≤ q ∧ q + fl = m) → (hX : Wf r) → (hT1 : Rep β1 r) → fl < fu → Vw γ φ 6 0 0 (QX γ φ (pI (fun z σ2 => cQ σ (op_runScript s a t n d k i m b) z σ2)) (fun E σ2 => (E = eA ∧ cX σ (op_runScript s a t n d k i m b) 1 σ2))) (setN (setN (setN σ 4 α) 203 β1) 216 π1) 47 [(4, .int (iI q)), (2, .long (lI b)), (1, .int (iI m)), (0, .ref (bs γ + 0))] [] := by
          intro fu
          induction fu with
          | zero => intro fl q r β1 π1 hrr hq9 hX hT1 hz; exact absurd hz (Nat.not_lt_zero _)
          | succ fu ih =>
            intro fl q r β1 π1 hrr hq9 hX hT1 hz
            refine v_iload (pc := 47) C 0 rfl dX5_runScript_47 ?_
            refine v_iload_n (pc := 49) C 2 rfl dX5_runScript_49 ?_
            refine v_icmp_ge (pc := 50) C 95 (by first | omega | assumption) (by first | omega | assumption) dX5_runScript_50 (by decide) (fun h50 => ?_) (fun h50 => ?_)
            · obtain rfl : fl = 0 := by omega
              refine v_iconst (pc := 95) C dX5_runScript_95 ?_
              exact v_iretX (pc := 96) C hr (rfl) dX5_runScript_96 (⟨_, rfl, cQ_ok (z' := scrL b m m.toNat n 0) (by unfold op_runScript; rw [if_neg (by omega)]) (by rw [← hV, hrr]; try rfl) ((hC0.oth (Or.inl rfl)).oth (Or.inr rfl)) (fun c hc => ((setN_out _ _ _ (by omega)).trans (setN_out _ _ _ (by omega))).trans (hF0 c hc))⟩)
            · obtain ⟨fl2, hfl⟩ : ∃ g, fl = g + 1 := ⟨fl - 1, by omega⟩
              rw [hfl] at hrr
              unfold scrL at hrr
              refine v_lload_n (pc := 53) C 1 rfl dX5_runScript_53 ?_
              refine v_iload_n (pc := 54) C 2 rfl dX5_runScript_54 ?_
              refine v_iconst (pc := 55) C dX5_runScript_55 ?_
              refine v_isub (pc := 56) C dX5_runScript_56 ?_
              refine v_iload (pc := 57) C 0 rfl dX5_runScript_57 ?_
              refine v_isub (pc := 59) C dX5_runScript_59 ?_
              refine v_cs (pc := 60) (as := [.long (lI b), .int (iI ((m - 1) - q))]) C (cy_X5_withoutGroups G) (wM_X5_266 G) (k_X5_withoutGroups G (by omega) (by omega)) dX5_runScript_60 rfl rfl (by decide) (by decide) (Nat.le_of_ble_eq_true rfl) zc (k_L (fun z60 s60 q60 => ?_))
              obtain ⟨⟨ez60, rz60⟩, rfl⟩ := q60
              refine v_ldc2 (pc := 63) C (wCL_X5_270 G) dX5_runScript_63 ?_
              refine v_lrem (pc := 66) C (by first | omega | assumption) (by first | omega | assumption) dX5_runScript_66 ?_
              refine v_l2i (pc := 67) C dX5_runScript_67 ?_
              refine v_nm (fun gp egp => ?_)
              refine v_istore (pc := 68) C [(5, .int (iI gp)), (4, .int (iI q)), (2, .long (lI b)), (1, .int (iI m)), (0, .ref (bs γ + 0))] dX5_runScript_68 (by decide) rfl ?_
              have hG2 : gp = grpZ b m q := by rw [egp, ez60]; unfold grpZ; rfl
              have hGr : 0 ≤ gp ∧ gp < 1000000 := by rw [egp]; omega
              rw [← hG2] at hrr
              refine v_aload_n (pc := 70) C 4 rfl dX5_runScript_70 ?_
              refine v_getr (pc := 71) C inX5 goX5 (ci := 3) rfl 5 (by decide) (wF_X5_38 G) rfl sh_0 (203) rfl dX5_runScript_71 ?_
              refine v_aload_n (pc := 74) C 4 rfl dX5_runScript_74 ?_
              refine v_getr (pc := 75) C inX5 goX5 (ci := 3) rfl 6 (by decide) (wF_X5_41 G) rfl sh_0 (216) rfl dX5_runScript_75 ?_
              refine v_iload (pc := 78) C 0 rfl dX5_runScript_78 ?_
              refine v_st (setN_comm _ _ _ (by omega)) ?_
              refine v_cs (pc := 80) (as := [.ref (bs γ + 203), .ref (bs γ + 216), .int (iI gp)]) C (cy_X3_succeeds G) (wM_X5_272 G) (k_X3_succeeds G hT hP (by omega) hT1 hX (by omega)) dX5_runScript_80 rfl rfl (by decide) (by decide) (Nat.le_of_ble_eq_true rfl) zc (k_I (fun z80 s80 q80 => ?_))
              rcases q80 with ⟨⟨rfl, q80⟩ | ⟨rfl, q80⟩, α9, β9, hR9, rfl⟩
              · refine v_st (show _ = setN (setN (setN σ 4 α) 203 α9) 216 β9 from by rw [setN_comm (setN σ 4 α) _ _ (by omega), setN_setN]) ?_
                rw [if_pos q80] at hrr
                refine v_if_ne (pc := 83) C 89 (by first | omega | assumption) dX5_runScript_83 (by decide) (fun _ => ?_) (fun h => absurd h (by decide))
                refine v_iinc (pc := 89) C 1 [(4, .int (iI (q + 1))), (5, .int (iI gp)), (2, .long (lI b)), (1, .int (iI m)), (0, .ref (bs γ + 0))] dX5_runScript_89 rfl (by decide) rfl ?_
                refine v_goto (pc := 92) C 47 dX5_runScript_92 (by decide) ?_
                have hsw := cmdS_Wf (g := gp / 100000) hX (q := gp % 100000) (by omega)
                refine v_st (rfl) ?_
                exact v_lv _ [0, 2, 3, 4] rfl (ih fl2 (q + 1) _ _ _ hrr (by omega) hsw hR9 (by omega))
              · refine v_st (show _ = setN (setN (setN σ 4 α) 203 α9) 216 β9 from by rw [setN_comm (setN σ 4 α) _ _ (by omega), setN_setN]) ?_
                rw [if_neg (by omega)] at hrr
                refine v_if_ne (pc := 83) C 89 (by first | omega | assumption) dX5_runScript_83 (by decide) (fun h => absurd h (by decide)) (fun _ => ?_)
                refine v_iload (pc := 86) C 1 rfl dX5_runScript_86 ?_
                exact v_iretX (pc := 88) C hr (rfl) dX5_runScript_88 (⟨_, rfl, cQ_ok (z' := scrL b m m.toNat n 0) (by unfold op_runScript; rw [if_neg (by omega)]) (by rw [← hV, hrr]; try rfl) ((hC0.oth (Or.inl rfl)).oth (Or.inr rfl)) (fun c hc => ((setN_out _ _ _ (by omega)).trans (setN_out _ _ _ (by omega))).trans (hF0 c hc))⟩)
        refine v_st (show _ = setN (setN (setN σ 4 α) 203 β9) 216 (getN (setN (setN σ 4 α) 203 β9) 216) from (setN_eta _ 216).symm) ?_
        exact v_lv _ [0, 3, 2, 1] rfl (L47 (m.toNat + 1) m.toNat 0 n β9 _ hV (by omega) h hT9 (by omega))
      · have h22 : ¬ z17 = 0 := fun e => h22 (lc_eq.mpr e)
        try have hg0 := grp_0 (b := b) (k := m.toNat) (by omega)
        exact v_tA (pc := 25) C hq dX5_runScript_25 dX5_runScript_28 dX5_runScript_29 dX5_runScript_32 (Nat.le_of_ble_eq_true rfl) (⟨rfl, cX_no (by unfold op_runScript; rw [if_pos (by omega)]) (hC0) (hF0)⟩)
  · refine v_if_eq (pc := 6) C 25 (by first | omega | assumption) dX5_runScript_6 (by decide) (fun _ => ?_) (fun h => absurd h (by decide))
    try have hg0 := grp_0 (b := b) (k := m.toNat) (by omega)
    exact v_tA (pc := 25) C hq dX5_runScript_25 dX5_runScript_28 dX5_runScript_29 dX5_runScript_32 (Nat.le_of_ble_eq_true rfl) (⟨rfl, cX_no (by unfold op_runScript; rw [if_pos (by omega)]) (hC0) (hF0)⟩)
