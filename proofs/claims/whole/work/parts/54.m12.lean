set_option maxHeartbeats 4000000 in
set_option maxRecDepth 100000 in
theorem k_X6_rule {γ : Gm} (G : Glo γ) {σ : St} {w s a p u : Int} {t n x f d k i : Int → Int} {c y v : Int} (hc : R3 c) (hy : R3 y) (hv : R3 v) (hW : Wf n) : Ct γ yX6_rule cX6_rule 7 (some .int) 8 [.ref (bs γ + 255), .int (iI c), .int (iI y), .int (iI v)] (mS σ w s a p u t n x f d k i) (pI (fun z σ2 => mQ σ (op_rule s a t n d k i c y v) z σ2)) := by
  refine Ct.of G (by decide +kernel) (Nat.le_of_ble_eq_true rfl) (fun φ C hr => ?_)
  have C : Cx γ φ RX6 cX6_rule 7 8 := C
  have hn0 := hW.1
  have hn1 := hW.2.1
  have hn4 := hW.2.2.1
  have hn5 := hW.2.2.2.1
  obtain ⟨V, hV⟩ : ∃ V, V = ruleL n c y v 4 0 0 := ⟨_, rfl⟩
  refine v_lv [(0, .ref (bs γ + 255)), (1, .int (iI c)), (2, .int (iI y)), (3, .int (iI v))] [0, 1, 2, 3] rfl ?_
  refine v_aload_n (pc := 0) C 0 rfl dX6_rule_0 ?_
  refine v_getr (pc := 1) C inX6 goX6 (ci := 4) rfl 3 (by decide) (wF_X6_13 G) rfl sh_255 (257) rfl dX6_rule_1 ?_
  refine v_iload_n (pc := 4) C 1 rfl dX6_rule_4 ?_
  refine v_st (mS_i257 _ _ _ _ _ _ _ _ _ _ _ _ _ ) ?_
  refine v_cs (pc := 5) (as := [.ref (bs γ + 257), .int (iI c)]) C (cy_X6_isValve G) (wM_X6_44 G) (k_X6_isValve G (⟨sh_257, by decide⟩ : sh 257 = (0, 268) ∧ 268 ≤ 4000) (by first | omega | assumption) (by first | omega | assumption)) dX6_rule_5 rfl rfl (by decide) (by decide) (Nat.le_of_ble_eq_true rfl) zc (k_I (fun z5 s5 q5 => ?_))
  rcases q5 with ⟨⟨rfl, q5⟩ | ⟨rfl, q5⟩, rfl⟩
  · rw [mS_o257]
    refine v_if_eq (pc := 8) C 37 (by first | omega | assumption) dX6_rule_8 (by decide) (fun h => absurd h (by decide)) (fun _ => ?_)
    refine v_aload_n (pc := 11) C 0 rfl dX6_rule_11 ?_
    refine v_getr (pc := 12) C inX6 goX6 (ci := 4) rfl 3 (by decide) (wF_X6_13 G) rfl sh_255 (257) rfl dX6_rule_12 ?_
    refine v_iload_n (pc := 15) C 2 rfl dX6_rule_15 ?_
    refine v_st (mS_i257 _ _ _ _ _ _ _ _ _ _ _ _ _ ) ?_
    refine v_cs (pc := 16) (as := [.ref (bs γ + 257), .int (iI y)]) C (cy_X6_isValve G) (wM_X6_44 G) (k_X6_isValve G (⟨sh_257, by decide⟩ : sh 257 = (0, 268) ∧ 268 ≤ 4000) (by first | omega | assumption) (by first | omega | assumption)) dX6_rule_16 rfl rfl (by decide) (by decide) (Nat.le_of_ble_eq_true rfl) zc (k_I (fun z16 s16 q16 => ?_))
    rcases q16 with ⟨⟨rfl, q16⟩ | ⟨rfl, q16⟩, rfl⟩
    · rw [mS_o257]
      refine v_if_eq (pc := 19) C 37 (by first | omega | assumption) dX6_rule_19 (by decide) (fun h => absurd h (by decide)) (fun _ => ?_)
      refine v_aload_n (pc := 22) C 0 rfl dX6_rule_22 ?_
      refine v_getr (pc := 23) C inX6 goX6 (ci := 4) rfl 3 (by decide) (wF_X6_13 G) rfl sh_255 (257) rfl dX6_rule_23 ?_
      refine v_iload_n (pc := 26) C 3 rfl dX6_rule_26 ?_
      refine v_st (mS_i257 _ _ _ _ _ _ _ _ _ _ _ _ _ ) ?_
      refine v_cs (pc := 27) (as := [.ref (bs γ + 257), .int (iI v)]) C (cy_X6_isValve G) (wM_X6_44 G) (k_X6_isValve G (⟨sh_257, by decide⟩ : sh 257 = (0, 268) ∧ 268 ≤ 4000) (by first | omega | assumption) (by first | omega | assumption)) dX6_rule_27 rfl rfl (by decide) (by decide) (Nat.le_of_ble_eq_true rfl) zc (k_I (fun z27 s27 q27 => ?_))
      rcases q27 with ⟨⟨rfl, q27⟩ | ⟨rfl, q27⟩, rfl⟩
      · rw [mS_o257]
        refine v_if_eq (pc := 30) C 37 (by first | omega | assumption) dX6_rule_30 (by decide) (fun h => absurd h (by decide)) (fun _ => ?_)
        refine v_iconst (pc := 33) C dX6_rule_33 ?_
        refine v_goto (pc := 34) C 38 dX6_rule_34 (by decide) ?_
        refine v_istore (pc := 38) C [(4, .int (iI 1)), (0, .ref (bs γ + 255)), (1, .int (iI c)), (2, .int (iI y)), (3, .int (iI v))] dX6_rule_38 (by decide) rfl ?_
        refine v_aload_n (pc := 40) C 1 rfl dX6_rule_40 ?_
        refine v_iload (pc := 41) C 0 rfl dX6_rule_41 ?_
        refine v_if_ne (pc := 43) C 50 (by first | omega | assumption) dX6_rule_43 (by decide) (fun _ => ?_) (fun h => absurd h (by decide))
        refine v_iload_n (pc := 50) C 2 rfl dX6_rule_50 ?_
        refine v_iload_n (pc := 51) C 3 rfl dX6_rule_51 ?_
        refine v_icmp_eq (pc := 52) C 77 (by first | omega | assumption) (by first | omega | assumption) dX6_rule_52 (by decide) (fun h52 => ?_) (fun h52 => ?_)
        · refine v_iconst (pc := 77) C dX6_rule_77 ?_
          refine v_goto (pc := 78) C 82 dX6_rule_78 (by decide) ?_
          refine v_cv (pc := 82) (as := [.int (iI 2)]) C (cy_X6_refused G) (wM_X6_124 G) sh_255 (ci := 4) rfl rfl (refY G (by decide)) dX6_rule_82 rfl rfl (by decide) (by decide) (Nat.le_of_ble_eq_true rfl) zc (k_I (fun z82 s82 q82 => ?_))
          obtain ⟨rfl, rfl⟩ := q82
          refine v_if_eq (pc := 85) C 90 (by first | omega | assumption) dX6_rule_85 (by decide) (fun h => absurd h (by decide)) (fun _ => ?_)
          refine v_iconst (pc := 88) C dX6_rule_88 ?_
          exact v_iret (pc := 89) C hr (rfl) dX6_rule_89 (⟨_, rfl, mQ_no (by unfold op_rule; rw [if_neg (by omega), if_pos (by omega)]) (by decide)⟩)
        · refine v_aload_n (pc := 55) C 1 rfl dX6_rule_55 ?_
          refine v_getr (pc := 56) C inX6 goX6 (ci := 4) rfl 3 (by decide) (wF_X6_13 G) rfl sh_255 (257) rfl dX6_rule_56 ?_
          refine v_iload_n (pc := 59) C 2 rfl dX6_rule_59 ?_
          refine v_st (mS_i257 _ _ _ _ _ _ _ _ _ _ _ _ _ ) ?_
          refine v_cs (pc := 60) (as := [.ref (bs γ + 257), .int (iI c)]) C (cy_X6_isKey G) (wM_X6_160 G) (k_X6_isKey G (⟨sh_257, by decide⟩ : sh 257 = (0, 268) ∧ 268 ≤ 4000) (by first | omega | assumption) (by first | omega | assumption)) dX6_rule_60 rfl rfl (by decide) (by decide) (Nat.le_of_ble_eq_true rfl) zc (k_I (fun z60 s60 q60 => ?_))
          rcases q60 with ⟨⟨rfl, q60⟩ | ⟨rfl, q60⟩, rfl⟩
          · rw [mS_o257]
            refine v_if_eq (pc := 63) C 77 (by first | omega | assumption) dX6_rule_63 (by decide) (fun h => absurd h (by decide)) (fun _ => ?_)
            refine v_aload_n (pc := 66) C 1 rfl dX6_rule_66 ?_
            refine v_getr (pc := 67) C inX6 goX6 (ci := 4) rfl 3 (by decide) (wF_X6_13 G) rfl sh_255 (257) rfl dX6_rule_67 ?_
            refine v_iload_n (pc := 70) C 3 rfl dX6_rule_70 ?_
            refine v_st (mS_i257 _ _ _ _ _ _ _ _ _ _ _ _ _ ) ?_
            refine v_cs (pc := 71) (as := [.ref (bs γ + 257), .int (iI y)]) C (cy_X6_isKey G) (wM_X6_160 G) (k_X6_isKey G (⟨sh_257, by decide⟩ : sh 257 = (0, 268) ∧ 268 ≤ 4000) (by first | omega | assumption) (by first | omega | assumption)) dX6_rule_71 rfl rfl (by decide) (by decide) (Nat.le_of_ble_eq_true rfl) zc (k_I (fun z71 s71 q71 => ?_))
            rcases q71 with ⟨⟨rfl, q71⟩ | ⟨rfl, q71⟩, rfl⟩
            · rw [mS_o257]
              refine v_if_ne (pc := 74) C 81 (by first | omega | assumption) dX6_rule_74 (by decide) (fun _ => ?_) (fun h => absurd h (by decide))
              refine v_iconst (pc := 81) C dX6_rule_81 ?_
              refine v_cv (pc := 82) (as := [.int (iI 0)]) C (cy_X6_refused G) (wM_X6_124 G) sh_255 (ci := 4) rfl rfl (refN G) dX6_rule_82 rfl rfl (by decide) (by decide) (Nat.le_of_ble_eq_true rfl) zc (k_I (fun z82_1 s82_1 q82_1 => ?_))
              obtain ⟨rfl, rfl⟩ := q82_1
              refine v_if_eq (pc := 85) C 90 (by first | omega | assumption) dX6_rule_85 (by decide) (fun _ => ?_) (fun h => absurd h (by decide))
              refine v_iconst (pc := 90) C dX6_rule_90 ?_
              refine v_istore (pc := 91) C [(5, .int (iI 0)), (4, .int (iI 1)), (0, .ref (bs γ + 255)), (1, .int (iI c)), (2, .int (iI y)), (3, .int (iI v))] dX6_rule_91 (by decide) rfl ?_
              refine v_iconst (pc := 93) C dX6_rule_93 ?_
              refine v_istore (pc := 94) C [(6, .int (iI 0)), (5, .int (iI 0)), (4, .int (iI 1)), (0, .ref (bs γ + 255)), (1, .int (iI c)), (2, .int (iI y)), (3, .int (iI v))] dX6_rule_94 (by decide) rfl ?_
              have L96 : ∀ (fu : Nat) (fl : Nat) (q b : Int) (r g : Int → Int), (hrr : V = ruleL n c y v fl q b) → (hq : 0 ≤ q ∧ q + fl = 4) → fl < fu → Vw γ φ 7 0 0 (QE γ φ (pI (fun z σ2 => mQ σ (op_rule s a t n d k i c y v) z σ2))) (mS σ 0 s a p u t n r g d k i) 96 [(6, .int (iI q)), (5, .int (iI b)), (3, .int (iI v)), (2, .int (iI y)), (1, .int (iI c)), (0, .ref (bs γ + 255))] [] := by
                intro fu
                induction fu with
                | zero => intro fl q b r g hrr hq hz; exact absurd hz (Nat.not_lt_zero _)
                | succ fu ih =>
                  intro fl q b r g hrr hq hz
                  refine v_iload (pc := 96) C 0 rfl dX6_rule_96 ?_
                  refine v_iconst (pc := 98) C dX6_rule_98 ?_
                  refine v_icmp_ge (pc := 99) C 212 (by first | omega | assumption) (by first | omega | assumption) dX6_rule_99 (by decide) (fun h99 => ?_) (fun h99 => ?_)
                  · obtain rfl : fl = 0 := by omega
                    refine v_iload (pc := 212) C 1 rfl dX6_rule_212 ?_
                    exact v_iret (pc := 214) C hr (rfl) dX6_rule_214 (⟨_, rfl, mQ_ok (z' := ruleL n c y v 4 0 0) (by unfold op_rule; rw [if_neg (by omega), if_neg (by omega)]) (by rw [← hV, hrr]; try rfl)⟩)
                  · obtain ⟨fl2, rfl⟩ : ∃ g, fl = g + 1 := ⟨fl - 1, by omega⟩
                    unfold ruleL at hrr
                    have hW8 : Wf (upr n (6 + 7 * c + 2) (q % 2)) := Wf_press hW (by omega) (by omega) (by omega)
                    have hW9 : Wf (upr (upr n (6 + 7 * c + 2) (q % 2)) (6 + 7 * y + 2) (q / 2)) := Wf_press hW8 (by rw [upr_ne _ _ (by omega)]; omega) (by rw [upr_ne _ _ (by omega)]; omega) (by omega)
                    have hW7 : Wf (ruleRow n c y q) := (runR_Wf hW9 60).1
                    refine v_aload_n (pc := 102) C 5 rfl dX6_rule_102 ?_
                    refine v_getr (pc := 103) C inX6 goX6 (ci := 4) rfl 3 (by decide) (wF_X6_13 G) rfl sh_255 (257) rfl dX6_rule_103 ?_
                    refine v_iconst (pc := 106) C dX6_rule_106 ?_
                    refine v_aload_n (pc := 107) C 5 rfl dX6_rule_107 ?_
                    refine v_getr (pc := 108) C inX6 goX6 (ci := 4) rfl 4 (by decide) (wF_X6_16 G) rfl sh_255 (258) rfl dX6_rule_108 ?_
                    refine v_iconst (pc := 111) C dX6_rule_111 ?_
                    refine v_ok (fun hz => ?_)
                    refine v_cs (pc := 112) (as := [.ref (bs γ + 257), .int (iI 0), .ref (bs γ + 258), .int (iI 0)]) C (cy_X6_copyState G) (wM_X6_93 G) (copyR G ⟨sh_257, by decide⟩ ⟨sh_258, by decide⟩ (by decide) (by omega) hz) dX6_rule_112 rfl rfl (by decide) (by decide) (Nat.le_of_ble_eq_true rfl) zc (k_V (fun s112 q112 => ?_))
                    subst q112
                    rw [blk0 hz sh_257, mS_o258, mS_n]
                    refine v_aload_n (pc := 115) C 5 rfl dX6_rule_115 ?_
                    refine v_getr (pc := 116) C inX6 goX6 (ci := 4) rfl 4 (by decide) (wF_X6_16 G) rfl sh_255 (258) rfl dX6_rule_116 ?_
                    refine v_iload_n (pc := 119) C 4 rfl dX6_rule_119 ?_
                    refine v_iload (pc := 120) C 0 rfl dX6_rule_120 ?_
                    refine v_iconst (pc := 122) C dX6_rule_122 ?_
                    refine v_irem (pc := 123) C (by first | omega | assumption) (by first | omega | assumption) dX6_rule_123 ?_
                    refine v_iconst (pc := 124) C dX6_rule_124 ?_
                    refine v_icmp_ne (pc := 125) C 132 (by first | omega | assumption) (by first | omega | assumption) dX6_rule_125 (by decide) (fun h125 => ?_) (fun h125 => ?_)
                    · refine v_iconst (pc := 132) C dX6_rule_132 ?_
                      refine v_st (mS_i258 _ _ _ _ _ _ _ _ _ _ _ _ _ ) ?_
                      refine v_cs (pc := 133) (as := [.ref (bs γ + 258), .int (iI c), .int (iI 0)]) C (cy_X6_pressOn G) (wM_X6_163 G) (k_X6_pressOn G (⟨sh_258, by decide⟩ : sh 258 = (0, 268) ∧ 268 ≤ 4000) (by omega) (by first | omega | assumption)) dX6_rule_133 rfl rfl (by decide) (by decide) (Nat.le_of_ble_eq_true rfl) zc (k_I (fun z133 s133 q133 => ?_))
                      obtain ⟨ez133, rfl⟩ := q133
                      rw [mS_o258]
                      refine v_st (show _ = mS σ 0 s a p u t n (upr n (6 + 7 * c + 2) (q % 2)) g d k i from by first | rw [show q % 2 = 1 by omega] | rw [show q % 2 = 0 by omega]) ?_
                      refine v_pop (pc := 136) C rfl dX6_rule_136 ?_
                      refine v_aload_n (pc := 137) C 5 rfl dX6_rule_137 ?_
                      refine v_getr (pc := 138) C inX6 goX6 (ci := 4) rfl 4 (by decide) (wF_X6_16 G) rfl sh_255 (258) rfl dX6_rule_138 ?_
                      refine v_iload_n (pc := 141) C 3 rfl dX6_rule_141 ?_
                      refine v_iload (pc := 142) C 0 rfl dX6_rule_142 ?_
                      refine v_iconst (pc := 144) C dX6_rule_144 ?_
                      refine v_idiv (pc := 145) C (by first | omega | assumption) (by first | omega | assumption) dX6_rule_145 ?_
                      refine v_iconst (pc := 146) C dX6_rule_146 ?_
                      refine v_icmp_ne (pc := 147) C 154 (by first | omega | assumption) (by first | omega | assumption) dX6_rule_147 (by decide) (fun h147 => ?_) (fun h147 => ?_)
                      · refine v_iconst (pc := 154) C dX6_rule_154 ?_
                        refine v_st (mS_i258 _ _ _ _ _ _ _ _ _ _ _ _ _ ) ?_
                        refine v_cs (pc := 155) (as := [.ref (bs γ + 258), .int (iI y), .int (iI 0)]) C (cy_X6_pressOn G) (wM_X6_163 G) (k_X6_pressOn G (⟨sh_258, by decide⟩ : sh 258 = (0, 268) ∧ 268 ≤ 4000) (by omega) (by first | omega | assumption)) dX6_rule_155 rfl rfl (by decide) (by decide) (Nat.le_of_ble_eq_true rfl) zc (k_I (fun z155 s155 q155 => ?_))
                        obtain ⟨ez155, rfl⟩ := q155
                        rw [mS_o258]
                        refine v_st (show _ = mS σ 0 s a p u t n (upr (upr n (6 + 7 * c + 2) (q % 2)) (6 + 7 * y + 2) (q / 2)) g d k i from by first | rw [show q / 2 = 1 by omega] | rw [show q / 2 = 0 by omega]) ?_
                        refine v_pop (pc := 158) C rfl dX6_rule_158 ?_
                        refine v_aload_n (pc := 159) C 5 rfl dX6_rule_159 ?_
                        refine v_getr (pc := 160) C inX6 goX6 (ci := 4) rfl 4 (by decide) (wF_X6_16 G) rfl sh_255 (258) rfl dX6_rule_160 ?_
                        refine v_bipush (pc := 163) C (by decide +kernel) dX6_rule_163 ?_
                        refine v_st (mS_i258 _ _ _ _ _ _ _ _ _ _ _ _ _ ) ?_
                        refine v_cs (pc := 165) (as := [.ref (bs γ + 258), .int (iI 60)]) C (cy_X6_run G) (wM_X6_97 G) (k_X6_run G (⟨sh_258, by decide⟩ : sh 258 = (0, 268) ∧ 268 ≤ 4000) hW9 (by decide)) dX6_rule_165 rfl rfl (by decide) (by decide) (Nat.le_of_ble_eq_true rfl) zc (k_V (fun s165 q165 => ?_))
                        subst q165
                        rw [mS_o258]
                        refine v_st (show _ = mS σ 0 s a p u t n (ruleRow n c y q) g d k i from rfl) ?_
                        refine v_aload_n (pc := 168) C 5 rfl dX6_rule_168 ?_
                        refine v_aload_n (pc := 169) C 5 rfl dX6_rule_169 ?_
                        refine v_getr (pc := 170) C inX6 goX6 (ci := 4) rfl 4 (by decide) (wF_X6_16 G) rfl sh_255 (258) rfl dX6_rule_170 ?_
                        refine v_cv (pc := 173) (as := [.ref (bs γ + 258)]) C (cy_X6_rests G) (wM_X6_209 G) sh_255 (ci := 4) rfl rfl (k_X6_rests G hW7) dX6_rule_173 rfl rfl (by decide) (by decide) (Nat.le_of_ble_eq_true rfl) zc (k_I (fun z173 s173 q173 => ?_))
                        rcases q173 with ⟨⟨rfl, q173⟩ | ⟨rfl, q173⟩, rfl⟩
                        · rw [if_pos q173] at hrr
                          refine v_if_ne (pc := 176) C 181 (by first | omega | assumption) dX6_rule_176 (by decide) (fun _ => ?_) (fun h => absurd h (by decide))
                          refine v_iload (pc := 181) C 1 rfl dX6_rule_181 ?_
                          refine v_aload_n (pc := 183) C 5 rfl dX6_rule_183 ?_
                          refine v_getr (pc := 184) C inX6 goX6 (ci := 4) rfl 4 (by decide) (wF_X6_16 G) rfl sh_255 (258) rfl dX6_rule_184 ?_
                          refine v_iload_n (pc := 187) C 2 rfl dX6_rule_187 ?_
                          refine v_iconst (pc := 188) C dX6_rule_188 ?_
                          refine v_st (mS_i258 _ _ _ _ _ _ _ _ _ _ _ _ _ ) ?_
                          refine v_cs (pc := 189) (as := [.ref (bs γ + 258), .int (iI v), .int (iI 3)]) C (cy_X6_of G) (wM_X6_48 G) (k_X6_of G (⟨sh_258, by decide⟩ : sh 258 = (0, 268) ∧ 268 ≤ 4000) (by omega)) dX6_rule_189 rfl rfl (by decide) (by decide) (Nat.le_of_ble_eq_true rfl) zc (k_I (fun z189 s189 q189 => ?_))
                          obtain ⟨⟨ez189, rz189⟩, rfl⟩ := q189
                          rw [mS_o258]
                          refine v_if_le (pc := 192) C 202 (by first | omega | assumption) dX6_rule_192 (by decide) (fun h192 => ?_) (fun h192 => ?_)
                          · rw [if_neg (by omega)] at hrr
                            refine v_iconst (pc := 202) C dX6_rule_202 ?_
                            refine v_ior (pc := 203) C dX6_rule_203 ?_
                            refine v_istore (pc := 204) C [(5, .int (iI (iOr b 0))), (6, .int (iI q)), (3, .int (iI v)), (2, .int (iI y)), (1, .int (iI c)), (0, .ref (bs γ + 255))] dX6_rule_204 (by decide) rfl ?_
                            refine v_iinc (pc := 206) C 1 [(6, .int (iI (q + 1))), (5, .int (iI (iOr b 0))), (3, .int (iI v)), (2, .int (iI y)), (1, .int (iI c)), (0, .ref (bs γ + 255))] dX6_rule_206 rfl (by decide) rfl ?_
                            refine v_goto (pc := 209) C 96 dX6_rule_209 (by decide) ?_
                            exact v_lv _ [0, 1, 2, 3, 4, 5] rfl (ih fl2 (q + 1) _ _ _ hrr (by omega) (by omega))
                          · rw [if_pos (by omega)] at hrr
                            refine v_iconst (pc := 195) C dX6_rule_195 ?_
                            refine v_iload (pc := 196) C 0 rfl dX6_rule_196 ?_
                            refine v_ishl (pc := 198) C dX6_rule_198 ?_
                            refine v_goto (pc := 199) C 203 dX6_rule_199 (by decide) ?_
                            refine v_ior (pc := 203) C dX6_rule_203 ?_
                            refine v_istore (pc := 204) C [(5, .int (iI (iOr b (iShl 1 q)))), (6, .int (iI q)), (3, .int (iI v)), (2, .int (iI y)), (1, .int (iI c)), (0, .ref (bs γ + 255))] dX6_rule_204 (by decide) rfl ?_
                            refine v_iinc (pc := 206) C 1 [(6, .int (iI (q + 1))), (5, .int (iI (iOr b (iShl 1 q)))), (3, .int (iI v)), (2, .int (iI y)), (1, .int (iI c)), (0, .ref (bs γ + 255))] dX6_rule_206 rfl (by decide) rfl ?_
                            refine v_goto (pc := 209) C 96 dX6_rule_209 (by decide) ?_
                            exact v_lv _ [0, 1, 2, 3, 4, 5] rfl (ih fl2 (q + 1) _ _ _ hrr (by omega) (by omega))
                        · rw [if_neg q173] at hrr
                          refine v_if_ne (pc := 176) C 181 (by first | omega | assumption) dX6_rule_176 (by decide) (fun h => absurd h (by decide)) (fun _ => ?_)
                          refine v_iconst (pc := 179) C dX6_rule_179 ?_
                          exact v_iret (pc := 180) C hr (rfl) dX6_rule_180 (⟨_, rfl, mQ_ok (z' := ruleL n c y v 4 0 0) (by unfold op_rule; rw [if_neg (by omega), if_neg (by omega)]) (by rw [← hV, hrr]; try rfl)⟩)
                      · refine v_iconst (pc := 150) C dX6_rule_150 ?_
                        refine v_goto (pc := 151) C 155 dX6_rule_151 (by decide) ?_
                        refine v_st (mS_i258 _ _ _ _ _ _ _ _ _ _ _ _ _ ) ?_
                        refine v_cs (pc := 155) (as := [.ref (bs γ + 258), .int (iI y), .int (iI 1)]) C (cy_X6_pressOn G) (wM_X6_163 G) (k_X6_pressOn G (⟨sh_258, by decide⟩ : sh 258 = (0, 268) ∧ 268 ≤ 4000) (by omega) (by first | omega | assumption)) dX6_rule_155 rfl rfl (by decide) (by decide) (Nat.le_of_ble_eq_true rfl) zc (k_I (fun z155_1 s155_1 q155_1 => ?_))
                        obtain ⟨ez155_1, rfl⟩ := q155_1
                        rw [mS_o258]
                        refine v_st (show _ = mS σ 0 s a p u t n (upr (upr n (6 + 7 * c + 2) (q % 2)) (6 + 7 * y + 2) (q / 2)) g d k i from by first | rw [show q / 2 = 1 by omega] | rw [show q / 2 = 0 by omega]) ?_
                        refine v_pop (pc := 158) C rfl dX6_rule_158 ?_
                        refine v_aload_n (pc := 159) C 5 rfl dX6_rule_159 ?_
                        refine v_getr (pc := 160) C inX6 goX6 (ci := 4) rfl 4 (by decide) (wF_X6_16 G) rfl sh_255 (258) rfl dX6_rule_160 ?_
                        refine v_bipush (pc := 163) C (by decide +kernel) dX6_rule_163 ?_
                        refine v_st (mS_i258 _ _ _ _ _ _ _ _ _ _ _ _ _ ) ?_
                        refine v_cs (pc := 165) (as := [.ref (bs γ + 258), .int (iI 60)]) C (cy_X6_run G) (wM_X6_97 G) (k_X6_run G (⟨sh_258, by decide⟩ : sh 258 = (0, 268) ∧ 268 ≤ 4000) hW9 (by decide)) dX6_rule_165 rfl rfl (by decide) (by decide) (Nat.le_of_ble_eq_true rfl) zc (k_V (fun s165_1 q165_1 => ?_))
                        subst q165_1
                        rw [mS_o258]
                        refine v_st (show _ = mS σ 0 s a p u t n (ruleRow n c y q) g d k i from rfl) ?_
                        refine v_aload_n (pc := 168) C 5 rfl dX6_rule_168 ?_
                        refine v_aload_n (pc := 169) C 5 rfl dX6_rule_169 ?_
                        refine v_getr (pc := 170) C inX6 goX6 (ci := 4) rfl 4 (by decide) (wF_X6_16 G) rfl sh_255 (258) rfl dX6_rule_170 ?_
                        refine v_cv (pc := 173) (as := [.ref (bs γ + 258)]) C (cy_X6_rests G) (wM_X6_209 G) sh_255 (ci := 4) rfl rfl (k_X6_rests G hW7) dX6_rule_173 rfl rfl (by decide) (by decide) (Nat.le_of_ble_eq_true rfl) zc (k_I (fun z173_1 s173_1 q173_1 => ?_))
                        rcases q173_1 with ⟨⟨rfl, q173_1⟩ | ⟨rfl, q173_1⟩, rfl⟩
                        · rw [if_pos q173_1] at hrr
                          refine v_if_ne (pc := 176) C 181 (by first | omega | assumption) dX6_rule_176 (by decide) (fun _ => ?_) (fun h => absurd h (by decide))
                          refine v_iload (pc := 181) C 1 rfl dX6_rule_181 ?_
                          refine v_aload_n (pc := 183) C 5 rfl dX6_rule_183 ?_
                          refine v_getr (pc := 184) C inX6 goX6 (ci := 4) rfl 4 (by decide) (wF_X6_16 G) rfl sh_255 (258) rfl dX6_rule_184 ?_
                          refine v_iload_n (pc := 187) C 2 rfl dX6_rule_187 ?_
                          refine v_iconst (pc := 188) C dX6_rule_188 ?_
                          refine v_st (mS_i258 _ _ _ _ _ _ _ _ _ _ _ _ _ ) ?_
                          refine v_cs (pc := 189) (as := [.ref (bs γ + 258), .int (iI v), .int (iI 3)]) C (cy_X6_of G) (wM_X6_48 G) (k_X6_of G (⟨sh_258, by decide⟩ : sh 258 = (0, 268) ∧ 268 ≤ 4000) (by omega)) dX6_rule_189 rfl rfl (by decide) (by decide) (Nat.le_of_ble_eq_true rfl) zc (k_I (fun z189_1 s189_1 q189_1 => ?_))
                          obtain ⟨⟨ez189_1, rz189_1⟩, rfl⟩ := q189_1
                          rw [mS_o258]
                          refine v_if_le (pc := 192) C 202 (by first | omega | assumption) dX6_rule_192 (by decide) (fun h192_1 => ?_) (fun h192_1 => ?_)
                          · rw [if_neg (by omega)] at hrr
                            refine v_iconst (pc := 202) C dX6_rule_202 ?_
                            refine v_ior (pc := 203) C dX6_rule_203 ?_
                            refine v_istore (pc := 204) C [(5, .int (iI (iOr b 0))), (6, .int (iI q)), (3, .int (iI v)), (2, .int (iI y)), (1, .int (iI c)), (0, .ref (bs γ + 255))] dX6_rule_204 (by decide) rfl ?_
                            refine v_iinc (pc := 206) C 1 [(6, .int (iI (q + 1))), (5, .int (iI (iOr b 0))), (3, .int (iI v)), (2, .int (iI y)), (1, .int (iI c)), (0, .ref (bs γ + 255))] dX6_rule_206 rfl (by decide) rfl ?_
                            refine v_goto (pc := 209) C 96 dX6_rule_209 (by decide) ?_
                            exact v_lv _ [0, 1, 2, 3, 4, 5] rfl (ih fl2 (q + 1) _ _ _ hrr (by omega) (by omega))
                          · rw [if_pos (by omega)] at hrr
                            refine v_iconst (pc := 195) C dX6_rule_195 ?_
                            refine v_iload (pc := 196) C 0 rfl dX6_rule_196 ?_
                            refine v_ishl (pc := 198) C dX6_rule_198 ?_
                            refine v_goto (pc := 199) C 203 dX6_rule_199 (by decide) ?_
                            refine v_ior (pc := 203) C dX6_rule_203 ?_
                            refine v_istore (pc := 204) C [(5, .int (iI (iOr b (iShl 1 q)))), (6, .int (iI q)), (3, .int (iI v)), (2, .int (iI y)), (1, .int (iI c)), (0, .ref (bs γ + 255))] dX6_rule_204 (by decide) rfl ?_
                            refine v_iinc (pc := 206) C 1 [(6, .int (iI (q + 1))), (5, .int (iI (iOr b (iShl 1 q)))), (3, .int (iI v)), (2, .int (iI y)), (1, .int (iI c)), (0, .ref (bs γ + 255))] dX6_rule_206 rfl (by decide) rfl ?_
                            refine v_goto (pc := 209) C 96 dX6_rule_209 (by decide) ?_
                            exact v_lv _ [0, 1, 2, 3, 4, 5] rfl (ih fl2 (q + 1) _ _ _ hrr (by omega) (by omega))
                        · rw [if_neg q173_1] at hrr
                          refine v_if_ne (pc := 176) C 181 (by first | omega | assumption) dX6_rule_176 (by decide) (fun h => absurd h (by decide)) (fun _ => ?_)
                          refine v_iconst (pc := 179) C dX6_rule_179 ?_
                          exact v_iret (pc := 180) C hr (rfl) dX6_rule_180 (⟨_, rfl, mQ_ok (z' := ruleL n c y v 4 0 0) (by unfold op_rule; rw [if_neg (by omega), if_neg (by omega)]) (by rw [← hV, hrr]; try rfl)⟩)
                    · refine v_iconst (pc := 128) C dX6_rule_128 ?_
                      refine v_goto (pc := 129) C 133 dX6_rule_129 (by decide) ?_
                      refine v_st (mS_i258 _ _ _ _ _ _ _ _ _ _ _ _ _ ) ?_
                      refine v_cs (pc := 133) (as := [.ref (bs γ + 258), .int (iI c), .int (iI 1)]) C (cy_X6_pressOn G) (wM_X6_163 G) (k_X6_pressOn G (⟨sh_258, by decide⟩ : sh 258 = (0, 268) ∧ 268 ≤ 4000) (by omega) (by first | omega | assumption)) dX6_rule_133 rfl rfl (by decide) (by decide) (Nat.le_of_ble_eq_true rfl) zc (k_I (fun z133_1 s133_1 q133_1 => ?_))
                      obtain ⟨ez133_1, rfl⟩ := q133_1
                      rw [mS_o258]
                      refine v_st (show _ = mS σ 0 s a p u t n (upr n (6 + 7 * c + 2) (q % 2)) g d k i from by first | rw [show q % 2 = 1 by omega] | rw [show q % 2 = 0 by omega]) ?_
                      refine v_pop (pc := 136) C rfl dX6_rule_136 ?_
                      refine v_aload_n (pc := 137) C 5 rfl dX6_rule_137 ?_
                      refine v_getr (pc := 138) C inX6 goX6 (ci := 4) rfl 4 (by decide) (wF_X6_16 G) rfl sh_255 (258) rfl dX6_rule_138 ?_
                      refine v_iload_n (pc := 141) C 3 rfl dX6_rule_141 ?_
                      refine v_iload (pc := 142) C 0 rfl dX6_rule_142 ?_
                      refine v_iconst (pc := 144) C dX6_rule_144 ?_
                      refine v_idiv (pc := 145) C (by first | omega | assumption) (by first | omega | assumption) dX6_rule_145 ?_
                      refine v_iconst (pc := 146) C dX6_rule_146 ?_
                      refine v_icmp_ne (pc := 147) C 154 (by first | omega | assumption) (by first | omega | assumption) dX6_rule_147 (by decide) (fun h147_1 => ?_) (fun h147_1 => ?_)
                      · refine v_iconst (pc := 154) C dX6_rule_154 ?_
                        refine v_st (mS_i258 _ _ _ _ _ _ _ _ _ _ _ _ _ ) ?_
                        refine v_cs (pc := 155) (as := [.ref (bs γ + 258), .int (iI y), .int (iI 0)]) C (cy_X6_pressOn G) (wM_X6_163 G) (k_X6_pressOn G (⟨sh_258, by decide⟩ : sh 258 = (0, 268) ∧ 268 ≤ 4000) (by omega) (by first | omega | assumption)) dX6_rule_155 rfl rfl (by decide) (by decide) (Nat.le_of_ble_eq_true rfl) zc (k_I (fun z155_2 s155_2 q155_2 => ?_))
                        obtain ⟨ez155_2, rfl⟩ := q155_2
                        rw [mS_o258]
                        refine v_st (show _ = mS σ 0 s a p u t n (upr (upr n (6 + 7 * c + 2) (q % 2)) (6 + 7 * y + 2) (q / 2)) g d k i from by first | rw [show q / 2 = 1 by omega] | rw [show q / 2 = 0 by omega]) ?_
                        refine v_pop (pc := 158) C rfl dX6_rule_158 ?_
                        refine v_aload_n (pc := 159) C 5 rfl dX6_rule_159 ?_
                        refine v_getr (pc := 160) C inX6 goX6 (ci := 4) rfl 4 (by decide) (wF_X6_16 G) rfl sh_255 (258) rfl dX6_rule_160 ?_
                        refine v_bipush (pc := 163) C (by decide +kernel) dX6_rule_163 ?_
                        refine v_st (mS_i258 _ _ _ _ _ _ _ _ _ _ _ _ _ ) ?_
                        refine v_cs (pc := 165) (as := [.ref (bs γ + 258), .int (iI 60)]) C (cy_X6_run G) (wM_X6_97 G) (k_X6_run G (⟨sh_258, by decide⟩ : sh 258 = (0, 268) ∧ 268 ≤ 4000) hW9 (by decide)) dX6_rule_165 rfl rfl (by decide) (by decide) (Nat.le_of_ble_eq_true rfl) zc (k_V (fun s165_2 q165_2 => ?_))
                        subst q165_2
                        rw [mS_o258]
                        refine v_st (show _ = mS σ 0 s a p u t n (ruleRow n c y q) g d k i from rfl) ?_
                        refine v_aload_n (pc := 168) C 5 rfl dX6_rule_168 ?_
                        refine v_aload_n (pc := 169) C 5 rfl dX6_rule_169 ?_
                        refine v_getr (pc := 170) C inX6 goX6 (ci := 4) rfl 4 (by decide) (wF_X6_16 G) rfl sh_255 (258) rfl dX6_rule_170 ?_
                        refine v_cv (pc := 173) (as := [.ref (bs γ + 258)]) C (cy_X6_rests G) (wM_X6_209 G) sh_255 (ci := 4) rfl rfl (k_X6_rests G hW7) dX6_rule_173 rfl rfl (by decide) (by decide) (Nat.le_of_ble_eq_true rfl) zc (k_I (fun z173_2 s173_2 q173_2 => ?_))
                        rcases q173_2 with ⟨⟨rfl, q173_2⟩ | ⟨rfl, q173_2⟩, rfl⟩
                        · rw [if_pos q173_2] at hrr
                          refine v_if_ne (pc := 176) C 181 (by first | omega | assumption) dX6_rule_176 (by decide) (fun _ => ?_) (fun h => absurd h (by decide))
                          refine v_iload (pc := 181) C 1 rfl dX6_rule_181 ?_
                          refine v_aload_n (pc := 183) C 5 rfl dX6_rule_183 ?_
                          refine v_getr (pc := 184) C inX6 goX6 (ci := 4) rfl 4 (by decide) (wF_X6_16 G) rfl sh_255 (258) rfl dX6_rule_184 ?_
                          refine v_iload_n (pc := 187) C 2 rfl dX6_rule_187 ?_
                          refine v_iconst (pc := 188) C dX6_rule_188 ?_
                          refine v_st (mS_i258 _ _ _ _ _ _ _ _ _ _ _ _ _ ) ?_
                          refine v_cs (pc := 189) (as := [.ref (bs γ + 258), .int (iI v), .int (iI 3)]) C (cy_X6_of G) (wM_X6_48 G) (k_X6_of G (⟨sh_258, by decide⟩ : sh 258 = (0, 268) ∧ 268 ≤ 4000) (by omega)) dX6_rule_189 rfl rfl (by decide) (by decide) (Nat.le_of_ble_eq_true rfl) zc (k_I (fun z189_2 s189_2 q189_2 => ?_))
                          obtain ⟨⟨ez189_2, rz189_2⟩, rfl⟩ := q189_2
                          rw [mS_o258]
                          refine v_if_le (pc := 192) C 202 (by first | omega | assumption) dX6_rule_192 (by decide) (fun h192_2 => ?_) (fun h192_2 => ?_)
                          · rw [if_neg (by omega)] at hrr
                            refine v_iconst (pc := 202) C dX6_rule_202 ?_
                            refine v_ior (pc := 203) C dX6_rule_203 ?_
                            refine v_istore (pc := 204) C [(5, .int (iI (iOr b 0))), (6, .int (iI q)), (3, .int (iI v)), (2, .int (iI y)), (1, .int (iI c)), (0, .ref (bs γ + 255))] dX6_rule_204 (by decide) rfl ?_
                            refine v_iinc (pc := 206) C 1 [(6, .int (iI (q + 1))), (5, .int (iI (iOr b 0))), (3, .int (iI v)), (2, .int (iI y)), (1, .int (iI c)), (0, .ref (bs γ + 255))] dX6_rule_206 rfl (by decide) rfl ?_
                            refine v_goto (pc := 209) C 96 dX6_rule_209 (by decide) ?_
                            exact v_lv _ [0, 1, 2, 3, 4, 5] rfl (ih fl2 (q + 1) _ _ _ hrr (by omega) (by omega))
                          · rw [if_pos (by omega)] at hrr
                            refine v_iconst (pc := 195) C dX6_rule_195 ?_
                            refine v_iload (pc := 196) C 0 rfl dX6_rule_196 ?_
                            refine v_ishl (pc := 198) C dX6_rule_198 ?_
                            refine v_goto (pc := 199) C 203 dX6_rule_199 (by decide) ?_
                            refine v_ior (pc := 203) C dX6_rule_203 ?_
                            refine v_istore (pc := 204) C [(5, .int (iI (iOr b (iShl 1 q)))), (6, .int (iI q)), (3, .int (iI v)), (2, .int (iI y)), (1, .int (iI c)), (0, .ref (bs γ + 255))] dX6_rule_204 (by decide) rfl ?_
                            refine v_iinc (pc := 206) C 1 [(6, .int (iI (q + 1))), (5, .int (iI (iOr b (iShl 1 q)))), (3, .int (iI v)), (2, .int (iI y)), (1, .int (iI c)), (0, .ref (bs γ + 255))] dX6_rule_206 rfl (by decide) rfl ?_
                            refine v_goto (pc := 209) C 96 dX6_rule_209 (by decide) ?_
                            exact v_lv _ [0, 1, 2, 3, 4, 5] rfl (ih fl2 (q + 1) _ _ _ hrr (by omega) (by omega))
                        · rw [if_neg q173_2] at hrr
                          refine v_if_ne (pc := 176) C 181 (by first | omega | assumption) dX6_rule_176 (by decide) (fun h => absurd h (by decide)) (fun _ => ?_)
                          refine v_iconst (pc := 179) C dX6_rule_179 ?_
                          exact v_iret (pc := 180) C hr (rfl) dX6_rule_180 (⟨_, rfl, mQ_ok (z' := ruleL n c y v 4 0 0) (by unfold op_rule; rw [if_neg (by omega), if_neg (by omega)]) (by rw [← hV, hrr]; try rfl)⟩)
                      · refine v_iconst (pc := 150) C dX6_rule_150 ?_
                        refine v_goto (pc := 151) C 155 dX6_rule_151 (by decide) ?_
                        refine v_st (mS_i258 _ _ _ _ _ _ _ _ _ _ _ _ _ ) ?_
                        refine v_cs (pc := 155) (as := [.ref (bs γ + 258), .int (iI y), .int (iI 1)]) C (cy_X6_pressOn G) (wM_X6_163 G) (k_X6_pressOn G (⟨sh_258, by decide⟩ : sh 258 = (0, 268) ∧ 268 ≤ 4000) (by omega) (by first | omega | assumption)) dX6_rule_155 rfl rfl (by decide) (by decide) (Nat.le_of_ble_eq_true rfl) zc (k_I (fun z155_3 s155_3 q155_3 => ?_))
                        obtain ⟨ez155_3, rfl⟩ := q155_3
                        rw [mS_o258]
                        refine v_st (show _ = mS σ 0 s a p u t n (upr (upr n (6 + 7 * c + 2) (q % 2)) (6 + 7 * y + 2) (q / 2)) g d k i from by first | rw [show q / 2 = 1 by omega] | rw [show q / 2 = 0 by omega]) ?_
                        refine v_pop (pc := 158) C rfl dX6_rule_158 ?_
                        refine v_aload_n (pc := 159) C 5 rfl dX6_rule_159 ?_
                        refine v_getr (pc := 160) C inX6 goX6 (ci := 4) rfl 4 (by decide) (wF_X6_16 G) rfl sh_255 (258) rfl dX6_rule_160 ?_
                        refine v_bipush (pc := 163) C (by decide +kernel) dX6_rule_163 ?_
                        refine v_st (mS_i258 _ _ _ _ _ _ _ _ _ _ _ _ _ ) ?_
                        refine v_cs (pc := 165) (as := [.ref (bs γ + 258), .int (iI 60)]) C (cy_X6_run G) (wM_X6_97 G) (k_X6_run G (⟨sh_258, by decide⟩ : sh 258 = (0, 268) ∧ 268 ≤ 4000) hW9 (by decide)) dX6_rule_165 rfl rfl (by decide) (by decide) (Nat.le_of_ble_eq_true rfl) zc (k_V (fun s165_3 q165_3 => ?_))
                        subst q165_3
                        rw [mS_o258]
                        refine v_st (show _ = mS σ 0 s a p u t n (ruleRow n c y q) g d k i from rfl) ?_
                        refine v_aload_n (pc := 168) C 5 rfl dX6_rule_168 ?_
                        refine v_aload_n (pc := 169) C 5 rfl dX6_rule_169 ?_
                        refine v_getr (pc := 170) C inX6 goX6 (ci := 4) rfl 4 (by decide) (wF_X6_16 G) rfl sh_255 (258) rfl dX6_rule_170 ?_
                        refine v_cv (pc := 173) (as := [.ref (bs γ + 258)]) C (cy_X6_rests G) (wM_X6_209 G) sh_255 (ci := 4) rfl rfl (k_X6_rests G hW7) dX6_rule_173 rfl rfl (by decide) (by decide) (Nat.le_of_ble_eq_true rfl) zc (k_I (fun z173_3 s173_3 q173_3 => ?_))
                        rcases q173_3 with ⟨⟨rfl, q173_3⟩ | ⟨rfl, q173_3⟩, rfl⟩
                        · rw [if_pos q173_3] at hrr
                          refine v_if_ne (pc := 176) C 181 (by first | omega | assumption) dX6_rule_176 (by decide) (fun _ => ?_) (fun h => absurd h (by decide))
                          refine v_iload (pc := 181) C 1 rfl dX6_rule_181 ?_
                          refine v_aload_n (pc := 183) C 5 rfl dX6_rule_183 ?_
                          refine v_getr (pc := 184) C inX6 goX6 (ci := 4) rfl 4 (by decide) (wF_X6_16 G) rfl sh_255 (258) rfl dX6_rule_184 ?_
                          refine v_iload_n (pc := 187) C 2 rfl dX6_rule_187 ?_
                          refine v_iconst (pc := 188) C dX6_rule_188 ?_
                          refine v_st (mS_i258 _ _ _ _ _ _ _ _ _ _ _ _ _ ) ?_
                          refine v_cs (pc := 189) (as := [.ref (bs γ + 258), .int (iI v), .int (iI 3)]) C (cy_X6_of G) (wM_X6_48 G) (k_X6_of G (⟨sh_258, by decide⟩ : sh 258 = (0, 268) ∧ 268 ≤ 4000) (by omega)) dX6_rule_189 rfl rfl (by decide) (by decide) (Nat.le_of_ble_eq_true rfl) zc (k_I (fun z189_3 s189_3 q189_3 => ?_))
                          obtain ⟨⟨ez189_3, rz189_3⟩, rfl⟩ := q189_3
                          rw [mS_o258]
                          refine v_if_le (pc := 192) C 202 (by first | omega | assumption) dX6_rule_192 (by decide) (fun h192_3 => ?_) (fun h192_3 => ?_)
                          · rw [if_neg (by omega)] at hrr
                            refine v_iconst (pc := 202) C dX6_rule_202 ?_
                            refine v_ior (pc := 203) C dX6_rule_203 ?_
                            refine v_istore (pc := 204) C [(5, .int (iI (iOr b 0))), (6, .int (iI q)), (3, .int (iI v)), (2, .int (iI y)), (1, .int (iI c)), (0, .ref (bs γ + 255))] dX6_rule_204 (by decide) rfl ?_
                            refine v_iinc (pc := 206) C 1 [(6, .int (iI (q + 1))), (5, .int (iI (iOr b 0))), (3, .int (iI v)), (2, .int (iI y)), (1, .int (iI c)), (0, .ref (bs γ + 255))] dX6_rule_206 rfl (by decide) rfl ?_
                            refine v_goto (pc := 209) C 96 dX6_rule_209 (by decide) ?_
                            exact v_lv _ [0, 1, 2, 3, 4, 5] rfl (ih fl2 (q + 1) _ _ _ hrr (by omega) (by omega))
                          · rw [if_pos (by omega)] at hrr
                            refine v_iconst (pc := 195) C dX6_rule_195 ?_
                            refine v_iload (pc := 196) C 0 rfl dX6_rule_196 ?_
                            refine v_ishl (pc := 198) C dX6_rule_198 ?_
                            refine v_goto (pc := 199) C 203 dX6_rule_199 (by decide) ?_
                            refine v_ior (pc := 203) C dX6_rule_203 ?_
                            refine v_istore (pc := 204) C [(5, .int (iI (iOr b (iShl 1 q)))), (6, .int (iI q)), (3, .int (iI v)), (2, .int (iI y)), (1, .int (iI c)), (0, .ref (bs γ + 255))] dX6_rule_204 (by decide) rfl ?_
                            refine v_iinc (pc := 206) C 1 [(6, .int (iI (q + 1))), (5, .int (iI (iOr b (iShl 1 q)))), (3, .int (iI v)), (2, .int (iI y)), (1, .int (iI c)), (0, .ref (bs γ + 255))] dX6_rule_206 rfl (by decide) rfl ?_
                            refine v_goto (pc := 209) C 96 dX6_rule_209 (by decide) ?_
                            exact v_lv _ [0, 1, 2, 3, 4, 5] rfl (ih fl2 (q + 1) _ _ _ hrr (by omega) (by omega))
                        · rw [if_neg q173_3] at hrr
                          refine v_if_ne (pc := 176) C 181 (by first | omega | assumption) dX6_rule_176 (by decide) (fun h => absurd h (by decide)) (fun _ => ?_)
                          refine v_iconst (pc := 179) C dX6_rule_179 ?_
                          exact v_iret (pc := 180) C hr (rfl) dX6_rule_180 (⟨_, rfl, mQ_ok (z' := ruleL n c y v 4 0 0) (by unfold op_rule; rw [if_neg (by omega), if_neg (by omega)]) (by rw [← hV, hrr]; try rfl)⟩)
              exact v_lv _ [0, 1, 6, 5, 4, 3] rfl (L96 5 4 0 0 x f hV (by omega) (by omega))
            · rw [mS_o257]
              refine v_if_ne (pc := 74) C 81 (by first | omega | assumption) dX6_rule_74 (by decide) (fun h => absurd h (by decide)) (fun _ => ?_)
              refine v_iconst (pc := 77) C dX6_rule_77 ?_
              refine v_goto (pc := 78) C 82 dX6_rule_78 (by decide) ?_
              refine v_cv (pc := 82) (as := [.int (iI 2)]) C (cy_X6_refused G) (wM_X6_124 G) sh_255 (ci := 4) rfl rfl (refY G (by decide)) dX6_rule_82 rfl rfl (by decide) (by decide) (Nat.le_of_ble_eq_true rfl) zc (k_I (fun z82_2 s82_2 q82_2 => ?_))
              obtain ⟨rfl, rfl⟩ := q82_2
              refine v_if_eq (pc := 85) C 90 (by first | omega | assumption) dX6_rule_85 (by decide) (fun h => absurd h (by decide)) (fun _ => ?_)
              refine v_iconst (pc := 88) C dX6_rule_88 ?_
              exact v_iret (pc := 89) C hr (rfl) dX6_rule_89 (⟨_, rfl, mQ_no (by unfold op_rule; rw [if_neg (by omega), if_pos (by omega)]) (by decide)⟩)
          · rw [mS_o257]
            refine v_if_eq (pc := 63) C 77 (by first | omega | assumption) dX6_rule_63 (by decide) (fun _ => ?_) (fun h => absurd h (by decide))
            refine v_iconst (pc := 77) C dX6_rule_77 ?_
            refine v_goto (pc := 78) C 82 dX6_rule_78 (by decide) ?_
            refine v_cv (pc := 82) (as := [.int (iI 2)]) C (cy_X6_refused G) (wM_X6_124 G) sh_255 (ci := 4) rfl rfl (refY G (by decide)) dX6_rule_82 rfl rfl (by decide) (by decide) (Nat.le_of_ble_eq_true rfl) zc (k_I (fun z82_3 s82_3 q82_3 => ?_))
            obtain ⟨rfl, rfl⟩ := q82_3
            refine v_if_eq (pc := 85) C 90 (by first | omega | assumption) dX6_rule_85 (by decide) (fun h => absurd h (by decide)) (fun _ => ?_)
            refine v_iconst (pc := 88) C dX6_rule_88 ?_
            exact v_iret (pc := 89) C hr (rfl) dX6_rule_89 (⟨_, rfl, mQ_no (by unfold op_rule; rw [if_neg (by omega), if_pos (by omega)]) (by decide)⟩)
      · rw [mS_o257]
        refine v_if_eq (pc := 30) C 37 (by first | omega | assumption) dX6_rule_30 (by decide) (fun _ => ?_) (fun h => absurd h (by decide))
        refine v_iconst (pc := 37) C dX6_rule_37 ?_
        refine v_istore (pc := 38) C [(4, .int (iI 0)), (0, .ref (bs γ + 255)), (1, .int (iI c)), (2, .int (iI y)), (3, .int (iI v))] dX6_rule_38 (by decide) rfl ?_
        refine v_aload_n (pc := 40) C 1 rfl dX6_rule_40 ?_
        refine v_iload (pc := 41) C 0 rfl dX6_rule_41 ?_
        refine v_if_ne (pc := 43) C 50 (by first | omega | assumption) dX6_rule_43 (by decide) (fun h => absurd h (by decide)) (fun _ => ?_)
        refine v_iconst (pc := 46) C dX6_rule_46 ?_
        refine v_goto (pc := 47) C 82 dX6_rule_47 (by decide) ?_
        refine v_cv (pc := 82) (as := [.int (iI 1)]) C (cy_X6_refused G) (wM_X6_124 G) sh_255 (ci := 4) rfl rfl (refY G (by decide)) dX6_rule_82 rfl rfl (by decide) (by decide) (Nat.le_of_ble_eq_true rfl) zc (k_I (fun z82_4 s82_4 q82_4 => ?_))
        obtain ⟨rfl, rfl⟩ := q82_4
        refine v_if_eq (pc := 85) C 90 (by first | omega | assumption) dX6_rule_85 (by decide) (fun h => absurd h (by decide)) (fun _ => ?_)
        refine v_iconst (pc := 88) C dX6_rule_88 ?_
        exact v_iret (pc := 89) C hr (rfl) dX6_rule_89 (⟨_, rfl, mQ_no (by unfold op_rule; rw [if_pos (by omega)]) (by decide)⟩)
    · rw [mS_o257]
      refine v_if_eq (pc := 19) C 37 (by first | omega | assumption) dX6_rule_19 (by decide) (fun _ => ?_) (fun h => absurd h (by decide))
      refine v_iconst (pc := 37) C dX6_rule_37 ?_
      refine v_istore (pc := 38) C [(4, .int (iI 0)), (0, .ref (bs γ + 255)), (1, .int (iI c)), (2, .int (iI y)), (3, .int (iI v))] dX6_rule_38 (by decide) rfl ?_
      refine v_aload_n (pc := 40) C 1 rfl dX6_rule_40 ?_
      refine v_iload (pc := 41) C 0 rfl dX6_rule_41 ?_
      refine v_if_ne (pc := 43) C 50 (by first | omega | assumption) dX6_rule_43 (by decide) (fun h => absurd h (by decide)) (fun _ => ?_)
      refine v_iconst (pc := 46) C dX6_rule_46 ?_
      refine v_goto (pc := 47) C 82 dX6_rule_47 (by decide) ?_
      refine v_cv (pc := 82) (as := [.int (iI 1)]) C (cy_X6_refused G) (wM_X6_124 G) sh_255 (ci := 4) rfl rfl (refY G (by decide)) dX6_rule_82 rfl rfl (by decide) (by decide) (Nat.le_of_ble_eq_true rfl) zc (k_I (fun z82_5 s82_5 q82_5 => ?_))
      obtain ⟨rfl, rfl⟩ := q82_5
      refine v_if_eq (pc := 85) C 90 (by first | omega | assumption) dX6_rule_85 (by decide) (fun h => absurd h (by decide)) (fun _ => ?_)
      refine v_iconst (pc := 88) C dX6_rule_88 ?_
      exact v_iret (pc := 89) C hr (rfl) dX6_rule_89 (⟨_, rfl, mQ_no (by unfold op_rule; rw [if_pos (by omega)]) (by decide)⟩)
  · rw [mS_o257]
    refine v_if_eq (pc := 8) C 37 (by first | omega | assumption) dX6_rule_8 (by decide) (fun _ => ?_) (fun h => absurd h (by decide))
    refine v_iconst (pc := 37) C dX6_rule_37 ?_
    refine v_istore (pc := 38) C [(4, .int (iI 0)), (0, .ref (bs γ + 255)), (1, .int (iI c)), (2, .int (iI y)), (3, .int (iI v))] dX6_rule_38 (by decide) rfl ?_
    refine v_aload_n (pc := 40) C 1 rfl dX6_rule_40 ?_
    refine v_iload (pc := 41) C 0 rfl dX6_rule_41 ?_
    refine v_if_ne (pc := 43) C 50 (by first | omega | assumption) dX6_rule_43 (by decide) (fun h => absurd h (by decide)) (fun _ => ?_)
    refine v_iconst (pc := 46) C dX6_rule_46 ?_
    refine v_goto (pc := 47) C 82 dX6_rule_47 (by decide) ?_
    refine v_cv (pc := 82) (as := [.int (iI 1)]) C (cy_X6_refused G) (wM_X6_124 G) sh_255 (ci := 4) rfl rfl (refY G (by decide)) dX6_rule_82 rfl rfl (by decide) (by decide) (Nat.le_of_ble_eq_true rfl) zc (k_I (fun z82_6 s82_6 q82_6 => ?_))
    obtain ⟨rfl, rfl⟩ := q82_6
    refine v_if_eq (pc := 85) C 90 (by first | omega | assumption) dX6_rule_85 (by decide) (fun h => absurd h (by decide)) (fun _ => ?_)
    refine v_iconst (pc := 88) C dX6_rule_88 ?_
    exact v_iret (pc := 89) C hr (rfl) dX6_rule_89 (⟨_, rfl, mQ_no (by unfold op_rule; rw [if_pos (by omega)]) (by decide)⟩)
