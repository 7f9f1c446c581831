/-! the law: alike, thrown, waits, undoes -/
set_option maxHeartbeats 4000000 in
set_option maxRecDepth 100000 in
theorem k_thrown {γ : Gm} (G : GL γ) {S : St2} {v : Int} (hv : 0 ≤ v ∧ v < 2147483648) : Cl γ yL_thrown (.code yL_thrown cL_thrown 1 (some .boolean)) 1 0 [.int (iI v)] S 0 S := by
  refine Cl.of G (by decide +kernel) (Nat.le_of_ble_eq_true rfl) (fun φ C hcr hr => ?_)
  have C : Cx γ φ RL cL_thrown 1 1 := C
  refine x_lv [(0, .int (iI v))] [0] rfl ?_
  refine x_iload_n (pc := 0) C 0 rfl dL_thrown_0 ?_
  refine x_ldc (pc := 1) C (wC_L_15 G.1) dL_thrown_1 ?_
  refine x_icmp_eq (pc := 3) C 18 (by omega) (by decide) dL_thrown_3 (by decide) (fun h => by exfalso; omega) (fun h3 => ?_)
  refine x_iload_n (pc := 6) C 0 rfl dL_thrown_6 ?_
  refine x_ldc (pc := 7) C (wC_L_18 G.1) dL_thrown_7 ?_
  refine x_icmp_eq (pc := 9) C 18 (by omega) (by decide) dL_thrown_9 (by decide) (fun h => by exfalso; omega) (fun h9 => ?_)
  refine x_iload_n (pc := 12) C 0 rfl dL_thrown_12 ?_
  refine x_ldc (pc := 13) C (wC_L_21 G.1) dL_thrown_13 ?_
  refine x_icmp_ne (pc := 15) C 22 (by omega) (by decide) dL_thrown_15 (by decide) (fun h15 => ?_) (fun h => by exfalso; omega)
  refine x_iconst (pc := 22) C dL_thrown_22 ?_
  exact x_ret (pc := 23) C (by omega) hr rfl dL_thrown_23 rfl rfl

set_option maxHeartbeats 4000000 in
set_option maxRecDepth 100000 in
theorem k_alike {γ : Gm} (G : GL γ) {A : Abs} {x : Int} (hO : AOkA A) (hx : 0 ≤ x ∧ x < 100000) : Cl γ yL_alike (.code yL_alike cL_alike 5 (some .boolean)) 12 110 [.ref (bs (gw γ false)), .ref (bs (gw γ true)), .int (iI x)] (A, A) 1 (A, A) := by
  refine Cl.of G (by decide +kernel) (Nat.le_of_ble_eq_true rfl) (fun φ C hcr hr => ?_)
  have C : Cx γ φ RL cL_alike 5 12 := C
  have h0 := hO.wf.1
  have h1 := hO.wf.2.1
  have htb := tight_b (nA A) (nA A 1).toNat 0 (-1) 0 (by decide) (Or.inl rfl)
  refine x_lv [(0, .ref (bs (gw γ false))), (1, .ref (bs (gw γ true))), (2, .int (iI x))] [0, 1, 2] rfl ?_
  refine x_aload_n (pc := 0) C 0 rfl dL_alike_0 ?_
  refine x_iload_n (pc := 1) C 2 rfl dL_alike_1 ?_
  refine x_i2l (pc := 2) C (by omega) dL_alike_2 ?_
  refine x_iconst (pc := 3) C dL_alike_3 ?_
  refine x_iload_n (pc := 4) C 2 rfl dL_alike_4 ?_
  refine x_bipush (pc := 5) C (by decide +kernel) dL_alike_5 ?_
  refine x_irem (pc := 7) C (by omega) (by decide) dL_alike_7 ?_
  refine x_iadd (pc := 8) C dL_alike_8 ?_
  refine x_cw (pc := 9) (a := 0) (m := 1) (S' := (A, A)) (z := an_doSimulate A x (1 + (x % 20))) (as := [.ref (bs (gw γ false)), .long (lI x), .int (iI (1 + (x % 20)))]) C (cy_L_doSimulate G.1) (wM_L_190 G.1) (da_doSimulate G false (rfl : gat (A, A) false = A) (b := x) (m := 1 + (x % 20)) (by omega)) dL_alike_9 rfl rfl (by decide) (by decide) (Nat.le_of_ble_eq_true rfl) ⟨by omega, by omega⟩ ?_
  refine x_aload_n (pc := 12) C 1 rfl dL_alike_12 ?_
  refine x_iload_n (pc := 13) C 2 rfl dL_alike_13 ?_
  refine x_i2l (pc := 14) C (by omega) dL_alike_14 ?_
  refine x_iconst (pc := 15) C dL_alike_15 ?_
  refine x_iload_n (pc := 16) C 2 rfl dL_alike_16 ?_
  refine x_bipush (pc := 17) C (by decide +kernel) dL_alike_17 ?_
  refine x_irem (pc := 19) C (by omega) (by decide) dL_alike_19 ?_
  refine x_iadd (pc := 20) C dL_alike_20 ?_
  refine x_cw (pc := 21) (a := 1) (m := 1) (S' := (A, A)) (z := an_doSimulate A x (1 + (x % 20))) (as := [.ref (bs (gw γ true)), .long (lI x), .int (iI (1 + (x % 20)))]) C (cy_L_doSimulate G.1) (wM_L_190 G.1) (da_doSimulate G true (rfl : gat (A, A) true = A) (b := x) (m := 1 + (x % 20)) (by omega)) dL_alike_21 rfl rfl (by decide) (by decide) (Nat.le_of_ble_eq_true rfl) ⟨by omega, by omega⟩ ?_
  refine x_icmp_ne (pc := 24) C 42 (by apply an_doSimulate_r) (by apply an_doSimulate_r) dL_alike_24 (by decide) (fun h => absurd rfl h) (fun h24 => ?_)
  refine x_aload_n (pc := 27) C 0 rfl dL_alike_27 ?_
  refine x_cv (pc := 28) (a := 2) (w := false) (as := []) C (cy_X5_tightest G.1) (wM_L_194 G.1) rfl (fun σ hC9 hO9 => k_X5_tightest (G.w false) hC9 hO9) (z := tightL (nA A) (nA A 1).toNat 0 (-1) 0) (fun _ _ _ q => ⟨q.2.1, q.2.2.1⟩) dL_alike_28 rfl rfl (by decide) (by decide) (Nat.le_of_ble_eq_true rfl) ⟨by omega, by omega⟩ ?_
  refine x_aload_n (pc := 31) C 1 rfl dL_alike_31 ?_
  refine x_cv (pc := 32) (a := 2) (w := true) (as := []) C (cy_X5_tightest G.1) (wM_L_194 G.1) rfl (fun σ hC9 hO9 => k_X5_tightest (G.w true) hC9 hO9) (z := tightL (nA A) (nA A 1).toNat 0 (-1) 0) (fun _ _ _ q => ⟨q.2.1, q.2.2.1⟩) dL_alike_32 rfl rfl (by decide) (by decide) (Nat.le_of_ble_eq_true rfl) ⟨by omega, by omega⟩ ?_
  refine x_icmp_ne (pc := 35) C 42 (by omega) (by omega) dL_alike_35 (by decide) (fun h => absurd rfl h) (fun h35 => ?_)
  refine x_iconst (pc := 38) C dL_alike_38 ?_
  refine x_goto (pc := 39) C 43 dL_alike_39 (by decide) ?_
  refine x_istore_n (pc := 43) C [(3, .int (iI 1)), (0, .ref (bs (gw γ false))), (1, .ref (bs (gw γ true))), (2, .int (iI x))] dL_alike_43 rfl (by decide) rfl ?_
  refine x_iconst (pc := 44) C dL_alike_44 ?_
  refine x_istore (pc := 45) C [(4, .int (iI 0)), (3, .int (iI 1)), (0, .ref (bs (gw γ false))), (1, .ref (bs (gw γ true))), (2, .int (iI x))] dL_alike_45 (by decide) rfl ?_
  have L47 : ∀ (fu : Nat) (c : Nat) (k : Int), (ek : k = (c : Int)) → (hc : c ≤ 10) → 10 - c < fu → Vl γ φ 5 (2 + 10 * c) (QL γ φ 110 1 (A, A)) (A, A) 47 [(4, .int (iI k)), (3, .int (iI 1)), (0, .ref (bs (gw γ false))), (1, .ref (bs (gw γ true))), (2, .int (iI x))] [] := by
    intro fu
    induction fu with
    | zero => intro c k ek hc hz; exact absurd hz (Nat.not_lt_zero _)
    | succ fu ih =>
      intro c k ek hc hz
      refine x_iload (pc := 47) C 0 rfl dL_alike_47 ?_
      refine x_bipush (pc := 49) C (by decide +kernel) dL_alike_49 ?_
      refine x_icmp_ge (pc := 51) C 209 (by omega) (by decide) dL_alike_51 (by decide) (fun h51 => ?_) (fun h51 => ?_)
      · refine x_iload_n (pc := 209) C 1 rfl dL_alike_209 ?_
        exact x_ret (pc := 210) C (by omega) hr rfl dL_alike_210 rfl rfl
      · refine x_iload_n (pc := 54) C 1 rfl dL_alike_54 ?_
        refine x_if_eq (pc := 55) C 209 (by decide) dL_alike_55 (by decide) (fun h => absurd h (by decide)) (fun h55 => ?_)
        refine x_aload_n (pc := 58) C 2 rfl dL_alike_58 ?_
        refine x_iconst (pc := 59) C dL_alike_59 ?_
        refine x_iload (pc := 60) C 0 rfl dL_alike_60 ?_
        refine x_iconst (pc := 62) C dL_alike_62 ?_
        refine x_iconst (pc := 63) C dL_alike_63 ?_
        refine x_cs (pc := 64) (a := 2 + 10 * c + 0) (m := 1) (S' := (A, A)) (z := an_tryAbout A k) (as := [.ref (bs (gw γ false)), .int (iI 2), .int (iI k), .int (iI 0), .int (iI 0)]) C (cy_L_call G.1) (wM_L_172 G.1) (dc_tryAbout G false (rfl : gat (A, A) false = A) (w := k) (by omega)) dL_alike_64 rfl rfl (by decide) (by decide) (Nat.le_of_ble_eq_true rfl) ⟨by omega, by omega⟩ ?_
        refine x_aload_n (pc := 67) C 3 rfl dL_alike_67 ?_
        refine x_iconst (pc := 68) C dL_alike_68 ?_
        refine x_iload (pc := 69) C 0 rfl dL_alike_69 ?_
        refine x_iconst (pc := 71) C dL_alike_71 ?_
        refine x_iconst (pc := 72) C dL_alike_72 ?_
        refine x_cs (pc := 73) (a := 2 + 10 * c + 1) (m := 1) (S' := (A, A)) (z := an_tryAbout A k) (as := [.ref (bs (gw γ true)), .int (iI 2), .int (iI k), .int (iI 0), .int (iI 0)]) C (cy_L_call G.1) (wM_L_172 G.1) (dc_tryAbout G true (rfl : gat (A, A) true = A) (w := k) (by omega)) dL_alike_73 rfl rfl (by decide) (by decide) (Nat.le_of_ble_eq_true rfl) ⟨by omega, by omega⟩ ?_
        refine x_icmp_ne (pc := 76) C 201 (by apply an_tryAbout_r) (by apply an_tryAbout_r) dL_alike_76 (by decide) (fun h => absurd rfl h) (fun h76 => ?_)
        refine x_aload_n (pc := 79) C 2 rfl dL_alike_79 ?_
        refine x_iconst (pc := 80) C dL_alike_80 ?_
        refine x_iload (pc := 81) C 0 rfl dL_alike_81 ?_
        refine x_iload_n (pc := 83) C 4 rfl dL_alike_83 ?_
        refine x_iconst (pc := 84) C dL_alike_84 ?_
        refine x_irem (pc := 85) C (by omega) (by decide) dL_alike_85 ?_
        refine x_iconst (pc := 86) C dL_alike_86 ?_
        refine x_cs (pc := 87) (a := 2 + 10 * c + 2) (m := 1) (S' := (A, A)) (z := an_tryTold A k (x % 5)) (as := [.ref (bs (gw γ false)), .int (iI 3), .int (iI k), .int (iI (x % 5)), .int (iI 0)]) C (cy_L_call G.1) (wM_L_172 G.1) (dc_tryTold G false (rfl : gat (A, A) false = A) (v := k) (w := x % 5) (by omega) (by omega)) dL_alike_87 rfl rfl (by decide) (by decide) (Nat.le_of_ble_eq_true rfl) ⟨by omega, by omega⟩ ?_
        refine x_aload_n (pc := 90) C 3 rfl dL_alike_90 ?_
        refine x_iconst (pc := 91) C dL_alike_91 ?_
        refine x_iload (pc := 92) C 0 rfl dL_alike_92 ?_
        refine x_iload_n (pc := 94) C 4 rfl dL_alike_94 ?_
        refine x_iconst (pc := 95) C dL_alike_95 ?_
        refine x_irem (pc := 96) C (by omega) (by decide) dL_alike_96 ?_
        refine x_iconst (pc := 97) C dL_alike_97 ?_
        refine x_cs (pc := 98) (a := 2 + 10 * c + 3) (m := 1) (S' := (A, A)) (z := an_tryTold A k (x % 5)) (as := [.ref (bs (gw γ true)), .int (iI 3), .int (iI k), .int (iI (x % 5)), .int (iI 0)]) C (cy_L_call G.1) (wM_L_172 G.1) (dc_tryTold G true (rfl : gat (A, A) true = A) (v := k) (w := x % 5) (by omega) (by omega)) dL_alike_98 rfl rfl (by decide) (by decide) (Nat.le_of_ble_eq_true rfl) ⟨by omega, by omega⟩ ?_
        refine x_icmp_ne (pc := 101) C 201 (by apply an_tryTold_r) (by apply an_tryTold_r) dL_alike_101 (by decide) (fun h => absurd rfl h) (fun h101 => ?_)
        refine x_aload_n (pc := 104) C 2 rfl dL_alike_104 ?_
        refine x_iconst (pc := 105) C dL_alike_105 ?_
        refine x_iload (pc := 106) C 0 rfl dL_alike_106 ?_
        refine x_iload_n (pc := 108) C 4 rfl dL_alike_108 ?_
        refine x_iconst (pc := 109) C dL_alike_109 ?_
        refine x_irem (pc := 110) C (by omega) (by decide) dL_alike_110 ?_
        refine x_iconst (pc := 111) C dL_alike_111 ?_
        refine x_cs (pc := 112) (a := 2 + 10 * c + 4) (m := 1) (S' := (A, A)) (z := an_tryLeg A k (x % 2)) (as := [.ref (bs (gw γ false)), .int (iI 4), .int (iI k), .int (iI (x % 2)), .int (iI 0)]) C (cy_L_call G.1) (wM_L_172 G.1) (dc_tryLeg G false (rfl : gat (A, A) false = A) (v := k) (g := x % 2) (by omega) (by omega)) dL_alike_112 rfl rfl (by decide) (by decide) (Nat.le_of_ble_eq_true rfl) ⟨by omega, by omega⟩ ?_
        refine x_aload_n (pc := 115) C 3 rfl dL_alike_115 ?_
        refine x_iconst (pc := 116) C dL_alike_116 ?_
        refine x_iload (pc := 117) C 0 rfl dL_alike_117 ?_
        refine x_iload_n (pc := 119) C 4 rfl dL_alike_119 ?_
        refine x_iconst (pc := 120) C dL_alike_120 ?_
        refine x_irem (pc := 121) C (by omega) (by decide) dL_alike_121 ?_
        refine x_iconst (pc := 122) C dL_alike_122 ?_
        refine x_cs (pc := 123) (a := 2 + 10 * c + 5) (m := 1) (S' := (A, A)) (z := an_tryLeg A k (x % 2)) (as := [.ref (bs (gw γ true)), .int (iI 4), .int (iI k), .int (iI (x % 2)), .int (iI 0)]) C (cy_L_call G.1) (wM_L_172 G.1) (dc_tryLeg G true (rfl : gat (A, A) true = A) (v := k) (g := x % 2) (by omega) (by omega)) dL_alike_123 rfl rfl (by decide) (by decide) (Nat.le_of_ble_eq_true rfl) ⟨by omega, by omega⟩ ?_
        refine x_icmp_ne (pc := 126) C 201 (by apply an_tryLeg_r) (by apply an_tryLeg_r) dL_alike_126 (by decide) (fun h => absurd rfl h) (fun h126 => ?_)
        refine x_aload_n (pc := 129) C 2 rfl dL_alike_129 ?_
        refine x_iconst (pc := 130) C dL_alike_130 ?_
        refine x_iload (pc := 131) C 0 rfl dL_alike_131 ?_
        refine x_iload_n (pc := 133) C 4 rfl dL_alike_133 ?_
        refine x_iconst (pc := 134) C dL_alike_134 ?_
        refine x_irem (pc := 135) C (by omega) (by decide) dL_alike_135 ?_
        refine x_iload_n (pc := 136) C 4 rfl dL_alike_136 ?_
        refine x_iconst (pc := 137) C dL_alike_137 ?_
        refine x_irem (pc := 138) C (by omega) (by decide) dL_alike_138 ?_
        refine x_cs (pc := 139) (a := 2 + 10 * c + 6) (m := 1) (S' := (A, A)) (z := an_tryPush A k (x % 2) (x % 2)) (as := [.ref (bs (gw γ false)), .int (iI 5), .int (iI k), .int (iI (x % 2)), .int (iI (x % 2))]) C (cy_L_call G.1) (wM_L_172 G.1) (dc_tryPush G false (rfl : gat (A, A) false = A) (v := k) (g := x % 2) (w := x % 2) (by omega) (by omega) (by omega)) dL_alike_139 rfl rfl (by decide) (by decide) (Nat.le_of_ble_eq_true rfl) ⟨by omega, by omega⟩ ?_
        refine x_aload_n (pc := 142) C 3 rfl dL_alike_142 ?_
        refine x_iconst (pc := 143) C dL_alike_143 ?_
        refine x_iload (pc := 144) C 0 rfl dL_alike_144 ?_
        refine x_iload_n (pc := 146) C 4 rfl dL_alike_146 ?_
        refine x_iconst (pc := 147) C dL_alike_147 ?_
        refine x_irem (pc := 148) C (by omega) (by decide) dL_alike_148 ?_
        refine x_iload_n (pc := 149) C 4 rfl dL_alike_149 ?_
        refine x_iconst (pc := 150) C dL_alike_150 ?_
        refine x_irem (pc := 151) C (by omega) (by decide) dL_alike_151 ?_
        refine x_cs (pc := 152) (a := 2 + 10 * c + 7) (m := 1) (S' := (A, A)) (z := an_tryPush A k (x % 2) (x % 2)) (as := [.ref (bs (gw γ true)), .int (iI 5), .int (iI k), .int (iI (x % 2)), .int (iI (x % 2))]) C (cy_L_call G.1) (wM_L_172 G.1) (dc_tryPush G true (rfl : gat (A, A) true = A) (v := k) (g := x % 2) (w := x % 2) (by omega) (by omega) (by omega)) dL_alike_152 rfl rfl (by decide) (by decide) (Nat.le_of_ble_eq_true rfl) ⟨by omega, by omega⟩ ?_
        refine x_icmp_ne (pc := 155) C 201 (by apply an_tryPush_r) (by apply an_tryPush_r) dL_alike_155 (by decide) (fun h => absurd rfl h) (fun h155 => ?_)
        refine x_aload_n (pc := 158) C 2 rfl dL_alike_158 ?_
        refine x_bipush (pc := 159) C (by decide +kernel) dL_alike_159 ?_
        refine x_iload (pc := 161) C 0 rfl dL_alike_161 ?_
        refine x_iload_n (pc := 163) C 4 rfl dL_alike_163 ?_
        refine x_bipush (pc := 164) C (by decide +kernel) dL_alike_164 ?_
        refine x_irem (pc := 166) C (by omega) (by decide) dL_alike_166 ?_
        refine x_iadd (pc := 167) C dL_alike_167 ?_
        refine x_iload_n (pc := 168) C 4 rfl dL_alike_168 ?_
        refine x_bipush (pc := 169) C (by decide +kernel) dL_alike_169 ?_
        refine x_irem (pc := 171) C (by omega) (by decide) dL_alike_171 ?_
        refine x_iconst (pc := 172) C dL_alike_172 ?_
        refine x_cs (pc := 173) (a := 2 + 10 * c + 8) (m := 1) (S' := (A, A)) (z := an_tryPipe A (k + (x % 7)) (x % 8)) (as := [.ref (bs (gw γ false)), .int (iI 6), .int (iI (k + (x % 7))), .int (iI (x % 8)), .int (iI 0)]) C (cy_L_call G.1) (wM_L_172 G.1) (dc_tryPipe G false (rfl : gat (A, A) false = A) (e := k + (x % 7)) (w := x % 8) (by omega) (by omega)) dL_alike_173 rfl rfl (by decide) (by decide) (Nat.le_of_ble_eq_true rfl) ⟨by omega, by omega⟩ ?_
        refine x_aload_n (pc := 176) C 3 rfl dL_alike_176 ?_
        refine x_bipush (pc := 177) C (by decide +kernel) dL_alike_177 ?_
        refine x_iload (pc := 179) C 0 rfl dL_alike_179 ?_
        refine x_iload_n (pc := 181) C 4 rfl dL_alike_181 ?_
        refine x_bipush (pc := 182) C (by decide +kernel) dL_alike_182 ?_
        refine x_irem (pc := 184) C (by omega) (by decide) dL_alike_184 ?_
        refine x_iadd (pc := 185) C dL_alike_185 ?_
        refine x_iload_n (pc := 186) C 4 rfl dL_alike_186 ?_
        refine x_bipush (pc := 187) C (by decide +kernel) dL_alike_187 ?_
        refine x_irem (pc := 189) C (by omega) (by decide) dL_alike_189 ?_
        refine x_iconst (pc := 190) C dL_alike_190 ?_
        refine x_cs (pc := 191) (a := 2 + 10 * c + 9) (m := 1) (S' := (A, A)) (z := an_tryPipe A (k + (x % 7)) (x % 8)) (as := [.ref (bs (gw γ true)), .int (iI 6), .int (iI (k + (x % 7))), .int (iI (x % 8)), .int (iI 0)]) C (cy_L_call G.1) (wM_L_172 G.1) (dc_tryPipe G true (rfl : gat (A, A) true = A) (e := k + (x % 7)) (w := x % 8) (by omega) (by omega)) dL_alike_191 rfl rfl (by decide) (by decide) (Nat.le_of_ble_eq_true rfl) ⟨by omega, by omega⟩ ?_
        refine x_icmp_ne (pc := 194) C 201 (by apply an_tryPipe_r) (by apply an_tryPipe_r) dL_alike_194 (by decide) (fun h => absurd rfl h) (fun h194 => ?_)
        refine x_iconst (pc := 197) C dL_alike_197 ?_
        refine x_goto (pc := 198) C 202 dL_alike_198 (by decide) ?_
        refine x_istore_n (pc := 202) C [(3, .int (iI 1)), (4, .int (iI k)), (0, .ref (bs (gw γ false))), (1, .ref (bs (gw γ true))), (2, .int (iI x))] dL_alike_202 rfl (by decide) rfl ?_
        refine x_iinc (pc := 203) C 1 [(4, .int (iI (k + 1))), (3, .int (iI 1)), (0, .ref (bs (gw γ false))), (1, .ref (bs (gw γ true))), (2, .int (iI x))] dL_alike_203 rfl (by decide) rfl ?_
        refine x_goto (pc := 206) C 47 dL_alike_206 (by decide) ?_
        exact x_lv _ [0, 1, 2, 3, 4] rfl (x_wide (by omega) (ih (c + 1) (k + 1) (by omega) (by omega) (by omega)))
  exact x_lv _ [0, 1, 2, 3, 4] rfl (x_wide (by omega) (L47 11 0 0 rfl (by decide) (by decide)))

set_option maxHeartbeats 4000000 in
set_option maxRecDepth 100000 in
theorem k_waits {γ : Gm} (G : GL γ) {A : Abs} {n : Int} (hn : 0 ≤ n ∧ n ≤ 300) : Cl γ yL_waits (.code yL_waits cL_waits 7 (some .boolean)) 12 12 [.ref (bs (gw γ false)), .ref (bs (gw γ true)), .int (iI n)] (A, A) 1 (wP n A (cntN n), wP n A (cntN n)) := by
  refine Cl.of G (by decide +kernel) (Nat.le_of_ble_eq_true rfl) (fun φ C hcr hr => ?_)
  have C : Cx γ φ RL cL_waits 7 12 := C
  refine x_lv [(0, .ref (bs (gw γ false))), (1, .ref (bs (gw γ true))), (2, .int (iI n))] [0, 1, 2] rfl ?_
  refine x_iconst (pc := 0) C dL_waits_0 ?_
  refine x_istore_n (pc := 1) C [(3, .int (iI 1)), (0, .ref (bs (gw γ false))), (1, .ref (bs (gw γ true))), (2, .int (iI n))] dL_waits_1 rfl (by decide) rfl ?_
  refine x_iload_n (pc := 2) C 3 rfl dL_waits_2 ?_
  refine x_istore (pc := 3) C [(4, .int (iI n)), (3, .int (iI 1)), (0, .ref (bs (gw γ false))), (1, .ref (bs (gw γ true))), (2, .int (iI n))] dL_waits_3 (by decide) rfl ?_
  have L5 : ∀ (fu : Nat) (c : Nat) (lf : Int), (el : lf = n - 99 * (c : Int)) → (hc : 99 * (c : Int) < n + 99) → 5 - c < fu → Vl γ φ 7 (0 + 2 * c) (QL γ φ 12 1 (wP n A (cntN n), wP n A (cntN n))) (wP n A c, wP n A c) 5 [(4, .int (iI lf)), (3, .int (iI 1)), (0, .ref (bs (gw γ false))), (1, .ref (bs (gw γ true)))] [] := by
    intro fu
    induction fu with
    | zero => intro c lf el hc hz; exact absurd hz (Nat.not_lt_zero _)
    | succ fu ih =>
      intro c lf el hc hz
      refine x_ok (fun hO1 hO2 => ?_)
      refine x_iload (pc := 5) C 0 rfl dL_waits_5 ?_
      refine x_if_le (pc := 7) C 74 (by omega) dL_waits_7 (by decide) (fun h7 => ?_) (fun h7 => ?_)
      · refine x_iload_n (pc := 74) C 1 rfl dL_waits_74 ?_
        exact x_ret (pc := 75) C (by omega) hr rfl dL_waits_75 rfl (by rw [show c = cntN n by unfold cntN; omega])
      · refine x_iload_n (pc := 10) C 1 rfl dL_waits_10 ?_
        refine x_if_eq (pc := 11) C 74 (by decide) dL_waits_11 (by decide) (fun h => absurd h (by decide)) (fun h11 => ?_)
        refine x_iload (pc := 14) C 0 rfl dL_waits_14 ?_
        refine x_bipush (pc := 16) C (by decide +kernel) dL_waits_16 ?_
        suffices K18 : Vl γ φ 7 (0 + 2 * c + 0) (QL γ φ 12 1 (wP n A (cntN n), wP n A (cntN n))) (wP n A c, wP n A c) 28 [(4, .int (iI lf)), (3, .int (iI 1)), (0, .ref (bs (gw γ false))), (1, .ref (bs (gw γ true)))] [.int (iI (if 99 < lf then 99 else lf))] by
          refine x_icmp_le (pc := 18) C 26 (by omega) (by decide) dL_waits_18 (by decide) (fun h18 => ?_) (fun h18 => ?_)
          · refine x_iload (pc := 26) C 0 rfl dL_waits_26 ?_
            exact x_ti (x2 := (if 99 < lf then 99 else lf)) (by split <;> first | rfl | omega) K18
          · refine x_bipush (pc := 21) C (by decide +kernel) dL_waits_21 ?_
            refine x_goto (pc := 23) C 28 dL_waits_23 (by decide) ?_
            exact x_ti (x2 := (if 99 < lf then 99 else lf)) (by split <;> first | rfl | omega) K18
        refine x_nm (fun pt ept => ?_)
        have hpt : 1 ≤ pt ∧ pt ≤ 99 := by rw [ept]; split <;> omega
        refine x_istore (pc := 28) C [(5, .int (iI pt)), (4, .int (iI lf)), (3, .int (iI 1)), (0, .ref (bs (gw γ false))), (1, .ref (bs (gw γ true)))] dL_waits_28 (by decide) rfl ?_
        refine x_aload_n (pc := 30) C 3 rfl dL_waits_30 ?_
        refine x_bipush (pc := 31) C (by decide +kernel) dL_waits_31 ?_
        refine x_iload (pc := 33) C 0 rfl dL_waits_33 ?_
        refine x_iconst (pc := 35) C dL_waits_35 ?_
        refine x_iconst (pc := 36) C dL_waits_36 ?_
        refine x_cs (pc := 37) (a := 0 + 2 * c + 0) (m := 1) (S' := (st_tryTicks (wP n A c) pt, wP n A c)) (z := an_tryTicks (wP n A c) pt) (as := [.ref (bs (gw γ false)), .int (iI 13), .int (iI pt), .int (iI 0), .int (iI 0)]) C (cy_L_call G.1) (wM_L_172 G.1) (dc_tryTicks G false (rfl : gat (wP n A c, wP n A c) false = wP n A c) (m := pt) (by omega)) dL_waits_37 rfl rfl (by decide) (by decide) (Nat.le_of_ble_eq_true rfl) ⟨by omega, by omega⟩ ?_
        refine x_nm (fun lg elg => ?_)
        have hlg := (tk_val hO1 hpt).2.2
        have hlg2 : 0 ≤ lg ∧ lg ≤ 20 := by rw [elg]; exact hlg
        refine x_istore (pc := 40) C [(6, .int (iI lg)), (5, .int (iI pt)), (4, .int (iI lf)), (3, .int (iI 1)), (0, .ref (bs (gw γ false))), (1, .ref (bs (gw γ true)))] dL_waits_40 (by decide) rfl ?_
        refine x_iload (pc := 42) C 0 rfl dL_waits_42 ?_
        refine x_if_lt (pc := 44) C 66 (by omega) dL_waits_44 (by decide) (fun h => by exfalso; omega) (fun h44 => ?_)
        refine x_aload_n (pc := 47) C 5 rfl dL_waits_47 ?_
        refine x_bipush (pc := 48) C (by decide +kernel) dL_waits_48 ?_
        refine x_iload (pc := 50) C 1 rfl dL_waits_50 ?_
        refine x_iconst (pc := 52) C dL_waits_52 ?_
        refine x_iconst (pc := 53) C dL_waits_53 ?_
        refine x_cs (pc := 54) (a := 0 + 2 * c + 1) (m := 1) (S' := (st_tryTicks (wP n A c) pt, st_tryTicks (wP n A c) pt)) (z := an_tryTicks (wP n A c) pt) (as := [.ref (bs (gw γ true)), .int (iI 13), .int (iI pt), .int (iI 0), .int (iI 0)]) C (cy_L_call G.1) (wM_L_172 G.1) (dc_tryTicks G true (rfl : gat (st_tryTicks (wP n A c) pt, wP n A c) true = wP n A c) (m := pt) (by omega)) dL_waits_54 rfl rfl (by decide) (by decide) (Nat.le_of_ble_eq_true rfl) ⟨by omega, by omega⟩ ?_
        refine x_iload (pc := 57) C 0 rfl dL_waits_57 ?_
        refine x_icmp_ne (pc := 59) C 66 (by apply an_tryTicks_r) (by omega) dL_waits_59 (by decide) (fun h => absurd elg.symm h) (fun h59 => ?_)
        refine x_iconst (pc := 62) C dL_waits_62 ?_
        refine x_goto (pc := 63) C 67 dL_waits_63 (by decide) ?_
        refine x_istore_n (pc := 67) C [(3, .int (iI 1)), (6, .int (iI lg)), (5, .int (iI pt)), (4, .int (iI lf)), (0, .ref (bs (gw γ false))), (1, .ref (bs (gw γ true)))] dL_waits_67 rfl (by decide) rfl ?_
        refine x_iinc (pc := 68) C 3 [(4, .int (iI (lf + (-99)))), (3, .int (iI 1)), (6, .int (iI lg)), (5, .int (iI pt)), (0, .ref (bs (gw γ false))), (1, .ref (bs (gw γ true)))] dL_waits_68 rfl (by decide) rfl ?_
        refine x_goto (pc := 71) C 5 dL_waits_71 (by decide) ?_
        refine x_st (S2 := (wP n A (c + 1), wP n A (c + 1))) (by rw [show st_tryTicks (wP n A c) pt = wP n A (c + 1) by rw [ept, el]; rfl]) ?_
        exact x_lv _ [0, 1, 4, 5] rfl (x_wide (by omega) (ih (c + 1) (lf + (-99)) (by omega) (by omega) (by omega)))
  exact x_lv _ [0, 1, 2, 3] rfl (x_wide (by omega) (L5 6 0 n (by omega) (by omega) (by decide)))

set_option maxHeartbeats 4000000 in
set_option maxRecDepth 100000 in
theorem k_undoes {γ : Gm} (G : GL γ) {A : Abs} {n : Int} (hn : 0 ≤ n ∧ n ≤ 300) (hU : ∀ c, c < cntN n → 0 ≤ an_tryUndo (pS A c) ∧ an_tryUndo (pS A c) ≤ 13) : Cl γ yL_undoes (.code yL_undoes cL_undoes 5 (some .boolean)) 12 12 [.ref (bs (gw γ false)), .ref (bs (gw γ true)), .int (iI n)] (A, A) 1 (pS A (cntN n), pS A (cntN n)) := by
  refine Cl.of G (by decide +kernel) (Nat.le_of_ble_eq_true rfl) (fun φ C hcr hr => ?_)
  have C : Cx γ φ RL cL_undoes 5 12 := C
  refine x_lv [(0, .ref (bs (gw γ false))), (1, .ref (bs (gw γ true))), (2, .int (iI n))] [0, 1, 2] rfl ?_
  refine x_iconst (pc := 0) C dL_undoes_0 ?_
  refine x_istore_n (pc := 1) C [(3, .int (iI 1)), (0, .ref (bs (gw γ false))), (1, .ref (bs (gw γ true))), (2, .int (iI n))] dL_undoes_1 rfl (by decide) rfl ?_
  refine x_iload_n (pc := 2) C 3 rfl dL_undoes_2 ?_
  refine x_istore (pc := 3) C [(4, .int (iI n)), (3, .int (iI 1)), (0, .ref (bs (gw γ false))), (1, .ref (bs (gw γ true))), (2, .int (iI n))] dL_undoes_3 (by decide) rfl ?_
  have L5 : ∀ (fu : Nat) (c : Nat) (lf : Int), (el : lf = n - 99 * (c : Int)) → (hc : 99 * (c : Int) < n + 99) → 5 - c < fu → Vl γ φ 5 (0 + 2 * c) (QL γ φ 12 1 (pS A (cntN n), pS A (cntN n))) (pS A c, pS A c) 5 [(4, .int (iI lf)), (3, .int (iI 1)), (0, .ref (bs (gw γ false))), (1, .ref (bs (gw γ true)))] [] := by
    intro fu
    induction fu with
    | zero => intro c lf el hc hz; exact absurd hz (Nat.not_lt_zero _)
    | succ fu ih =>
      intro c lf el hc hz
      refine x_iload (pc := 5) C 0 rfl dL_undoes_5 ?_
      refine x_if_le (pc := 7) C 56 (by omega) dL_undoes_7 (by decide) (fun h7 => ?_) (fun h7 => ?_)
      · refine x_iload_n (pc := 56) C 1 rfl dL_undoes_56 ?_
        exact x_ret (pc := 57) C (by omega) hr rfl dL_undoes_57 rfl (by rw [show c = cntN n by unfold cntN; omega])
      · refine x_iload_n (pc := 10) C 1 rfl dL_undoes_10 ?_
        refine x_if_eq (pc := 11) C 56 (by decide) dL_undoes_11 (by decide) (fun h => absurd h (by decide)) (fun h11 => ?_)
        have hu := hU c (by unfold cntN; omega)
        refine x_aload_n (pc := 14) C 2 rfl dL_undoes_14 ?_
        refine x_bipush (pc := 15) C (by decide +kernel) dL_undoes_15 ?_
        refine x_iconst (pc := 17) C dL_undoes_17 ?_
        refine x_iconst (pc := 18) C dL_undoes_18 ?_
        refine x_iconst (pc := 19) C dL_undoes_19 ?_
        refine x_cs (pc := 20) (a := 0 + 2 * c + 0) (m := 1) (S' := (st_tryUndo (pS A c), pS A c)) (z := an_tryUndo (pS A c)) (as := [.ref (bs (gw γ false)), .int (iI 14), .int (iI 0), .int (iI 0), .int (iI 0)]) C (cy_L_call G.1) (wM_L_172 G.1) (dc_tryUndo G false (rfl : gat (pS A c, pS A c) false = pS A c) ) dL_undoes_20 rfl rfl (by decide) (by decide) (Nat.le_of_ble_eq_true rfl) ⟨by omega, by omega⟩ ?_
        refine x_cs (pc := 23) (a := 0 + 2 * c + 1) (m := 0) (S' := (st_tryUndo (pS A c), pS A c)) (z := 0) (as := [.int (iI (an_tryUndo (pS A c)))]) C (cy_L_thrown G.1) (wM_L_228 G.1) (k_thrown G (by omega)) dL_undoes_23 rfl rfl (by decide) (by decide) (Nat.le_of_ble_eq_true rfl) ⟨by omega, by omega⟩ ?_
        refine x_if_ne (pc := 26) C 48 (by decide) dL_undoes_26 (by decide) (fun h => absurd h (by decide)) (fun h26 => ?_)
        refine x_aload_n (pc := 29) C 3 rfl dL_undoes_29 ?_
        refine x_bipush (pc := 30) C (by decide +kernel) dL_undoes_30 ?_
        refine x_iconst (pc := 32) C dL_undoes_32 ?_
        refine x_iconst (pc := 33) C dL_undoes_33 ?_
        refine x_iconst (pc := 34) C dL_undoes_34 ?_
        refine x_cs (pc := 35) (a := 0 + 2 * c + 1) (m := 1) (S' := (st_tryUndo (pS A c), st_tryUndo (pS A c))) (z := an_tryUndo (pS A c)) (as := [.ref (bs (gw γ true)), .int (iI 14), .int (iI 0), .int (iI 0), .int (iI 0)]) C (cy_L_call G.1) (wM_L_172 G.1) (dc_tryUndo G true (rfl : gat (st_tryUndo (pS A c), pS A c) true = pS A c) ) dL_undoes_35 rfl rfl (by decide) (by decide) (Nat.le_of_ble_eq_true rfl) ⟨by omega, by omega⟩ ?_
        refine x_cs (pc := 38) (a := 0 + 2 * c + 2) (m := 0) (S' := (st_tryUndo (pS A c), st_tryUndo (pS A c))) (z := 0) (as := [.int (iI (an_tryUndo (pS A c)))]) C (cy_L_thrown G.1) (wM_L_228 G.1) (k_thrown G (by omega)) dL_undoes_38 rfl rfl (by decide) (by decide) (Nat.le_of_ble_eq_true rfl) ⟨by omega, by omega⟩ ?_
        refine x_if_ne (pc := 41) C 48 (by decide) dL_undoes_41 (by decide) (fun h => absurd h (by decide)) (fun h41 => ?_)
        refine x_iconst (pc := 44) C dL_undoes_44 ?_
        refine x_goto (pc := 45) C 49 dL_undoes_45 (by decide) ?_
        refine x_istore_n (pc := 49) C [(3, .int (iI 1)), (4, .int (iI lf)), (0, .ref (bs (gw γ false))), (1, .ref (bs (gw γ true)))] dL_undoes_49 rfl (by decide) rfl ?_
        refine x_iinc (pc := 50) C 1 [(4, .int (iI (lf + (-99)))), (3, .int (iI 1)), (0, .ref (bs (gw γ false))), (1, .ref (bs (gw γ true)))] dL_undoes_50 rfl (by decide) rfl ?_
        refine x_goto (pc := 53) C 5 dL_undoes_53 (by decide) ?_
        refine x_st (S2 := (pS A (c + 1), pS A (c + 1))) rfl ?_
        exact x_lv _ [0, 1, 2, 3] rfl (x_wide (by omega) (ih (c + 1) (lf + (-99)) (by omega) (by omega) (by omega)))
  exact x_lv _ [0, 1, 2, 3] rfl (x_wide (by omega) (L5 6 0 n (by omega) (by omega) (by decide)))

