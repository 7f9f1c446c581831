/-! the law: refuses -/
set_option maxHeartbeats 4000000 in
set_option maxRecDepth 100000 in
theorem k_refuses_0 {γ : Gm} (G : GL γ) (w : Bool) {S : St2} {A : Abs} (hS : gat S w = A) (hO : AOkA A) {x : Int} (h4 : 4 ≤ nA A 0) (hx : 0 ≤ x ∧ x < 100000) (hx2 : x % 2 = 0) : Cl γ yL_refuses (.code yL_refuses cL_refuses 9 (some .boolean)) 12 60 [.ref (bs (gw γ w)), .int (iI x)] S 1 S := by
  refine Cl.of G (by decide +kernel) (Nat.le_of_ble_eq_true rfl) (fun φ C hcr hr => ?_)
  have C : Cx γ φ RL cL_refuses 9 12 := C
  have h0 := hO.wf.1
  have h1 := hO.wf.2.1
  refine x_lv [(0, .ref (bs (gw γ w))), (1, .int (iI x))] [0, 1] rfl ?_
  refine x_aload_n (pc := 0) C 0 rfl dL_refuses_0 ?_
  refine x_iconst (pc := 1) C dL_refuses_1 ?_
  refine x_iconst (pc := 2) C dL_refuses_2 ?_
  refine x_iconst (pc := 3) C dL_refuses_3 ?_
  refine x_iconst (pc := 4) C dL_refuses_4 ?_
  refine x_cs (pc := 5) (a := 0) (m := 1) (S' := S) (z := nA A 0) (as := [.ref (bs (gw γ w)), .int (iI 2), .int (iI 0), .int (iI 0), .int (iI 0)]) C (cy_L_call G.1) (wM_L_172 G.1) (t_ab0 G w hS hO) dL_refuses_5 rfl rfl (by decide) (by decide) (Nat.le_of_ble_eq_true rfl) ⟨by omega, by omega⟩ ?_
  refine x_istore_n (pc := 8) C [(2, .int (iI (nA A 0))), (0, .ref (bs (gw γ w))), (1, .int (iI x))] dL_refuses_8 rfl (by decide) rfl ?_
  refine x_aload_n (pc := 9) C 1 rfl dL_refuses_9 ?_
  refine x_iconst (pc := 10) C dL_refuses_10 ?_
  refine x_iconst (pc := 11) C dL_refuses_11 ?_
  refine x_iconst (pc := 12) C dL_refuses_12 ?_
  refine x_iconst (pc := 13) C dL_refuses_13 ?_
  refine x_cs (pc := 14) (a := 1) (m := 1) (S' := S) (z := nA A 1) (as := [.ref (bs (gw γ w)), .int (iI 2), .int (iI 1), .int (iI 0), .int (iI 0)]) C (cy_L_call G.1) (wM_L_172 G.1) (t_ab1 G w hS hO) dL_refuses_14 rfl rfl (by decide) (by decide) (Nat.le_of_ble_eq_true rfl) ⟨by omega, by omega⟩ ?_
  refine x_istore_n (pc := 17) C [(3, .int (iI (nA A 1))), (2, .int (iI (nA A 0))), (0, .ref (bs (gw γ w))), (1, .int (iI x))] dL_refuses_17 rfl (by decide) rfl ?_
  refine x_iload_n (pc := 18) C 3 rfl dL_refuses_18 ?_
  refine x_iconst (pc := 19) C dL_refuses_19 ?_
  refine x_irem (pc := 20) C (by omega) (by decide) dL_refuses_20 ?_
  refine x_if_ne (pc := 21) C 33 (by omega) dL_refuses_21 (by decide) (fun h => by exfalso; omega) (fun h21 => ?_)
  refine x_iconst (pc := 24) C dL_refuses_24 ?_
  refine x_iload_n (pc := 25) C 3 rfl dL_refuses_25 ?_
  refine x_bipush (pc := 26) C (by decide +kernel) dL_refuses_26 ?_
  refine x_irem (pc := 28) C (by omega) (by decide) dL_refuses_28 ?_
  refine x_isub (pc := 29) C dL_refuses_29 ?_
  refine x_goto (pc := 30) C 39 dL_refuses_30 (by decide) ?_
  refine x_istore (pc := 39) C [(4, .int (iI ((-1) - (x % 99)))), (3, .int (iI (nA A 1))), (2, .int (iI (nA A 0))), (0, .ref (bs (gw γ w))), (1, .int (iI x))] dL_refuses_39 (by decide) rfl ?_
  refine x_iload_n (pc := 41) C 4 rfl dL_refuses_41 ?_
  refine x_iconst (pc := 42) C dL_refuses_42 ?_
  refine x_irem (pc := 43) C (by omega) (by decide) dL_refuses_43 ?_
  refine x_if_ne (pc := 44) C 56 (by omega) dL_refuses_44 (by decide) (fun h => by exfalso; omega) (fun h44 => ?_)
  refine x_iconst (pc := 47) C dL_refuses_47 ?_
  refine x_iload_n (pc := 48) C 4 rfl dL_refuses_48 ?_
  refine x_bipush (pc := 49) C (by decide +kernel) dL_refuses_49 ?_
  refine x_irem (pc := 51) C (by omega) (by decide) dL_refuses_51 ?_
  refine x_isub (pc := 52) C dL_refuses_52 ?_
  refine x_goto (pc := 53) C 62 dL_refuses_53 (by decide) ?_
  refine x_istore (pc := 62) C [(5, .int (iI ((-1) - (x % 99)))), (4, .int (iI ((-1) - (x % 99)))), (3, .int (iI (nA A 1))), (2, .int (iI (nA A 0))), (0, .ref (bs (gw γ w))), (1, .int (iI x))] dL_refuses_62 (by decide) rfl ?_
  refine x_iload_n (pc := 64) C 5 rfl dL_refuses_64 ?_
  refine x_iconst (pc := 65) C dL_refuses_65 ?_
  refine x_irem (pc := 66) C (by omega) (by decide) dL_refuses_66 ?_
  refine x_if_ne (pc := 67) C 79 (by omega) dL_refuses_67 (by decide) (fun h => by exfalso; omega) (fun h67 => ?_)
  refine x_iconst (pc := 70) C dL_refuses_70 ?_
  refine x_iload_n (pc := 71) C 5 rfl dL_refuses_71 ?_
  refine x_bipush (pc := 72) C (by decide +kernel) dL_refuses_72 ?_
  refine x_irem (pc := 74) C (by omega) (by decide) dL_refuses_74 ?_
  refine x_isub (pc := 75) C dL_refuses_75 ?_
  refine x_goto (pc := 76) C 85 dL_refuses_76 (by decide) ?_
  refine x_istore (pc := 85) C [(6, .int (iI ((-1) - (x % 9)))), (5, .int (iI ((-1) - (x % 99)))), (4, .int (iI ((-1) - (x % 99)))), (3, .int (iI (nA A 1))), (2, .int (iI (nA A 0))), (0, .ref (bs (gw γ w))), (1, .int (iI x))] dL_refuses_85 (by decide) rfl ?_
  refine x_aload_n (pc := 87) C 5 rfl dL_refuses_87 ?_
  refine x_iconst (pc := 88) C dL_refuses_88 ?_
  refine x_iload_n (pc := 89) C 6 rfl dL_refuses_89 ?_
  refine x_iconst (pc := 90) C dL_refuses_90 ?_
  refine x_irem (pc := 91) C (by omega) (by decide) dL_refuses_91 ?_
  refine x_if_ne (pc := 92) C 104 (by omega) dL_refuses_92 (by decide) (fun h => by exfalso; omega) (fun h92 => ?_)
  refine x_iconst (pc := 95) C dL_refuses_95 ?_
  refine x_iload_n (pc := 96) C 6 rfl dL_refuses_96 ?_
  refine x_bipush (pc := 97) C (by decide +kernel) dL_refuses_97 ?_
  refine x_irem (pc := 99) C (by omega) (by decide) dL_refuses_99 ?_
  refine x_isub (pc := 100) C dL_refuses_100 ?_
  refine x_goto (pc := 101) C 112 dL_refuses_101 (by decide) ?_
  refine x_iconst (pc := 112) C dL_refuses_112 ?_
  refine x_iconst (pc := 113) C dL_refuses_113 ?_
  refine x_cs (pc := 114) (a := 2) (m := 1) (S' := S) (z := (-9999002)) (as := [.ref (bs (gw γ w)), .int (iI 0), .int (iI ((-1) - (x % 9))), .int (iI 0), .int (iI 0)]) C (cy_L_call G.1) (wM_L_172 G.1) (ce_tryAppend_1 G w hS (by omega) (by omega)) dL_refuses_114 rfl rfl (by decide) (by decide) (Nat.le_of_ble_eq_true rfl) ⟨by omega, by omega⟩ ?_
  refine x_ldc (pc := 117) C (wC_L_18 G.1) dL_refuses_117 ?_
  refine x_icmp_ne (pc := 119) C 716 (by decide) (by decide) dL_refuses_119 (by decide) (fun h => absurd h (by decide)) (fun h119 => ?_)
  refine x_aload_n (pc := 122) C 5 rfl dL_refuses_122 ?_
  refine x_iconst (pc := 123) C dL_refuses_123 ?_
  refine x_bipush (pc := 124) C (by decide +kernel) dL_refuses_124 ?_
  refine x_iload_n (pc := 126) C 6 rfl dL_refuses_126 ?_
  refine x_bipush (pc := 127) C (by decide +kernel) dL_refuses_127 ?_
  refine x_irem (pc := 129) C (by omega) (by decide) dL_refuses_129 ?_
  refine x_iadd (pc := 130) C dL_refuses_130 ?_
  refine x_iconst (pc := 131) C dL_refuses_131 ?_
  refine x_iconst (pc := 132) C dL_refuses_132 ?_
  refine x_cs (pc := 133) (a := 3) (m := 1) (S' := S) (z := (-9999002)) (as := [.ref (bs (gw γ w)), .int (iI 2), .int (iI (7 + (x % 50))), .int (iI 0), .int (iI 0)]) C (cy_L_call G.1) (wM_L_172 G.1) (ce_tryAbout_1 G w hS (by omega) (by omega)) dL_refuses_133 rfl rfl (by decide) (by decide) (Nat.le_of_ble_eq_true rfl) ⟨by omega, by omega⟩ ?_
  refine x_ldc (pc := 136) C (wC_L_18 G.1) dL_refuses_136 ?_
  refine x_icmp_ne (pc := 138) C 716 (by decide) (by decide) dL_refuses_138 (by decide) (fun h => absurd h (by decide)) (fun h138 => ?_)
  refine x_aload_n (pc := 141) C 5 rfl dL_refuses_141 ?_
  refine x_iconst (pc := 142) C dL_refuses_142 ?_
  refine x_iload (pc := 143) C 2 rfl dL_refuses_143 ?_
  refine x_bipush (pc := 145) C (by decide +kernel) dL_refuses_145 ?_
  refine x_iconst (pc := 147) C dL_refuses_147 ?_
  refine x_cs (pc := 148) (a := 4) (m := 1) (S' := S) (z := (-9999001)) (as := [.ref (bs (gw γ w)), .int (iI 3), .int (iI ((-1) - (x % 99))), .int (iI 99), .int (iI 0)]) C (cy_L_call G.1) (wM_L_172 G.1) (ce_tryTold_1 G w hS (by omega) (by omega) (by omega)) dL_refuses_148 rfl rfl (by decide) (by decide) (Nat.le_of_ble_eq_true rfl) ⟨by omega, by omega⟩ ?_
  refine x_ldc (pc := 151) C (wC_L_15 G.1) dL_refuses_151 ?_
  refine x_icmp_ne (pc := 153) C 716 (by decide) (by decide) dL_refuses_153 (by decide) (fun h => absurd h (by decide)) (fun h153 => ?_)
  refine x_aload_n (pc := 156) C 5 rfl dL_refuses_156 ?_
  refine x_iconst (pc := 157) C dL_refuses_157 ?_
  refine x_iload (pc := 158) C 2 rfl dL_refuses_158 ?_
  refine x_iconst (pc := 160) C dL_refuses_160 ?_
  refine x_iconst (pc := 161) C dL_refuses_161 ?_
  refine x_cs (pc := 162) (a := 5) (m := 1) (S' := S) (z := (-9999001)) (as := [.ref (bs (gw γ w)), .int (iI 4), .int (iI ((-1) - (x % 99))), .int (iI 0), .int (iI 0)]) C (cy_L_call G.1) (wM_L_172 G.1) (ce_tryLeg_1 G w hS (by omega) (by omega) (by omega)) dL_refuses_162 rfl rfl (by decide) (by decide) (Nat.le_of_ble_eq_true rfl) ⟨by omega, by omega⟩ ?_
  refine x_ldc (pc := 165) C (wC_L_15 G.1) dL_refuses_165 ?_
  refine x_icmp_ne (pc := 167) C 716 (by decide) (by decide) dL_refuses_167 (by decide) (fun h => absurd h (by decide)) (fun h167 => ?_)
  refine x_aload_n (pc := 170) C 5 rfl dL_refuses_170 ?_
  refine x_iconst (pc := 171) C dL_refuses_171 ?_
  refine x_iconst (pc := 172) C dL_refuses_172 ?_
  refine x_iload (pc := 173) C 0 rfl dL_refuses_173 ?_
  refine x_iconst (pc := 175) C dL_refuses_175 ?_
  refine x_cs (pc := 176) (a := 6) (m := 1) (S' := S) (z := (-9999001)) (as := [.ref (bs (gw γ w)), .int (iI 4), .int (iI 0), .int (iI ((-1) - (x % 9))), .int (iI 0)]) C (cy_L_call G.1) (wM_L_172 G.1) (ce_tryLeg_1 G w hS (by omega) (by omega) (by omega)) dL_refuses_176 rfl rfl (by decide) (by decide) (Nat.le_of_ble_eq_true rfl) ⟨by omega, by omega⟩ ?_
  refine x_ldc (pc := 179) C (wC_L_15 G.1) dL_refuses_179 ?_
  refine x_icmp_ne (pc := 181) C 716 (by decide) (by decide) dL_refuses_181 (by decide) (fun h => absurd h (by decide)) (fun h181 => ?_)
  refine x_aload_n (pc := 184) C 5 rfl dL_refuses_184 ?_
  refine x_iconst (pc := 185) C dL_refuses_185 ?_
  refine x_iload (pc := 186) C 2 rfl dL_refuses_186 ?_
  refine x_iconst (pc := 188) C dL_refuses_188 ?_
  refine x_bipush (pc := 189) C (by decide +kernel) dL_refuses_189 ?_
  refine x_cs (pc := 191) (a := 7) (m := 1) (S' := S) (z := (-9999001)) (as := [.ref (bs (gw γ w)), .int (iI 5), .int (iI ((-1) - (x % 99))), .int (iI 0), .int (iI 9)]) C (cy_L_call G.1) (wM_L_172 G.1) (ce_tryPush_1 G w hS (by omega) (by omega) (by omega) (by omega)) dL_refuses_191 rfl rfl (by decide) (by decide) (Nat.le_of_ble_eq_true rfl) ⟨by omega, by omega⟩ ?_
  refine x_ldc (pc := 194) C (wC_L_15 G.1) dL_refuses_194 ?_
  refine x_icmp_ne (pc := 196) C 716 (by decide) (by decide) dL_refuses_196 (by decide) (fun h => absurd h (by decide)) (fun h196 => ?_)
  refine x_aload_n (pc := 199) C 5 rfl dL_refuses_199 ?_
  refine x_iconst (pc := 200) C dL_refuses_200 ?_
  refine x_iconst (pc := 201) C dL_refuses_201 ?_
  refine x_iload (pc := 202) C 0 rfl dL_refuses_202 ?_
  refine x_bipush (pc := 204) C (by decide +kernel) dL_refuses_204 ?_
  refine x_cs (pc := 206) (a := 8) (m := 1) (S' := S) (z := (-9999001)) (as := [.ref (bs (gw γ w)), .int (iI 5), .int (iI 0), .int (iI ((-1) - (x % 9))), .int (iI 9)]) C (cy_L_call G.1) (wM_L_172 G.1) (ce_tryPush_1 G w hS (by omega) (by omega) (by omega) (by omega)) dL_refuses_206 rfl rfl (by decide) (by decide) (Nat.le_of_ble_eq_true rfl) ⟨by omega, by omega⟩ ?_
  refine x_ldc (pc := 209) C (wC_L_15 G.1) dL_refuses_209 ?_
  refine x_icmp_ne (pc := 211) C 716 (by decide) (by decide) dL_refuses_211 (by decide) (fun h => absurd h (by decide)) (fun h211 => ?_)
  refine x_aload_n (pc := 214) C 5 rfl dL_refuses_214 ?_
  refine x_bipush (pc := 215) C (by decide +kernel) dL_refuses_215 ?_
  refine x_iload (pc := 217) C 1 rfl dL_refuses_217 ?_
  refine x_bipush (pc := 219) C (by decide +kernel) dL_refuses_219 ?_
  refine x_iconst (pc := 221) C dL_refuses_221 ?_
  refine x_cs (pc := 222) (a := 9) (m := 1) (S' := S) (z := (-9999001)) (as := [.ref (bs (gw γ w)), .int (iI 6), .int (iI ((-1) - (x % 99))), .int (iI 99), .int (iI 0)]) C (cy_L_call G.1) (wM_L_172 G.1) (ce_tryPipe_1 G w hS (by omega) (by omega) (by omega)) dL_refuses_222 rfl rfl (by decide) (by decide) (Nat.le_of_ble_eq_true rfl) ⟨by omega, by omega⟩ ?_
  refine x_ldc (pc := 225) C (wC_L_15 G.1) dL_refuses_225 ?_
  refine x_icmp_ne (pc := 227) C 716 (by decide) (by decide) dL_refuses_227 (by decide) (fun h => absurd h (by decide)) (fun h227 => ?_)
  refine x_aload_n (pc := 230) C 5 rfl dL_refuses_230 ?_
  refine x_bipush (pc := 231) C (by decide +kernel) dL_refuses_231 ?_
  refine x_iconst (pc := 233) C dL_refuses_233 ?_
  refine x_iload_n (pc := 234) C 6 rfl dL_refuses_234 ?_
  refine x_bipush (pc := 235) C (by decide +kernel) dL_refuses_235 ?_
  refine x_irem (pc := 237) C (by omega) (by decide) dL_refuses_237 ?_
  refine x_iadd (pc := 238) C dL_refuses_238 ?_
  refine x_iconst (pc := 239) C dL_refuses_239 ?_
  refine x_iconst (pc := 240) C dL_refuses_240 ?_
  refine x_cs (pc := 241) (a := 10) (m := 1) (S' := S) (z := (-9999002)) (as := [.ref (bs (gw γ w)), .int (iI 7), .int (iI (2 + (x % 9))), .int (iI 0), .int (iI 0)]) C (cy_L_call G.1) (wM_L_172 G.1) (ce_trySetting_1 G w hS (by omega) (by omega)) dL_refuses_241 rfl rfl (by decide) (by decide) (Nat.le_of_ble_eq_true rfl) ⟨by omega, by omega⟩ ?_
  refine x_ldc (pc := 244) C (wC_L_18 G.1) dL_refuses_244 ?_
  refine x_icmp_ne (pc := 246) C 716 (by decide) (by decide) dL_refuses_246 (by decide) (fun h => absurd h (by decide)) (fun h246 => ?_)
  refine x_aload_n (pc := 249) C 5 rfl dL_refuses_249 ?_
  refine x_bipush (pc := 250) C (by decide +kernel) dL_refuses_250 ?_
  refine x_iload_n (pc := 252) C 6 rfl dL_refuses_252 ?_
  refine x_iconst (pc := 253) C dL_refuses_253 ?_
  refine x_irem (pc := 254) C (by omega) (by decide) dL_refuses_254 ?_
  refine x_if_ne (pc := 255) C 262 (by omega) dL_refuses_255 (by decide) (fun h => by exfalso; omega) (fun h255 => ?_)
  refine x_iconst (pc := 258) C dL_refuses_258 ?_
  refine x_goto (pc := 259) C 268 dL_refuses_259 (by decide) ?_
  refine x_bipush (pc := 268) C (by decide +kernel) dL_refuses_268 ?_
  refine x_iconst (pc := 270) C dL_refuses_270 ?_
  refine x_cs (pc := 271) (a := 11) (m := 1) (S' := S) (z := (-9999002)) (as := [.ref (bs (gw γ w)), .int (iI 8), .int (iI (-1)), .int (iI 50), .int (iI 0)]) C (cy_L_call G.1) (wM_L_172 G.1) (ce_tryValve_1 G w hS (by omega) (by omega) (by omega)) dL_refuses_271 rfl rfl (by decide) (by decide) (Nat.le_of_ble_eq_true rfl) ⟨by omega, by omega⟩ ?_
  refine x_ldc (pc := 274) C (wC_L_18 G.1) dL_refuses_274 ?_
  refine x_icmp_ne (pc := 276) C 716 (by decide) (by decide) dL_refuses_276 (by decide) (fun h => absurd h (by decide)) (fun h276 => ?_)
  refine x_aload_n (pc := 279) C 5 rfl dL_refuses_279 ?_
  refine x_bipush (pc := 280) C (by decide +kernel) dL_refuses_280 ?_
  refine x_iconst (pc := 282) C dL_refuses_282 ?_
  refine x_iload_n (pc := 283) C 6 rfl dL_refuses_283 ?_
  refine x_iconst (pc := 284) C dL_refuses_284 ?_
  refine x_irem (pc := 285) C (by omega) (by decide) dL_refuses_285 ?_
  refine x_if_ne (pc := 286) C 294 (by omega) dL_refuses_286 (by decide) (fun h => by exfalso; omega) (fun h286 => ?_)
  refine x_bipush (pc := 289) C (by decide +kernel) dL_refuses_289 ?_
  refine x_goto (pc := 291) C 301 dL_refuses_291 (by decide) ?_
  refine x_iconst (pc := 301) C dL_refuses_301 ?_
  refine x_cs (pc := 302) (a := 12) (m := 1) (S' := S) (z := (-9999002)) (as := [.ref (bs (gw γ w)), .int (iI 8), .int (iI 0), .int (iI 9), .int (iI 0)]) C (cy_L_call G.1) (wM_L_172 G.1) (ce_tryValve_1 G w hS (by omega) (by omega) (by omega)) dL_refuses_302 rfl rfl (by decide) (by decide) (Nat.le_of_ble_eq_true rfl) ⟨by omega, by omega⟩ ?_
  refine x_ldc (pc := 305) C (wC_L_18 G.1) dL_refuses_305 ?_
  refine x_icmp_ne (pc := 307) C 716 (by decide) (by decide) dL_refuses_307 (by decide) (fun h => absurd h (by decide)) (fun h307 => ?_)
  refine x_aload_n (pc := 310) C 5 rfl dL_refuses_310 ?_
  refine x_iload (pc := 311) C 2 rfl dL_refuses_311 ?_
  refine x_iconst (pc := 313) C dL_refuses_313 ?_
  refine x_iconst (pc := 314) C dL_refuses_314 ?_
  refine x_iconst (pc := 315) C dL_refuses_315 ?_
  refine x_iconst (pc := 316) C dL_refuses_316 ?_
  refine x_cw (pc := 317) (a := 13) (m := 1) (S' := S) (z := (-9999001)) (as := [.ref (bs (gw γ w)), .int (iI ((-1) - (x % 99))), .int (iI 0), .int (iI 0), .int (iI 0), .int (iI 1)]) C (cy_L_ducts G.1) (wM_L_176 G.1) (ce_ducts_1 G w hS (by omega) (by omega) (by omega) (by omega) (by omega) (by omega)) dL_refuses_317 rfl rfl (by decide) (by decide) (Nat.le_of_ble_eq_true rfl) ⟨by omega, by omega⟩ ?_
  refine x_ldc (pc := 320) C (wC_L_15 G.1) dL_refuses_320 ?_
  refine x_icmp_ne (pc := 322) C 716 (by decide) (by decide) dL_refuses_322 (by decide) (fun h => absurd h (by decide)) (fun h322 => ?_)
  refine x_aload_n (pc := 325) C 5 rfl dL_refuses_325 ?_
  refine x_iconst (pc := 326) C dL_refuses_326 ?_
  refine x_iload (pc := 327) C 0 rfl dL_refuses_327 ?_
  refine x_iconst (pc := 329) C dL_refuses_329 ?_
  refine x_iconst (pc := 330) C dL_refuses_330 ?_
  refine x_bipush (pc := 331) C (by decide +kernel) dL_refuses_331 ?_
  refine x_cw (pc := 333) (a := 14) (m := 1) (S' := S) (z := (-9999001)) (as := [.ref (bs (gw γ w)), .int (iI 0), .int (iI ((-1) - (x % 9))), .int (iI 0), .int (iI 0), .int (iI 9)]) C (cy_L_ducts G.1) (wM_L_176 G.1) (ce_ducts_1 G w hS (by omega) (by omega) (by omega) (by omega) (by omega) (by omega)) dL_refuses_333 rfl rfl (by decide) (by decide) (Nat.le_of_ble_eq_true rfl) ⟨by omega, by omega⟩ ?_
  refine x_ldc (pc := 336) C (wC_L_15 G.1) dL_refuses_336 ?_
  refine x_icmp_ne (pc := 338) C 716 (by decide) (by decide) dL_refuses_338 (by decide) (fun h => absurd h (by decide)) (fun h338 => ?_)
  refine x_aload_n (pc := 341) C 5 rfl dL_refuses_341 ?_
  refine x_iconst (pc := 342) C dL_refuses_342 ?_
  refine x_iconst (pc := 343) C dL_refuses_343 ?_
  refine x_iload (pc := 344) C 2 rfl dL_refuses_344 ?_
  refine x_iconst (pc := 346) C dL_refuses_346 ?_
  refine x_iconst (pc := 347) C dL_refuses_347 ?_
  refine x_cw (pc := 348) (a := 15) (m := 1) (S' := S) (z := (-9999001)) (as := [.ref (bs (gw γ w)), .int (iI 0), .int (iI 0), .int (iI ((-1) - (x % 99))), .int (iI 0), .int (iI 1)]) C (cy_L_ducts G.1) (wM_L_176 G.1) (ce_ducts_1 G w hS (by omega) (by omega) (by omega) (by omega) (by omega) (by omega)) dL_refuses_348 rfl rfl (by decide) (by decide) (Nat.le_of_ble_eq_true rfl) ⟨by omega, by omega⟩ ?_
  refine x_ldc (pc := 351) C (wC_L_15 G.1) dL_refuses_351 ?_
  refine x_icmp_ne (pc := 353) C 716 (by decide) (by decide) dL_refuses_353 (by decide) (fun h => absurd h (by decide)) (fun h353 => ?_)
  refine x_aload_n (pc := 356) C 5 rfl dL_refuses_356 ?_
  refine x_iconst (pc := 357) C dL_refuses_357 ?_
  refine x_iconst (pc := 358) C dL_refuses_358 ?_
  refine x_iconst (pc := 359) C dL_refuses_359 ?_
  refine x_iload (pc := 360) C 0 rfl dL_refuses_360 ?_
  refine x_iconst (pc := 362) C dL_refuses_362 ?_
  refine x_cw (pc := 363) (a := 16) (m := 1) (S' := S) (z := (-9999001)) (as := [.ref (bs (gw γ w)), .int (iI 0), .int (iI 0), .int (iI 0), .int (iI ((-1) - (x % 9))), .int (iI 1)]) C (cy_L_ducts G.1) (wM_L_176 G.1) (ce_ducts_1 G w hS (by omega) (by omega) (by omega) (by omega) (by omega) (by omega)) dL_refuses_363 rfl rfl (by decide) (by decide) (Nat.le_of_ble_eq_true rfl) ⟨by omega, by omega⟩ ?_
  refine x_ldc (pc := 366) C (wC_L_15 G.1) dL_refuses_366 ?_
  refine x_icmp_ne (pc := 368) C 716 (by decide) (by decide) dL_refuses_368 (by decide) (fun h => absurd h (by decide)) (fun h368 => ?_)
  refine x_aload_n (pc := 371) C 5 rfl dL_refuses_371 ?_
  refine x_bipush (pc := 372) C (by decide +kernel) dL_refuses_372 ?_
  refine x_iload (pc := 374) C 1 rfl dL_refuses_374 ?_
  refine x_iconst (pc := 376) C dL_refuses_376 ?_
  refine x_iconst (pc := 377) C dL_refuses_377 ?_
  refine x_cs (pc := 378) (a := 17) (m := 1) (S' := S) (z := (-9999001)) (as := [.ref (bs (gw γ w)), .int (iI 9), .int (iI ((-1) - (x % 99))), .int (iI 0), .int (iI 0)]) C (cy_L_call G.1) (wM_L_172 G.1) (ce_tryDrop_1 G w hS (by omega) (by omega)) dL_refuses_378 rfl rfl (by decide) (by decide) (Nat.le_of_ble_eq_true rfl) ⟨by omega, by omega⟩ ?_
  refine x_ldc (pc := 381) C (wC_L_15 G.1) dL_refuses_381 ?_
  refine x_icmp_ne (pc := 383) C 716 (by decide) (by decide) dL_refuses_383 (by decide) (fun h => absurd h (by decide)) (fun h383 => ?_)
  refine x_aload_n (pc := 386) C 5 rfl dL_refuses_386 ?_
  refine x_iload (pc := 387) C 2 rfl dL_refuses_387 ?_
  refine x_iconst (pc := 389) C dL_refuses_389 ?_
  refine x_cw (pc := 390) (a := 18) (m := 1) (S' := S) (z := (-9999001)) (as := [.ref (bs (gw γ w)), .int (iI ((-1) - (x % 99))), .int (iI 1)]) C (cy_L_keys G.1) (wM_L_180 G.1) (ce_keys_1 G w hS (by omega) (Or.inr rfl) (by omega)) dL_refuses_390 rfl rfl (by decide) (by decide) (Nat.le_of_ble_eq_true rfl) ⟨by omega, by omega⟩ ?_
  refine x_ldc (pc := 393) C (wC_L_15 G.1) dL_refuses_393 ?_
  refine x_icmp_ne (pc := 395) C 716 (by decide) (by decide) dL_refuses_395 (by decide) (fun h => absurd h (by decide)) (fun h395 => ?_)
  refine x_aload_n (pc := 398) C 5 rfl dL_refuses_398 ?_
  refine x_bipush (pc := 399) C (by decide +kernel) dL_refuses_399 ?_
  refine x_iload (pc := 401) C 1 rfl dL_refuses_401 ?_
  refine x_bipush (pc := 403) C (by decide +kernel) dL_refuses_403 ?_
  refine x_iconst (pc := 405) C dL_refuses_405 ?_
  refine x_cs (pc := 406) (a := 19) (m := 1) (S' := S) (z := (-9999001)) (as := [.ref (bs (gw γ w)), .int (iI 10), .int (iI ((-1) - (x % 99))), .int (iI 99), .int (iI 0)]) C (cy_L_call G.1) (wM_L_172 G.1) (ce_tryLeak_1 G w hS (by omega) (by omega) (by omega)) dL_refuses_406 rfl rfl (by decide) (by decide) (Nat.le_of_ble_eq_true rfl) ⟨by omega, by omega⟩ ?_
  refine x_ldc (pc := 409) C (wC_L_15 G.1) dL_refuses_409 ?_
  refine x_icmp_ne (pc := 411) C 716 (by decide) (by decide) dL_refuses_411 (by decide) (fun h => absurd h (by decide)) (fun h411 => ?_)
  refine x_aload_n (pc := 414) C 5 rfl dL_refuses_414 ?_
  refine x_bipush (pc := 415) C (by decide +kernel) dL_refuses_415 ?_
  refine x_iload (pc := 417) C 2 rfl dL_refuses_417 ?_
  refine x_iconst (pc := 419) C dL_refuses_419 ?_
  refine x_iconst (pc := 420) C dL_refuses_420 ?_
  refine x_cs (pc := 421) (a := 20) (m := 1) (S' := S) (z := (-9999001)) (as := [.ref (bs (gw γ w)), .int (iI 11), .int (iI ((-1) - (x % 99))), .int (iI 0), .int (iI 0)]) C (cy_L_call G.1) (wM_L_172 G.1) (ce_tryFeed_1 G w hS (by omega) (by omega) (by omega)) dL_refuses_421 rfl rfl (by decide) (by decide) (Nat.le_of_ble_eq_true rfl) ⟨by omega, by omega⟩ ?_
  refine x_ldc (pc := 424) C (wC_L_15 G.1) dL_refuses_424 ?_
  refine x_icmp_ne (pc := 426) C 716 (by decide) (by decide) dL_refuses_426 (by decide) (fun h => absurd h (by decide)) (fun h426 => ?_)
  refine x_aload_n (pc := 429) C 5 rfl dL_refuses_429 ?_
  refine x_bipush (pc := 430) C (by decide +kernel) dL_refuses_430 ?_
  refine x_iconst (pc := 432) C dL_refuses_432 ?_
  refine x_iload_n (pc := 433) C 6 rfl dL_refuses_433 ?_
  refine x_iconst (pc := 434) C dL_refuses_434 ?_
  refine x_irem (pc := 435) C (by omega) (by decide) dL_refuses_435 ?_
  refine x_if_ne (pc := 436) C 443 (by omega) dL_refuses_436 (by decide) (fun h => by exfalso; omega) (fun h436 => ?_)
  refine x_iconst (pc := 439) C dL_refuses_439 ?_
  refine x_goto (pc := 440) C 450 dL_refuses_440 (by decide) ?_
  refine x_iconst (pc := 450) C dL_refuses_450 ?_
  refine x_cs (pc := 451) (a := 21) (m := 1) (S' := S) (z := (-9999002)) (as := [.ref (bs (gw γ w)), .int (iI 12), .int (iI 0), .int (iI (-1)), .int (iI 0)]) C (cy_L_call G.1) (wM_L_172 G.1) (ce_tryLay_1 G w hS (by omega) (by omega) (by omega)) dL_refuses_451 rfl rfl (by decide) (by decide) (Nat.le_of_ble_eq_true rfl) ⟨by omega, by omega⟩ ?_
  refine x_ldc (pc := 454) C (wC_L_18 G.1) dL_refuses_454 ?_
  refine x_icmp_ne (pc := 456) C 716 (by decide) (by decide) dL_refuses_456 (by decide) (fun h => absurd h (by decide)) (fun h456 => ?_)
  refine x_aload_n (pc := 459) C 5 rfl dL_refuses_459 ?_
  refine x_bipush (pc := 460) C (by decide +kernel) dL_refuses_460 ?_
  refine x_iconst (pc := 462) C dL_refuses_462 ?_
  refine x_iload_n (pc := 463) C 6 rfl dL_refuses_463 ?_
  refine x_iconst (pc := 464) C dL_refuses_464 ?_
  refine x_irem (pc := 465) C (by omega) (by decide) dL_refuses_465 ?_
  refine x_if_ne (pc := 466) C 473 (by omega) dL_refuses_466 (by decide) (fun h => by exfalso; omega) (fun h466 => ?_)
  refine x_iconst (pc := 469) C dL_refuses_469 ?_
  refine x_goto (pc := 470) C 480 dL_refuses_470 (by decide) ?_
  refine x_iconst (pc := 480) C dL_refuses_480 ?_
  refine x_cs (pc := 481) (a := 22) (m := 1) (S' := S) (z := (-9999002)) (as := [.ref (bs (gw γ w)), .int (iI 12), .int (iI 1), .int (iI 4), .int (iI 0)]) C (cy_L_call G.1) (wM_L_172 G.1) (ce_tryLay_1 G w hS (by omega) (by omega) (by omega)) dL_refuses_481 rfl rfl (by decide) (by decide) (Nat.le_of_ble_eq_true rfl) ⟨by omega, by omega⟩ ?_
  refine x_ldc (pc := 484) C (wC_L_18 G.1) dL_refuses_484 ?_
  refine x_icmp_ne (pc := 486) C 716 (by decide) (by decide) dL_refuses_486 (by decide) (fun h => absurd h (by decide)) (fun h486 => ?_)
  refine x_aload_n (pc := 489) C 5 rfl dL_refuses_489 ?_
  refine x_bipush (pc := 490) C (by decide +kernel) dL_refuses_490 ?_
  refine x_iconst (pc := 492) C dL_refuses_492 ?_
  refine x_iload_n (pc := 493) C 6 rfl dL_refuses_493 ?_
  refine x_bipush (pc := 494) C (by decide +kernel) dL_refuses_494 ?_
  refine x_irem (pc := 496) C (by omega) (by decide) dL_refuses_496 ?_
  refine x_iadd (pc := 497) C dL_refuses_497 ?_
  refine x_iconst (pc := 498) C dL_refuses_498 ?_
  refine x_iconst (pc := 499) C dL_refuses_499 ?_
  refine x_cs (pc := 500) (a := 23) (m := 1) (S' := S) (z := (-9999002)) (as := [.ref (bs (gw γ w)), .int (iI 12), .int (iI (2 + (x % 9))), .int (iI 5), .int (iI 0)]) C (cy_L_call G.1) (wM_L_172 G.1) (ce_tryLay_1 G w hS (by omega) (by omega) (by omega)) dL_refuses_500 rfl rfl (by decide) (by decide) (Nat.le_of_ble_eq_true rfl) ⟨by omega, by omega⟩ ?_
  refine x_ldc (pc := 503) C (wC_L_18 G.1) dL_refuses_503 ?_
  refine x_icmp_ne (pc := 505) C 716 (by decide) (by decide) dL_refuses_505 (by decide) (fun h => absurd h (by decide)) (fun h505 => ?_)
  refine x_aload_n (pc := 508) C 5 rfl dL_refuses_508 ?_
  refine x_bipush (pc := 509) C (by decide +kernel) dL_refuses_509 ?_
  refine x_iload_n (pc := 511) C 6 rfl dL_refuses_511 ?_
  refine x_iconst (pc := 512) C dL_refuses_512 ?_
  refine x_irem (pc := 513) C (by omega) (by decide) dL_refuses_513 ?_
  refine x_if_ne (pc := 514) C 521 (by omega) dL_refuses_514 (by decide) (fun h => by exfalso; omega) (fun h514 => ?_)
  refine x_iconst (pc := 517) C dL_refuses_517 ?_
  refine x_goto (pc := 518) C 528 dL_refuses_518 (by decide) ?_
  refine x_iconst (pc := 528) C dL_refuses_528 ?_
  refine x_iconst (pc := 529) C dL_refuses_529 ?_
  refine x_cs (pc := 530) (a := 24) (m := 1) (S' := S) (z := (-9999002)) (as := [.ref (bs (gw γ w)), .int (iI 13), .int (iI 0), .int (iI 0), .int (iI 0)]) C (cy_L_call G.1) (wM_L_172 G.1) (ce_tryTicks_1 G w hS (by omega) (by omega)) dL_refuses_530 rfl rfl (by decide) (by decide) (Nat.le_of_ble_eq_true rfl) ⟨by omega, by omega⟩ ?_
  refine x_ldc (pc := 533) C (wC_L_18 G.1) dL_refuses_533 ?_
  refine x_icmp_ne (pc := 535) C 716 (by decide) (by decide) dL_refuses_535 (by decide) (fun h => absurd h (by decide)) (fun h535 => ?_)
  refine x_aload_n (pc := 538) C 5 rfl dL_refuses_538 ?_
  refine x_bipush (pc := 539) C (by decide +kernel) dL_refuses_539 ?_
  refine x_iload (pc := 541) C 2 rfl dL_refuses_541 ?_
  refine x_iconst (pc := 543) C dL_refuses_543 ?_
  refine x_iconst (pc := 544) C dL_refuses_544 ?_
  refine x_cs (pc := 545) (a := 25) (m := 1) (S' := S) (z := (-9999001)) (as := [.ref (bs (gw γ w)), .int (iI 15), .int (iI ((-1) - (x % 99))), .int (iI 0), .int (iI 0)]) C (cy_L_call G.1) (wM_L_172 G.1) (ce_tryBeat_1 G w hS (by omega) (by omega)) dL_refuses_545 rfl rfl (by decide) (by decide) (Nat.le_of_ble_eq_true rfl) ⟨by omega, by omega⟩ ?_
  refine x_ldc (pc := 548) C (wC_L_15 G.1) dL_refuses_548 ?_
  refine x_icmp_ne (pc := 550) C 716 (by decide) (by decide) dL_refuses_550 (by decide) (fun h => absurd h (by decide)) (fun h550 => ?_)
  refine x_aload_n (pc := 553) C 5 rfl dL_refuses_553 ?_
  refine x_bipush (pc := 554) C (by decide +kernel) dL_refuses_554 ?_
  refine x_iload (pc := 556) C 2 rfl dL_refuses_556 ?_
  refine x_iconst (pc := 558) C dL_refuses_558 ?_
  refine x_iconst (pc := 559) C dL_refuses_559 ?_
  refine x_cs (pc := 560) (a := 26) (m := 1) (S' := S) (z := (-9999001)) (as := [.ref (bs (gw γ w)), .int (iI 16), .int (iI ((-1) - (x % 99))), .int (iI 0), .int (iI 0)]) C (cy_L_call G.1) (wM_L_172 G.1) (ce_tryRule_1 G w hS (by omega) (by omega) (by omega) (by omega)) dL_refuses_560 rfl rfl (by decide) (by decide) (Nat.le_of_ble_eq_true rfl) ⟨by omega, by omega⟩ ?_
  refine x_ldc (pc := 563) C (wC_L_15 G.1) dL_refuses_563 ?_
  refine x_icmp_ne (pc := 565) C 716 (by decide) (by decide) dL_refuses_565 (by decide) (fun h => absurd h (by decide)) (fun h565 => ?_)
  refine x_aload_n (pc := 568) C 5 rfl dL_refuses_568 ?_
  refine x_bipush (pc := 569) C (by decide +kernel) dL_refuses_569 ?_
  refine x_iconst (pc := 571) C dL_refuses_571 ?_
  refine x_iload (pc := 572) C 2 rfl dL_refuses_572 ?_
  refine x_iconst (pc := 574) C dL_refuses_574 ?_
  refine x_cs (pc := 575) (a := 27) (m := 1) (S' := S) (z := (-9999001)) (as := [.ref (bs (gw γ w)), .int (iI 16), .int (iI 0), .int (iI ((-1) - (x % 99))), .int (iI 0)]) C (cy_L_call G.1) (wM_L_172 G.1) (ce_tryRule_1 G w hS (by omega) (by omega) (by omega) (by omega)) dL_refuses_575 rfl rfl (by decide) (by decide) (Nat.le_of_ble_eq_true rfl) ⟨by omega, by omega⟩ ?_
  refine x_ldc (pc := 578) C (wC_L_15 G.1) dL_refuses_578 ?_
  refine x_icmp_ne (pc := 580) C 716 (by decide) (by decide) dL_refuses_580 (by decide) (fun h => absurd h (by decide)) (fun h580 => ?_)
  refine x_aload_n (pc := 583) C 5 rfl dL_refuses_583 ?_
  refine x_bipush (pc := 584) C (by decide +kernel) dL_refuses_584 ?_
  refine x_iconst (pc := 586) C dL_refuses_586 ?_
  refine x_iconst (pc := 587) C dL_refuses_587 ?_
  refine x_iload (pc := 588) C 2 rfl dL_refuses_588 ?_
  refine x_cs (pc := 590) (a := 28) (m := 1) (S' := S) (z := (-9999001)) (as := [.ref (bs (gw γ w)), .int (iI 16), .int (iI 0), .int (iI 0), .int (iI ((-1) - (x % 99)))]) C (cy_L_call G.1) (wM_L_172 G.1) (ce_tryRule_1 G w hS (by omega) (by omega) (by omega) (by omega)) dL_refuses_590 rfl rfl (by decide) (by decide) (Nat.le_of_ble_eq_true rfl) ⟨by omega, by omega⟩ ?_
  refine x_ldc (pc := 593) C (wC_L_15 G.1) dL_refuses_593 ?_
  refine x_icmp_ne (pc := 595) C 716 (by decide) (by decide) dL_refuses_595 (by decide) (fun h => absurd h (by decide)) (fun h595 => ?_)
  refine x_aload_n (pc := 598) C 5 rfl dL_refuses_598 ?_
  refine x_bipush (pc := 599) C (by decide +kernel) dL_refuses_599 ?_
  refine x_iload (pc := 601) C 1 rfl dL_refuses_601 ?_
  refine x_bipush (pc := 603) C (by decide +kernel) dL_refuses_603 ?_
  refine x_iconst (pc := 605) C dL_refuses_605 ?_
  refine x_cs (pc := 606) (a := 29) (m := 1) (S' := S) (z := (-9999001)) (as := [.ref (bs (gw γ w)), .int (iI 17), .int (iI ((-1) - (x % 99))), .int (iI 99), .int (iI 0)]) C (cy_L_call G.1) (wM_L_172 G.1) (ce_tryIf_1 G w hS (by omega) (by omega) (by omega) (by omega)) dL_refuses_606 rfl rfl (by decide) (by decide) (Nat.le_of_ble_eq_true rfl) ⟨by omega, by omega⟩ ?_
  refine x_ldc (pc := 609) C (wC_L_15 G.1) dL_refuses_609 ?_
  refine x_icmp_ne (pc := 611) C 716 (by decide) (by decide) dL_refuses_611 (by decide) (fun h => absurd h (by decide)) (fun h611 => ?_)
  refine x_aload_n (pc := 614) C 5 rfl dL_refuses_614 ?_
  refine x_bipush (pc := 615) C (by decide +kernel) dL_refuses_615 ?_
  refine x_iload (pc := 617) C 2 rfl dL_refuses_617 ?_
  refine x_iconst (pc := 619) C dL_refuses_619 ?_
  refine x_iconst (pc := 620) C dL_refuses_620 ?_
  refine x_cs (pc := 621) (a := 30) (m := 1) (S' := S) (z := (-9999001)) (as := [.ref (bs (gw γ w)), .int (iI 18), .int (iI ((-1) - (x % 99))), .int (iI 0), .int (iI 0)]) C (cy_L_call G.1) (wM_L_172 G.1) (ce_trySuspect_1 G w hS (by omega) (by omega) (by omega)) dL_refuses_621 rfl rfl (by decide) (by decide) (Nat.le_of_ble_eq_true rfl) ⟨by omega, by omega⟩ ?_
  refine x_ldc (pc := 624) C (wC_L_15 G.1) dL_refuses_624 ?_
  refine x_icmp_ne (pc := 626) C 716 (by decide) (by decide) dL_refuses_626 (by decide) (fun h => absurd h (by decide)) (fun h626 => ?_)
  refine x_aload_n (pc := 629) C 5 rfl dL_refuses_629 ?_
  refine x_bipush (pc := 630) C (by decide +kernel) dL_refuses_630 ?_
  refine x_iconst (pc := 632) C dL_refuses_632 ?_
  refine x_iload_n (pc := 633) C 6 rfl dL_refuses_633 ?_
  refine x_bipush (pc := 634) C (by decide +kernel) dL_refuses_634 ?_
  refine x_irem (pc := 636) C (by omega) (by decide) dL_refuses_636 ?_
  refine x_iadd (pc := 637) C dL_refuses_637 ?_
  refine x_iconst (pc := 638) C dL_refuses_638 ?_
  refine x_iconst (pc := 639) C dL_refuses_639 ?_
  refine x_cs (pc := 640) (a := 31) (m := 1) (S' := S) (z := (-9999001)) (as := [.ref (bs (gw γ w)), .int (iI 19), .int (iI (2 + (x % 50))), .int (iI 0), .int (iI 0)]) C (cy_L_call G.1) (wM_L_172 G.1) (ce_tryKeep_1 G w hS (by omega) (by omega)) dL_refuses_640 rfl rfl (by decide) (by decide) (Nat.le_of_ble_eq_true rfl) ⟨by omega, by omega⟩ ?_
  refine x_ldc (pc := 643) C (wC_L_15 G.1) dL_refuses_643 ?_
  refine x_icmp_ne (pc := 645) C 716 (by decide) (by decide) dL_refuses_645 (by decide) (fun h => absurd h (by decide)) (fun h645 => ?_)
  refine x_aload_n (pc := 648) C 5 rfl dL_refuses_648 ?_
  refine x_bipush (pc := 649) C (by decide +kernel) dL_refuses_649 ?_
  refine x_iconst (pc := 651) C dL_refuses_651 ?_
  refine x_iload_n (pc := 652) C 6 rfl dL_refuses_652 ?_
  refine x_bipush (pc := 653) C (by decide +kernel) dL_refuses_653 ?_
  refine x_irem (pc := 655) C (by omega) (by decide) dL_refuses_655 ?_
  refine x_isub (pc := 656) C dL_refuses_656 ?_
  refine x_iconst (pc := 657) C dL_refuses_657 ?_
  refine x_iconst (pc := 658) C dL_refuses_658 ?_
  refine x_cs (pc := 659) (a := 32) (m := 1) (S' := S) (z := (-9999001)) (as := [.ref (bs (gw γ w)), .int (iI 20), .int (iI ((-1) - (x % 9))), .int (iI 0), .int (iI 0)]) C (cy_L_call G.1) (wM_L_172 G.1) (ce_tryBack_1 G w hS (by omega) (by omega)) dL_refuses_659 rfl rfl (by decide) (by decide) (Nat.le_of_ble_eq_true rfl) ⟨by omega, by omega⟩ ?_
  refine x_ldc (pc := 662) C (wC_L_15 G.1) dL_refuses_662 ?_
  refine x_icmp_ne (pc := 664) C 716 (by decide) (by decide) dL_refuses_664 (by decide) (fun h => absurd h (by decide)) (fun h664 => ?_)
  refine x_aload_n (pc := 667) C 5 rfl dL_refuses_667 ?_
  refine x_iconst (pc := 668) C dL_refuses_668 ?_
  refine x_lconst (pc := 669) C (z := 0) rfl dL_refuses_669 ?_
  refine x_cw (pc := 670) (a := 33) (m := 1) (S' := S) (z := (-9999002)) (as := [.ref (bs (gw γ w)), .int (iI 0), .long (lI 0)]) C (cy_L_doScript G.1) (wM_L_184 G.1) (ce_doScript_1 G w hS (by decide) (by decide) (fun q => absurd q.1 (by decide))) dL_refuses_670 rfl rfl (by decide) (by decide) (Nat.le_of_ble_eq_true rfl) ⟨by omega, by omega⟩ ?_
  refine x_ldc (pc := 673) C (wC_L_18 G.1) dL_refuses_673 ?_
  refine x_icmp_ne (pc := 675) C 716 (by decide) (by decide) dL_refuses_675 (by decide) (fun h => absurd h (by decide)) (fun h675 => ?_)
  refine x_aload_n (pc := 678) C 5 rfl dL_refuses_678 ?_
  refine x_iconst (pc := 679) C dL_refuses_679 ?_
  refine x_ldc2 (pc := 680) C (wCL_L_188 G.1) dL_refuses_680 ?_
  refine x_iload_n (pc := 683) C 6 rfl dL_refuses_683 ?_
  refine x_i2l (pc := 684) C (by omega) dL_refuses_684 ?_
  refine x_ladd (pc := 685) C dL_refuses_685 ?_
  refine x_cw (pc := 686) (a := 34) (m := 1) (S' := S) (z := (-9999002)) (as := [.ref (bs (gw γ w)), .int (iI 1), .long (lI (1000000 + x))]) C (cy_L_doScript G.1) (wM_L_184 G.1) (ce_doScript_1 G w hS (by decide) (by omega) (fun q => by have q2 := q.2.2; rw [show (1000000 : Int) ^ (1 : Int).toNat - 1 = 999999 from by decide] at q2; omega)) dL_refuses_686 rfl rfl (by decide) (by decide) (Nat.le_of_ble_eq_true rfl) ⟨by omega, by omega⟩ ?_
  refine x_ldc (pc := 689) C (wC_L_18 G.1) dL_refuses_689 ?_
  refine x_icmp_ne (pc := 691) C 716 (by decide) (by decide) dL_refuses_691 (by decide) (fun h => absurd h (by decide)) (fun h691 => ?_)
  refine x_aload_n (pc := 694) C 5 rfl dL_refuses_694 ?_
  refine x_iload_n (pc := 695) C 6 rfl dL_refuses_695 ?_
  refine x_i2l (pc := 696) C (by omega) dL_refuses_696 ?_
  refine x_bipush (pc := 697) C (by decide +kernel) dL_refuses_697 ?_
  refine x_iload_n (pc := 699) C 6 rfl dL_refuses_699 ?_
  refine x_bipush (pc := 700) C (by decide +kernel) dL_refuses_700 ?_
  refine x_irem (pc := 702) C (by omega) (by decide) dL_refuses_702 ?_
  refine x_iadd (pc := 703) C dL_refuses_703 ?_
  refine x_cw (pc := 704) (a := 35) (m := 1) (S' := S) (z := (-9999002)) (as := [.ref (bs (gw γ w)), .long (lI x), .int (iI (61 + (x % 9)))]) C (cy_L_doSimulate G.1) (wM_L_190 G.1) (ce_doSimulate_1 G w hS (by omega) (by omega)) dL_refuses_704 rfl rfl (by decide) (by decide) (Nat.le_of_ble_eq_true rfl) ⟨by omega, by omega⟩ ?_
  refine x_ldc (pc := 707) C (wC_L_18 G.1) dL_refuses_707 ?_
  refine x_icmp_ne (pc := 709) C 716 (by decide) (by decide) dL_refuses_709 (by decide) (fun h => absurd h (by decide)) (fun h709 => ?_)
  refine x_iconst (pc := 712) C dL_refuses_712 ?_
  refine x_goto (pc := 713) C 717 dL_refuses_713 (by decide) ?_
  refine x_istore (pc := 717) C [(7, .int (iI 1)), (6, .int (iI ((-1) - (x % 9)))), (5, .int (iI ((-1) - (x % 99)))), (4, .int (iI ((-1) - (x % 99)))), (3, .int (iI (nA A 1))), (2, .int (iI (nA A 0))), (0, .ref (bs (gw γ w))), (1, .int (iI x))] dL_refuses_717 (by decide) rfl ?_
  refine x_iload_n (pc := 719) C 7 rfl dL_refuses_719 ?_
  refine x_iload_n (pc := 720) C 5 rfl dL_refuses_720 ?_
  refine x_irem (pc := 721) C (by omega) (by omega) dL_refuses_721 ?_
  refine x_nm (fun v ev => ?_)
  have hv : 0 ≤ v ∧ v < nA A 0 := ⟨ev ▸ Int.emod_nonneg _ (by omega), ev ▸ Int.emod_lt_of_pos _ (by omega)⟩
  refine x_istore (pc := 722) C [(8, .int (iI v)), (7, .int (iI 1)), (6, .int (iI ((-1) - (x % 9)))), (5, .int (iI ((-1) - (x % 99)))), (4, .int (iI ((-1) - (x % 99)))), (3, .int (iI (nA A 1))), (2, .int (iI (nA A 0))), (0, .ref (bs (gw γ w))), (1, .int (iI x))] dL_refuses_722 (by decide) rfl ?_
  refine x_iload (pc := 724) C 1 rfl dL_refuses_724 ?_
  refine x_if_eq (pc := 726) C 909 (by decide) dL_refuses_726 (by decide) (fun h => absurd h (by decide)) (fun h726 => ?_)
  refine x_aload_n (pc := 729) C 7 rfl dL_refuses_729 ?_
  refine x_iconst (pc := 730) C dL_refuses_730 ?_
  refine x_iload (pc := 731) C 0 rfl dL_refuses_731 ?_
  refine x_iconst (pc := 733) C dL_refuses_733 ?_
  refine x_iload_n (pc := 734) C 8 rfl dL_refuses_734 ?_
  refine x_bipush (pc := 735) C (by decide +kernel) dL_refuses_735 ?_
  refine x_irem (pc := 737) C (by omega) (by decide) dL_refuses_737 ?_
  refine x_iadd (pc := 738) C dL_refuses_738 ?_
  refine x_iconst (pc := 739) C dL_refuses_739 ?_
  refine x_cs (pc := 740) (a := 36) (m := 1) (S' := S) (z := (-9999002)) (as := [.ref (bs (gw γ w)), .int (iI 3), .int (iI v), .int (iI (5 + (x % 9))), .int (iI 0)]) C (cy_L_call G.1) (wM_L_172 G.1) (ce_tryTold_2 G w hS (by omega) (by omega) (by omega) (by omega)) dL_refuses_740 rfl rfl (by decide) (by decide) (Nat.le_of_ble_eq_true rfl) ⟨by omega, by omega⟩ ?_
  refine x_ldc (pc := 743) C (wC_L_18 G.1) dL_refuses_743 ?_
  refine x_icmp_ne (pc := 745) C 909 (by decide) (by decide) dL_refuses_745 (by decide) (fun h => absurd h (by decide)) (fun h745 => ?_)
  refine x_aload_n (pc := 748) C 7 rfl dL_refuses_748 ?_
  refine x_iconst (pc := 749) C dL_refuses_749 ?_
  refine x_iload (pc := 750) C 0 rfl dL_refuses_750 ?_
  refine x_iload_n (pc := 752) C 8 rfl dL_refuses_752 ?_
  refine x_iconst (pc := 753) C dL_refuses_753 ?_
  refine x_irem (pc := 754) C (by omega) (by decide) dL_refuses_754 ?_
  refine x_iconst (pc := 755) C dL_refuses_755 ?_
  refine x_iload_n (pc := 756) C 8 rfl dL_refuses_756 ?_
  refine x_bipush (pc := 757) C (by decide +kernel) dL_refuses_757 ?_
  refine x_irem (pc := 759) C (by omega) (by decide) dL_refuses_759 ?_
  refine x_iadd (pc := 760) C dL_refuses_760 ?_
  refine x_cs (pc := 761) (a := 37) (m := 1) (S' := S) (z := (-9999002)) (as := [.ref (bs (gw γ w)), .int (iI 5), .int (iI v), .int (iI (x % 2)), .int (iI (2 + (x % 9)))]) C (cy_L_call G.1) (wM_L_172 G.1) (ce_tryPush_2 G w hS (by omega) (by omega) (by omega) (by omega) (by omega)) dL_refuses_761 rfl rfl (by decide) (by decide) (Nat.le_of_ble_eq_true rfl) ⟨by omega, by omega⟩ ?_
  refine x_ldc (pc := 764) C (wC_L_18 G.1) dL_refuses_764 ?_
  refine x_icmp_ne (pc := 766) C 909 (by decide) (by decide) dL_refuses_766 (by decide) (fun h => absurd h (by decide)) (fun h766 => ?_)
  refine x_aload_n (pc := 769) C 7 rfl dL_refuses_769 ?_
  refine x_iload (pc := 770) C 0 rfl dL_refuses_770 ?_
  refine x_iconst (pc := 772) C dL_refuses_772 ?_
  refine x_iload (pc := 773) C 0 rfl dL_refuses_773 ?_
  refine x_iconst (pc := 775) C dL_refuses_775 ?_
  refine x_iload_n (pc := 776) C 8 rfl dL_refuses_776 ?_
  refine x_iconst (pc := 777) C dL_refuses_777 ?_
  refine x_irem (pc := 778) C (by omega) (by decide) dL_refuses_778 ?_
  refine x_if_ne (pc := 779) C 786 (by omega) dL_refuses_779 (by decide) (fun h => by exfalso; omega) (fun h779 => ?_)
  refine x_iconst (pc := 782) C dL_refuses_782 ?_
  refine x_goto (pc := 783) C 793 dL_refuses_783 (by decide) ?_
  refine x_cw (pc := 793) (a := 38) (m := 1) (S' := S) (z := (-9999002)) (as := [.ref (bs (gw γ w)), .int (iI v), .int (iI 0), .int (iI v), .int (iI 1), .int (iI 0)]) C (cy_L_ducts G.1) (wM_L_176 G.1) (ce_ducts_2 G w hS (by omega) (by omega) (by omega) (by omega) (by omega) (by omega) (by omega)) dL_refuses_793 rfl rfl (by decide) (by decide) (Nat.le_of_ble_eq_true rfl) ⟨by omega, by omega⟩ ?_
  refine x_ldc (pc := 796) C (wC_L_18 G.1) dL_refuses_796 ?_
  refine x_icmp_ne (pc := 798) C 909 (by decide) (by decide) dL_refuses_798 (by decide) (fun h => absurd h (by decide)) (fun h798 => ?_)
  refine x_aload_n (pc := 801) C 7 rfl dL_refuses_801 ?_
  refine x_bipush (pc := 802) C (by decide +kernel) dL_refuses_802 ?_
  refine x_iload (pc := 804) C 0 rfl dL_refuses_804 ?_
  refine x_iload_n (pc := 806) C 8 rfl dL_refuses_806 ?_
  refine x_iconst (pc := 807) C dL_refuses_807 ?_
  refine x_irem (pc := 808) C (by omega) (by decide) dL_refuses_808 ?_
  refine x_if_ne (pc := 809) C 817 (by omega) dL_refuses_809 (by decide) (fun h => by exfalso; omega) (fun h809 => ?_)
  refine x_bipush (pc := 812) C (by decide +kernel) dL_refuses_812 ?_
  refine x_goto (pc := 814) C 824 dL_refuses_814 (by decide) ?_
  refine x_iconst (pc := 824) C dL_refuses_824 ?_
  refine x_cs (pc := 825) (a := 39) (m := 1) (S' := S) (z := (-9999002)) (as := [.ref (bs (gw γ w)), .int (iI 11), .int (iI v), .int (iI 9), .int (iI 0)]) C (cy_L_call G.1) (wM_L_172 G.1) (ce_tryFeed_2 G w hS (by omega) (by omega) (by omega) (by omega)) dL_refuses_825 rfl rfl (by decide) (by decide) (Nat.le_of_ble_eq_true rfl) ⟨by omega, by omega⟩ ?_
  refine x_ldc (pc := 828) C (wC_L_18 G.1) dL_refuses_828 ?_
  refine x_icmp_ne (pc := 830) C 909 (by decide) (by decide) dL_refuses_830 (by decide) (fun h => absurd h (by decide)) (fun h830 => ?_)
  refine x_aload_n (pc := 833) C 7 rfl dL_refuses_833 ?_
  refine x_bipush (pc := 834) C (by decide +kernel) dL_refuses_834 ?_
  refine x_iload (pc := 836) C 0 rfl dL_refuses_836 ?_
  refine x_iload (pc := 838) C 0 rfl dL_refuses_838 ?_
  refine x_iconst (pc := 840) C dL_refuses_840 ?_
  refine x_cs (pc := 841) (a := 40) (m := 1) (S' := S) (z := (-9999002)) (as := [.ref (bs (gw γ w)), .int (iI 16), .int (iI v), .int (iI v), .int (iI 0)]) C (cy_L_call G.1) (wM_L_172 G.1) (ce_tryRule_2 G w hS (by omega) (by omega) (by omega) (by omega) (fun q => q.1 rfl)) dL_refuses_841 rfl rfl (by decide) (by decide) (Nat.le_of_ble_eq_true rfl) ⟨by omega, by omega⟩ ?_
  refine x_ldc (pc := 844) C (wC_L_18 G.1) dL_refuses_844 ?_
  refine x_icmp_ne (pc := 846) C 909 (by decide) (by decide) dL_refuses_846 (by decide) (fun h => absurd h (by decide)) (fun h846 => ?_)
  refine x_aload_n (pc := 849) C 7 rfl dL_refuses_849 ?_
  refine x_bipush (pc := 850) C (by decide +kernel) dL_refuses_850 ?_
  refine x_iload (pc := 852) C 0 rfl dL_refuses_852 ?_
  refine x_iload_n (pc := 854) C 8 rfl dL_refuses_854 ?_
  refine x_iconst (pc := 855) C dL_refuses_855 ?_
  refine x_irem (pc := 856) C (by omega) (by decide) dL_refuses_856 ?_
  refine x_if_ne (pc := 857) C 864 (by omega) dL_refuses_857 (by decide) (fun h => by exfalso; omega) (fun h857 => ?_)
  refine x_iconst (pc := 860) C dL_refuses_860 ?_
  refine x_goto (pc := 861) C 872 dL_refuses_861 (by decide) ?_
  refine x_iconst (pc := 872) C dL_refuses_872 ?_
  refine x_cs (pc := 873) (a := 41) (m := 1) (S' := S) (z := (-9999002)) (as := [.ref (bs (gw γ w)), .int (iI 18), .int (iI v), .int (iI 0), .int (iI 0)]) C (cy_L_call G.1) (wM_L_172 G.1) (ce_trySuspect_2 G w hS (by omega) (by omega) (by omega) (by omega)) dL_refuses_873 rfl rfl (by decide) (by decide) (Nat.le_of_ble_eq_true rfl) ⟨by omega, by omega⟩ ?_
  refine x_ldc (pc := 876) C (wC_L_18 G.1) dL_refuses_876 ?_
  refine x_icmp_ne (pc := 878) C 909 (by decide) (by decide) dL_refuses_878 (by decide) (fun h => absurd h (by decide)) (fun h878 => ?_)
  refine x_aload_n (pc := 881) C 7 rfl dL_refuses_881 ?_
  refine x_iconst (pc := 882) C dL_refuses_882 ?_
  refine x_iload (pc := 883) C 0 rfl dL_refuses_883 ?_
  refine x_iconst (pc := 885) C dL_refuses_885 ?_
  refine x_iconst (pc := 886) C dL_refuses_886 ?_
  refine x_cs (pc := 887) (a := 42) (m := 1) (S' := S) (z := nA A (6 + 7 * v + 0)) (as := [.ref (bs (gw γ w)), .int (iI 3), .int (iI v), .int (iI 0), .int (iI 0)]) C (cy_L_call G.1) (wM_L_172 G.1) (t_told0 G w hS hO (v := v) hv) dL_refuses_887 rfl rfl (by decide) (by decide) (Nat.le_of_ble_eq_true rfl) ⟨by omega, by omega⟩ ?_
  refine x_if_eq (pc := 890) C 905 (by obtain ⟨q0, -⟩ := hO.wf.2.2.2.2.1 v hv.1 hv.2; omega) dL_refuses_890 (by decide) (fun h890 => ?_) (fun h890 => ?_)
  · refine x_iconst (pc := 905) C dL_refuses_905 ?_
    refine x_goto (pc := 906) C 910 dL_refuses_906 (by decide) ?_
    refine x_istore (pc := 910) C [(7, .int (iI 1)), (8, .int (iI v)), (6, .int (iI ((-1) - (x % 9)))), (5, .int (iI ((-1) - (x % 99)))), (4, .int (iI ((-1) - (x % 99)))), (3, .int (iI (nA A 1))), (2, .int (iI (nA A 0))), (0, .ref (bs (gw γ w))), (1, .int (iI x))] dL_refuses_910 (by decide) rfl ?_
    refine x_iload (pc := 912) C 0 rfl dL_refuses_912 ?_
    refine x_if_eq (pc := 914) C 1000 (by decide) dL_refuses_914 (by decide) (fun h => absurd h (by decide)) (fun h914 => ?_)
    refine x_iload_n (pc := 917) C 5 rfl dL_refuses_917 ?_
    refine x_if_eq (pc := 918) C 996 (by omega) dL_refuses_918 (by decide) (fun h918 => ?_) (fun h918 => ?_)
    · refine x_iconst (pc := 996) C dL_refuses_996 ?_
      refine x_goto (pc := 997) C 1001 dL_refuses_997 (by decide) ?_
      exact x_ret (pc := 1001) C (by omega) hr rfl dL_refuses_1001 rfl rfl
    · refine x_aload_n (pc := 921) C 7 rfl dL_refuses_921 ?_
      refine x_bipush (pc := 922) C (by decide +kernel) dL_refuses_922 ?_
      refine x_iconst (pc := 924) C dL_refuses_924 ?_
      refine x_bipush (pc := 925) C (by decide +kernel) dL_refuses_925 ?_
      refine x_iload_n (pc := 927) C 8 rfl dL_refuses_927 ?_
      refine x_bipush (pc := 928) C (by decide +kernel) dL_refuses_928 ?_
      refine x_irem (pc := 930) C (by omega) (by decide) dL_refuses_930 ?_
      refine x_iadd (pc := 931) C dL_refuses_931 ?_
      refine x_iconst (pc := 932) C dL_refuses_932 ?_
      refine x_cs (pc := 933) (a := 43) (m := 1) (S' := S) (z := (-9999002)) (as := [.ref (bs (gw γ w)), .int (iI 6), .int (iI 0), .int (iI (8 + (x % 9))), .int (iI 0)]) C (cy_L_call G.1) (wM_L_172 G.1) (ce_tryPipe_2 G w hS (by omega) (by omega) (by omega) (by omega)) dL_refuses_933 rfl rfl (by decide) (by decide) (Nat.le_of_ble_eq_true rfl) ⟨by omega, by omega⟩ ?_
      refine x_ldc (pc := 936) C (wC_L_18 G.1) dL_refuses_936 ?_
      refine x_icmp_ne (pc := 938) C 1000 (by decide) (by decide) dL_refuses_938 (by decide) (fun h => absurd h (by decide)) (fun h938 => ?_)
      refine x_aload_n (pc := 941) C 7 rfl dL_refuses_941 ?_
      refine x_bipush (pc := 942) C (by decide +kernel) dL_refuses_942 ?_
      refine x_iconst (pc := 944) C dL_refuses_944 ?_
      refine x_bipush (pc := 945) C (by decide +kernel) dL_refuses_945 ?_
      refine x_iload_n (pc := 947) C 8 rfl dL_refuses_947 ?_
      refine x_bipush (pc := 948) C (by decide +kernel) dL_refuses_948 ?_
      refine x_irem (pc := 950) C (by omega) (by decide) dL_refuses_950 ?_
      refine x_iadd (pc := 951) C dL_refuses_951 ?_
      refine x_iconst (pc := 952) C dL_refuses_952 ?_
      refine x_cs (pc := 953) (a := 44) (m := 1) (S' := S) (z := (-9999002)) (as := [.ref (bs (gw γ w)), .int (iI 10), .int (iI 0), .int (iI (31 + (x % 9))), .int (iI 0)]) C (cy_L_call G.1) (wM_L_172 G.1) (ce_tryLeak_2 G w hS (by omega) (by omega) (by omega) (by omega)) dL_refuses_953 rfl rfl (by decide) (by decide) (Nat.le_of_ble_eq_true rfl) ⟨by omega, by omega⟩ ?_
      refine x_ldc (pc := 956) C (wC_L_18 G.1) dL_refuses_956 ?_
      refine x_icmp_ne (pc := 958) C 1000 (by decide) (by decide) dL_refuses_958 (by decide) (fun h => absurd h (by decide)) (fun h958 => ?_)
      refine x_aload_n (pc := 961) C 7 rfl dL_refuses_961 ?_
      refine x_bipush (pc := 962) C (by decide +kernel) dL_refuses_962 ?_
      refine x_iconst (pc := 964) C dL_refuses_964 ?_
      refine x_bipush (pc := 965) C (by decide +kernel) dL_refuses_965 ?_
      refine x_iload_n (pc := 967) C 8 rfl dL_refuses_967 ?_
      refine x_bipush (pc := 968) C (by decide +kernel) dL_refuses_968 ?_
      refine x_irem (pc := 970) C (by omega) (by decide) dL_refuses_970 ?_
      refine x_iadd (pc := 971) C dL_refuses_971 ?_
      refine x_iconst (pc := 972) C dL_refuses_972 ?_
      refine x_cs (pc := 973) (a := 45) (m := 1) (S' := S) (z := (-9999002)) (as := [.ref (bs (gw γ w)), .int (iI 17), .int (iI 0), .int (iI (31 + (x % 9))), .int (iI 0)]) C (cy_L_call G.1) (wM_L_172 G.1) (ce_tryIf_2 G w hS (by omega) (by omega) (by omega) (by omega) (by omega)) dL_refuses_973 rfl rfl (by decide) (by decide) (Nat.le_of_ble_eq_true rfl) ⟨by omega, by omega⟩ ?_
      refine x_ldc (pc := 976) C (wC_L_18 G.1) dL_refuses_976 ?_
      refine x_icmp_ne (pc := 978) C 1000 (by decide) (by decide) dL_refuses_978 (by decide) (fun h => absurd h (by decide)) (fun h978 => ?_)
      refine x_aload_n (pc := 981) C 7 rfl dL_refuses_981 ?_
      refine x_bipush (pc := 982) C (by decide +kernel) dL_refuses_982 ?_
      refine x_iconst (pc := 984) C dL_refuses_984 ?_
      refine x_iconst (pc := 985) C dL_refuses_985 ?_
      refine x_iload (pc := 986) C 4 rfl dL_refuses_986 ?_
      refine x_cs (pc := 988) (a := 46) (m := 1) (S' := S) (z := (-9999001)) (as := [.ref (bs (gw γ w)), .int (iI 17), .int (iI 0), .int (iI 0), .int (iI ((-1) - (x % 99)))]) C (cy_L_call G.1) (wM_L_172 G.1) (ce_tryIf_1 G w hS (by omega) (by omega) (by omega) (by omega)) dL_refuses_988 rfl rfl (by decide) (by decide) (Nat.le_of_ble_eq_true rfl) ⟨by omega, by omega⟩ ?_
      refine x_ldc (pc := 991) C (wC_L_15 G.1) dL_refuses_991 ?_
      refine x_icmp_ne (pc := 993) C 1000 (by decide) (by decide) dL_refuses_993 (by decide) (fun h => absurd h (by decide)) (fun h993 => ?_)
      refine x_iconst (pc := 996) C dL_refuses_996 ?_
      refine x_goto (pc := 997) C 1001 dL_refuses_997 (by decide) ?_
      exact x_ret (pc := 1001) C (by omega) hr rfl dL_refuses_1001 rfl rfl
  · refine x_aload_n (pc := 893) C 7 rfl dL_refuses_893 ?_
    refine x_iload (pc := 894) C 0 rfl dL_refuses_894 ?_
    refine x_iconst (pc := 896) C dL_refuses_896 ?_
    refine x_cw (pc := 897) (a := 43) (m := 1) (S' := S) (z := (-9999003)) (as := [.ref (bs (gw γ w)), .int (iI v), .int (iI 1)]) C (cy_L_keys G.1) (wM_L_180 G.1) (ce_keys_2 G w hS (by omega) (Or.inr rfl) hv h890) dL_refuses_897 rfl rfl (by decide) (by decide) (Nat.le_of_ble_eq_true rfl) ⟨by omega, by omega⟩ ?_
    refine x_ldc (pc := 900) C (wC_L_21 G.1) dL_refuses_900 ?_
    refine x_icmp_ne (pc := 902) C 909 (by decide) (by decide) dL_refuses_902 (by decide) (fun h => absurd h (by decide)) (fun h902 => ?_)
    refine x_iconst (pc := 905) C dL_refuses_905 ?_
    refine x_goto (pc := 906) C 910 dL_refuses_906 (by decide) ?_
    refine x_istore (pc := 910) C [(7, .int (iI 1)), (8, .int (iI v)), (6, .int (iI ((-1) - (x % 9)))), (5, .int (iI ((-1) - (x % 99)))), (4, .int (iI ((-1) - (x % 99)))), (3, .int (iI (nA A 1))), (2, .int (iI (nA A 0))), (0, .ref (bs (gw γ w))), (1, .int (iI x))] dL_refuses_910 (by decide) rfl ?_
    refine x_iload (pc := 912) C 0 rfl dL_refuses_912 ?_
    refine x_if_eq (pc := 914) C 1000 (by decide) dL_refuses_914 (by decide) (fun h => absurd h (by decide)) (fun h914 => ?_)
    refine x_iload_n (pc := 917) C 5 rfl dL_refuses_917 ?_
    refine x_if_eq (pc := 918) C 996 (by omega) dL_refuses_918 (by decide) (fun h918 => ?_) (fun h918 => ?_)
    · refine x_iconst (pc := 996) C dL_refuses_996 ?_
      refine x_goto (pc := 997) C 1001 dL_refuses_997 (by decide) ?_
      exact x_ret (pc := 1001) C (by omega) hr rfl dL_refuses_1001 rfl rfl
    · refine x_aload_n (pc := 921) C 7 rfl dL_refuses_921 ?_
      refine x_bipush (pc := 922) C (by decide +kernel) dL_refuses_922 ?_
      refine x_iconst (pc := 924) C dL_refuses_924 ?_
      refine x_bipush (pc := 925) C (by decide +kernel) dL_refuses_925 ?_
      refine x_iload_n (pc := 927) C 8 rfl dL_refuses_927 ?_
      refine x_bipush (pc := 928) C (by decide +kernel) dL_refuses_928 ?_
      refine x_irem (pc := 930) C (by omega) (by decide) dL_refuses_930 ?_
      refine x_iadd (pc := 931) C dL_refuses_931 ?_
      refine x_iconst (pc := 932) C dL_refuses_932 ?_
      refine x_cs (pc := 933) (a := 44) (m := 1) (S' := S) (z := (-9999002)) (as := [.ref (bs (gw γ w)), .int (iI 6), .int (iI 0), .int (iI (8 + (x % 9))), .int (iI 0)]) C (cy_L_call G.1) (wM_L_172 G.1) (ce_tryPipe_2 G w hS (by omega) (by omega) (by omega) (by omega)) dL_refuses_933 rfl rfl (by decide) (by decide) (Nat.le_of_ble_eq_true rfl) ⟨by omega, by omega⟩ ?_
      refine x_ldc (pc := 936) C (wC_L_18 G.1) dL_refuses_936 ?_
      refine x_icmp_ne (pc := 938) C 1000 (by decide) (by decide) dL_refuses_938 (by decide) (fun h => absurd h (by decide)) (fun h938 => ?_)
      refine x_aload_n (pc := 941) C 7 rfl dL_refuses_941 ?_
      refine x_bipush (pc := 942) C (by decide +kernel) dL_refuses_942 ?_
      refine x_iconst (pc := 944) C dL_refuses_944 ?_
      refine x_bipush (pc := 945) C (by decide +kernel) dL_refuses_945 ?_
      refine x_iload_n (pc := 947) C 8 rfl dL_refuses_947 ?_
      refine x_bipush (pc := 948) C (by decide +kernel) dL_refuses_948 ?_
      refine x_irem (pc := 950) C (by omega) (by decide) dL_refuses_950 ?_
      refine x_iadd (pc := 951) C dL_refuses_951 ?_
      refine x_iconst (pc := 952) C dL_refuses_952 ?_
      refine x_cs (pc := 953) (a := 45) (m := 1) (S' := S) (z := (-9999002)) (as := [.ref (bs (gw γ w)), .int (iI 10), .int (iI 0), .int (iI (31 + (x % 9))), .int (iI 0)]) C (cy_L_call G.1) (wM_L_172 G.1) (ce_tryLeak_2 G w hS (by omega) (by omega) (by omega) (by omega)) dL_refuses_953 rfl rfl (by decide) (by decide) (Nat.le_of_ble_eq_true rfl) ⟨by omega, by omega⟩ ?_
      refine x_ldc (pc := 956) C (wC_L_18 G.1) dL_refuses_956 ?_
      refine x_icmp_ne (pc := 958) C 1000 (by decide) (by decide) dL_refuses_958 (by decide) (fun h => absurd h (by decide)) (fun h958 => ?_)
      refine x_aload_n (pc := 961) C 7 rfl dL_refuses_961 ?_
      refine x_bipush (pc := 962) C (by decide +kernel) dL_refuses_962 ?_
      refine x_iconst (pc := 964) C dL_refuses_964 ?_
      refine x_bipush (pc := 965) C (by decide +kernel) dL_refuses_965 ?_
      refine x_iload_n (pc := 967) C 8 rfl dL_refuses_967 ?_
      refine x_bipush (pc := 968) C (by decide +kernel) dL_refuses_968 ?_
      refine x_irem (pc := 970) C (by omega) (by decide) dL_refuses_970 ?_
      refine x_iadd (pc := 971) C dL_refuses_971 ?_
      refine x_iconst (pc := 972) C dL_refuses_972 ?_
      refine x_cs (pc := 973) (a := 46) (m := 1) (S' := S) (z := (-9999002)) (as := [.ref (bs (gw γ w)), .int (iI 17), .int (iI 0), .int (iI (31 + (x % 9))), .int (iI 0)]) C (cy_L_call G.1) (wM_L_172 G.1) (ce_tryIf_2 G w hS (by omega) (by omega) (by omega) (by omega) (by omega)) dL_refuses_973 rfl rfl (by decide) (by decide) (Nat.le_of_ble_eq_true rfl) ⟨by omega, by omega⟩ ?_
      refine x_ldc (pc := 976) C (wC_L_18 G.1) dL_refuses_976 ?_
      refine x_icmp_ne (pc := 978) C 1000 (by decide) (by decide) dL_refuses_978 (by decide) (fun h => absurd h (by decide)) (fun h978 => ?_)
      refine x_aload_n (pc := 981) C 7 rfl dL_refuses_981 ?_
      refine x_bipush (pc := 982) C (by decide +kernel) dL_refuses_982 ?_
      refine x_iconst (pc := 984) C dL_refuses_984 ?_
      refine x_iconst (pc := 985) C dL_refuses_985 ?_
      refine x_iload (pc := 986) C 4 rfl dL_refuses_986 ?_
      refine x_cs (pc := 988) (a := 47) (m := 1) (S' := S) (z := (-9999001)) (as := [.ref (bs (gw γ w)), .int (iI 17), .int (iI 0), .int (iI 0), .int (iI ((-1) - (x % 99)))]) C (cy_L_call G.1) (wM_L_172 G.1) (ce_tryIf_1 G w hS (by omega) (by omega) (by omega) (by omega)) dL_refuses_988 rfl rfl (by decide) (by decide) (Nat.le_of_ble_eq_true rfl) ⟨by omega, by omega⟩ ?_
      refine x_ldc (pc := 991) C (wC_L_15 G.1) dL_refuses_991 ?_
      refine x_icmp_ne (pc := 993) C 1000 (by decide) (by decide) dL_refuses_993 (by decide) (fun h => absurd h (by decide)) (fun h993 => ?_)
      refine x_iconst (pc := 996) C dL_refuses_996 ?_
      refine x_goto (pc := 997) C 1001 dL_refuses_997 (by decide) ?_
      exact x_ret (pc := 1001) C (by omega) hr rfl dL_refuses_1001 rfl rfl

set_option maxHeartbeats 4000000 in
set_option maxRecDepth 100000 in
theorem k_refuses_1 {γ : Gm} (G : GL γ) (w : Bool) {S : St2} {A : Abs} (hS : gat S w = A) (hO : AOkA A) {x : Int} (h4 : 4 ≤ nA A 0) (hx : 0 ≤ x ∧ x < 100000) (hx2 : x % 2 = 1) : Cl γ yL_refuses (.code yL_refuses cL_refuses 9 (some .boolean)) 12 60 [.ref (bs (gw γ w)), .int (iI x)] S 1 S := by
  refine Cl.of G (by decide +kernel) (Nat.le_of_ble_eq_true rfl) (fun φ C hcr hr => ?_)
  have C : Cx γ φ RL cL_refuses 9 12 := C
  have h0 := hO.wf.1
  have h1 := hO.wf.2.1
  refine x_lv [(0, .ref (bs (gw γ w))), (1, .int (iI x))] [0, 1] rfl ?_
  refine x_aload_n (pc := 0) C 0 rfl dL_refuses_0 ?_
  refine x_iconst (pc := 1) C dL_refuses_1 ?_
  refine x_iconst (pc := 2) C dL_refuses_2 ?_
  refine x_iconst (pc := 3) C dL_refuses_3 ?_
  refine x_iconst (pc := 4) C dL_refuses_4 ?_
  refine x_cs (pc := 5) (a := 0) (m := 1) (S' := S) (z := nA A 0) (as := [.ref (bs (gw γ w)), .int (iI 2), .int (iI 0), .int (iI 0), .int (iI 0)]) C (cy_L_call G.1) (wM_L_172 G.1) (t_ab0 G w hS hO) dL_refuses_5 rfl rfl (by decide) (by decide) (Nat.le_of_ble_eq_true rfl) ⟨by omega, by omega⟩ ?_
  refine x_istore_n (pc := 8) C [(2, .int (iI (nA A 0))), (0, .ref (bs (gw γ w))), (1, .int (iI x))] dL_refuses_8 rfl (by decide) rfl ?_
  refine x_aload_n (pc := 9) C 1 rfl dL_refuses_9 ?_
  refine x_iconst (pc := 10) C dL_refuses_10 ?_
  refine x_iconst (pc := 11) C dL_refuses_11 ?_
  refine x_iconst (pc := 12) C dL_refuses_12 ?_
  refine x_iconst (pc := 13) C dL_refuses_13 ?_
  refine x_cs (pc := 14) (a := 1) (m := 1) (S' := S) (z := nA A 1) (as := [.ref (bs (gw γ w)), .int (iI 2), .int (iI 1), .int (iI 0), .int (iI 0)]) C (cy_L_call G.1) (wM_L_172 G.1) (t_ab1 G w hS hO) dL_refuses_14 rfl rfl (by decide) (by decide) (Nat.le_of_ble_eq_true rfl) ⟨by omega, by omega⟩ ?_
  refine x_istore_n (pc := 17) C [(3, .int (iI (nA A 1))), (2, .int (iI (nA A 0))), (0, .ref (bs (gw γ w))), (1, .int (iI x))] dL_refuses_17 rfl (by decide) rfl ?_
  refine x_iload_n (pc := 18) C 3 rfl dL_refuses_18 ?_
  refine x_iconst (pc := 19) C dL_refuses_19 ?_
  refine x_irem (pc := 20) C (by omega) (by decide) dL_refuses_20 ?_
  refine x_if_ne (pc := 21) C 33 (by omega) dL_refuses_21 (by decide) (fun h21 => ?_) (fun h => by exfalso; omega)
  refine x_iload_n (pc := 33) C 1 rfl dL_refuses_33 ?_
  refine x_iload_n (pc := 34) C 3 rfl dL_refuses_34 ?_
  refine x_bipush (pc := 35) C (by decide +kernel) dL_refuses_35 ?_
  refine x_irem (pc := 37) C (by omega) (by decide) dL_refuses_37 ?_
  refine x_iadd (pc := 38) C dL_refuses_38 ?_
  refine x_istore (pc := 39) C [(4, .int (iI ((nA A 0) + (x % 99)))), (3, .int (iI (nA A 1))), (2, .int (iI (nA A 0))), (0, .ref (bs (gw γ w))), (1, .int (iI x))] dL_refuses_39 (by decide) rfl ?_
  refine x_iload_n (pc := 41) C 4 rfl dL_refuses_41 ?_
  refine x_iconst (pc := 42) C dL_refuses_42 ?_
  refine x_irem (pc := 43) C (by omega) (by decide) dL_refuses_43 ?_
  refine x_if_ne (pc := 44) C 56 (by omega) dL_refuses_44 (by decide) (fun h44 => ?_) (fun h => by exfalso; omega)
  refine x_iload_n (pc := 56) C 1 rfl dL_refuses_56 ?_
  refine x_iload_n (pc := 57) C 4 rfl dL_refuses_57 ?_
  refine x_bipush (pc := 58) C (by decide +kernel) dL_refuses_58 ?_
  refine x_irem (pc := 60) C (by omega) (by decide) dL_refuses_60 ?_
  refine x_iadd (pc := 61) C dL_refuses_61 ?_
  refine x_istore (pc := 62) C [(5, .int (iI ((nA A 1) + (x % 99)))), (4, .int (iI ((nA A 0) + (x % 99)))), (3, .int (iI (nA A 1))), (2, .int (iI (nA A 0))), (0, .ref (bs (gw γ w))), (1, .int (iI x))] dL_refuses_62 (by decide) rfl ?_
  refine x_iload_n (pc := 64) C 5 rfl dL_refuses_64 ?_
  refine x_iconst (pc := 65) C dL_refuses_65 ?_
  refine x_irem (pc := 66) C (by omega) (by decide) dL_refuses_66 ?_
  refine x_if_ne (pc := 67) C 79 (by omega) dL_refuses_67 (by decide) (fun h67 => ?_) (fun h => by exfalso; omega)
  refine x_iconst (pc := 79) C dL_refuses_79 ?_
  refine x_iload_n (pc := 80) C 5 rfl dL_refuses_80 ?_
  refine x_bipush (pc := 81) C (by decide +kernel) dL_refuses_81 ?_
  refine x_irem (pc := 83) C (by omega) (by decide) dL_refuses_83 ?_
  refine x_iadd (pc := 84) C dL_refuses_84 ?_
  refine x_istore (pc := 85) C [(6, .int (iI (2 + (x % 9)))), (5, .int (iI ((nA A 1) + (x % 99)))), (4, .int (iI ((nA A 0) + (x % 99)))), (3, .int (iI (nA A 1))), (2, .int (iI (nA A 0))), (0, .ref (bs (gw γ w))), (1, .int (iI x))] dL_refuses_85 (by decide) rfl ?_
  refine x_aload_n (pc := 87) C 5 rfl dL_refuses_87 ?_
  refine x_iconst (pc := 88) C dL_refuses_88 ?_
  refine x_iload_n (pc := 89) C 6 rfl dL_refuses_89 ?_
  refine x_iconst (pc := 90) C dL_refuses_90 ?_
  refine x_irem (pc := 91) C (by omega) (by decide) dL_refuses_91 ?_
  refine x_if_ne (pc := 92) C 104 (by omega) dL_refuses_92 (by decide) (fun h92 => ?_) (fun h => by exfalso; omega)
  refine x_sipush (pc := 104) C (by decide +kernel) dL_refuses_104 ?_
  refine x_iload_n (pc := 107) C 6 rfl dL_refuses_107 ?_
  refine x_bipush (pc := 108) C (by decide +kernel) dL_refuses_108 ?_
  refine x_irem (pc := 110) C (by omega) (by decide) dL_refuses_110 ?_
  refine x_iadd (pc := 111) C dL_refuses_111 ?_
  refine x_iconst (pc := 112) C dL_refuses_112 ?_
  refine x_iconst (pc := 113) C dL_refuses_113 ?_
  refine x_cs (pc := 114) (a := 2) (m := 1) (S' := S) (z := (-9999002)) (as := [.ref (bs (gw γ w)), .int (iI 0), .int (iI (256 + (x % 9))), .int (iI 0), .int (iI 0)]) C (cy_L_call G.1) (wM_L_172 G.1) (ce_tryAppend_1 G w hS (by omega) (by omega)) dL_refuses_114 rfl rfl (by decide) (by decide) (Nat.le_of_ble_eq_true rfl) ⟨by omega, by omega⟩ ?_
  refine x_ldc (pc := 117) C (wC_L_18 G.1) dL_refuses_117 ?_
  refine x_icmp_ne (pc := 119) C 716 (by decide) (by decide) dL_refuses_119 (by decide) (fun h => absurd h (by decide)) (fun h119 => ?_)
  refine x_aload_n (pc := 122) C 5 rfl dL_refuses_122 ?_
  refine x_iconst (pc := 123) C dL_refuses_123 ?_
  refine x_bipush (pc := 124) C (by decide +kernel) dL_refuses_124 ?_
  refine x_iload_n (pc := 126) C 6 rfl dL_refuses_126 ?_
  refine x_bipush (pc := 127) C (by decide +kernel) dL_refuses_127 ?_
  refine x_irem (pc := 129) C (by omega) (by decide) dL_refuses_129 ?_
  refine x_iadd (pc := 130) C dL_refuses_130 ?_
  refine x_iconst (pc := 131) C dL_refuses_131 ?_
  refine x_iconst (pc := 132) C dL_refuses_132 ?_
  refine x_cs (pc := 133) (a := 3) (m := 1) (S' := S) (z := (-9999002)) (as := [.ref (bs (gw γ w)), .int (iI 2), .int (iI (7 + (x % 50))), .int (iI 0), .int (iI 0)]) C (cy_L_call G.1) (wM_L_172 G.1) (ce_tryAbout_1 G w hS (by omega) (by omega)) dL_refuses_133 rfl rfl (by decide) (by decide) (Nat.le_of_ble_eq_true rfl) ⟨by omega, by omega⟩ ?_
  refine x_ldc (pc := 136) C (wC_L_18 G.1) dL_refuses_136 ?_
  refine x_icmp_ne (pc := 138) C 716 (by decide) (by decide) dL_refuses_138 (by decide) (fun h => absurd h (by decide)) (fun h138 => ?_)
  refine x_aload_n (pc := 141) C 5 rfl dL_refuses_141 ?_
  refine x_iconst (pc := 142) C dL_refuses_142 ?_
  refine x_iload (pc := 143) C 2 rfl dL_refuses_143 ?_
  refine x_bipush (pc := 145) C (by decide +kernel) dL_refuses_145 ?_
  refine x_iconst (pc := 147) C dL_refuses_147 ?_
  refine x_cs (pc := 148) (a := 4) (m := 1) (S' := S) (z := (-9999001)) (as := [.ref (bs (gw γ w)), .int (iI 3), .int (iI ((nA A 0) + (x % 99))), .int (iI 99), .int (iI 0)]) C (cy_L_call G.1) (wM_L_172 G.1) (ce_tryTold_1 G w hS (by omega) (by omega) (by omega)) dL_refuses_148 rfl rfl (by decide) (by decide) (Nat.le_of_ble_eq_true rfl) ⟨by omega, by omega⟩ ?_
  refine x_ldc (pc := 151) C (wC_L_15 G.1) dL_refuses_151 ?_
  refine x_icmp_ne (pc := 153) C 716 (by decide) (by decide) dL_refuses_153 (by decide) (fun h => absurd h (by decide)) (fun h153 => ?_)
  refine x_aload_n (pc := 156) C 5 rfl dL_refuses_156 ?_
  refine x_iconst (pc := 157) C dL_refuses_157 ?_
  refine x_iload (pc := 158) C 2 rfl dL_refuses_158 ?_
  refine x_iconst (pc := 160) C dL_refuses_160 ?_
  refine x_iconst (pc := 161) C dL_refuses_161 ?_
  refine x_cs (pc := 162) (a := 5) (m := 1) (S' := S) (z := (-9999001)) (as := [.ref (bs (gw γ w)), .int (iI 4), .int (iI ((nA A 0) + (x % 99))), .int (iI 0), .int (iI 0)]) C (cy_L_call G.1) (wM_L_172 G.1) (ce_tryLeg_1 G w hS (by omega) (by omega) (by omega)) dL_refuses_162 rfl rfl (by decide) (by decide) (Nat.le_of_ble_eq_true rfl) ⟨by omega, by omega⟩ ?_
  refine x_ldc (pc := 165) C (wC_L_15 G.1) dL_refuses_165 ?_
  refine x_icmp_ne (pc := 167) C 716 (by decide) (by decide) dL_refuses_167 (by decide) (fun h => absurd h (by decide)) (fun h167 => ?_)
  refine x_aload_n (pc := 170) C 5 rfl dL_refuses_170 ?_
  refine x_iconst (pc := 171) C dL_refuses_171 ?_
  refine x_iconst (pc := 172) C dL_refuses_172 ?_
  refine x_iload (pc := 173) C 0 rfl dL_refuses_173 ?_
  refine x_iconst (pc := 175) C dL_refuses_175 ?_
  refine x_cs (pc := 176) (a := 6) (m := 1) (S' := S) (z := (-9999001)) (as := [.ref (bs (gw γ w)), .int (iI 4), .int (iI 0), .int (iI (2 + (x % 9))), .int (iI 0)]) C (cy_L_call G.1) (wM_L_172 G.1) (ce_tryLeg_1 G w hS (by omega) (by omega) (by omega)) dL_refuses_176 rfl rfl (by decide) (by decide) (Nat.le_of_ble_eq_true rfl) ⟨by omega, by omega⟩ ?_
  refine x_ldc (pc := 179) C (wC_L_15 G.1) dL_refuses_179 ?_
  refine x_icmp_ne (pc := 181) C 716 (by decide) (by decide) dL_refuses_181 (by decide) (fun h => absurd h (by decide)) (fun h181 => ?_)
  refine x_aload_n (pc := 184) C 5 rfl dL_refuses_184 ?_
  refine x_iconst (pc := 185) C dL_refuses_185 ?_
  refine x_iload (pc := 186) C 2 rfl dL_refuses_186 ?_
  refine x_iconst (pc := 188) C dL_refuses_188 ?_
  refine x_bipush (pc := 189) C (by decide +kernel) dL_refuses_189 ?_
  refine x_cs (pc := 191) (a := 7) (m := 1) (S' := S) (z := (-9999001)) (as := [.ref (bs (gw γ w)), .int (iI 5), .int (iI ((nA A 0) + (x % 99))), .int (iI 0), .int (iI 9)]) C (cy_L_call G.1) (wM_L_172 G.1) (ce_tryPush_1 G w hS (by omega) (by omega) (by omega) (by omega)) dL_refuses_191 rfl rfl (by decide) (by decide) (Nat.le_of_ble_eq_true rfl) ⟨by omega, by omega⟩ ?_
  refine x_ldc (pc := 194) C (wC_L_15 G.1) dL_refuses_194 ?_
  refine x_icmp_ne (pc := 196) C 716 (by decide) (by decide) dL_refuses_196 (by decide) (fun h => absurd h (by decide)) (fun h196 => ?_)
  refine x_aload_n (pc := 199) C 5 rfl dL_refuses_199 ?_
  refine x_iconst (pc := 200) C dL_refuses_200 ?_
  refine x_iconst (pc := 201) C dL_refuses_201 ?_
  refine x_iload (pc := 202) C 0 rfl dL_refuses_202 ?_
  refine x_bipush (pc := 204) C (by decide +kernel) dL_refuses_204 ?_
  refine x_cs (pc := 206) (a := 8) (m := 1) (S' := S) (z := (-9999001)) (as := [.ref (bs (gw γ w)), .int (iI 5), .int (iI 0), .int (iI (2 + (x % 9))), .int (iI 9)]) C (cy_L_call G.1) (wM_L_172 G.1) (ce_tryPush_1 G w hS (by omega) (by omega) (by omega) (by omega)) dL_refuses_206 rfl rfl (by decide) (by decide) (Nat.le_of_ble_eq_true rfl) ⟨by omega, by omega⟩ ?_
  refine x_ldc (pc := 209) C (wC_L_15 G.1) dL_refuses_209 ?_
  refine x_icmp_ne (pc := 211) C 716 (by decide) (by decide) dL_refuses_211 (by decide) (fun h => absurd h (by decide)) (fun h211 => ?_)
  refine x_aload_n (pc := 214) C 5 rfl dL_refuses_214 ?_
  refine x_bipush (pc := 215) C (by decide +kernel) dL_refuses_215 ?_
  refine x_iload (pc := 217) C 1 rfl dL_refuses_217 ?_
  refine x_bipush (pc := 219) C (by decide +kernel) dL_refuses_219 ?_
  refine x_iconst (pc := 221) C dL_refuses_221 ?_
  refine x_cs (pc := 222) (a := 9) (m := 1) (S' := S) (z := (-9999001)) (as := [.ref (bs (gw γ w)), .int (iI 6), .int (iI ((nA A 1) + (x % 99))), .int (iI 99), .int (iI 0)]) C (cy_L_call G.1) (wM_L_172 G.1) (ce_tryPipe_1 G w hS (by omega) (by omega) (by omega)) dL_refuses_222 rfl rfl (by decide) (by decide) (Nat.le_of_ble_eq_true rfl) ⟨by omega, by omega⟩ ?_
  refine x_ldc (pc := 225) C (wC_L_15 G.1) dL_refuses_225 ?_
  refine x_icmp_ne (pc := 227) C 716 (by decide) (by decide) dL_refuses_227 (by decide) (fun h => absurd h (by decide)) (fun h227 => ?_)
  refine x_aload_n (pc := 230) C 5 rfl dL_refuses_230 ?_
  refine x_bipush (pc := 231) C (by decide +kernel) dL_refuses_231 ?_
  refine x_iconst (pc := 233) C dL_refuses_233 ?_
  refine x_iload_n (pc := 234) C 6 rfl dL_refuses_234 ?_
  refine x_bipush (pc := 235) C (by decide +kernel) dL_refuses_235 ?_
  refine x_irem (pc := 237) C (by omega) (by decide) dL_refuses_237 ?_
  refine x_iadd (pc := 238) C dL_refuses_238 ?_
  refine x_iconst (pc := 239) C dL_refuses_239 ?_
  refine x_iconst (pc := 240) C dL_refuses_240 ?_
  refine x_cs (pc := 241) (a := 10) (m := 1) (S' := S) (z := (-9999002)) (as := [.ref (bs (gw γ w)), .int (iI 7), .int (iI (2 + (x % 9))), .int (iI 0), .int (iI 0)]) C (cy_L_call G.1) (wM_L_172 G.1) (ce_trySetting_1 G w hS (by omega) (by omega)) dL_refuses_241 rfl rfl (by decide) (by decide) (Nat.le_of_ble_eq_true rfl) ⟨by omega, by omega⟩ ?_
  refine x_ldc (pc := 244) C (wC_L_18 G.1) dL_refuses_244 ?_
  refine x_icmp_ne (pc := 246) C 716 (by decide) (by decide) dL_refuses_246 (by decide) (fun h => absurd h (by decide)) (fun h246 => ?_)
  refine x_aload_n (pc := 249) C 5 rfl dL_refuses_249 ?_
  refine x_bipush (pc := 250) C (by decide +kernel) dL_refuses_250 ?_
  refine x_iload_n (pc := 252) C 6 rfl dL_refuses_252 ?_
  refine x_iconst (pc := 253) C dL_refuses_253 ?_
  refine x_irem (pc := 254) C (by omega) (by decide) dL_refuses_254 ?_
  refine x_if_ne (pc := 255) C 262 (by omega) dL_refuses_255 (by decide) (fun h255 => ?_) (fun h => by exfalso; omega)
  refine x_iconst (pc := 262) C dL_refuses_262 ?_
  refine x_iload_n (pc := 263) C 6 rfl dL_refuses_263 ?_
  refine x_bipush (pc := 264) C (by decide +kernel) dL_refuses_264 ?_
  refine x_irem (pc := 266) C (by omega) (by decide) dL_refuses_266 ?_
  refine x_iadd (pc := 267) C dL_refuses_267 ?_
  refine x_bipush (pc := 268) C (by decide +kernel) dL_refuses_268 ?_
  refine x_iconst (pc := 270) C dL_refuses_270 ?_
  refine x_cs (pc := 271) (a := 11) (m := 1) (S' := S) (z := (-9999002)) (as := [.ref (bs (gw γ w)), .int (iI 8), .int (iI (5 + (x % 9))), .int (iI 50), .int (iI 0)]) C (cy_L_call G.1) (wM_L_172 G.1) (ce_tryValve_1 G w hS (by omega) (by omega) (by omega)) dL_refuses_271 rfl rfl (by decide) (by decide) (Nat.le_of_ble_eq_true rfl) ⟨by omega, by omega⟩ ?_
  refine x_ldc (pc := 274) C (wC_L_18 G.1) dL_refuses_274 ?_
  refine x_icmp_ne (pc := 276) C 716 (by decide) (by decide) dL_refuses_276 (by decide) (fun h => absurd h (by decide)) (fun h276 => ?_)
  refine x_aload_n (pc := 279) C 5 rfl dL_refuses_279 ?_
  refine x_bipush (pc := 280) C (by decide +kernel) dL_refuses_280 ?_
  refine x_iconst (pc := 282) C dL_refuses_282 ?_
  refine x_iload_n (pc := 283) C 6 rfl dL_refuses_283 ?_
  refine x_iconst (pc := 284) C dL_refuses_284 ?_
  refine x_irem (pc := 285) C (by omega) (by decide) dL_refuses_285 ?_
  refine x_if_ne (pc := 286) C 294 (by omega) dL_refuses_286 (by decide) (fun h286 => ?_) (fun h => by exfalso; omega)
  refine x_bipush (pc := 294) C (by decide +kernel) dL_refuses_294 ?_
  refine x_iload_n (pc := 296) C 6 rfl dL_refuses_296 ?_
  refine x_bipush (pc := 297) C (by decide +kernel) dL_refuses_297 ?_
  refine x_irem (pc := 299) C (by omega) (by decide) dL_refuses_299 ?_
  refine x_iadd (pc := 300) C dL_refuses_300 ?_
  refine x_iconst (pc := 301) C dL_refuses_301 ?_
  refine x_cs (pc := 302) (a := 12) (m := 1) (S' := S) (z := (-9999002)) (as := [.ref (bs (gw γ w)), .int (iI 8), .int (iI 0), .int (iI (100 + (x % 9))), .int (iI 0)]) C (cy_L_call G.1) (wM_L_172 G.1) (ce_tryValve_1 G w hS (by omega) (by omega) (by omega)) dL_refuses_302 rfl rfl (by decide) (by decide) (Nat.le_of_ble_eq_true rfl) ⟨by omega, by omega⟩ ?_
  refine x_ldc (pc := 305) C (wC_L_18 G.1) dL_refuses_305 ?_
  refine x_icmp_ne (pc := 307) C 716 (by decide) (by decide) dL_refuses_307 (by decide) (fun h => absurd h (by decide)) (fun h307 => ?_)
  refine x_aload_n (pc := 310) C 5 rfl dL_refuses_310 ?_
  refine x_iload (pc := 311) C 2 rfl dL_refuses_311 ?_
  refine x_iconst (pc := 313) C dL_refuses_313 ?_
  refine x_iconst (pc := 314) C dL_refuses_314 ?_
  refine x_iconst (pc := 315) C dL_refuses_315 ?_
  refine x_iconst (pc := 316) C dL_refuses_316 ?_
  refine x_cw (pc := 317) (a := 13) (m := 1) (S' := S) (z := (-9999001)) (as := [.ref (bs (gw γ w)), .int (iI ((nA A 0) + (x % 99))), .int (iI 0), .int (iI 0), .int (iI 0), .int (iI 1)]) C (cy_L_ducts G.1) (wM_L_176 G.1) (ce_ducts_1 G w hS (by omega) (by omega) (by omega) (by omega) (by omega) (by omega)) dL_refuses_317 rfl rfl (by decide) (by decide) (Nat.le_of_ble_eq_true rfl) ⟨by omega, by omega⟩ ?_
  refine x_ldc (pc := 320) C (wC_L_15 G.1) dL_refuses_320 ?_
  refine x_icmp_ne (pc := 322) C 716 (by decide) (by decide) dL_refuses_322 (by decide) (fun h => absurd h (by decide)) (fun h322 => ?_)
  refine x_aload_n (pc := 325) C 5 rfl dL_refuses_325 ?_
  refine x_iconst (pc := 326) C dL_refuses_326 ?_
  refine x_iload (pc := 327) C 0 rfl dL_refuses_327 ?_
  refine x_iconst (pc := 329) C dL_refuses_329 ?_
  refine x_iconst (pc := 330) C dL_refuses_330 ?_
  refine x_bipush (pc := 331) C (by decide +kernel) dL_refuses_331 ?_
  refine x_cw (pc := 333) (a := 14) (m := 1) (S' := S) (z := (-9999001)) (as := [.ref (bs (gw γ w)), .int (iI 0), .int (iI (2 + (x % 9))), .int (iI 0), .int (iI 0), .int (iI 9)]) C (cy_L_ducts G.1) (wM_L_176 G.1) (ce_ducts_1 G w hS (by omega) (by omega) (by omega) (by omega) (by omega) (by omega)) dL_refuses_333 rfl rfl (by decide) (by decide) (Nat.le_of_ble_eq_true rfl) ⟨by omega, by omega⟩ ?_
  refine x_ldc (pc := 336) C (wC_L_15 G.1) dL_refuses_336 ?_
  refine x_icmp_ne (pc := 338) C 716 (by decide) (by decide) dL_refuses_338 (by decide) (fun h => absurd h (by decide)) (fun h338 => ?_)
  refine x_aload_n (pc := 341) C 5 rfl dL_refuses_341 ?_
  refine x_iconst (pc := 342) C dL_refuses_342 ?_
  refine x_iconst (pc := 343) C dL_refuses_343 ?_
  refine x_iload (pc := 344) C 2 rfl dL_refuses_344 ?_
  refine x_iconst (pc := 346) C dL_refuses_346 ?_
  refine x_iconst (pc := 347) C dL_refuses_347 ?_
  refine x_cw (pc := 348) (a := 15) (m := 1) (S' := S) (z := (-9999001)) (as := [.ref (bs (gw γ w)), .int (iI 0), .int (iI 0), .int (iI ((nA A 0) + (x % 99))), .int (iI 0), .int (iI 1)]) C (cy_L_ducts G.1) (wM_L_176 G.1) (ce_ducts_1 G w hS (by omega) (by omega) (by omega) (by omega) (by omega) (by omega)) dL_refuses_348 rfl rfl (by decide) (by decide) (Nat.le_of_ble_eq_true rfl) ⟨by omega, by omega⟩ ?_
  refine x_ldc (pc := 351) C (wC_L_15 G.1) dL_refuses_351 ?_
  refine x_icmp_ne (pc := 353) C 716 (by decide) (by decide) dL_refuses_353 (by decide) (fun h => absurd h (by decide)) (fun h353 => ?_)
  refine x_aload_n (pc := 356) C 5 rfl dL_refuses_356 ?_
  refine x_iconst (pc := 357) C dL_refuses_357 ?_
  refine x_iconst (pc := 358) C dL_refuses_358 ?_
  refine x_iconst (pc := 359) C dL_refuses_359 ?_
  refine x_iload (pc := 360) C 0 rfl dL_refuses_360 ?_
  refine x_iconst (pc := 362) C dL_refuses_362 ?_
  refine x_cw (pc := 363) (a := 16) (m := 1) (S' := S) (z := (-9999001)) (as := [.ref (bs (gw γ w)), .int (iI 0), .int (iI 0), .int (iI 0), .int (iI (2 + (x % 9))), .int (iI 1)]) C (cy_L_ducts G.1) (wM_L_176 G.1) (ce_ducts_1 G w hS (by omega) (by omega) (by omega) (by omega) (by omega) (by omega)) dL_refuses_363 rfl rfl (by decide) (by decide) (Nat.le_of_ble_eq_true rfl) ⟨by omega, by omega⟩ ?_
  refine x_ldc (pc := 366) C (wC_L_15 G.1) dL_refuses_366 ?_
  refine x_icmp_ne (pc := 368) C 716 (by decide) (by decide) dL_refuses_368 (by decide) (fun h => absurd h (by decide)) (fun h368 => ?_)
  refine x_aload_n (pc := 371) C 5 rfl dL_refuses_371 ?_
  refine x_bipush (pc := 372) C (by decide +kernel) dL_refuses_372 ?_
  refine x_iload (pc := 374) C 1 rfl dL_refuses_374 ?_
  refine x_iconst (pc := 376) C dL_refuses_376 ?_
  refine x_iconst (pc := 377) C dL_refuses_377 ?_
  refine x_cs (pc := 378) (a := 17) (m := 1) (S' := S) (z := (-9999001)) (as := [.ref (bs (gw γ w)), .int (iI 9), .int (iI ((nA A 1) + (x % 99))), .int (iI 0), .int (iI 0)]) C (cy_L_call G.1) (wM_L_172 G.1) (ce_tryDrop_1 G w hS (by omega) (by omega)) dL_refuses_378 rfl rfl (by decide) (by decide) (Nat.le_of_ble_eq_true rfl) ⟨by omega, by omega⟩ ?_
  refine x_ldc (pc := 381) C (wC_L_15 G.1) dL_refuses_381 ?_
  refine x_icmp_ne (pc := 383) C 716 (by decide) (by decide) dL_refuses_383 (by decide) (fun h => absurd h (by decide)) (fun h383 => ?_)
  refine x_aload_n (pc := 386) C 5 rfl dL_refuses_386 ?_
  refine x_iload (pc := 387) C 2 rfl dL_refuses_387 ?_
  refine x_iconst (pc := 389) C dL_refuses_389 ?_
  refine x_cw (pc := 390) (a := 18) (m := 1) (S' := S) (z := (-9999001)) (as := [.ref (bs (gw γ w)), .int (iI ((nA A 0) + (x % 99))), .int (iI 1)]) C (cy_L_keys G.1) (wM_L_180 G.1) (ce_keys_1 G w hS (by omega) (Or.inr rfl) (by omega)) dL_refuses_390 rfl rfl (by decide) (by decide) (Nat.le_of_ble_eq_true rfl) ⟨by omega, by omega⟩ ?_
  refine x_ldc (pc := 393) C (wC_L_15 G.1) dL_refuses_393 ?_
  refine x_icmp_ne (pc := 395) C 716 (by decide) (by decide) dL_refuses_395 (by decide) (fun h => absurd h (by decide)) (fun h395 => ?_)
  refine x_aload_n (pc := 398) C 5 rfl dL_refuses_398 ?_
  refine x_bipush (pc := 399) C (by decide +kernel) dL_refuses_399 ?_
  refine x_iload (pc := 401) C 1 rfl dL_refuses_401 ?_
  refine x_bipush (pc := 403) C (by decide +kernel) dL_refuses_403 ?_
  refine x_iconst (pc := 405) C dL_refuses_405 ?_
  refine x_cs (pc := 406) (a := 19) (m := 1) (S' := S) (z := (-9999001)) (as := [.ref (bs (gw γ w)), .int (iI 10), .int (iI ((nA A 1) + (x % 99))), .int (iI 99), .int (iI 0)]) C (cy_L_call G.1) (wM_L_172 G.1) (ce_tryLeak_1 G w hS (by omega) (by omega) (by omega)) dL_refuses_406 rfl rfl (by decide) (by decide) (Nat.le_of_ble_eq_true rfl) ⟨by omega, by omega⟩ ?_
  refine x_ldc (pc := 409) C (wC_L_15 G.1) dL_refuses_409 ?_
  refine x_icmp_ne (pc := 411) C 716 (by decide) (by decide) dL_refuses_411 (by decide) (fun h => absurd h (by decide)) (fun h411 => ?_)
  refine x_aload_n (pc := 414) C 5 rfl dL_refuses_414 ?_
  refine x_bipush (pc := 415) C (by decide +kernel) dL_refuses_415 ?_
  refine x_iload (pc := 417) C 2 rfl dL_refuses_417 ?_
  refine x_iconst (pc := 419) C dL_refuses_419 ?_
  refine x_iconst (pc := 420) C dL_refuses_420 ?_
  refine x_cs (pc := 421) (a := 20) (m := 1) (S' := S) (z := (-9999001)) (as := [.ref (bs (gw γ w)), .int (iI 11), .int (iI ((nA A 0) + (x % 99))), .int (iI 0), .int (iI 0)]) C (cy_L_call G.1) (wM_L_172 G.1) (ce_tryFeed_1 G w hS (by omega) (by omega) (by omega)) dL_refuses_421 rfl rfl (by decide) (by decide) (Nat.le_of_ble_eq_true rfl) ⟨by omega, by omega⟩ ?_
  refine x_ldc (pc := 424) C (wC_L_15 G.1) dL_refuses_424 ?_
  refine x_icmp_ne (pc := 426) C 716 (by decide) (by decide) dL_refuses_426 (by decide) (fun h => absurd h (by decide)) (fun h426 => ?_)
  refine x_aload_n (pc := 429) C 5 rfl dL_refuses_429 ?_
  refine x_bipush (pc := 430) C (by decide +kernel) dL_refuses_430 ?_
  refine x_iconst (pc := 432) C dL_refuses_432 ?_
  refine x_iload_n (pc := 433) C 6 rfl dL_refuses_433 ?_
  refine x_iconst (pc := 434) C dL_refuses_434 ?_
  refine x_irem (pc := 435) C (by omega) (by decide) dL_refuses_435 ?_
  refine x_if_ne (pc := 436) C 443 (by omega) dL_refuses_436 (by decide) (fun h436 => ?_) (fun h => by exfalso; omega)
  refine x_bipush (pc := 443) C (by decide +kernel) dL_refuses_443 ?_
  refine x_iload_n (pc := 445) C 6 rfl dL_refuses_445 ?_
  refine x_bipush (pc := 446) C (by decide +kernel) dL_refuses_446 ?_
  refine x_irem (pc := 448) C (by omega) (by decide) dL_refuses_448 ?_
  refine x_iadd (pc := 449) C dL_refuses_449 ?_
  refine x_iconst (pc := 450) C dL_refuses_450 ?_
  refine x_cs (pc := 451) (a := 21) (m := 1) (S' := S) (z := (-9999002)) (as := [.ref (bs (gw γ w)), .int (iI 12), .int (iI 0), .int (iI (10 + (x % 9))), .int (iI 0)]) C (cy_L_call G.1) (wM_L_172 G.1) (ce_tryLay_1 G w hS (by omega) (by omega) (by omega)) dL_refuses_451 rfl rfl (by decide) (by decide) (Nat.le_of_ble_eq_true rfl) ⟨by omega, by omega⟩ ?_
  refine x_ldc (pc := 454) C (wC_L_18 G.1) dL_refuses_454 ?_
  refine x_icmp_ne (pc := 456) C 716 (by decide) (by decide) dL_refuses_456 (by decide) (fun h => absurd h (by decide)) (fun h456 => ?_)
  refine x_aload_n (pc := 459) C 5 rfl dL_refuses_459 ?_
  refine x_bipush (pc := 460) C (by decide +kernel) dL_refuses_460 ?_
  refine x_iconst (pc := 462) C dL_refuses_462 ?_
  refine x_iload_n (pc := 463) C 6 rfl dL_refuses_463 ?_
  refine x_iconst (pc := 464) C dL_refuses_464 ?_
  refine x_irem (pc := 465) C (by omega) (by decide) dL_refuses_465 ?_
  refine x_if_ne (pc := 466) C 473 (by omega) dL_refuses_466 (by decide) (fun h466 => ?_) (fun h => by exfalso; omega)
  refine x_bipush (pc := 473) C (by decide +kernel) dL_refuses_473 ?_
  refine x_iload_n (pc := 475) C 6 rfl dL_refuses_475 ?_
  refine x_bipush (pc := 476) C (by decide +kernel) dL_refuses_476 ?_
  refine x_irem (pc := 478) C (by omega) (by decide) dL_refuses_478 ?_
  refine x_iadd (pc := 479) C dL_refuses_479 ?_
  refine x_iconst (pc := 480) C dL_refuses_480 ?_
  refine x_cs (pc := 481) (a := 22) (m := 1) (S' := S) (z := (-9999002)) (as := [.ref (bs (gw γ w)), .int (iI 12), .int (iI 1), .int (iI (91 + (x % 9))), .int (iI 0)]) C (cy_L_call G.1) (wM_L_172 G.1) (ce_tryLay_1 G w hS (by omega) (by omega) (by omega)) dL_refuses_481 rfl rfl (by decide) (by decide) (Nat.le_of_ble_eq_true rfl) ⟨by omega, by omega⟩ ?_
  refine x_ldc (pc := 484) C (wC_L_18 G.1) dL_refuses_484 ?_
  refine x_icmp_ne (pc := 486) C 716 (by decide) (by decide) dL_refuses_486 (by decide) (fun h => absurd h (by decide)) (fun h486 => ?_)
  refine x_aload_n (pc := 489) C 5 rfl dL_refuses_489 ?_
  refine x_bipush (pc := 490) C (by decide +kernel) dL_refuses_490 ?_
  refine x_iconst (pc := 492) C dL_refuses_492 ?_
  refine x_iload_n (pc := 493) C 6 rfl dL_refuses_493 ?_
  refine x_bipush (pc := 494) C (by decide +kernel) dL_refuses_494 ?_
  refine x_irem (pc := 496) C (by omega) (by decide) dL_refuses_496 ?_
  refine x_iadd (pc := 497) C dL_refuses_497 ?_
  refine x_iconst (pc := 498) C dL_refuses_498 ?_
  refine x_iconst (pc := 499) C dL_refuses_499 ?_
  refine x_cs (pc := 500) (a := 23) (m := 1) (S' := S) (z := (-9999002)) (as := [.ref (bs (gw γ w)), .int (iI 12), .int (iI (2 + (x % 9))), .int (iI 5), .int (iI 0)]) C (cy_L_call G.1) (wM_L_172 G.1) (ce_tryLay_1 G w hS (by omega) (by omega) (by omega)) dL_refuses_500 rfl rfl (by decide) (by decide) (Nat.le_of_ble_eq_true rfl) ⟨by omega, by omega⟩ ?_
  refine x_ldc (pc := 503) C (wC_L_18 G.1) dL_refuses_503 ?_
  refine x_icmp_ne (pc := 505) C 716 (by decide) (by decide) dL_refuses_505 (by decide) (fun h => absurd h (by decide)) (fun h505 => ?_)
  refine x_aload_n (pc := 508) C 5 rfl dL_refuses_508 ?_
  refine x_bipush (pc := 509) C (by decide +kernel) dL_refuses_509 ?_
  refine x_iload_n (pc := 511) C 6 rfl dL_refuses_511 ?_
  refine x_iconst (pc := 512) C dL_refuses_512 ?_
  refine x_irem (pc := 513) C (by omega) (by decide) dL_refuses_513 ?_
  refine x_if_ne (pc := 514) C 521 (by omega) dL_refuses_514 (by decide) (fun h514 => ?_) (fun h => by exfalso; omega)
  refine x_bipush (pc := 521) C (by decide +kernel) dL_refuses_521 ?_
  refine x_iload_n (pc := 523) C 6 rfl dL_refuses_523 ?_
  refine x_bipush (pc := 524) C (by decide +kernel) dL_refuses_524 ?_
  refine x_irem (pc := 526) C (by omega) (by decide) dL_refuses_526 ?_
  refine x_iadd (pc := 527) C dL_refuses_527 ?_
  refine x_iconst (pc := 528) C dL_refuses_528 ?_
  refine x_iconst (pc := 529) C dL_refuses_529 ?_
  refine x_cs (pc := 530) (a := 24) (m := 1) (S' := S) (z := (-9999002)) (as := [.ref (bs (gw γ w)), .int (iI 13), .int (iI (100 + (x % 9))), .int (iI 0), .int (iI 0)]) C (cy_L_call G.1) (wM_L_172 G.1) (ce_tryTicks_1 G w hS (by omega) (by omega)) dL_refuses_530 rfl rfl (by decide) (by decide) (Nat.le_of_ble_eq_true rfl) ⟨by omega, by omega⟩ ?_
  refine x_ldc (pc := 533) C (wC_L_18 G.1) dL_refuses_533 ?_
  refine x_icmp_ne (pc := 535) C 716 (by decide) (by decide) dL_refuses_535 (by decide) (fun h => absurd h (by decide)) (fun h535 => ?_)
  refine x_aload_n (pc := 538) C 5 rfl dL_refuses_538 ?_
  refine x_bipush (pc := 539) C (by decide +kernel) dL_refuses_539 ?_
  refine x_iload (pc := 541) C 2 rfl dL_refuses_541 ?_
  refine x_iconst (pc := 543) C dL_refuses_543 ?_
  refine x_iconst (pc := 544) C dL_refuses_544 ?_
  refine x_cs (pc := 545) (a := 25) (m := 1) (S' := S) (z := (-9999001)) (as := [.ref (bs (gw γ w)), .int (iI 15), .int (iI ((nA A 0) + (x % 99))), .int (iI 0), .int (iI 0)]) C (cy_L_call G.1) (wM_L_172 G.1) (ce_tryBeat_1 G w hS (by omega) (by omega)) dL_refuses_545 rfl rfl (by decide) (by decide) (Nat.le_of_ble_eq_true rfl) ⟨by omega, by omega⟩ ?_
  refine x_ldc (pc := 548) C (wC_L_15 G.1) dL_refuses_548 ?_
  refine x_icmp_ne (pc := 550) C 716 (by decide) (by decide) dL_refuses_550 (by decide) (fun h => absurd h (by decide)) (fun h550 => ?_)
  refine x_aload_n (pc := 553) C 5 rfl dL_refuses_553 ?_
  refine x_bipush (pc := 554) C (by decide +kernel) dL_refuses_554 ?_
  refine x_iload (pc := 556) C 2 rfl dL_refuses_556 ?_
  refine x_iconst (pc := 558) C dL_refuses_558 ?_
  refine x_iconst (pc := 559) C dL_refuses_559 ?_
  refine x_cs (pc := 560) (a := 26) (m := 1) (S' := S) (z := (-9999001)) (as := [.ref (bs (gw γ w)), .int (iI 16), .int (iI ((nA A 0) + (x % 99))), .int (iI 0), .int (iI 0)]) C (cy_L_call G.1) (wM_L_172 G.1) (ce_tryRule_1 G w hS (by omega) (by omega) (by omega) (by omega)) dL_refuses_560 rfl rfl (by decide) (by decide) (Nat.le_of_ble_eq_true rfl) ⟨by omega, by omega⟩ ?_
  refine x_ldc (pc := 563) C (wC_L_15 G.1) dL_refuses_563 ?_
  refine x_icmp_ne (pc := 565) C 716 (by decide) (by decide) dL_refuses_565 (by decide) (fun h => absurd h (by decide)) (fun h565 => ?_)
  refine x_aload_n (pc := 568) C 5 rfl dL_refuses_568 ?_
  refine x_bipush (pc := 569) C (by decide +kernel) dL_refuses_569 ?_
  refine x_iconst (pc := 571) C dL_refuses_571 ?_
  refine x_iload (pc := 572) C 2 rfl dL_refuses_572 ?_
  refine x_iconst (pc := 574) C dL_refuses_574 ?_
  refine x_cs (pc := 575) (a := 27) (m := 1) (S' := S) (z := (-9999001)) (as := [.ref (bs (gw γ w)), .int (iI 16), .int (iI 0), .int (iI ((nA A 0) + (x % 99))), .int (iI 0)]) C (cy_L_call G.1) (wM_L_172 G.1) (ce_tryRule_1 G w hS (by omega) (by omega) (by omega) (by omega)) dL_refuses_575 rfl rfl (by decide) (by decide) (Nat.le_of_ble_eq_true rfl) ⟨by omega, by omega⟩ ?_
  refine x_ldc (pc := 578) C (wC_L_15 G.1) dL_refuses_578 ?_
  refine x_icmp_ne (pc := 580) C 716 (by decide) (by decide) dL_refuses_580 (by decide) (fun h => absurd h (by decide)) (fun h580 => ?_)
  refine x_aload_n (pc := 583) C 5 rfl dL_refuses_583 ?_
  refine x_bipush (pc := 584) C (by decide +kernel) dL_refuses_584 ?_
  refine x_iconst (pc := 586) C dL_refuses_586 ?_
  refine x_iconst (pc := 587) C dL_refuses_587 ?_
  refine x_iload (pc := 588) C 2 rfl dL_refuses_588 ?_
  refine x_cs (pc := 590) (a := 28) (m := 1) (S' := S) (z := (-9999001)) (as := [.ref (bs (gw γ w)), .int (iI 16), .int (iI 0), .int (iI 0), .int (iI ((nA A 0) + (x % 99)))]) C (cy_L_call G.1) (wM_L_172 G.1) (ce_tryRule_1 G w hS (by omega) (by omega) (by omega) (by omega)) dL_refuses_590 rfl rfl (by decide) (by decide) (Nat.le_of_ble_eq_true rfl) ⟨by omega, by omega⟩ ?_
  refine x_ldc (pc := 593) C (wC_L_15 G.1) dL_refuses_593 ?_
  refine x_icmp_ne (pc := 595) C 716 (by decide) (by decide) dL_refuses_595 (by decide) (fun h => absurd h (by decide)) (fun h595 => ?_)
  refine x_aload_n (pc := 598) C 5 rfl dL_refuses_598 ?_
  refine x_bipush (pc := 599) C (by decide +kernel) dL_refuses_599 ?_
  refine x_iload (pc := 601) C 1 rfl dL_refuses_601 ?_
  refine x_bipush (pc := 603) C (by decide +kernel) dL_refuses_603 ?_
  refine x_iconst (pc := 605) C dL_refuses_605 ?_
  refine x_cs (pc := 606) (a := 29) (m := 1) (S' := S) (z := (-9999001)) (as := [.ref (bs (gw γ w)), .int (iI 17), .int (iI ((nA A 1) + (x % 99))), .int (iI 99), .int (iI 0)]) C (cy_L_call G.1) (wM_L_172 G.1) (ce_tryIf_1 G w hS (by omega) (by omega) (by omega) (by omega)) dL_refuses_606 rfl rfl (by decide) (by decide) (Nat.le_of_ble_eq_true rfl) ⟨by omega, by omega⟩ ?_
  refine x_ldc (pc := 609) C (wC_L_15 G.1) dL_refuses_609 ?_
  refine x_icmp_ne (pc := 611) C 716 (by decide) (by decide) dL_refuses_611 (by decide) (fun h => absurd h (by decide)) (fun h611 => ?_)
  refine x_aload_n (pc := 614) C 5 rfl dL_refuses_614 ?_
  refine x_bipush (pc := 615) C (by decide +kernel) dL_refuses_615 ?_
  refine x_iload (pc := 617) C 2 rfl dL_refuses_617 ?_
  refine x_iconst (pc := 619) C dL_refuses_619 ?_
  refine x_iconst (pc := 620) C dL_refuses_620 ?_
  refine x_cs (pc := 621) (a := 30) (m := 1) (S' := S) (z := (-9999001)) (as := [.ref (bs (gw γ w)), .int (iI 18), .int (iI ((nA A 0) + (x % 99))), .int (iI 0), .int (iI 0)]) C (cy_L_call G.1) (wM_L_172 G.1) (ce_trySuspect_1 G w hS (by omega) (by omega) (by omega)) dL_refuses_621 rfl rfl (by decide) (by decide) (Nat.le_of_ble_eq_true rfl) ⟨by omega, by omega⟩ ?_
  refine x_ldc (pc := 624) C (wC_L_15 G.1) dL_refuses_624 ?_
  refine x_icmp_ne (pc := 626) C 716 (by decide) (by decide) dL_refuses_626 (by decide) (fun h => absurd h (by decide)) (fun h626 => ?_)
  refine x_aload_n (pc := 629) C 5 rfl dL_refuses_629 ?_
  refine x_bipush (pc := 630) C (by decide +kernel) dL_refuses_630 ?_
  refine x_iconst (pc := 632) C dL_refuses_632 ?_
  refine x_iload_n (pc := 633) C 6 rfl dL_refuses_633 ?_
  refine x_bipush (pc := 634) C (by decide +kernel) dL_refuses_634 ?_
  refine x_irem (pc := 636) C (by omega) (by decide) dL_refuses_636 ?_
  refine x_iadd (pc := 637) C dL_refuses_637 ?_
  refine x_iconst (pc := 638) C dL_refuses_638 ?_
  refine x_iconst (pc := 639) C dL_refuses_639 ?_
  refine x_cs (pc := 640) (a := 31) (m := 1) (S' := S) (z := (-9999001)) (as := [.ref (bs (gw γ w)), .int (iI 19), .int (iI (2 + (x % 50))), .int (iI 0), .int (iI 0)]) C (cy_L_call G.1) (wM_L_172 G.1) (ce_tryKeep_1 G w hS (by omega) (by omega)) dL_refuses_640 rfl rfl (by decide) (by decide) (Nat.le_of_ble_eq_true rfl) ⟨by omega, by omega⟩ ?_
  refine x_ldc (pc := 643) C (wC_L_15 G.1) dL_refuses_643 ?_
  refine x_icmp_ne (pc := 645) C 716 (by decide) (by decide) dL_refuses_645 (by decide) (fun h => absurd h (by decide)) (fun h645 => ?_)
  refine x_aload_n (pc := 648) C 5 rfl dL_refuses_648 ?_
  refine x_bipush (pc := 649) C (by decide +kernel) dL_refuses_649 ?_
  refine x_iconst (pc := 651) C dL_refuses_651 ?_
  refine x_iload_n (pc := 652) C 6 rfl dL_refuses_652 ?_
  refine x_bipush (pc := 653) C (by decide +kernel) dL_refuses_653 ?_
  refine x_irem (pc := 655) C (by omega) (by decide) dL_refuses_655 ?_
  refine x_isub (pc := 656) C dL_refuses_656 ?_
  refine x_iconst (pc := 657) C dL_refuses_657 ?_
  refine x_iconst (pc := 658) C dL_refuses_658 ?_
  refine x_cs (pc := 659) (a := 32) (m := 1) (S' := S) (z := (-9999001)) (as := [.ref (bs (gw γ w)), .int (iI 20), .int (iI ((-1) - (x % 9))), .int (iI 0), .int (iI 0)]) C (cy_L_call G.1) (wM_L_172 G.1) (ce_tryBack_1 G w hS (by omega) (by omega)) dL_refuses_659 rfl rfl (by decide) (by decide) (Nat.le_of_ble_eq_true rfl) ⟨by omega, by omega⟩ ?_
  refine x_ldc (pc := 662) C (wC_L_15 G.1) dL_refuses_662 ?_
  refine x_icmp_ne (pc := 664) C 716 (by decide) (by decide) dL_refuses_664 (by decide) (fun h => absurd h (by decide)) (fun h664 => ?_)
  refine x_aload_n (pc := 667) C 5 rfl dL_refuses_667 ?_
  refine x_iconst (pc := 668) C dL_refuses_668 ?_
  refine x_lconst (pc := 669) C (z := 0) rfl dL_refuses_669 ?_
  refine x_cw (pc := 670) (a := 33) (m := 1) (S' := S) (z := (-9999002)) (as := [.ref (bs (gw γ w)), .int (iI 0), .long (lI 0)]) C (cy_L_doScript G.1) (wM_L_184 G.1) (ce_doScript_1 G w hS (by decide) (by decide) (fun q => absurd q.1 (by decide))) dL_refuses_670 rfl rfl (by decide) (by decide) (Nat.le_of_ble_eq_true rfl) ⟨by omega, by omega⟩ ?_
  refine x_ldc (pc := 673) C (wC_L_18 G.1) dL_refuses_673 ?_
  refine x_icmp_ne (pc := 675) C 716 (by decide) (by decide) dL_refuses_675 (by decide) (fun h => absurd h (by decide)) (fun h675 => ?_)
  refine x_aload_n (pc := 678) C 5 rfl dL_refuses_678 ?_
  refine x_iconst (pc := 679) C dL_refuses_679 ?_
  refine x_ldc2 (pc := 680) C (wCL_L_188 G.1) dL_refuses_680 ?_
  refine x_iload_n (pc := 683) C 6 rfl dL_refuses_683 ?_
  refine x_i2l (pc := 684) C (by omega) dL_refuses_684 ?_
  refine x_ladd (pc := 685) C dL_refuses_685 ?_
  refine x_cw (pc := 686) (a := 34) (m := 1) (S' := S) (z := (-9999002)) (as := [.ref (bs (gw γ w)), .int (iI 1), .long (lI (1000000 + x))]) C (cy_L_doScript G.1) (wM_L_184 G.1) (ce_doScript_1 G w hS (by decide) (by omega) (fun q => by have q2 := q.2.2; rw [show (1000000 : Int) ^ (1 : Int).toNat - 1 = 999999 from by decide] at q2; omega)) dL_refuses_686 rfl rfl (by decide) (by decide) (Nat.le_of_ble_eq_true rfl) ⟨by omega, by omega⟩ ?_
  refine x_ldc (pc := 689) C (wC_L_18 G.1) dL_refuses_689 ?_
  refine x_icmp_ne (pc := 691) C 716 (by decide) (by decide) dL_refuses_691 (by decide) (fun h => absurd h (by decide)) (fun h691 => ?_)
  refine x_aload_n (pc := 694) C 5 rfl dL_refuses_694 ?_
  refine x_iload_n (pc := 695) C 6 rfl dL_refuses_695 ?_
  refine x_i2l (pc := 696) C (by omega) dL_refuses_696 ?_
  refine x_bipush (pc := 697) C (by decide +kernel) dL_refuses_697 ?_
  refine x_iload_n (pc := 699) C 6 rfl dL_refuses_699 ?_
  refine x_bipush (pc := 700) C (by decide +kernel) dL_refuses_700 ?_
  refine x_irem (pc := 702) C (by omega) (by decide) dL_refuses_702 ?_
  refine x_iadd (pc := 703) C dL_refuses_703 ?_
  refine x_cw (pc := 704) (a := 35) (m := 1) (S' := S) (z := (-9999002)) (as := [.ref (bs (gw γ w)), .long (lI x), .int (iI (61 + (x % 9)))]) C (cy_L_doSimulate G.1) (wM_L_190 G.1) (ce_doSimulate_1 G w hS (by omega) (by omega)) dL_refuses_704 rfl rfl (by decide) (by decide) (Nat.le_of_ble_eq_true rfl) ⟨by omega, by omega⟩ ?_
  refine x_ldc (pc := 707) C (wC_L_18 G.1) dL_refuses_707 ?_
  refine x_icmp_ne (pc := 709) C 716 (by decide) (by decide) dL_refuses_709 (by decide) (fun h => absurd h (by decide)) (fun h709 => ?_)
  refine x_iconst (pc := 712) C dL_refuses_712 ?_
  refine x_goto (pc := 713) C 717 dL_refuses_713 (by decide) ?_
  refine x_istore (pc := 717) C [(7, .int (iI 1)), (6, .int (iI (2 + (x % 9)))), (5, .int (iI ((nA A 1) + (x % 99)))), (4, .int (iI ((nA A 0) + (x % 99)))), (3, .int (iI (nA A 1))), (2, .int (iI (nA A 0))), (0, .ref (bs (gw γ w))), (1, .int (iI x))] dL_refuses_717 (by decide) rfl ?_
  refine x_iload_n (pc := 719) C 7 rfl dL_refuses_719 ?_
  refine x_iload_n (pc := 720) C 5 rfl dL_refuses_720 ?_
  refine x_irem (pc := 721) C (by omega) (by omega) dL_refuses_721 ?_
  refine x_nm (fun v ev => ?_)
  have hv : 0 ≤ v ∧ v < nA A 0 := ⟨ev ▸ Int.emod_nonneg _ (by omega), ev ▸ Int.emod_lt_of_pos _ (by omega)⟩
  refine x_istore (pc := 722) C [(8, .int (iI v)), (7, .int (iI 1)), (6, .int (iI (2 + (x % 9)))), (5, .int (iI ((nA A 1) + (x % 99)))), (4, .int (iI ((nA A 0) + (x % 99)))), (3, .int (iI (nA A 1))), (2, .int (iI (nA A 0))), (0, .ref (bs (gw γ w))), (1, .int (iI x))] dL_refuses_722 (by decide) rfl ?_
  refine x_iload (pc := 724) C 1 rfl dL_refuses_724 ?_
  refine x_if_eq (pc := 726) C 909 (by decide) dL_refuses_726 (by decide) (fun h => absurd h (by decide)) (fun h726 => ?_)
  refine x_aload_n (pc := 729) C 7 rfl dL_refuses_729 ?_
  refine x_iconst (pc := 730) C dL_refuses_730 ?_
  refine x_iload (pc := 731) C 0 rfl dL_refuses_731 ?_
  refine x_iconst (pc := 733) C dL_refuses_733 ?_
  refine x_iload_n (pc := 734) C 8 rfl dL_refuses_734 ?_
  refine x_bipush (pc := 735) C (by decide +kernel) dL_refuses_735 ?_
  refine x_irem (pc := 737) C (by omega) (by decide) dL_refuses_737 ?_
  refine x_iadd (pc := 738) C dL_refuses_738 ?_
  refine x_iconst (pc := 739) C dL_refuses_739 ?_
  refine x_cs (pc := 740) (a := 36) (m := 1) (S' := S) (z := (-9999002)) (as := [.ref (bs (gw γ w)), .int (iI 3), .int (iI v), .int (iI (5 + (x % 9))), .int (iI 0)]) C (cy_L_call G.1) (wM_L_172 G.1) (ce_tryTold_2 G w hS (by omega) (by omega) (by omega) (by omega)) dL_refuses_740 rfl rfl (by decide) (by decide) (Nat.le_of_ble_eq_true rfl) ⟨by omega, by omega⟩ ?_
  refine x_ldc (pc := 743) C (wC_L_18 G.1) dL_refuses_743 ?_
  refine x_icmp_ne (pc := 745) C 909 (by decide) (by decide) dL_refuses_745 (by decide) (fun h => absurd h (by decide)) (fun h745 => ?_)
  refine x_aload_n (pc := 748) C 7 rfl dL_refuses_748 ?_
  refine x_iconst (pc := 749) C dL_refuses_749 ?_
  refine x_iload (pc := 750) C 0 rfl dL_refuses_750 ?_
  refine x_iload_n (pc := 752) C 8 rfl dL_refuses_752 ?_
  refine x_iconst (pc := 753) C dL_refuses_753 ?_
  refine x_irem (pc := 754) C (by omega) (by decide) dL_refuses_754 ?_
  refine x_iconst (pc := 755) C dL_refuses_755 ?_
  refine x_iload_n (pc := 756) C 8 rfl dL_refuses_756 ?_
  refine x_bipush (pc := 757) C (by decide +kernel) dL_refuses_757 ?_
  refine x_irem (pc := 759) C (by omega) (by decide) dL_refuses_759 ?_
  refine x_iadd (pc := 760) C dL_refuses_760 ?_
  refine x_cs (pc := 761) (a := 37) (m := 1) (S' := S) (z := (-9999002)) (as := [.ref (bs (gw γ w)), .int (iI 5), .int (iI v), .int (iI (x % 2)), .int (iI (2 + (x % 9)))]) C (cy_L_call G.1) (wM_L_172 G.1) (ce_tryPush_2 G w hS (by omega) (by omega) (by omega) (by omega) (by omega)) dL_refuses_761 rfl rfl (by decide) (by decide) (Nat.le_of_ble_eq_true rfl) ⟨by omega, by omega⟩ ?_
  refine x_ldc (pc := 764) C (wC_L_18 G.1) dL_refuses_764 ?_
  refine x_icmp_ne (pc := 766) C 909 (by decide) (by decide) dL_refuses_766 (by decide) (fun h => absurd h (by decide)) (fun h766 => ?_)
  refine x_aload_n (pc := 769) C 7 rfl dL_refuses_769 ?_
  refine x_iload (pc := 770) C 0 rfl dL_refuses_770 ?_
  refine x_iconst (pc := 772) C dL_refuses_772 ?_
  refine x_iload (pc := 773) C 0 rfl dL_refuses_773 ?_
  refine x_iconst (pc := 775) C dL_refuses_775 ?_
  refine x_iload_n (pc := 776) C 8 rfl dL_refuses_776 ?_
  refine x_iconst (pc := 777) C dL_refuses_777 ?_
  refine x_irem (pc := 778) C (by omega) (by decide) dL_refuses_778 ?_
  refine x_if_ne (pc := 779) C 786 (by omega) dL_refuses_779 (by decide) (fun h779 => ?_) (fun h => by exfalso; omega)
  refine x_bipush (pc := 786) C (by decide +kernel) dL_refuses_786 ?_
  refine x_iload_n (pc := 788) C 8 rfl dL_refuses_788 ?_
  refine x_bipush (pc := 789) C (by decide +kernel) dL_refuses_789 ?_
  refine x_irem (pc := 791) C (by omega) (by decide) dL_refuses_791 ?_
  refine x_iadd (pc := 792) C dL_refuses_792 ?_
  refine x_cw (pc := 793) (a := 38) (m := 1) (S' := S) (z := (-9999002)) (as := [.ref (bs (gw γ w)), .int (iI v), .int (iI 0), .int (iI v), .int (iI 1), .int (iI (7 + (x % 9)))]) C (cy_L_ducts G.1) (wM_L_176 G.1) (ce_ducts_2 G w hS (by omega) (by omega) (by omega) (by omega) (by omega) (by omega) (by omega)) dL_refuses_793 rfl rfl (by decide) (by decide) (Nat.le_of_ble_eq_true rfl) ⟨by omega, by omega⟩ ?_
  refine x_ldc (pc := 796) C (wC_L_18 G.1) dL_refuses_796 ?_
  refine x_icmp_ne (pc := 798) C 909 (by decide) (by decide) dL_refuses_798 (by decide) (fun h => absurd h (by decide)) (fun h798 => ?_)
  refine x_aload_n (pc := 801) C 7 rfl dL_refuses_801 ?_
  refine x_bipush (pc := 802) C (by decide +kernel) dL_refuses_802 ?_
  refine x_iload (pc := 804) C 0 rfl dL_refuses_804 ?_
  refine x_iload_n (pc := 806) C 8 rfl dL_refuses_806 ?_
  refine x_iconst (pc := 807) C dL_refuses_807 ?_
  refine x_irem (pc := 808) C (by omega) (by decide) dL_refuses_808 ?_
  refine x_if_ne (pc := 809) C 817 (by omega) dL_refuses_809 (by decide) (fun h809 => ?_) (fun h => by exfalso; omega)
  refine x_bipush (pc := 817) C (by decide +kernel) dL_refuses_817 ?_
  refine x_iload_n (pc := 819) C 8 rfl dL_refuses_819 ?_
  refine x_bipush (pc := 820) C (by decide +kernel) dL_refuses_820 ?_
  refine x_irem (pc := 822) C (by omega) (by decide) dL_refuses_822 ?_
  refine x_iadd (pc := 823) C dL_refuses_823 ?_
  refine x_iconst (pc := 824) C dL_refuses_824 ?_
  refine x_cs (pc := 825) (a := 39) (m := 1) (S' := S) (z := (-9999002)) (as := [.ref (bs (gw γ w)), .int (iI 11), .int (iI v), .int (iI (100 + (x % 9))), .int (iI 0)]) C (cy_L_call G.1) (wM_L_172 G.1) (ce_tryFeed_2 G w hS (by omega) (by omega) (by omega) (by omega)) dL_refuses_825 rfl rfl (by decide) (by decide) (Nat.le_of_ble_eq_true rfl) ⟨by omega, by omega⟩ ?_
  refine x_ldc (pc := 828) C (wC_L_18 G.1) dL_refuses_828 ?_
  refine x_icmp_ne (pc := 830) C 909 (by decide) (by decide) dL_refuses_830 (by decide) (fun h => absurd h (by decide)) (fun h830 => ?_)
  refine x_aload_n (pc := 833) C 7 rfl dL_refuses_833 ?_
  refine x_bipush (pc := 834) C (by decide +kernel) dL_refuses_834 ?_
  refine x_iload (pc := 836) C 0 rfl dL_refuses_836 ?_
  refine x_iload (pc := 838) C 0 rfl dL_refuses_838 ?_
  refine x_iconst (pc := 840) C dL_refuses_840 ?_
  refine x_cs (pc := 841) (a := 40) (m := 1) (S' := S) (z := (-9999002)) (as := [.ref (bs (gw γ w)), .int (iI 16), .int (iI v), .int (iI v), .int (iI 0)]) C (cy_L_call G.1) (wM_L_172 G.1) (ce_tryRule_2 G w hS (by omega) (by omega) (by omega) (by omega) (fun q => q.1 rfl)) dL_refuses_841 rfl rfl (by decide) (by decide) (Nat.le_of_ble_eq_true rfl) ⟨by omega, by omega⟩ ?_
  refine x_ldc (pc := 844) C (wC_L_18 G.1) dL_refuses_844 ?_
  refine x_icmp_ne (pc := 846) C 909 (by decide) (by decide) dL_refuses_846 (by decide) (fun h => absurd h (by decide)) (fun h846 => ?_)
  refine x_aload_n (pc := 849) C 7 rfl dL_refuses_849 ?_
  refine x_bipush (pc := 850) C (by decide +kernel) dL_refuses_850 ?_
  refine x_iload (pc := 852) C 0 rfl dL_refuses_852 ?_
  refine x_iload_n (pc := 854) C 8 rfl dL_refuses_854 ?_
  refine x_iconst (pc := 855) C dL_refuses_855 ?_
  refine x_irem (pc := 856) C (by omega) (by decide) dL_refuses_856 ?_
  refine x_if_ne (pc := 857) C 864 (by omega) dL_refuses_857 (by decide) (fun h857 => ?_) (fun h => by exfalso; omega)
  refine x_sipush (pc := 864) C (by decide +kernel) dL_refuses_864 ?_
  refine x_iload_n (pc := 867) C 8 rfl dL_refuses_867 ?_
  refine x_bipush (pc := 868) C (by decide +kernel) dL_refuses_868 ?_
  refine x_irem (pc := 870) C (by omega) (by decide) dL_refuses_870 ?_
  refine x_iadd (pc := 871) C dL_refuses_871 ?_
  refine x_iconst (pc := 872) C dL_refuses_872 ?_
  refine x_cs (pc := 873) (a := 41) (m := 1) (S' := S) (z := (-9999002)) (as := [.ref (bs (gw γ w)), .int (iI 18), .int (iI v), .int (iI (201 + (x % 9))), .int (iI 0)]) C (cy_L_call G.1) (wM_L_172 G.1) (ce_trySuspect_2 G w hS (by omega) (by omega) (by omega) (by omega)) dL_refuses_873 rfl rfl (by decide) (by decide) (Nat.le_of_ble_eq_true rfl) ⟨by omega, by omega⟩ ?_
  refine x_ldc (pc := 876) C (wC_L_18 G.1) dL_refuses_876 ?_
  refine x_icmp_ne (pc := 878) C 909 (by decide) (by decide) dL_refuses_878 (by decide) (fun h => absurd h (by decide)) (fun h878 => ?_)
  refine x_aload_n (pc := 881) C 7 rfl dL_refuses_881 ?_
  refine x_iconst (pc := 882) C dL_refuses_882 ?_
  refine x_iload (pc := 883) C 0 rfl dL_refuses_883 ?_
  refine x_iconst (pc := 885) C dL_refuses_885 ?_
  refine x_iconst (pc := 886) C dL_refuses_886 ?_
  refine x_cs (pc := 887) (a := 42) (m := 1) (S' := S) (z := nA A (6 + 7 * v + 0)) (as := [.ref (bs (gw γ w)), .int (iI 3), .int (iI v), .int (iI 0), .int (iI 0)]) C (cy_L_call G.1) (wM_L_172 G.1) (t_told0 G w hS hO (v := v) hv) dL_refuses_887 rfl rfl (by decide) (by decide) (Nat.le_of_ble_eq_true rfl) ⟨by omega, by omega⟩ ?_
  refine x_if_eq (pc := 890) C 905 (by obtain ⟨q0, -⟩ := hO.wf.2.2.2.2.1 v hv.1 hv.2; omega) dL_refuses_890 (by decide) (fun h890 => ?_) (fun h890 => ?_)
  · refine x_iconst (pc := 905) C dL_refuses_905 ?_
    refine x_goto (pc := 906) C 910 dL_refuses_906 (by decide) ?_
    refine x_istore (pc := 910) C [(7, .int (iI 1)), (8, .int (iI v)), (6, .int (iI (2 + (x % 9)))), (5, .int (iI ((nA A 1) + (x % 99)))), (4, .int (iI ((nA A 0) + (x % 99)))), (3, .int (iI (nA A 1))), (2, .int (iI (nA A 0))), (0, .ref (bs (gw γ w))), (1, .int (iI x))] dL_refuses_910 (by decide) rfl ?_
    refine x_iload (pc := 912) C 0 rfl dL_refuses_912 ?_
    refine x_if_eq (pc := 914) C 1000 (by decide) dL_refuses_914 (by decide) (fun h => absurd h (by decide)) (fun h914 => ?_)
    refine x_iload_n (pc := 917) C 5 rfl dL_refuses_917 ?_
    refine x_if_eq (pc := 918) C 996 (by omega) dL_refuses_918 (by decide) (fun h918 => ?_) (fun h918 => ?_)
    · refine x_iconst (pc := 996) C dL_refuses_996 ?_
      refine x_goto (pc := 997) C 1001 dL_refuses_997 (by decide) ?_
      exact x_ret (pc := 1001) C (by omega) hr rfl dL_refuses_1001 rfl rfl
    · refine x_aload_n (pc := 921) C 7 rfl dL_refuses_921 ?_
      refine x_bipush (pc := 922) C (by decide +kernel) dL_refuses_922 ?_
      refine x_iconst (pc := 924) C dL_refuses_924 ?_
      refine x_bipush (pc := 925) C (by decide +kernel) dL_refuses_925 ?_
      refine x_iload_n (pc := 927) C 8 rfl dL_refuses_927 ?_
      refine x_bipush (pc := 928) C (by decide +kernel) dL_refuses_928 ?_
      refine x_irem (pc := 930) C (by omega) (by decide) dL_refuses_930 ?_
      refine x_iadd (pc := 931) C dL_refuses_931 ?_
      refine x_iconst (pc := 932) C dL_refuses_932 ?_
      refine x_cs (pc := 933) (a := 43) (m := 1) (S' := S) (z := (-9999002)) (as := [.ref (bs (gw γ w)), .int (iI 6), .int (iI 0), .int (iI (8 + (x % 9))), .int (iI 0)]) C (cy_L_call G.1) (wM_L_172 G.1) (ce_tryPipe_2 G w hS (by omega) (by omega) (by omega) (by omega)) dL_refuses_933 rfl rfl (by decide) (by decide) (Nat.le_of_ble_eq_true rfl) ⟨by omega, by omega⟩ ?_
      refine x_ldc (pc := 936) C (wC_L_18 G.1) dL_refuses_936 ?_
      refine x_icmp_ne (pc := 938) C 1000 (by decide) (by decide) dL_refuses_938 (by decide) (fun h => absurd h (by decide)) (fun h938 => ?_)
      refine x_aload_n (pc := 941) C 7 rfl dL_refuses_941 ?_
      refine x_bipush (pc := 942) C (by decide +kernel) dL_refuses_942 ?_
      refine x_iconst (pc := 944) C dL_refuses_944 ?_
      refine x_bipush (pc := 945) C (by decide +kernel) dL_refuses_945 ?_
      refine x_iload_n (pc := 947) C 8 rfl dL_refuses_947 ?_
      refine x_bipush (pc := 948) C (by decide +kernel) dL_refuses_948 ?_
      refine x_irem (pc := 950) C (by omega) (by decide) dL_refuses_950 ?_
      refine x_iadd (pc := 951) C dL_refuses_951 ?_
      refine x_iconst (pc := 952) C dL_refuses_952 ?_
      refine x_cs (pc := 953) (a := 44) (m := 1) (S' := S) (z := (-9999002)) (as := [.ref (bs (gw γ w)), .int (iI 10), .int (iI 0), .int (iI (31 + (x % 9))), .int (iI 0)]) C (cy_L_call G.1) (wM_L_172 G.1) (ce_tryLeak_2 G w hS (by omega) (by omega) (by omega) (by omega)) dL_refuses_953 rfl rfl (by decide) (by decide) (Nat.le_of_ble_eq_true rfl) ⟨by omega, by omega⟩ ?_
      refine x_ldc (pc := 956) C (wC_L_18 G.1) dL_refuses_956 ?_
      refine x_icmp_ne (pc := 958) C 1000 (by decide) (by decide) dL_refuses_958 (by decide) (fun h => absurd h (by decide)) (fun h958 => ?_)
      refine x_aload_n (pc := 961) C 7 rfl dL_refuses_961 ?_
      refine x_bipush (pc := 962) C (by decide +kernel) dL_refuses_962 ?_
      refine x_iconst (pc := 964) C dL_refuses_964 ?_
      refine x_bipush (pc := 965) C (by decide +kernel) dL_refuses_965 ?_
      refine x_iload_n (pc := 967) C 8 rfl dL_refuses_967 ?_
      refine x_bipush (pc := 968) C (by decide +kernel) dL_refuses_968 ?_
      refine x_irem (pc := 970) C (by omega) (by decide) dL_refuses_970 ?_
      refine x_iadd (pc := 971) C dL_refuses_971 ?_
      refine x_iconst (pc := 972) C dL_refuses_972 ?_
      refine x_cs (pc := 973) (a := 45) (m := 1) (S' := S) (z := (-9999002)) (as := [.ref (bs (gw γ w)), .int (iI 17), .int (iI 0), .int (iI (31 + (x % 9))), .int (iI 0)]) C (cy_L_call G.1) (wM_L_172 G.1) (ce_tryIf_2 G w hS (by omega) (by omega) (by omega) (by omega) (by omega)) dL_refuses_973 rfl rfl (by decide) (by decide) (Nat.le_of_ble_eq_true rfl) ⟨by omega, by omega⟩ ?_
      refine x_ldc (pc := 976) C (wC_L_18 G.1) dL_refuses_976 ?_
      refine x_icmp_ne (pc := 978) C 1000 (by decide) (by decide) dL_refuses_978 (by decide) (fun h => absurd h (by decide)) (fun h978 => ?_)
      refine x_aload_n (pc := 981) C 7 rfl dL_refuses_981 ?_
      refine x_bipush (pc := 982) C (by decide +kernel) dL_refuses_982 ?_
      refine x_iconst (pc := 984) C dL_refuses_984 ?_
      refine x_iconst (pc := 985) C dL_refuses_985 ?_
      refine x_iload (pc := 986) C 4 rfl dL_refuses_986 ?_
      refine x_cs (pc := 988) (a := 46) (m := 1) (S' := S) (z := (-9999001)) (as := [.ref (bs (gw γ w)), .int (iI 17), .int (iI 0), .int (iI 0), .int (iI ((nA A 0) + (x % 99)))]) C (cy_L_call G.1) (wM_L_172 G.1) (ce_tryIf_1 G w hS (by omega) (by omega) (by omega) (by omega)) dL_refuses_988 rfl rfl (by decide) (by decide) (Nat.le_of_ble_eq_true rfl) ⟨by omega, by omega⟩ ?_
      refine x_ldc (pc := 991) C (wC_L_15 G.1) dL_refuses_991 ?_
      refine x_icmp_ne (pc := 993) C 1000 (by decide) (by decide) dL_refuses_993 (by decide) (fun h => absurd h (by decide)) (fun h993 => ?_)
      refine x_iconst (pc := 996) C dL_refuses_996 ?_
      refine x_goto (pc := 997) C 1001 dL_refuses_997 (by decide) ?_
      exact x_ret (pc := 1001) C (by omega) hr rfl dL_refuses_1001 rfl rfl
  · refine x_aload_n (pc := 893) C 7 rfl dL_refuses_893 ?_
    refine x_iload (pc := 894) C 0 rfl dL_refuses_894 ?_
    refine x_iconst (pc := 896) C dL_refuses_896 ?_
    refine x_cw (pc := 897) (a := 43) (m := 1) (S' := S) (z := (-9999003)) (as := [.ref (bs (gw γ w)), .int (iI v), .int (iI 1)]) C (cy_L_keys G.1) (wM_L_180 G.1) (ce_keys_2 G w hS (by omega) (Or.inr rfl) hv h890) dL_refuses_897 rfl rfl (by decide) (by decide) (Nat.le_of_ble_eq_true rfl) ⟨by omega, by omega⟩ ?_
    refine x_ldc (pc := 900) C (wC_L_21 G.1) dL_refuses_900 ?_
    refine x_icmp_ne (pc := 902) C 909 (by decide) (by decide) dL_refuses_902 (by decide) (fun h => absurd h (by decide)) (fun h902 => ?_)
    refine x_iconst (pc := 905) C dL_refuses_905 ?_
    refine x_goto (pc := 906) C 910 dL_refuses_906 (by decide) ?_
    refine x_istore (pc := 910) C [(7, .int (iI 1)), (8, .int (iI v)), (6, .int (iI (2 + (x % 9)))), (5, .int (iI ((nA A 1) + (x % 99)))), (4, .int (iI ((nA A 0) + (x % 99)))), (3, .int (iI (nA A 1))), (2, .int (iI (nA A 0))), (0, .ref (bs (gw γ w))), (1, .int (iI x))] dL_refuses_910 (by decide) rfl ?_
    refine x_iload (pc := 912) C 0 rfl dL_refuses_912 ?_
    refine x_if_eq (pc := 914) C 1000 (by decide) dL_refuses_914 (by decide) (fun h => absurd h (by decide)) (fun h914 => ?_)
    refine x_iload_n (pc := 917) C 5 rfl dL_refuses_917 ?_
    refine x_if_eq (pc := 918) C 996 (by omega) dL_refuses_918 (by decide) (fun h918 => ?_) (fun h918 => ?_)
    · refine x_iconst (pc := 996) C dL_refuses_996 ?_
      refine x_goto (pc := 997) C 1001 dL_refuses_997 (by decide) ?_
      exact x_ret (pc := 1001) C (by omega) hr rfl dL_refuses_1001 rfl rfl
    · refine x_aload_n (pc := 921) C 7 rfl dL_refuses_921 ?_
      refine x_bipush (pc := 922) C (by decide +kernel) dL_refuses_922 ?_
      refine x_iconst (pc := 924) C dL_refuses_924 ?_
      refine x_bipush (pc := 925) C (by decide +kernel) dL_refuses_925 ?_
      refine x_iload_n (pc := 927) C 8 rfl dL_refuses_927 ?_
      refine x_bipush (pc := 928) C (by decide +kernel) dL_refuses_928 ?_
      refine x_irem (pc := 930) C (by omega) (by decide) dL_refuses_930 ?_
      refine x_iadd (pc := 931) C dL_refuses_931 ?_
      refine x_iconst (pc := 932) C dL_refuses_932 ?_
      refine x_cs (pc := 933) (a := 44) (m := 1) (S' := S) (z := (-9999002)) (as := [.ref (bs (gw γ w)), .int (iI 6), .int (iI 0), .int (iI (8 + (x % 9))), .int (iI 0)]) C (cy_L_call G.1) (wM_L_172 G.1) (ce_tryPipe_2 G w hS (by omega) (by omega) (by omega) (by omega)) dL_refuses_933 rfl rfl (by decide) (by decide) (Nat.le_of_ble_eq_true rfl) ⟨by omega, by omega⟩ ?_
      refine x_ldc (pc := 936) C (wC_L_18 G.1) dL_refuses_936 ?_
      refine x_icmp_ne (pc := 938) C 1000 (by decide) (by decide) dL_refuses_938 (by decide) (fun h => absurd h (by decide)) (fun h938 => ?_)
      refine x_aload_n (pc := 941) C 7 rfl dL_refuses_941 ?_
      refine x_bipush (pc := 942) C (by decide +kernel) dL_refuses_942 ?_
      refine x_iconst (pc := 944) C dL_refuses_944 ?_
      refine x_bipush (pc := 945) C (by decide +kernel) dL_refuses_945 ?_
      refine x_iload_n (pc := 947) C 8 rfl dL_refuses_947 ?_
      refine x_bipush (pc := 948) C (by decide +kernel) dL_refuses_948 ?_
      refine x_irem (pc := 950) C (by omega) (by decide) dL_refuses_950 ?_
      refine x_iadd (pc := 951) C dL_refuses_951 ?_
      refine x_iconst (pc := 952) C dL_refuses_952 ?_
      refine x_cs (pc := 953) (a := 45) (m := 1) (S' := S) (z := (-9999002)) (as := [.ref (bs (gw γ w)), .int (iI 10), .int (iI 0), .int (iI (31 + (x % 9))), .int (iI 0)]) C (cy_L_call G.1) (wM_L_172 G.1) (ce_tryLeak_2 G w hS (by omega) (by omega) (by omega) (by omega)) dL_refuses_953 rfl rfl (by decide) (by decide) (Nat.le_of_ble_eq_true rfl) ⟨by omega, by omega⟩ ?_
      refine x_ldc (pc := 956) C (wC_L_18 G.1) dL_refuses_956 ?_
      refine x_icmp_ne (pc := 958) C 1000 (by decide) (by decide) dL_refuses_958 (by decide) (fun h => absurd h (by decide)) (fun h958 => ?_)
      refine x_aload_n (pc := 961) C 7 rfl dL_refuses_961 ?_
      refine x_bipush (pc := 962) C (by decide +kernel) dL_refuses_962 ?_
      refine x_iconst (pc := 964) C dL_refuses_964 ?_
      refine x_bipush (pc := 965) C (by decide +kernel) dL_refuses_965 ?_
      refine x_iload_n (pc := 967) C 8 rfl dL_refuses_967 ?_
      refine x_bipush (pc := 968) C (by decide +kernel) dL_refuses_968 ?_
      refine x_irem (pc := 970) C (by omega) (by decide) dL_refuses_970 ?_
      refine x_iadd (pc := 971) C dL_refuses_971 ?_
      refine x_iconst (pc := 972) C dL_refuses_972 ?_
      refine x_cs (pc := 973) (a := 46) (m := 1) (S' := S) (z := (-9999002)) (as := [.ref (bs (gw γ w)), .int (iI 17), .int (iI 0), .int (iI (31 + (x % 9))), .int (iI 0)]) C (cy_L_call G.1) (wM_L_172 G.1) (ce_tryIf_2 G w hS (by omega) (by omega) (by omega) (by omega) (by omega)) dL_refuses_973 rfl rfl (by decide) (by decide) (Nat.le_of_ble_eq_true rfl) ⟨by omega, by omega⟩ ?_
      refine x_ldc (pc := 976) C (wC_L_18 G.1) dL_refuses_976 ?_
      refine x_icmp_ne (pc := 978) C 1000 (by decide) (by decide) dL_refuses_978 (by decide) (fun h => absurd h (by decide)) (fun h978 => ?_)
      refine x_aload_n (pc := 981) C 7 rfl dL_refuses_981 ?_
      refine x_bipush (pc := 982) C (by decide +kernel) dL_refuses_982 ?_
      refine x_iconst (pc := 984) C dL_refuses_984 ?_
      refine x_iconst (pc := 985) C dL_refuses_985 ?_
      refine x_iload (pc := 986) C 4 rfl dL_refuses_986 ?_
      refine x_cs (pc := 988) (a := 47) (m := 1) (S' := S) (z := (-9999001)) (as := [.ref (bs (gw γ w)), .int (iI 17), .int (iI 0), .int (iI 0), .int (iI ((nA A 0) + (x % 99)))]) C (cy_L_call G.1) (wM_L_172 G.1) (ce_tryIf_1 G w hS (by omega) (by omega) (by omega) (by omega)) dL_refuses_988 rfl rfl (by decide) (by decide) (Nat.le_of_ble_eq_true rfl) ⟨by omega, by omega⟩ ?_
      refine x_ldc (pc := 991) C (wC_L_15 G.1) dL_refuses_991 ?_
      refine x_icmp_ne (pc := 993) C 1000 (by decide) (by decide) dL_refuses_993 (by decide) (fun h => absurd h (by decide)) (fun h993 => ?_)
      refine x_iconst (pc := 996) C dL_refuses_996 ?_
      refine x_goto (pc := 997) C 1001 dL_refuses_997 (by decide) ?_
      exact x_ret (pc := 1001) C (by omega) hr rfl dL_refuses_1001 rfl rfl

theorem k_refuses {γ : Gm} (G : GL γ) (w : Bool) {S : St2} {A : Abs} (hS : gat S w = A) (hO : AOkA A) {x : Int} (h4 : 4 ≤ nA A 0) (hx : 0 ≤ x ∧ x < 100000) : Cl γ yL_refuses (.code yL_refuses cL_refuses 9 (some .boolean)) 12 60 [.ref (bs (gw γ w)), .int (iI x)] S 1 S := by
  rcases Int.emod_two_eq x with h | h
  · exact k_refuses_0 G w hS hO h4 hx h
  · exact k_refuses_1 G w hS hO h4 hx h
