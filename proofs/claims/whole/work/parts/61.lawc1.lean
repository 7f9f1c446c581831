set_option maxHeartbeats 4000000 in
set_option maxRecDepth 100000 in
theorem lc_append {γ : Gm} {φ : Fx} {b0 L : Nat} {xs : Nat → Int32} {A0 B0 : Nat} {Q : State → Prop} {j : Int} {τ : St} {w s a p u : Int} {t n x f d k i : Int → Int} (G : Glo γ) (N : GNc γ) (C : Cx γ φ RL cL_law 7 20) (E : LE γ φ b0 L xs) (hcr : A0 + 1 ≤ φ.2.2.1.cells ∧ B0 + 6 ≤ φ.2.2.1.slots) (hj : 0 ≤ j ∧ j + 6 ≤ L) (hI : LI τ w s a p u t n x f d k i)
    (K : ∀ (τ : St) (w s a p u : Int) (t n x f d k i : Int → Int), LI τ w s a p u t n x f d k i → Vw γ φ 7 (A0 + 1) (B0 + 6) Q τ 1932 [(4, .int (iI j)), (0, .ref b0), (1, .ref (bs γ + 0)), (2, .ref (bs γ + 255)), (3, .ref (bs γ + 263))] []) : Vw γ φ 7 A0 B0 Q τ 172 [(4, .int (iI j)), (0, .ref b0), (1, .ref (bs γ + 0)), (2, .ref (bs γ + 255)), (3, .ref (bs γ + 263))] [] := by
  have hL := E.2.2.2
  obtain ⟨hM, hC, hO⟩ := hI
  have hW := hO.2.2.2.1
  refine v_aload_n (pc := 172) C 2 rfl dL_law_172 ?_
  refine v_aload_n (pc := 173) C 1 rfl dL_law_173 ?_
  refine v_iload (pc := 174) C 0 rfl dL_law_174 ?_
  refine v_iconst (pc := 176) C dL_law_176 ?_
  refine v_iadd (pc := 177) C dL_law_177 ?_
  refine v_sld (pc := 178) C E (by omega) dL_law_178 ?_
  refine v_aload_n (pc := 179) C 4 rfl dL_law_179 ?_
  refine v_csW (pc := 180) (as := [.ref (bs γ + 0), .int (iI (XS xs (j + 1))), .ref (bs γ + 263)]) C (cy_L_append G) (wM_L_102 G) (k_L_append G N hC hO (XS_r _ _)) dL_law_180 rfl rfl (by decide) (by decide) (Nat.le_of_ble_eq_true rfl) hcr (k_I (fun z1 σ1 q1 => ?_))
  obtain ⟨e1, h1o, hC1, hE1⟩ := q1
  refine v_st (mR_eq (hM.cong hE1)) ?_
  refine v_istore (pc := 183) C [(5, .int (iI z1)), (4, .int (iI j)), (0, .ref b0), (1, .ref (bs γ + 0)), (2, .ref (bs γ + 255)), (3, .ref (bs γ + 263))] dL_law_183 (by decide) rfl ?_
  refine v_aload_n (pc := 185) C 4 rfl dL_law_185 ?_
  refine v_aload_n (pc := 186) C 2 rfl dL_law_186 ?_
  refine v_iload (pc := 187) C 1 rfl dL_law_187 ?_
  refine v_iconst (pc := 189) C dL_law_189 ?_
  refine v_iadd (pc := 190) C dL_law_190 ?_
  refine v_sld (pc := 191) C E (by omega) dL_law_191 ?_
  refine v_cv (pc := 192) (as := [.int (iI (XS xs (j + 1)))]) C (cy_X6_append G) (wM_L_107 G) sh_255 (ci := 4) rfl rfl (k_X6_append G (XS_r _ _) hO.1) dL_law_192 rfl rfl (by decide) (by decide) (Nat.le_of_ble_eq_true rfl) ⟨by omega, by omega⟩ (k_I (fun z2 σ2 q2 => ?_))
  obtain ⟨⟨p2, u2, x2, f2, rfl⟩, e2⟩ := q2
  refine v_istore (pc := 195) C [(6, .int (iI z2)), (5, .int (iI z1)), (4, .int (iI j)), (0, .ref b0), (1, .ref (bs γ + 0)), (2, .ref (bs γ + 255)), (3, .ref (bs γ + 263))] dL_law_195 (by decide) rfl ?_
  refine v_aload_n (pc := 197) C 5 rfl dL_law_197 ?_
  refine v_cv (pc := 198) (as := []) C (cy_X6_thrown G) (wM_L_108 G) sh_255 (ci := 4) rfl rfl (k_X6_thrown G) dL_law_198 rfl rfl (by decide) (by decide) (Nat.le_of_ble_eq_true rfl) ⟨by omega, by omega⟩ (k_I (fun z3 σ3 q3 => ?_))
  obtain ⟨e3, rfl⟩ := q3
  refine v_iload (pc := 201) C 1 rfl dL_law_201 ?_
  refine v_icmp_eqT (pc := 203) C 208 dL_law_203 (by decide) ((e3.trans (mA_w _ _ _ _ _ _ _)).trans e1.symm) ?_
  refine v_iload (pc := 208) C 1 rfl dL_law_208 ?_
  have hcd := cd_append s a t n d k i (XS xs (j + 1))
  refine v_if_ne (pc := 210) C 225 (by omega) dL_law_210 (by decide) (fun h0 => ?_) (fun h0 => ?_)
  · refine v_goto (pc := 225) C 1932 dL_law_225 (by decide) ?_
    exact v_lv _ [2, 3, 4, 5, 6] rfl (K _ _ _ _ _ _ _ _ _ _ _ _ _ (LI_next hC1 (ok_append hO (XS xs (j + 1)))))
  · refine v_aload_n (pc := 213) C 6 rfl dL_law_213 ?_
    refine v_iconst (pc := 214) C dL_law_214 ?_
    refine v_lald (pc := 215) C sh_263 (by decide) (by decide) dL_law_215 (fun z9 e9 r9 => ?_)
    have h9 : z9 = bmz z2 := by rw [e9, mA_out, e2 (by omega)]; exact h1o (by omega)
    refine v_iload (pc := 216) C 0 rfl dL_law_216 ?_
    refine v_bm ?_
    refine v_i2l (pc := 218) C (bmz_r _) dL_law_218 ?_
    refine v_lcmp (pc := 219) C (by omega) (by have := bmz_r z2; omega) dL_law_219 ?_
    refine v_ti (x2 := 0) (by rw [if_neg (by omega), if_pos h9]) ?_
    refine v_if_eq (pc := 220) C 225 (by first | omega | assumption) dL_law_220 (by decide) (fun _ => ?_) (fun h => absurd h (by decide))
    refine v_goto (pc := 225) C 1932 dL_law_225 (by decide) ?_
    exact v_lv _ [2, 3, 4, 5, 6] rfl (K _ _ _ _ _ _ _ _ _ _ _ _ _ (LI_next hC1 (ok_append hO (XS xs (j + 1)))))

set_option maxHeartbeats 4000000 in
set_option maxRecDepth 100000 in
theorem lc_clearText {γ : Gm} {φ : Fx} {b0 L : Nat} {xs : Nat → Int32} {A0 B0 : Nat} {Q : State → Prop} {j : Int} {τ : St} {w s a p u : Int} {t n x f d k i : Int → Int} (G : Glo γ) (N : GNc γ) (C : Cx γ φ RL cL_law 7 20) (E : LE γ φ b0 L xs) (hcr : A0 + 1 ≤ φ.2.2.1.cells ∧ B0 + 6 ≤ φ.2.2.1.slots) (hj : 0 ≤ j ∧ j + 6 ≤ L) (hI : LI τ w s a p u t n x f d k i)
    (K : ∀ (τ : St) (w s a p u : Int) (t n x f d k i : Int → Int), LI τ w s a p u t n x f d k i → Vw γ φ 7 (A0 + 1) (B0 + 6) Q τ 1932 [(4, .int (iI j)), (0, .ref b0), (1, .ref (bs γ + 0)), (2, .ref (bs γ + 255)), (3, .ref (bs γ + 263))] []) : Vw γ φ 7 A0 B0 Q τ 228 [(4, .int (iI j)), (0, .ref b0), (1, .ref (bs γ + 0)), (2, .ref (bs γ + 255)), (3, .ref (bs γ + 263))] [] := by
  have hL := E.2.2.2
  obtain ⟨hM, hC, hO⟩ := hI
  have hW := hO.2.2.2.1
  refine v_aload_n (pc := 228) C 2 rfl dL_law_228 ?_
  refine v_cv (pc := 229) (as := []) C (cy_X5_clearText G) (wM_L_111 G) sh_0 (ci := 3) rfl rfl (k_X5_clearText G hC hO) dL_law_229 rfl rfl (by decide) (by decide) (Nat.le_of_ble_eq_true rfl) ⟨by omega, by omega⟩ (k_I (fun z1 σ1 q1 => ?_))
  obtain ⟨g1, e1, hC1, hE1⟩ := q1
  refine v_st (mR_eq (hM.cong (fun c c0 _ => hE1 c c0))) ?_
  refine v_aload_n (pc := 232) C 3 rfl dL_law_232 ?_
  refine v_cv (pc := 233) (as := []) C (cy_X6_clearText G) (wM_L_114 G) sh_255 (ci := 4) rfl rfl (k_X6_clearText G hO.1) dL_law_233 rfl rfl (by decide) (by decide) (Nat.le_of_ble_eq_true rfl) ⟨by omega, by omega⟩ (k_I (fun z2 σ2 q2 => ?_))
  obtain ⟨⟨p2, u2, x2, f2, rfl⟩, e2⟩ := q2
  refine v_icmp_eqT (pc := 236) C 1932 dL_law_236 (by decide) (e1.trans (e2 g1).symm) ?_
  exact v_wide (by omega) (by omega) (v_lv _ [0, 1, 2, 3, 4] rfl (K _ _ _ _ _ _ _ _ _ _ _ _ _ (LI_next hC1 (ok_clearText hO))))

set_option maxHeartbeats 4000000 in
set_option maxRecDepth 100000 in
theorem lc_errorPosition {γ : Gm} {φ : Fx} {b0 L : Nat} {xs : Nat → Int32} {A0 B0 : Nat} {Q : State → Prop} {j : Int} {τ : St} {w s a p u : Int} {t n x f d k i : Int → Int} (G : Glo γ) (N : GNc γ) (C : Cx γ φ RL cL_law 7 20) (E : LE γ φ b0 L xs) (hcr : A0 + 1 ≤ φ.2.2.1.cells ∧ B0 + 6 ≤ φ.2.2.1.slots) (hj : 0 ≤ j ∧ j + 6 ≤ L) (hI : LI τ w s a p u t n x f d k i)
    (K : ∀ (τ : St) (w s a p u : Int) (t n x f d k i : Int → Int), LI τ w s a p u t n x f d k i → Vw γ φ 7 (A0 + 1) (B0 + 6) Q τ 1932 [(4, .int (iI j)), (0, .ref b0), (1, .ref (bs γ + 0)), (2, .ref (bs γ + 255)), (3, .ref (bs γ + 263))] []) : Vw γ φ 7 A0 B0 Q τ 241 [(4, .int (iI j)), (0, .ref b0), (1, .ref (bs γ + 0)), (2, .ref (bs γ + 255)), (3, .ref (bs γ + 263))] [] := by
  have hL := E.2.2.2
  obtain ⟨hM, hC, hO⟩ := hI
  have hW := hO.2.2.2.1
  refine v_aload_n (pc := 241) C 2 rfl dL_law_241 ?_
  refine v_cv (pc := 242) (as := []) C (cy_X5_errorPosition G) (wM_L_115 G) sh_0 (ci := 3) rfl rfl (k_X5_errorPosition G hC hO) dL_law_242 rfl rfl (by decide) (by decide) (Nat.le_of_ble_eq_true rfl) ⟨by omega, by omega⟩ (k_I (fun z1 σ1 q1 => ?_))
  obtain ⟨g1, e1, hC1, hE1⟩ := q1
  refine v_st (mR_eq (hM.cong (fun c c0 _ => hE1 c c0))) ?_
  refine v_aload_n (pc := 245) C 3 rfl dL_law_245 ?_
  refine v_cv (pc := 246) (as := []) C (cy_X6_errorPosition G) (wM_L_118 G) sh_255 (ci := 4) rfl rfl (k_X6_errorPosition G hO.1 hO.2.2.1) dL_law_246 rfl rfl (by decide) (by decide) (Nat.le_of_ble_eq_true rfl) ⟨by omega, by omega⟩ (k_I (fun z2 σ2 q2 => ?_))
  obtain ⟨⟨p2, u2, x2, f2, rfl⟩, e2⟩ := q2
  refine v_icmp_eqT (pc := 249) C 1932 dL_law_249 (by decide) (e1.trans (e2 g1).symm) ?_
  exact v_wide (by omega) (by omega) (v_lv _ [0, 1, 2, 3, 4] rfl (K _ _ _ _ _ _ _ _ _ _ _ _ _ (LI_next hC1 (ok_errorPosition hO))))

set_option maxHeartbeats 4000000 in
set_option maxRecDepth 100000 in
theorem lc_load {γ : Gm} {φ : Fx} {b0 L : Nat} {xs : Nat → Int32} {A0 B0 : Nat} {Q : State → Prop} {j : Int} {τ : St} {w s a p u : Int} {t n x f d k i : Int → Int} (G : Glo γ) (N : GNc γ) (C : Cx γ φ RL cL_law 7 20) (E : LE γ φ b0 L xs) (hcr : A0 + 1 ≤ φ.2.2.1.cells ∧ B0 + 6 ≤ φ.2.2.1.slots) (hj : 0 ≤ j ∧ j + 6 ≤ L) (hI : LI τ w s a p u t n x f d k i)
    (K : ∀ (τ : St) (w s a p u : Int) (t n x f d k i : Int → Int), LI τ w s a p u t n x f d k i → Vw γ φ 7 (A0 + 1) (B0 + 6) Q τ 1932 [(4, .int (iI j)), (0, .ref b0), (1, .ref (bs γ + 0)), (2, .ref (bs γ + 255)), (3, .ref (bs γ + 263))] []) : Vw γ φ 7 A0 B0 Q τ 254 [(4, .int (iI j)), (0, .ref b0), (1, .ref (bs γ + 0)), (2, .ref (bs γ + 255)), (3, .ref (bs γ + 263))] [] := by
  have hL := E.2.2.2
  obtain ⟨hM, hC, hO⟩ := hI
  have hW := hO.2.2.2.1
  refine v_aload_n (pc := 254) C 2 rfl dL_law_254 ?_
  refine v_aload_n (pc := 255) C 4 rfl dL_law_255 ?_
  refine v_csW (pc := 256) (as := [.ref (bs γ + 0), .ref (bs γ + 263)]) C (cy_L_load G) (wM_L_119 G) (k_L_load G N hC hO) dL_law_256 rfl rfl (by decide) (by decide) (Nat.le_of_ble_eq_true rfl) hcr (k_I (fun z1 σ1 q1 => ?_))
  obtain ⟨e1, h1o, hC1, hE1⟩ := q1
  refine v_st (mR_eq (hM.cong hE1)) ?_
  refine v_istore (pc := 259) C [(5, .int (iI z1)), (4, .int (iI j)), (0, .ref b0), (1, .ref (bs γ + 0)), (2, .ref (bs γ + 255)), (3, .ref (bs γ + 263))] dL_law_259 (by decide) rfl ?_
  refine v_aload_n (pc := 261) C 4 rfl dL_law_261 ?_
  refine v_cv (pc := 262) (as := []) C (cy_X6_load G) (wM_L_122 G) sh_255 (ci := 4) rfl rfl (k_X6_load G hO.1 hO.2.2.1) dL_law_262 rfl rfl (by decide) (by decide) (Nat.le_of_ble_eq_true rfl) ⟨by omega, by omega⟩ (k_I (fun z2 σ2 q2 => ?_))
  obtain ⟨⟨p2, u2, x2, f2, rfl⟩, e2⟩ := q2
  refine v_istore (pc := 265) C [(6, .int (iI z2)), (5, .int (iI z1)), (4, .int (iI j)), (0, .ref b0), (1, .ref (bs γ + 0)), (2, .ref (bs γ + 255)), (3, .ref (bs γ + 263))] dL_law_265 (by decide) rfl ?_
  refine v_aload_n (pc := 267) C 5 rfl dL_law_267 ?_
  refine v_cv (pc := 268) (as := []) C (cy_X6_thrown G) (wM_L_108 G) sh_255 (ci := 4) rfl rfl (k_X6_thrown G) dL_law_268 rfl rfl (by decide) (by decide) (Nat.le_of_ble_eq_true rfl) ⟨by omega, by omega⟩ (k_I (fun z3 σ3 q3 => ?_))
  obtain ⟨e3, rfl⟩ := q3
  refine v_iload (pc := 271) C 1 rfl dL_law_271 ?_
  refine v_icmp_eqT (pc := 273) C 278 dL_law_273 (by decide) ((e3.trans (mA_w _ _ _ _ _ _ _)).trans e1.symm) ?_
  refine v_iload (pc := 278) C 1 rfl dL_law_278 ?_
  have hcd := cd_load s a t n d k i
  refine v_if_ne (pc := 280) C 295 (by omega) dL_law_280 (by decide) (fun h0 => ?_) (fun h0 => ?_)
  · refine v_goto (pc := 295) C 1932 dL_law_295 (by decide) ?_
    exact v_lv _ [2, 3, 4, 5, 6] rfl (K _ _ _ _ _ _ _ _ _ _ _ _ _ (LI_next hC1 (ok_load hO)))
  · refine v_aload_n (pc := 283) C 6 rfl dL_law_283 ?_
    refine v_iconst (pc := 284) C dL_law_284 ?_
    refine v_lald (pc := 285) C sh_263 (by decide) (by decide) dL_law_285 (fun z9 e9 r9 => ?_)
    have h9 : z9 = bmz z2 := by rw [e9, mA_out, e2 (by omega)]; exact h1o (by omega)
    refine v_iload (pc := 286) C 0 rfl dL_law_286 ?_
    refine v_bm ?_
    refine v_i2l (pc := 288) C (bmz_r _) dL_law_288 ?_
    refine v_lcmp (pc := 289) C (by omega) (by have := bmz_r z2; omega) dL_law_289 ?_
    refine v_ti (x2 := 0) (by rw [if_neg (by omega), if_pos h9]) ?_
    refine v_if_eq (pc := 290) C 295 (by first | omega | assumption) dL_law_290 (by decide) (fun _ => ?_) (fun h => absurd h (by decide))
    refine v_goto (pc := 295) C 1932 dL_law_295 (by decide) ?_
    exact v_lv _ [2, 3, 4, 5, 6] rfl (K _ _ _ _ _ _ _ _ _ _ _ _ _ (LI_next hC1 (ok_load hO)))

set_option maxHeartbeats 4000000 in
set_option maxRecDepth 100000 in
theorem lc_about {γ : Gm} {φ : Fx} {b0 L : Nat} {xs : Nat → Int32} {A0 B0 : Nat} {Q : State → Prop} {j : Int} {τ : St} {w s a p u : Int} {t n x f d k i : Int → Int} (G : Glo γ) (N : GNc γ) (C : Cx γ φ RL cL_law 7 20) (E : LE γ φ b0 L xs) (hcr : A0 + 1 ≤ φ.2.2.1.cells ∧ B0 + 6 ≤ φ.2.2.1.slots) (hj : 0 ≤ j ∧ j + 6 ≤ L) (hI : LI τ w s a p u t n x f d k i)
    (K : ∀ (τ : St) (w s a p u : Int) (t n x f d k i : Int → Int), LI τ w s a p u t n x f d k i → Vw γ φ 7 (A0 + 1) (B0 + 6) Q τ 1932 [(4, .int (iI j)), (0, .ref b0), (1, .ref (bs γ + 0)), (2, .ref (bs γ + 255)), (3, .ref (bs γ + 263))] []) : Vw γ φ 7 A0 B0 Q τ 298 [(4, .int (iI j)), (0, .ref b0), (1, .ref (bs γ + 0)), (2, .ref (bs γ + 255)), (3, .ref (bs γ + 263))] [] := by
  have hL := E.2.2.2
  obtain ⟨hM, hC, hO⟩ := hI
  have hW := hO.2.2.2.1
  refine v_aload_n (pc := 298) C 2 rfl dL_law_298 ?_
  refine v_aload_n (pc := 299) C 1 rfl dL_law_299 ?_
  refine v_iload (pc := 300) C 0 rfl dL_law_300 ?_
  refine v_iconst (pc := 302) C dL_law_302 ?_
  refine v_iadd (pc := 303) C dL_law_303 ?_
  refine v_sld (pc := 304) C E (by omega) dL_law_304 ?_
  refine v_aload_n (pc := 305) C 4 rfl dL_law_305 ?_
  refine v_csW (pc := 306) (as := [.ref (bs γ + 0), .int (iI (XS xs (j + 1))), .ref (bs γ + 263)]) C (cy_L_about G) (wM_L_123 G) (k_L_about G N hC hO (XS_r _ _)) dL_law_306 rfl rfl (by decide) (by decide) (Nat.le_of_ble_eq_true rfl) hcr (k_I (fun z1 σ1 q1 => ?_))
  obtain ⟨e1, h1o, hC1, hE1⟩ := q1
  refine v_st (mR_eq (hM.cong hE1)) ?_
  refine v_istore (pc := 309) C [(5, .int (iI z1)), (4, .int (iI j)), (0, .ref b0), (1, .ref (bs γ + 0)), (2, .ref (bs γ + 255)), (3, .ref (bs γ + 263))] dL_law_309 (by decide) rfl ?_
  refine v_aload_n (pc := 311) C 4 rfl dL_law_311 ?_
  refine v_aload_n (pc := 312) C 2 rfl dL_law_312 ?_
  refine v_iload (pc := 313) C 1 rfl dL_law_313 ?_
  refine v_iconst (pc := 315) C dL_law_315 ?_
  refine v_iadd (pc := 316) C dL_law_316 ?_
  refine v_sld (pc := 317) C E (by omega) dL_law_317 ?_
  refine v_cv (pc := 318) (as := [.int (iI (XS xs (j + 1)))]) C (cy_X6_about G) (wM_L_125 G) sh_255 (ci := 4) rfl rfl (k2_X6_about G (XS_r _ _) hW) dL_law_318 rfl rfl (by decide) (by decide) (Nat.le_of_ble_eq_true rfl) ⟨by omega, by omega⟩ (k_I (fun z2 σ2 q2 => ?_))
  obtain ⟨⟨p2, u2, x2, f2, rfl⟩, e2⟩ := q2
  refine v_istore (pc := 321) C [(6, .int (iI z2)), (5, .int (iI z1)), (4, .int (iI j)), (0, .ref b0), (1, .ref (bs γ + 0)), (2, .ref (bs γ + 255)), (3, .ref (bs γ + 263))] dL_law_321 (by decide) rfl ?_
  refine v_aload_n (pc := 323) C 5 rfl dL_law_323 ?_
  refine v_cv (pc := 324) (as := []) C (cy_X6_thrown G) (wM_L_108 G) sh_255 (ci := 4) rfl rfl (k_X6_thrown G) dL_law_324 rfl rfl (by decide) (by decide) (Nat.le_of_ble_eq_true rfl) ⟨by omega, by omega⟩ (k_I (fun z3 σ3 q3 => ?_))
  obtain ⟨e3, rfl⟩ := q3
  refine v_iload (pc := 327) C 1 rfl dL_law_327 ?_
  refine v_icmp_eqT (pc := 329) C 334 dL_law_329 (by decide) ((e3.trans (mA_w _ _ _ _ _ _ _)).trans e1.symm) ?_
  refine v_iload (pc := 334) C 1 rfl dL_law_334 ?_
  have hcd := cd_about s a t n d k i (XS xs (j + 1))
  refine v_if_ne (pc := 336) C 351 (by omega) dL_law_336 (by decide) (fun h0 => ?_) (fun h0 => ?_)
  · refine v_goto (pc := 351) C 1932 dL_law_351 (by decide) ?_
    exact v_lv _ [2, 3, 4, 5, 6] rfl (K _ _ _ _ _ _ _ _ _ _ _ _ _ (LI_next hC1 (ok_about hO (XS xs (j + 1)))))
  · refine v_aload_n (pc := 339) C 6 rfl dL_law_339 ?_
    refine v_iconst (pc := 340) C dL_law_340 ?_
    refine v_lald (pc := 341) C sh_263 (by decide) (by decide) dL_law_341 (fun z9 e9 r9 => ?_)
    have h9 : z9 = bmz z2 := by rw [e9, mA_out, e2 (by omega)]; exact h1o (by omega)
    refine v_iload (pc := 342) C 0 rfl dL_law_342 ?_
    refine v_bm ?_
    refine v_i2l (pc := 344) C (bmz_r _) dL_law_344 ?_
    refine v_lcmp (pc := 345) C (by omega) (by have := bmz_r z2; omega) dL_law_345 ?_
    refine v_ti (x2 := 0) (by rw [if_neg (by omega), if_pos h9]) ?_
    refine v_if_eq (pc := 346) C 351 (by first | omega | assumption) dL_law_346 (by decide) (fun _ => ?_) (fun h => absurd h (by decide))
    refine v_goto (pc := 351) C 1932 dL_law_351 (by decide) ?_
    exact v_lv _ [2, 3, 4, 5, 6] rfl (K _ _ _ _ _ _ _ _ _ _ _ _ _ (LI_next hC1 (ok_about hO (XS xs (j + 1)))))

set_option maxHeartbeats 4000000 in
set_option maxRecDepth 100000 in
theorem lc_valveOf {γ : Gm} {φ : Fx} {b0 L : Nat} {xs : Nat → Int32} {A0 B0 : Nat} {Q : State → Prop} {j : Int} {τ : St} {w s a p u : Int} {t n x f d k i : Int → Int} (G : Glo γ) (N : GNc γ) (C : Cx γ φ RL cL_law 7 20) (E : LE γ φ b0 L xs) (hcr : A0 + 1 ≤ φ.2.2.1.cells ∧ B0 + 6 ≤ φ.2.2.1.slots) (hj : 0 ≤ j ∧ j + 6 ≤ L) (hI : LI τ w s a p u t n x f d k i)
    (K : ∀ (τ : St) (w s a p u : Int) (t n x f d k i : Int → Int), LI τ w s a p u t n x f d k i → Vw γ φ 7 (A0 + 1) (B0 + 6) Q τ 1932 [(4, .int (iI j)), (0, .ref b0), (1, .ref (bs γ + 0)), (2, .ref (bs γ + 255)), (3, .ref (bs γ + 263))] []) : Vw γ φ 7 A0 B0 Q τ 354 [(4, .int (iI j)), (0, .ref b0), (1, .ref (bs γ + 0)), (2, .ref (bs γ + 255)), (3, .ref (bs γ + 263))] [] := by
  have hL := E.2.2.2
  obtain ⟨hM, hC, hO⟩ := hI
  have hW := hO.2.2.2.1
  refine v_aload_n (pc := 354) C 2 rfl dL_law_354 ?_
  refine v_aload_n (pc := 355) C 1 rfl dL_law_355 ?_
  refine v_iload (pc := 356) C 0 rfl dL_law_356 ?_
  refine v_iconst (pc := 358) C dL_law_358 ?_
  refine v_iadd (pc := 359) C dL_law_359 ?_
  refine v_sld (pc := 360) C E (by omega) dL_law_360 ?_
  refine v_aload_n (pc := 361) C 1 rfl dL_law_361 ?_
  refine v_iload (pc := 362) C 0 rfl dL_law_362 ?_
  refine v_iconst (pc := 364) C dL_law_364 ?_
  refine v_iadd (pc := 365) C dL_law_365 ?_
  refine v_sld (pc := 366) C E (by omega) dL_law_366 ?_
  refine v_aload_n (pc := 367) C 4 rfl dL_law_367 ?_
  refine v_csW (pc := 368) (as := [.ref (bs γ + 0), .int (iI (XS xs (j + 1))), .int (iI (XS xs (j + 2))), .ref (bs γ + 263)]) C (cy_L_valveOf G) (wM_L_126 G) (k_L_valveOf G N hC hO (XS_r _ _) (XS_r _ _)) dL_law_368 rfl rfl (by decide) (by decide) (Nat.le_of_ble_eq_true rfl) hcr (k_I (fun z1 σ1 q1 => ?_))
  obtain ⟨e1, h1o, hC1, hE1⟩ := q1
  refine v_st (mR_eq (hM.cong hE1)) ?_
  refine v_istore (pc := 371) C [(5, .int (iI z1)), (4, .int (iI j)), (0, .ref b0), (1, .ref (bs γ + 0)), (2, .ref (bs γ + 255)), (3, .ref (bs γ + 263))] dL_law_371 (by decide) rfl ?_
  refine v_aload_n (pc := 373) C 4 rfl dL_law_373 ?_
  refine v_aload_n (pc := 374) C 2 rfl dL_law_374 ?_
  refine v_iload (pc := 375) C 1 rfl dL_law_375 ?_
  refine v_iconst (pc := 377) C dL_law_377 ?_
  refine v_iadd (pc := 378) C dL_law_378 ?_
  refine v_sld (pc := 379) C E (by omega) dL_law_379 ?_
  refine v_aload_n (pc := 380) C 2 rfl dL_law_380 ?_
  refine v_iload (pc := 381) C 1 rfl dL_law_381 ?_
  refine v_iconst (pc := 383) C dL_law_383 ?_
  refine v_iadd (pc := 384) C dL_law_384 ?_
  refine v_sld (pc := 385) C E (by omega) dL_law_385 ?_
  refine v_cv (pc := 386) (as := [.int (iI (XS xs (j + 1))), .int (iI (XS xs (j + 2)))]) C (cy_X6_valveOf G) (wM_L_129 G) sh_255 (ci := 4) rfl rfl (k2_X6_valveOf G (XS_r _ _) (XS_r _ _) hW) dL_law_386 rfl rfl (by decide) (by decide) (Nat.le_of_ble_eq_true rfl) ⟨by omega, by omega⟩ (k_I (fun z2 σ2 q2 => ?_))
  obtain ⟨⟨p2, u2, x2, f2, rfl⟩, e2⟩ := q2
  refine v_istore (pc := 389) C [(6, .int (iI z2)), (5, .int (iI z1)), (4, .int (iI j)), (0, .ref b0), (1, .ref (bs γ + 0)), (2, .ref (bs γ + 255)), (3, .ref (bs γ + 263))] dL_law_389 (by decide) rfl ?_
  refine v_aload_n (pc := 391) C 5 rfl dL_law_391 ?_
  refine v_cv (pc := 392) (as := []) C (cy_X6_thrown G) (wM_L_108 G) sh_255 (ci := 4) rfl rfl (k_X6_thrown G) dL_law_392 rfl rfl (by decide) (by decide) (Nat.le_of_ble_eq_true rfl) ⟨by omega, by omega⟩ (k_I (fun z3 σ3 q3 => ?_))
  obtain ⟨e3, rfl⟩ := q3
  refine v_iload (pc := 395) C 1 rfl dL_law_395 ?_
  refine v_icmp_eqT (pc := 397) C 402 dL_law_397 (by decide) ((e3.trans (mA_w _ _ _ _ _ _ _)).trans e1.symm) ?_
  refine v_iload (pc := 402) C 1 rfl dL_law_402 ?_
  have hcd := cd_valveOf s a t n d k i (XS xs (j + 1)) (XS xs (j + 2))
  refine v_if_ne (pc := 404) C 419 (by omega) dL_law_404 (by decide) (fun h0 => ?_) (fun h0 => ?_)
  · refine v_goto (pc := 419) C 1932 dL_law_419 (by decide) ?_
    exact v_lv _ [2, 3, 4, 5, 6] rfl (K _ _ _ _ _ _ _ _ _ _ _ _ _ (LI_next hC1 (ok_valveOf hO (XS xs (j + 1)) (XS xs (j + 2)))))
  · refine v_aload_n (pc := 407) C 6 rfl dL_law_407 ?_
    refine v_iconst (pc := 408) C dL_law_408 ?_
    refine v_lald (pc := 409) C sh_263 (by decide) (by decide) dL_law_409 (fun z9 e9 r9 => ?_)
    have h9 : z9 = bmz z2 := by rw [e9, mA_out, e2 (by omega)]; exact h1o (by omega)
    refine v_iload (pc := 410) C 0 rfl dL_law_410 ?_
    refine v_bm ?_
    refine v_i2l (pc := 412) C (bmz_r _) dL_law_412 ?_
    refine v_lcmp (pc := 413) C (by omega) (by have := bmz_r z2; omega) dL_law_413 ?_
    refine v_ti (x2 := 0) (by rw [if_neg (by omega), if_pos h9]) ?_
    refine v_if_eq (pc := 414) C 419 (by first | omega | assumption) dL_law_414 (by decide) (fun _ => ?_) (fun h => absurd h (by decide))
    refine v_goto (pc := 419) C 1932 dL_law_419 (by decide) ?_
    exact v_lv _ [2, 3, 4, 5, 6] rfl (K _ _ _ _ _ _ _ _ _ _ _ _ _ (LI_next hC1 (ok_valveOf hO (XS xs (j + 1)) (XS xs (j + 2)))))

set_option maxHeartbeats 4000000 in
set_option maxRecDepth 100000 in
theorem lc_leg {γ : Gm} {φ : Fx} {b0 L : Nat} {xs : Nat → Int32} {A0 B0 : Nat} {Q : State → Prop} {j : Int} {τ : St} {w s a p u : Int} {t n x f d k i : Int → Int} (G : Glo γ) (N : GNc γ) (C : Cx γ φ RL cL_law 7 20) (E : LE γ φ b0 L xs) (hcr : A0 + 1 ≤ φ.2.2.1.cells ∧ B0 + 6 ≤ φ.2.2.1.slots) (hj : 0 ≤ j ∧ j + 6 ≤ L) (hI : LI τ w s a p u t n x f d k i)
    (K : ∀ (τ : St) (w s a p u : Int) (t n x f d k i : Int → Int), LI τ w s a p u t n x f d k i → Vw γ φ 7 (A0 + 1) (B0 + 6) Q τ 1932 [(4, .int (iI j)), (0, .ref b0), (1, .ref (bs γ + 0)), (2, .ref (bs γ + 255)), (3, .ref (bs γ + 263))] []) : Vw γ φ 7 A0 B0 Q τ 422 [(4, .int (iI j)), (0, .ref b0), (1, .ref (bs γ + 0)), (2, .ref (bs γ + 255)), (3, .ref (bs γ + 263))] [] := by
  have hL := E.2.2.2
  obtain ⟨hM, hC, hO⟩ := hI
  have hW := hO.2.2.2.1
  refine v_aload_n (pc := 422) C 2 rfl dL_law_422 ?_
  refine v_aload_n (pc := 423) C 1 rfl dL_law_423 ?_
  refine v_iload (pc := 424) C 0 rfl dL_law_424 ?_
  refine v_iconst (pc := 426) C dL_law_426 ?_
  refine v_iadd (pc := 427) C dL_law_427 ?_
  refine v_sld (pc := 428) C E (by omega) dL_law_428 ?_
  refine v_aload_n (pc := 429) C 1 rfl dL_law_429 ?_
  refine v_iload (pc := 430) C 0 rfl dL_law_430 ?_
  refine v_iconst (pc := 432) C dL_law_432 ?_
  refine v_iadd (pc := 433) C dL_law_433 ?_
  refine v_sld (pc := 434) C E (by omega) dL_law_434 ?_
  refine v_aload_n (pc := 435) C 4 rfl dL_law_435 ?_
  refine v_csW (pc := 436) (as := [.ref (bs γ + 0), .int (iI (XS xs (j + 1))), .int (iI (XS xs (j + 2))), .ref (bs γ + 263)]) C (cy_L_leg G) (wM_L_130 G) (k_L_leg G N hC hO (XS_r _ _) (XS_r _ _)) dL_law_436 rfl rfl (by decide) (by decide) (Nat.le_of_ble_eq_true rfl) hcr (k_I (fun z1 σ1 q1 => ?_))
  obtain ⟨e1, h1o, hC1, hE1⟩ := q1
  refine v_st (mR_eq (hM.cong hE1)) ?_
  refine v_istore (pc := 439) C [(5, .int (iI z1)), (4, .int (iI j)), (0, .ref b0), (1, .ref (bs γ + 0)), (2, .ref (bs γ + 255)), (3, .ref (bs γ + 263))] dL_law_439 (by decide) rfl ?_
  refine v_aload_n (pc := 441) C 4 rfl dL_law_441 ?_
  refine v_aload_n (pc := 442) C 2 rfl dL_law_442 ?_
  refine v_iload (pc := 443) C 1 rfl dL_law_443 ?_
  refine v_iconst (pc := 445) C dL_law_445 ?_
  refine v_iadd (pc := 446) C dL_law_446 ?_
  refine v_sld (pc := 447) C E (by omega) dL_law_447 ?_
  refine v_aload_n (pc := 448) C 2 rfl dL_law_448 ?_
  refine v_iload (pc := 449) C 1 rfl dL_law_449 ?_
  refine v_iconst (pc := 451) C dL_law_451 ?_
  refine v_iadd (pc := 452) C dL_law_452 ?_
  refine v_sld (pc := 453) C E (by omega) dL_law_453 ?_
  refine v_cv (pc := 454) (as := [.int (iI (XS xs (j + 1))), .int (iI (XS xs (j + 2)))]) C (cy_X6_leg G) (wM_L_132 G) sh_255 (ci := 4) rfl rfl (k_X6_leg G (XS_r _ _) (XS_r _ _) hW) dL_law_454 rfl rfl (by decide) (by decide) (Nat.le_of_ble_eq_true rfl) ⟨by omega, by omega⟩ (k_I (fun z2 σ2 q2 => ?_))
  obtain ⟨⟨p2, u2, x2, f2, rfl⟩, e2⟩ := q2
  refine v_istore (pc := 457) C [(6, .int (iI z2)), (5, .int (iI z1)), (4, .int (iI j)), (0, .ref b0), (1, .ref (bs γ + 0)), (2, .ref (bs γ + 255)), (3, .ref (bs γ + 263))] dL_law_457 (by decide) rfl ?_
  refine v_aload_n (pc := 459) C 5 rfl dL_law_459 ?_
  refine v_cv (pc := 460) (as := []) C (cy_X6_thrown G) (wM_L_108 G) sh_255 (ci := 4) rfl rfl (k_X6_thrown G) dL_law_460 rfl rfl (by decide) (by decide) (Nat.le_of_ble_eq_true rfl) ⟨by omega, by omega⟩ (k_I (fun z3 σ3 q3 => ?_))
  obtain ⟨e3, rfl⟩ := q3
  refine v_iload (pc := 463) C 1 rfl dL_law_463 ?_
  refine v_icmp_eqT (pc := 465) C 470 dL_law_465 (by decide) ((e3.trans (mA_w _ _ _ _ _ _ _)).trans e1.symm) ?_
  refine v_iload (pc := 470) C 1 rfl dL_law_470 ?_
  have hcd := cd_leg s a t n d k i (XS xs (j + 1)) (XS xs (j + 2))
  refine v_if_ne (pc := 472) C 487 (by omega) dL_law_472 (by decide) (fun h0 => ?_) (fun h0 => ?_)
  · refine v_goto (pc := 487) C 1932 dL_law_487 (by decide) ?_
    exact v_lv _ [2, 3, 4, 5, 6] rfl (K _ _ _ _ _ _ _ _ _ _ _ _ _ (LI_next hC1 (ok_leg hO (XS xs (j + 1)) (XS xs (j + 2)))))
  · refine v_aload_n (pc := 475) C 6 rfl dL_law_475 ?_
    refine v_iconst (pc := 476) C dL_law_476 ?_
    refine v_lald (pc := 477) C sh_263 (by decide) (by decide) dL_law_477 (fun z9 e9 r9 => ?_)
    have h9 : z9 = bmz z2 := by rw [e9, mA_out, e2 (by omega)]; exact h1o (by omega)
    refine v_iload (pc := 478) C 0 rfl dL_law_478 ?_
    refine v_bm ?_
    refine v_i2l (pc := 480) C (bmz_r _) dL_law_480 ?_
    refine v_lcmp (pc := 481) C (by omega) (by have := bmz_r z2; omega) dL_law_481 ?_
    refine v_ti (x2 := 0) (by rw [if_neg (by omega), if_pos h9]) ?_
    refine v_if_eq (pc := 482) C 487 (by first | omega | assumption) dL_law_482 (by decide) (fun _ => ?_) (fun h => absurd h (by decide))
    refine v_goto (pc := 487) C 1932 dL_law_487 (by decide) ?_
    exact v_lv _ [2, 3, 4, 5, 6] rfl (K _ _ _ _ _ _ _ _ _ _ _ _ _ (LI_next hC1 (ok_leg hO (XS xs (j + 1)) (XS xs (j + 2)))))

set_option maxHeartbeats 4000000 in
set_option maxRecDepth 100000 in
theorem lc_push {γ : Gm} {φ : Fx} {b0 L : Nat} {xs : Nat → Int32} {A0 B0 : Nat} {Q : State → Prop} {j : Int} {τ : St} {w s a p u : Int} {t n x f d k i : Int → Int} (G : Glo γ) (N : GNc γ) (C : Cx γ φ RL cL_law 7 20) (E : LE γ φ b0 L xs) (hcr : A0 + 1 ≤ φ.2.2.1.cells ∧ B0 + 6 ≤ φ.2.2.1.slots) (hj : 0 ≤ j ∧ j + 6 ≤ L) (hI : LI τ w s a p u t n x f d k i)
    (K : ∀ (τ : St) (w s a p u : Int) (t n x f d k i : Int → Int), LI τ w s a p u t n x f d k i → Vw γ φ 7 (A0 + 1) (B0 + 6) Q τ 1932 [(4, .int (iI j)), (0, .ref b0), (1, .ref (bs γ + 0)), (2, .ref (bs γ + 255)), (3, .ref (bs γ + 263))] []) : Vw γ φ 7 A0 B0 Q τ 490 [(4, .int (iI j)), (0, .ref b0), (1, .ref (bs γ + 0)), (2, .ref (bs γ + 255)), (3, .ref (bs γ + 263))] [] := by
  have hL := E.2.2.2
  obtain ⟨hM, hC, hO⟩ := hI
  have hW := hO.2.2.2.1
  refine v_aload_n (pc := 490) C 2 rfl dL_law_490 ?_
  refine v_aload_n (pc := 491) C 1 rfl dL_law_491 ?_
  refine v_iload (pc := 492) C 0 rfl dL_law_492 ?_
  refine v_iconst (pc := 494) C dL_law_494 ?_
  refine v_iadd (pc := 495) C dL_law_495 ?_
  refine v_sld (pc := 496) C E (by omega) dL_law_496 ?_
  refine v_aload_n (pc := 497) C 1 rfl dL_law_497 ?_
  refine v_iload (pc := 498) C 0 rfl dL_law_498 ?_
  refine v_iconst (pc := 500) C dL_law_500 ?_
  refine v_iadd (pc := 501) C dL_law_501 ?_
  refine v_sld (pc := 502) C E (by omega) dL_law_502 ?_
  refine v_aload_n (pc := 503) C 1 rfl dL_law_503 ?_
  refine v_iload (pc := 504) C 0 rfl dL_law_504 ?_
  refine v_iconst (pc := 506) C dL_law_506 ?_
  refine v_iadd (pc := 507) C dL_law_507 ?_
  refine v_sld (pc := 508) C E (by omega) dL_law_508 ?_
  refine v_aload_n (pc := 509) C 4 rfl dL_law_509 ?_
  refine v_csW (pc := 510) (as := [.ref (bs γ + 0), .int (iI (XS xs (j + 1))), .int (iI (XS xs (j + 2))), .int (iI (XS xs (j + 3))), .ref (bs γ + 263)]) C (cy_L_push G) (wM_L_133 G) (k_L_push G N hC hO (XS_r _ _) (XS_r _ _) (XS_r _ _)) dL_law_510 rfl rfl (by decide) (by decide) (Nat.le_of_ble_eq_true rfl) hcr (k_I (fun z1 σ1 q1 => ?_))
  obtain ⟨e1, h1o, hC1, hE1⟩ := q1
  refine v_st (mR_eq (hM.cong hE1)) ?_
  refine v_istore (pc := 513) C [(5, .int (iI z1)), (4, .int (iI j)), (0, .ref b0), (1, .ref (bs γ + 0)), (2, .ref (bs γ + 255)), (3, .ref (bs γ + 263))] dL_law_513 (by decide) rfl ?_
  refine v_aload_n (pc := 515) C 4 rfl dL_law_515 ?_
  refine v_aload_n (pc := 516) C 2 rfl dL_law_516 ?_
  refine v_iload (pc := 517) C 1 rfl dL_law_517 ?_
  refine v_iconst (pc := 519) C dL_law_519 ?_
  refine v_iadd (pc := 520) C dL_law_520 ?_
  refine v_sld (pc := 521) C E (by omega) dL_law_521 ?_
  refine v_aload_n (pc := 522) C 2 rfl dL_law_522 ?_
  refine v_iload (pc := 523) C 1 rfl dL_law_523 ?_
  refine v_iconst (pc := 525) C dL_law_525 ?_
  refine v_iadd (pc := 526) C dL_law_526 ?_
  refine v_sld (pc := 527) C E (by omega) dL_law_527 ?_
  refine v_aload_n (pc := 528) C 2 rfl dL_law_528 ?_
  refine v_iload (pc := 529) C 1 rfl dL_law_529 ?_
  refine v_iconst (pc := 531) C dL_law_531 ?_
  refine v_iadd (pc := 532) C dL_law_532 ?_
  refine v_sld (pc := 533) C E (by omega) dL_law_533 ?_
  refine v_cv (pc := 534) (as := [.int (iI (XS xs (j + 1))), .int (iI (XS xs (j + 2))), .int (iI (XS xs (j + 3)))]) C (cy_X6_push G) (wM_L_136 G) sh_255 (ci := 4) rfl rfl (k2_X6_push G (XS_r _ _) (XS_r _ _) (XS_r _ _) hW) dL_law_534 rfl rfl (by decide) (by decide) (Nat.le_of_ble_eq_true rfl) ⟨by omega, by omega⟩ (k_I (fun z2 σ2 q2 => ?_))
  obtain ⟨⟨p2, u2, x2, f2, rfl⟩, e2⟩ := q2
  refine v_istore (pc := 537) C [(6, .int (iI z2)), (5, .int (iI z1)), (4, .int (iI j)), (0, .ref b0), (1, .ref (bs γ + 0)), (2, .ref (bs γ + 255)), (3, .ref (bs γ + 263))] dL_law_537 (by decide) rfl ?_
  refine v_aload_n (pc := 539) C 5 rfl dL_law_539 ?_
  refine v_cv (pc := 540) (as := []) C (cy_X6_thrown G) (wM_L_108 G) sh_255 (ci := 4) rfl rfl (k_X6_thrown G) dL_law_540 rfl rfl (by decide) (by decide) (Nat.le_of_ble_eq_true rfl) ⟨by omega, by omega⟩ (k_I (fun z3 σ3 q3 => ?_))
  obtain ⟨e3, rfl⟩ := q3
  refine v_iload (pc := 543) C 1 rfl dL_law_543 ?_
  refine v_icmp_eqT (pc := 545) C 550 dL_law_545 (by decide) ((e3.trans (mA_w _ _ _ _ _ _ _)).trans e1.symm) ?_
  refine v_iload (pc := 550) C 1 rfl dL_law_550 ?_
  have hcd := cd_push s a t n d k i (XS xs (j + 1)) (XS xs (j + 2)) (XS xs (j + 3))
  refine v_if_ne (pc := 552) C 567 (by omega) dL_law_552 (by decide) (fun h0 => ?_) (fun h0 => ?_)
  · refine v_goto (pc := 567) C 1932 dL_law_567 (by decide) ?_
    exact v_lv _ [2, 3, 4, 5, 6] rfl (K _ _ _ _ _ _ _ _ _ _ _ _ _ (LI_next hC1 (ok_push hO (XS xs (j + 1)) (XS xs (j + 2)) (XS xs (j + 3)))))
  · refine v_aload_n (pc := 555) C 6 rfl dL_law_555 ?_
    refine v_iconst (pc := 556) C dL_law_556 ?_
    refine v_lald (pc := 557) C sh_263 (by decide) (by decide) dL_law_557 (fun z9 e9 r9 => ?_)
    have h9 : z9 = bmz z2 := by rw [e9, mA_out, e2 (by omega)]; exact h1o (by omega)
    refine v_iload (pc := 558) C 0 rfl dL_law_558 ?_
    refine v_bm ?_
    refine v_i2l (pc := 560) C (bmz_r _) dL_law_560 ?_
    refine v_lcmp (pc := 561) C (by omega) (by have := bmz_r z2; omega) dL_law_561 ?_
    refine v_ti (x2 := 0) (by rw [if_neg (by omega), if_pos h9]) ?_
    refine v_if_eq (pc := 562) C 567 (by first | omega | assumption) dL_law_562 (by decide) (fun _ => ?_) (fun h => absurd h (by decide))
    refine v_goto (pc := 567) C 1932 dL_law_567 (by decide) ?_
    exact v_lv _ [2, 3, 4, 5, 6] rfl (K _ _ _ _ _ _ _ _ _ _ _ _ _ (LI_next hC1 (ok_push hO (XS xs (j + 1)) (XS xs (j + 2)) (XS xs (j + 3)))))

set_option maxHeartbeats 4000000 in
set_option maxRecDepth 100000 in
theorem lc_ductOf {γ : Gm} {φ : Fx} {b0 L : Nat} {xs : Nat → Int32} {A0 B0 : Nat} {Q : State → Prop} {j : Int} {τ : St} {w s a p u : Int} {t n x f d k i : Int → Int} (G : Glo γ) (N : GNc γ) (C : Cx γ φ RL cL_law 7 20) (E : LE γ φ b0 L xs) (hcr : A0 + 1 ≤ φ.2.2.1.cells ∧ B0 + 6 ≤ φ.2.2.1.slots) (hj : 0 ≤ j ∧ j + 6 ≤ L) (hI : LI τ w s a p u t n x f d k i)
    (K : ∀ (τ : St) (w s a p u : Int) (t n x f d k i : Int → Int), LI τ w s a p u t n x f d k i → Vw γ φ 7 (A0 + 1) (B0 + 6) Q τ 1932 [(4, .int (iI j)), (0, .ref b0), (1, .ref (bs γ + 0)), (2, .ref (bs γ + 255)), (3, .ref (bs γ + 263))] []) : Vw γ φ 7 A0 B0 Q τ 570 [(4, .int (iI j)), (0, .ref b0), (1, .ref (bs γ + 0)), (2, .ref (bs γ + 255)), (3, .ref (bs γ + 263))] [] := by
  have hL := E.2.2.2
  obtain ⟨hM, hC, hO⟩ := hI
  have hW := hO.2.2.2.1
  refine v_aload_n (pc := 570) C 2 rfl dL_law_570 ?_
  refine v_aload_n (pc := 571) C 1 rfl dL_law_571 ?_
  refine v_iload (pc := 572) C 0 rfl dL_law_572 ?_
  refine v_iconst (pc := 574) C dL_law_574 ?_
  refine v_iadd (pc := 575) C dL_law_575 ?_
  refine v_sld (pc := 576) C E (by omega) dL_law_576 ?_
  refine v_aload_n (pc := 577) C 1 rfl dL_law_577 ?_
  refine v_iload (pc := 578) C 0 rfl dL_law_578 ?_
  refine v_iconst (pc := 580) C dL_law_580 ?_
  refine v_iadd (pc := 581) C dL_law_581 ?_
  refine v_sld (pc := 582) C E (by omega) dL_law_582 ?_
  refine v_aload_n (pc := 583) C 4 rfl dL_law_583 ?_
  refine v_csW (pc := 584) (as := [.ref (bs γ + 0), .int (iI (XS xs (j + 1))), .int (iI (XS xs (j + 2))), .ref (bs γ + 263)]) C (cy_L_ductOf G) (wM_L_137 G) (k_L_ductOf G N hC hO (XS_r _ _) (XS_r _ _)) dL_law_584 rfl rfl (by decide) (by decide) (Nat.le_of_ble_eq_true rfl) hcr (k_I (fun z1 σ1 q1 => ?_))
  obtain ⟨e1, h1o, hC1, hE1⟩ := q1
  refine v_st (mR_eq (hM.cong hE1)) ?_
  refine v_istore (pc := 587) C [(5, .int (iI z1)), (4, .int (iI j)), (0, .ref b0), (1, .ref (bs γ + 0)), (2, .ref (bs γ + 255)), (3, .ref (bs γ + 263))] dL_law_587 (by decide) rfl ?_
  refine v_aload_n (pc := 589) C 4 rfl dL_law_589 ?_
  refine v_aload_n (pc := 590) C 2 rfl dL_law_590 ?_
  refine v_iload (pc := 591) C 1 rfl dL_law_591 ?_
  refine v_iconst (pc := 593) C dL_law_593 ?_
  refine v_iadd (pc := 594) C dL_law_594 ?_
  refine v_sld (pc := 595) C E (by omega) dL_law_595 ?_
  refine v_aload_n (pc := 596) C 2 rfl dL_law_596 ?_
  refine v_iload (pc := 597) C 1 rfl dL_law_597 ?_
  refine v_iconst (pc := 599) C dL_law_599 ?_
  refine v_iadd (pc := 600) C dL_law_600 ?_
  refine v_sld (pc := 601) C E (by omega) dL_law_601 ?_
  refine v_cv (pc := 602) (as := [.int (iI (XS xs (j + 1))), .int (iI (XS xs (j + 2)))]) C (cy_X6_ductOf G) (wM_L_139 G) sh_255 (ci := 4) rfl rfl (k2_X6_ductOf G (XS_r _ _) (XS_r _ _) hW) dL_law_602 rfl rfl (by decide) (by decide) (Nat.le_of_ble_eq_true rfl) ⟨by omega, by omega⟩ (k_I (fun z2 σ2 q2 => ?_))
  obtain ⟨⟨p2, u2, x2, f2, rfl⟩, e2⟩ := q2
  refine v_istore (pc := 605) C [(6, .int (iI z2)), (5, .int (iI z1)), (4, .int (iI j)), (0, .ref b0), (1, .ref (bs γ + 0)), (2, .ref (bs γ + 255)), (3, .ref (bs γ + 263))] dL_law_605 (by decide) rfl ?_
  refine v_aload_n (pc := 607) C 5 rfl dL_law_607 ?_
  refine v_cv (pc := 608) (as := []) C (cy_X6_thrown G) (wM_L_108 G) sh_255 (ci := 4) rfl rfl (k_X6_thrown G) dL_law_608 rfl rfl (by decide) (by decide) (Nat.le_of_ble_eq_true rfl) ⟨by omega, by omega⟩ (k_I (fun z3 σ3 q3 => ?_))
  obtain ⟨e3, rfl⟩ := q3
  refine v_iload (pc := 611) C 1 rfl dL_law_611 ?_
  refine v_icmp_eqT (pc := 613) C 618 dL_law_613 (by decide) ((e3.trans (mA_w _ _ _ _ _ _ _)).trans e1.symm) ?_
  refine v_iload (pc := 618) C 1 rfl dL_law_618 ?_
  have hcd := cd_ductOf s a t n d k i (XS xs (j + 1)) (XS xs (j + 2))
  refine v_if_ne (pc := 620) C 635 (by omega) dL_law_620 (by decide) (fun h0 => ?_) (fun h0 => ?_)
  · refine v_goto (pc := 635) C 1932 dL_law_635 (by decide) ?_
    exact v_lv _ [2, 3, 4, 5, 6] rfl (K _ _ _ _ _ _ _ _ _ _ _ _ _ (LI_next hC1 (ok_ductOf hO (XS xs (j + 1)) (XS xs (j + 2)))))
  · refine v_aload_n (pc := 623) C 6 rfl dL_law_623 ?_
    refine v_iconst (pc := 624) C dL_law_624 ?_
    refine v_lald (pc := 625) C sh_263 (by decide) (by decide) dL_law_625 (fun z9 e9 r9 => ?_)
    have h9 : z9 = bmz z2 := by rw [e9, mA_out, e2 (by omega)]; exact h1o (by omega)
    refine v_iload (pc := 626) C 0 rfl dL_law_626 ?_
    refine v_bm ?_
    refine v_i2l (pc := 628) C (bmz_r _) dL_law_628 ?_
    refine v_lcmp (pc := 629) C (by omega) (by have := bmz_r z2; omega) dL_law_629 ?_
    refine v_ti (x2 := 0) (by rw [if_neg (by omega), if_pos h9]) ?_
    refine v_if_eq (pc := 630) C 635 (by first | omega | assumption) dL_law_630 (by decide) (fun _ => ?_) (fun h => absurd h (by decide))
    refine v_goto (pc := 635) C 1932 dL_law_635 (by decide) ?_
    exact v_lv _ [2, 3, 4, 5, 6] rfl (K _ _ _ _ _ _ _ _ _ _ _ _ _ (LI_next hC1 (ok_ductOf hO (XS xs (j + 1)) (XS xs (j + 2)))))

set_option maxHeartbeats 4000000 in
set_option maxRecDepth 100000 in
theorem lc_setting {γ : Gm} {φ : Fx} {b0 L : Nat} {xs : Nat → Int32} {A0 B0 : Nat} {Q : State → Prop} {j : Int} {τ : St} {w s a p u : Int} {t n x f d k i : Int → Int} (G : Glo γ) (N : GNc γ) (C : Cx γ φ RL cL_law 7 20) (E : LE γ φ b0 L xs) (hcr : A0 + 1 ≤ φ.2.2.1.cells ∧ B0 + 6 ≤ φ.2.2.1.slots) (hj : 0 ≤ j ∧ j + 6 ≤ L) (hI : LI τ w s a p u t n x f d k i)
    (K : ∀ (τ : St) (w s a p u : Int) (t n x f d k i : Int → Int), LI τ w s a p u t n x f d k i → Vw γ φ 7 (A0 + 1) (B0 + 6) Q τ 1932 [(4, .int (iI j)), (0, .ref b0), (1, .ref (bs γ + 0)), (2, .ref (bs γ + 255)), (3, .ref (bs γ + 263))] []) : Vw γ φ 7 A0 B0 Q τ 638 [(4, .int (iI j)), (0, .ref b0), (1, .ref (bs γ + 0)), (2, .ref (bs γ + 255)), (3, .ref (bs γ + 263))] [] := by
  have hL := E.2.2.2
  obtain ⟨hM, hC, hO⟩ := hI
  have hW := hO.2.2.2.1
  refine v_aload_n (pc := 638) C 2 rfl dL_law_638 ?_
  refine v_aload_n (pc := 639) C 1 rfl dL_law_639 ?_
  refine v_iload (pc := 640) C 0 rfl dL_law_640 ?_
  refine v_iconst (pc := 642) C dL_law_642 ?_
  refine v_iadd (pc := 643) C dL_law_643 ?_
  refine v_sld (pc := 644) C E (by omega) dL_law_644 ?_
  refine v_aload_n (pc := 645) C 4 rfl dL_law_645 ?_
  refine v_csW (pc := 646) (as := [.ref (bs γ + 0), .int (iI (XS xs (j + 1))), .ref (bs γ + 263)]) C (cy_L_setting G) (wM_L_140 G) (k_L_setting G N hC hO (XS_r _ _)) dL_law_646 rfl rfl (by decide) (by decide) (Nat.le_of_ble_eq_true rfl) hcr (k_I (fun z1 σ1 q1 => ?_))
  obtain ⟨e1, h1o, hC1, hE1⟩ := q1
  refine v_st (mR_eq (hM.cong hE1)) ?_
  refine v_istore (pc := 649) C [(5, .int (iI z1)), (4, .int (iI j)), (0, .ref b0), (1, .ref (bs γ + 0)), (2, .ref (bs γ + 255)), (3, .ref (bs γ + 263))] dL_law_649 (by decide) rfl ?_
  refine v_aload_n (pc := 651) C 4 rfl dL_law_651 ?_
  refine v_aload_n (pc := 652) C 2 rfl dL_law_652 ?_
  refine v_iload (pc := 653) C 1 rfl dL_law_653 ?_
  refine v_iconst (pc := 655) C dL_law_655 ?_
  refine v_iadd (pc := 656) C dL_law_656 ?_
  refine v_sld (pc := 657) C E (by omega) dL_law_657 ?_
  refine v_cv (pc := 658) (as := [.int (iI (XS xs (j + 1)))]) C (cy_X6_setting G) (wM_L_142 G) sh_255 (ci := 4) rfl rfl (k2_X6_setting G (XS_r _ _) ) dL_law_658 rfl rfl (by decide) (by decide) (Nat.le_of_ble_eq_true rfl) ⟨by omega, by omega⟩ (k_I (fun z2 σ2 q2 => ?_))
  obtain ⟨⟨p2, u2, x2, f2, rfl⟩, e2⟩ := q2
  refine v_istore (pc := 661) C [(6, .int (iI z2)), (5, .int (iI z1)), (4, .int (iI j)), (0, .ref b0), (1, .ref (bs γ + 0)), (2, .ref (bs γ + 255)), (3, .ref (bs γ + 263))] dL_law_661 (by decide) rfl ?_
  refine v_aload_n (pc := 663) C 5 rfl dL_law_663 ?_
  refine v_cv (pc := 664) (as := []) C (cy_X6_thrown G) (wM_L_108 G) sh_255 (ci := 4) rfl rfl (k_X6_thrown G) dL_law_664 rfl rfl (by decide) (by decide) (Nat.le_of_ble_eq_true rfl) ⟨by omega, by omega⟩ (k_I (fun z3 σ3 q3 => ?_))
  obtain ⟨e3, rfl⟩ := q3
  refine v_iload (pc := 667) C 1 rfl dL_law_667 ?_
  refine v_icmp_eqT (pc := 669) C 674 dL_law_669 (by decide) ((e3.trans (mA_w _ _ _ _ _ _ _)).trans e1.symm) ?_
  refine v_iload (pc := 674) C 1 rfl dL_law_674 ?_
  have hcd := cd_setting s a t n d k i (XS xs (j + 1))
  refine v_if_ne (pc := 676) C 691 (by omega) dL_law_676 (by decide) (fun h0 => ?_) (fun h0 => ?_)
  · refine v_goto (pc := 691) C 1932 dL_law_691 (by decide) ?_
    exact v_lv _ [2, 3, 4, 5, 6] rfl (K _ _ _ _ _ _ _ _ _ _ _ _ _ (LI_next hC1 (ok_setting hO (XS xs (j + 1)))))
  · refine v_aload_n (pc := 679) C 6 rfl dL_law_679 ?_
    refine v_iconst (pc := 680) C dL_law_680 ?_
    refine v_lald (pc := 681) C sh_263 (by decide) (by decide) dL_law_681 (fun z9 e9 r9 => ?_)
    have h9 : z9 = bmz z2 := by rw [e9, mA_out, e2 (by omega)]; exact h1o (by omega)
    refine v_iload (pc := 682) C 0 rfl dL_law_682 ?_
    refine v_bm ?_
    refine v_i2l (pc := 684) C (bmz_r _) dL_law_684 ?_
    refine v_lcmp (pc := 685) C (by omega) (by have := bmz_r z2; omega) dL_law_685 ?_
    refine v_ti (x2 := 0) (by rw [if_neg (by omega), if_pos h9]) ?_
    refine v_if_eq (pc := 686) C 691 (by first | omega | assumption) dL_law_686 (by decide) (fun _ => ?_) (fun h => absurd h (by decide))
    refine v_goto (pc := 691) C 1932 dL_law_691 (by decide) ?_
    exact v_lv _ [2, 3, 4, 5, 6] rfl (K _ _ _ _ _ _ _ _ _ _ _ _ _ (LI_next hC1 (ok_setting hO (XS xs (j + 1)))))
