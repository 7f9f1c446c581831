/-! the law itself -/
theorem acO_r (x : Int) (A : Abs) : -2147483648 ≤ (acO x A).1 ∧ (acO x A).1 < 2147483648 := by
  unfold acO
  split
  · exact an_tryValve_r _ _ _
  split
  · exact an_ducts_r _ _ _ _ _ _
  split
  · split
    · exact an_tryDrop_r _ _
    · exact an_tryLeak_r _ _ _
  split
  · exact an_keys_r _ _ _
  split
  · split
    · exact an_tryFeed_r _ _ _
    · exact an_tryLay_r _ _ _
  split
  · split
    · exact (by decide : -2147483648 ≤ (-1 : Int) ∧ (-1 : Int) < 2147483648)
    · exact an_tryUndo_r _
  split
  · split
    · exact an_tryKeep_r _ _
    · exact an_tryBack_r _ _
  · exact an_tryTicks_r _ _
set_option maxHeartbeats 1000000 in
set_option maxRecDepth 100000 in
theorem law_body {γ : Gm} (G : GL γ) {φ : Fx} {b0 L : Nat} {xs : Nat → Int32} {Q : State → Prop} (C : Cx γ φ RL cL_law 9 20) (E : LE γ φ b0 L xs) (hcr : 40000 ≤ φ.2.2.1.cells ∧ 6 * 40000 ≤ φ.2.2.1.slots) (hex : ∀ S : St2, Vl γ φ 9 40000 Q S 325 [] [.int (iI 1)]) : Vl γ φ 9 (1750) Q (A0, A0) 16 [(2, .ref (bs (gw γ true))), (1, .ref (bs (gw γ false))), (0, .ref b0)] [] := by
  refine x_bipush (pc := 16) C (by decide +kernel) dL_law_16 ?_
  refine x_aload_n (pc := 18) C 2 rfl dL_law_18 ?_
  refine x_iconst (pc := 19) C dL_law_19 ?_
  refine x_cell (pc := 20) (a := 1750) (k := 0) G C E (wM_L_198 G.1) (by decide) dL_law_20 (by decide) (Nat.le_of_ble_eq_true rfl) ⟨by omega, by omega⟩ ?_
  refine x_nm (fun c0 ec0 => ?_)
  have hc0 := ceV_r xs L 0
  rw [← ec0] at hc0
  refine x_bipush (pc := 23) C (by decide +kernel) dL_law_23 ?_
  refine x_irem (pc := 25) C (by omega) (by decide) dL_law_25 ?_
  refine x_iadd (pc := 26) C dL_law_26 ?_
  refine x_nm (fun tn etn => ?_)
  have htn : 12 ≤ tn ∧ tn ≤ 32 := by omega
  refine x_istore_n (pc := 27) C [(3, .int (iI tn)), (2, .ref (bs (gw γ true))), (1, .ref (bs (gw γ false))), (0, .ref b0)] dL_law_27 rfl (by decide) rfl ?_
  refine x_aload_n (pc := 28) C 3 rfl dL_law_28 ?_
  refine x_iconst (pc := 29) C dL_law_29 ?_
  refine x_cell (pc := 30) (a := 1750) (k := 1) G C E (wM_L_198 G.1) (by decide) dL_law_30 (by decide) (Nat.le_of_ble_eq_true rfl) ⟨by omega, by omega⟩ ?_
  refine x_nm (fun x0 ex0 => ?_)
  have hx0 := ceV_r xs L 1
  rw [← ex0] at hx0
  refine x_istore (pc := 33) C [(4, .int (iI x0)), (3, .int (iI tn)), (2, .ref (bs (gw γ true))), (1, .ref (bs (gw γ false))), (0, .ref b0)] dL_law_33 (by decide) rfl ?_
  refine x_iconst (pc := 35) C dL_law_35 ?_
  refine x_istore (pc := 36) C [(5, .int (iI 1)), (4, .int (iI x0)), (3, .int (iI tn)), (2, .ref (bs (gw γ true))), (1, .ref (bs (gw γ false))), (0, .ref b0)] dL_law_36 (by decide) rfl ?_
  refine x_iconst (pc := 38) C dL_law_38 ?_
  refine x_istore (pc := 39) C [(6, .int (iI 0)), (5, .int (iI 1)), (4, .int (iI x0)), (3, .int (iI tn)), (2, .ref (bs (gw γ true))), (1, .ref (bs (gw γ false))), (0, .ref b0)] dL_law_39 (by decide) rfl ?_
  have L41 : ∀ (fu : Nat) (c : Nat) (k : Int) (A : Abs), (ek : k = (c : Int)) → (hc : c ≤ 4) → (hI : IV k A) → 4 - c < fu → Vl γ φ 9 (1750 + 2 * c) Q (A, A) 41 [(6, .int (iI k)), (5, .int (iI 1)), (4, .int (iI x0)), (3, .int (iI tn)), (2, .ref (bs (gw γ true))), (1, .ref (bs (gw γ false))), (0, .ref b0)] [] := by
    intro fu
    induction fu with
    | zero => intro c k A ek hc hI hz; exact absurd hz (Nat.not_lt_zero _)
    | succ fu ih =>
      intro c k A ek hc hI hz
      refine x_iload (pc := 41) C 0 rfl dL_law_41 ?_
      refine x_iconst (pc := 43) C dL_law_43 ?_
      refine x_icmp_ge (pc := 44) C 133 (by omega) (by decide) dL_law_44 (by decide) (fun h44 => ?_) (fun h44 => ?_)
      · have hk4 : k = 4 := by omega
        rw [hk4] at hI
        have hI := IV_4 hI
        have hI0 : Inv (9 * 0) A := hI
        refine x_iconst (pc := 133) C dL_law_133 ?_
        refine x_istore (pc := 134) C [(6, .int (iI 0)), (5, .int (iI 1)), (4, .int (iI x0)), (3, .int (iI tn)), (2, .ref (bs (gw γ true))), (1, .ref (bs (gw γ false))), (0, .ref b0)] dL_law_134 (by decide) rfl ?_
        have L136 : ∀ (fu : Nat) (c : Nat) (k : Int) (A : Abs), (ek : k = (c : Int)) → (hc : k ≤ tn) → (hI : Inv (9 * k) A) → 40 - c < fu → Vl γ φ 9 (1780 + 800 * c) Q (A, A) 136 [(6, .int (iI k)), (5, .int (iI 1)), (4, .int (iI x0)), (3, .int (iI tn)), (2, .ref (bs (gw γ true))), (1, .ref (bs (gw γ false))), (0, .ref b0)] [] := by
          intro fu
          induction fu with
          | zero => intro c k A ek hc hI hz; exact absurd hz (Nat.not_lt_zero _)
          | succ fu ih =>
            intro c k A ek hc hI hz
            refine x_iload (pc := 136) C 0 rfl dL_law_136 ?_
            refine x_iload_n (pc := 138) C 3 rfl dL_law_138 ?_
            refine x_icmp_ge (pc := 139) C 323 (by omega) (by omega) dL_law_139 (by decide) (fun h139 => ?_) (fun h139 => ?_)
            · refine x_iload (pc := 323) C 1 rfl dL_law_323 ?_
              exact x_lv [] [] rfl (x_wide (a' := 40000) (by omega) (hex _))
            · have hT : 9 * k + 9 < 900000 := by omega
              have htt := hI.2.1.2.2.1
              have hv4 := hI.2.1.2.1.1
              refine x_iload (pc := 142) C 1 rfl dL_law_142 ?_
              refine x_if_eq (pc := 144) C 323 (by decide) dL_law_144 (by decide) (fun h => absurd h (by decide)) (fun h144 => ?_)
              refine x_aload_n (pc := 147) C 6 rfl dL_law_147 ?_
              refine x_iconst (pc := 148) C dL_law_148 ?_
              refine x_iload (pc := 149) C 0 rfl dL_law_149 ?_
              refine x_iadd (pc := 151) C dL_law_151 ?_
              refine x_cell (pc := 152) (a := 1780 + 800 * c + 0) (k := 2 + k) G C E (wM_L_198 G.1) (by omega) dL_law_152 (by decide) (Nat.le_of_ble_eq_true rfl) ⟨by omega, by omega⟩ ?_
              refine x_nm (fun x ex => ?_)
              have hx := ceV_r xs L (2 + k)
              rw [← ex] at hx
              obtain ⟨hI1, hfr⟩ := acO_inv hI hx.1 (by omega)
              generalize hA1 : (acO x A).2 = A1 at *
              have hfx : (if 11 < x % 16 then (1 : Int) else 0) = 0 ∨ ((if 11 < x % 16 then (1 : Int) else 0) = 1 ∧ ∀ v, 0 ≤ v → v < nA A1 0 → FrV (nA A1) v) := by
                by_cases q : 11 < x % 16
                · rw [if_pos q]; exact Or.inr ⟨rfl, hfr q⟩
                · rw [if_neg q]; exact Or.inl rfl
              have hI1' : Inv (9 * (k + 1)) A1 := by rw [show 9 * (k + 1) = 9 * k + 9 by omega]; exact hI1
              have hv41 := hI1.2.1.2.1.1
              obtain ⟨hI2, hn2⟩ := rsA_inv hI1' (by omega)
              obtain ⟨hI3, hn3⟩ := btA_inv (x := x / 7) hI2 (by omega)
              have hI4 := (ruA_inv (x := x / 11) hI3 (by omega) (by omega)).1
              refine x_istore (pc := 155) C [(7, .int (iI x)), (6, .int (iI k)), (5, .int (iI 1)), (4, .int (iI x0)), (3, .int (iI tn)), (2, .ref (bs (gw γ true))), (1, .ref (bs (gw γ false))), (0, .ref b0)] dL_law_155 (by decide) rfl ?_
              refine x_aload_n (pc := 157) C 6 rfl dL_law_157 ?_
              refine x_iload (pc := 158) C 0 rfl dL_law_158 ?_
              refine x_cs (pc := 160) (a := 1780 + 800 * c + 0) (m := 5) (S' := (A1, A)) (z := (acO x A).1) (as := [.ref (bs (gw γ false)), .int (iI x)]) C (cy_L_act G.1) (wM_L_202 G.1) ((by have hc9 := k_act G false (S := (A, A)) (A := A) (x := x) rfl hI.1 hv4 ⟨by omega, by omega⟩ hx; rw [hA1] at hc9; exact hc9)) dL_law_160 rfl rfl (by decide) (by decide) (Nat.le_of_ble_eq_true rfl) ⟨by omega, by omega⟩ ?_
              refine x_nm (fun rs ers => ?_)
              have hrs : -2147483648 ≤ rs ∧ rs < 2147483648 := by rw [ers]; exact acO_r x A
              refine x_istore (pc := 163) C [(8, .int (iI rs)), (7, .int (iI x)), (6, .int (iI k)), (5, .int (iI 1)), (4, .int (iI x0)), (3, .int (iI tn)), (2, .ref (bs (gw γ true))), (1, .ref (bs (gw γ false))), (0, .ref b0)] dL_law_163 (by decide) rfl ?_
              refine x_aload_n (pc := 165) C 6 rfl dL_law_165 ?_
              refine x_iload (pc := 166) C 1 rfl dL_law_166 ?_
              refine x_ldc (pc := 168) C (wC_L_205 G.1) dL_law_168 ?_
              refine x_irem (pc := 170) C (by omega) (by decide) dL_law_170 ?_
              refine x_cs (pc := 171) (a := 1780 + 800 * c + 5) (m := 60) (S' := (A1, A)) (z := 1) (as := [.ref (bs (gw γ true)), .int (iI (x % 100000))]) C (cy_L_refuses G.1) (wM_L_206 G.1) (k_refuses G true (S := (A1, A)) (A := A) rfl hI.1 hv4 (by omega)) dL_law_171 rfl rfl (by decide) (by decide) (Nat.le_of_ble_eq_true rfl) ⟨by omega, by omega⟩ ?_
              refine x_if_eq (pc := 174) C 314 (by decide) dL_law_174 (by decide) (fun h => absurd h (by decide)) (fun h174 => ?_)
              refine x_aload_n (pc := 177) C 6 rfl dL_law_177 ?_
              refine x_iload (pc := 178) C 1 rfl dL_law_178 ?_
              refine x_cs (pc := 180) (a := 1780 + 800 * c + 65) (m := 5) (S' := (A1, A1)) (z := (acO x A).1) (as := [.ref (bs (gw γ true)), .int (iI x)]) C (cy_L_act G.1) (wM_L_202 G.1) ((by have hc9 := k_act G true (S := (A1, A)) (A := A) (x := x) rfl hI.1 hv4 ⟨by omega, by omega⟩ hx; rw [hA1] at hc9; exact hc9)) dL_law_180 rfl rfl (by decide) (by decide) (Nat.le_of_ble_eq_true rfl) ⟨by omega, by omega⟩ ?_
              refine x_iload (pc := 183) C 0 rfl dL_law_183 ?_
              refine x_icmp_ne (pc := 185) C 314 (acO_r x A) hrs dL_law_185 (by decide) (fun h9 => absurd ers.symm h9) (fun h185 => ?_)
              refine x_aload_n (pc := 188) C 6 rfl dL_law_188 ?_
              refine x_iload (pc := 189) C 1 rfl dL_law_189 ?_
              refine x_sipush (pc := 191) C (by decide +kernel) dL_law_191 ?_
              refine x_irem (pc := 194) C (by omega) (by decide) dL_law_194 ?_
              refine x_cs (pc := 195) (a := 1780 + 800 * c + 70) (m := 60) (S' := (A1, A1)) (z := 1) (as := [.ref (bs (gw γ true)), .int (iI (x % 1000))]) C (cy_L_refuses G.1) (wM_L_206 G.1) (k_refuses G true (S := (A1, A1)) (A := A1) rfl hI1.1 hv41 (by omega)) dL_law_195 rfl rfl (by decide) (by decide) (Nat.le_of_ble_eq_true rfl) ⟨by omega, by omega⟩ ?_
              refine x_if_eq (pc := 198) C 314 (by decide) dL_law_198 (by decide) (fun h => absurd h (by decide)) (fun h198 => ?_)
              refine x_aload_n (pc := 201) C 7 rfl dL_law_201 ?_
              refine x_aload_n (pc := 202) C 6 rfl dL_law_202 ?_
              refine x_iload (pc := 203) C 1 rfl dL_law_203 ?_
              refine x_sipush (pc := 205) C (by decide +kernel) dL_law_205 ?_
              refine x_irem (pc := 208) C (by omega) (by decide) dL_law_208 ?_
              refine x_cs (pc := 209) (a := 1780 + 800 * c + 130) (m := 110) (S' := (A1, A1)) (z := 1) (as := [.ref (bs (gw γ false)), .ref (bs (gw γ true)), .int (iI (x % 5000))]) C (cy_L_alike G.1) (wM_L_210 G.1) (k_alike G (A := A1) hI1.1 (by omega)) dL_law_209 rfl rfl (by decide) (by decide) (Nat.le_of_ble_eq_true rfl) ⟨by omega, by omega⟩ ?_
              refine x_if_eq (pc := 212) C 314 (by decide) dL_law_212 (by decide) (fun h => absurd h (by decide)) (fun h212 => ?_)
              refine x_iload (pc := 215) C 2 rfl dL_law_215 ?_
              refine x_iconst (pc := 217) C dL_law_217 ?_
              refine x_irem (pc := 218) C (by omega) (by decide) dL_law_218 ?_
              suffices K219 : Vl γ φ 9 (1780 + 800 * c + 550) Q (A1, A1) 269 [(8, .int (iI rs)), (7, .int (iI x)), (6, .int (iI k)), (5, .int (iI 1)), (4, .int (iI x0)), (3, .int (iI tn)), (2, .ref (bs (gw γ true))), (1, .ref (bs (gw γ false))), (0, .ref b0)] [] by
                refine x_if_ne (pc := 219) C 247 (by omega) dL_law_219 (by decide) (fun h219 => ?_) (fun h219 => ?_)
                · refine x_aload_n (pc := 247) C 6 rfl dL_law_247 ?_
                  refine x_iload (pc := 248) C 1 rfl dL_law_248 ?_
                  refine x_bipush (pc := 250) C (by decide +kernel) dL_law_250 ?_
                  refine x_irem (pc := 252) C (by omega) (by decide) dL_law_252 ?_
                  refine x_bipush (pc := 253) C (by decide +kernel) dL_law_253 ?_
                  suffices K255 : Vl γ φ 9 (1780 + 800 * c + 240) Q (A1, A1) 263 [(8, .int (iI rs)), (7, .int (iI x)), (6, .int (iI k)), (5, .int (iI 1)), (4, .int (iI x0)), (3, .int (iI tn)), (2, .ref (bs (gw γ true))), (1, .ref (bs (gw γ false))), (0, .ref b0)] [.int (iI (if 11 < x % 16 then 1 else 0)), .ref (bs (gw γ true))] by
                    refine x_icmp_le (pc := 255) C 262 (by omega) (by decide) dL_law_255 (by decide) (fun h255 => ?_) (fun h255 => ?_)
                    · refine x_iconst (pc := 262) C dL_law_262 ?_
                      exact x_ti (x2 := (if 11 < x % 16 then 1 else 0)) (by split <;> first | rfl | omega) K255
                    · refine x_iconst (pc := 258) C dL_law_258 ?_
                      refine x_goto (pc := 259) C 263 dL_law_259 (by decide) ?_
                      exact x_ti (x2 := (if 11 < x % 16 then 1 else 0)) (by split <;> first | rfl | omega) K255
                  refine x_cs (pc := 263) (a := 1780 + 800 * c + 240) (m := 310) (S' := (A1, A1)) (z := 1) (as := [.ref (bs (gw γ true)), .int (iI (if 11 < x % 16 then 1 else 0))]) C (cy_L_holds G.1) (wM_L_214 G.1) (k_holds G true (S := (A1, A1)) (A := A1) rfl hI1.1 (fr := (if 11 < x % 16 then 1 else 0)) hv41 hI1.2.1.2.2.2.1 hfx) dL_law_263 rfl rfl (by decide) (by decide) (Nat.le_of_ble_eq_true rfl) ⟨by omega, by omega⟩ ?_
                  refine x_if_eq (pc := 266) C 314 (by decide) dL_law_266 (by decide) (fun h => absurd h (by decide)) (fun h266 => ?_)
                  exact K219
                · refine x_aload_n (pc := 222) C 7 rfl dL_law_222 ?_
                  refine x_iload (pc := 223) C 1 rfl dL_law_223 ?_
                  refine x_bipush (pc := 225) C (by decide +kernel) dL_law_225 ?_
                  refine x_irem (pc := 227) C (by omega) (by decide) dL_law_227 ?_
                  refine x_bipush (pc := 228) C (by decide +kernel) dL_law_228 ?_
                  suffices K230 : Vl γ φ 9 (1780 + 800 * c + 240) Q (A1, A1) 238 [(8, .int (iI rs)), (7, .int (iI x)), (6, .int (iI k)), (5, .int (iI 1)), (4, .int (iI x0)), (3, .int (iI tn)), (2, .ref (bs (gw γ true))), (1, .ref (bs (gw γ false))), (0, .ref b0)] [.int (iI (if 11 < x % 16 then 1 else 0)), .ref (bs (gw γ false))] by
                    refine x_icmp_le (pc := 230) C 237 (by omega) (by decide) dL_law_230 (by decide) (fun h230 => ?_) (fun h230 => ?_)
                    · refine x_iconst (pc := 237) C dL_law_237 ?_
                      exact x_ti (x2 := (if 11 < x % 16 then 1 else 0)) (by split <;> first | rfl | omega) K230
                    · refine x_iconst (pc := 233) C dL_law_233 ?_
                      refine x_goto (pc := 234) C 238 dL_law_234 (by decide) ?_
                      exact x_ti (x2 := (if 11 < x % 16 then 1 else 0)) (by split <;> first | rfl | omega) K230
                  refine x_cs (pc := 238) (a := 1780 + 800 * c + 240) (m := 310) (S' := (A1, A1)) (z := 1) (as := [.ref (bs (gw γ false)), .int (iI (if 11 < x % 16 then 1 else 0))]) C (cy_L_holds G.1) (wM_L_214 G.1) (k_holds G false (S := (A1, A1)) (A := A1) rfl hI1.1 (fr := (if 11 < x % 16 then 1 else 0)) hv41 hI1.2.1.2.2.2.1 hfx) dL_law_238 rfl rfl (by decide) (by decide) (Nat.le_of_ble_eq_true rfl) ⟨by omega, by omega⟩ ?_
                  refine x_if_eq (pc := 241) C 314 (by decide) dL_law_241 (by decide) (fun h => absurd h (by decide)) (fun h241 => ?_)
                  refine x_goto (pc := 244) C 269 dL_law_244 (by decide) ?_
                  exact K219
              refine x_aload_n (pc := 269) C 7 rfl dL_law_269 ?_
              refine x_aload_n (pc := 270) C 6 rfl dL_law_270 ?_
              refine x_cs (pc := 271) (a := 1780 + 800 * c + 550) (m := 60) (S' := (rsA A1, rsA A1)) (z := 1) (as := [.ref (bs (gw γ false)), .ref (bs (gw γ true))]) C (cy_L_rests G.1) (wM_L_218 G.1) (k_rests G (A := A1) hI1 (by omega)) dL_law_271 rfl rfl (by decide) (by decide) (Nat.le_of_ble_eq_true rfl) ⟨by omega, by omega⟩ ?_
              refine x_if_eq (pc := 274) C 314 (by decide) dL_law_274 (by decide) (fun h => absurd h (by decide)) (fun h274 => ?_)
              refine x_aload_n (pc := 277) C 7 rfl dL_law_277 ?_
              refine x_aload_n (pc := 278) C 6 rfl dL_law_278 ?_
              refine x_iload (pc := 279) C 1 rfl dL_law_279 ?_
              refine x_bipush (pc := 281) C (by decide +kernel) dL_law_281 ?_
              refine x_idiv (pc := 283) C (by omega) (by decide) dL_law_283 ?_
              refine x_cs (pc := 284) (a := 1780 + 800 * c + 610) (m := 60) (S' := (btA (x / 7) (rsA A1), btA (x / 7) (rsA A1))) (z := 1) (as := [.ref (bs (gw γ false)), .ref (bs (gw γ true)), .int (iI (x / 7))]) C (cy_L_beats G.1) (wM_L_222 G.1) (k_beats G (A := rsA A1) (x := x / 7) hI2 (by omega)) dL_law_284 rfl rfl (by decide) (by decide) (Nat.le_of_ble_eq_true rfl) ⟨by omega, by omega⟩ ?_
              refine x_if_eq (pc := 287) C 314 (by decide) dL_law_287 (by decide) (fun h => absurd h (by decide)) (fun h287 => ?_)
              refine x_iload (pc := 290) C 2 rfl dL_law_290 ?_
              refine x_iconst (pc := 292) C dL_law_292 ?_
              refine x_irem (pc := 293) C (by omega) (by decide) dL_law_293 ?_
              refine x_if_gt (pc := 294) C 310 (by omega) dL_law_294 (by decide) (fun h294 => ?_) (fun h294 => ?_)
              · refine x_iconst (pc := 310) C dL_law_310 ?_
                refine x_goto (pc := 311) C 315 dL_law_311 (by decide) ?_
                refine x_istore (pc := 315) C [(5, .int (iI 1)), (8, .int (iI rs)), (7, .int (iI x)), (6, .int (iI k)), (4, .int (iI x0)), (3, .int (iI tn)), (2, .ref (bs (gw γ true))), (1, .ref (bs (gw γ false))), (0, .ref b0)] dL_law_315 (by decide) rfl ?_
                refine x_iinc (pc := 317) C 3 [(6, .int (iI (k + 1))), (5, .int (iI 1)), (8, .int (iI rs)), (7, .int (iI x)), (4, .int (iI x0)), (3, .int (iI tn)), (2, .ref (bs (gw γ true))), (1, .ref (bs (gw γ false))), (0, .ref b0)] dL_law_317 rfl (by decide) rfl ?_
                refine x_goto (pc := 320) C 136 dL_law_320 (by decide) ?_
                exact x_lv _ [0, 1, 4, 5, 6, 7, 8] rfl (x_wide (by omega) (ih (c + 1) (k + 1) (btA (x / 7) (rsA A1)) (by omega) (by omega) hI3 (by omega)))
              · refine x_aload_n (pc := 297) C 7 rfl dL_law_297 ?_
                refine x_aload_n (pc := 298) C 6 rfl dL_law_298 ?_
                refine x_iload (pc := 299) C 1 rfl dL_law_299 ?_
                refine x_bipush (pc := 301) C (by decide +kernel) dL_law_301 ?_
                refine x_idiv (pc := 303) C (by omega) (by decide) dL_law_303 ?_
                refine x_cs (pc := 304) (a := 1780 + 800 * c + 670) (m := 60) (S' := (ruA (x / 11) (btA (x / 7) (rsA A1)), ruA (x / 11) (btA (x / 7) (rsA A1)))) (z := 1) (as := [.ref (bs (gw γ false)), .ref (bs (gw γ true)), .int (iI (x / 11))]) C (cy_L_rules G.1) (wM_L_225 G.1) (k_rules G (A := btA (x / 7) (rsA A1)) (x := x / 11) hI3 (by omega) (by omega)) dL_law_304 rfl rfl (by decide) (by decide) (Nat.le_of_ble_eq_true rfl) ⟨by omega, by omega⟩ ?_
                refine x_if_eq (pc := 307) C 314 (by decide) dL_law_307 (by decide) (fun h => absurd h (by decide)) (fun h307 => ?_)
                refine x_iconst (pc := 310) C dL_law_310 ?_
                refine x_goto (pc := 311) C 315 dL_law_311 (by decide) ?_
                refine x_istore (pc := 315) C [(5, .int (iI 1)), (8, .int (iI rs)), (7, .int (iI x)), (6, .int (iI k)), (4, .int (iI x0)), (3, .int (iI tn)), (2, .ref (bs (gw γ true))), (1, .ref (bs (gw γ false))), (0, .ref b0)] dL_law_315 (by decide) rfl ?_
                refine x_iinc (pc := 317) C 3 [(6, .int (iI (k + 1))), (5, .int (iI 1)), (8, .int (iI rs)), (7, .int (iI x)), (4, .int (iI x0)), (3, .int (iI tn)), (2, .ref (bs (gw γ true))), (1, .ref (bs (gw γ false))), (0, .ref b0)] dL_law_317 rfl (by decide) rfl ?_
                refine x_goto (pc := 320) C 136 dL_law_320 (by decide) ?_
                exact x_lv _ [0, 1, 4, 5, 6, 7, 8] rfl (x_wide (by omega) (ih (c + 1) (k + 1) (ruA (x / 11) (btA (x / 7) (rsA A1))) (by omega) (by omega) hI4 (by omega)))
        exact x_lv _ [0, 1, 2, 3, 4, 5, 6] rfl (x_wide (by omega) (L136 41 0 0 A rfl (by omega) hI0 (by decide)))
      · have hv := IV_s (x := x0) hI ⟨by omega, by omega⟩
        have hkd := kd9_r x0 k
        refine x_iload (pc := 47) C 1 rfl dL_law_47 ?_
        refine x_if_eq (pc := 49) C 133 (by decide) dL_law_49 (by decide) (fun h => absurd h (by decide)) (fun h49 => ?_)
        refine x_iload (pc := 52) C 0 rfl dL_law_52 ?_
        refine x_iconst (pc := 54) C dL_law_54 ?_
        suffices K55 : Vl γ φ 9 (1750 + 2 * c + 0) Q (A, A) 74 [(6, .int (iI k)), (5, .int (iI 1)), (4, .int (iI x0)), (3, .int (iI tn)), (2, .ref (bs (gw γ true))), (1, .ref (bs (gw γ false))), (0, .ref b0)] [.int (iI (kd9 x0 k))] by
          refine x_icmp_ge (pc := 55) C 62 (by omega) (by decide) dL_law_55 (by decide) (fun h55 => ?_) (fun h55 => ?_)
          · refine x_iload (pc := 62) C 2 rfl dL_law_62 ?_
            refine x_iconst (pc := 64) C dL_law_64 ?_
            refine x_iload (pc := 65) C 0 rfl dL_law_65 ?_
            refine x_imul (pc := 67) C dL_law_67 ?_
            refine x_ishr (pc := 68) C dL_law_68 ?_
            refine x_bipush (pc := 69) C (by decide +kernel) dL_law_69 ?_
            refine x_iand (pc := 71) C dL_law_71 ?_
            refine x_iconst (pc := 72) C dL_law_72 ?_
            refine x_irem (pc := 73) C (by have := iAnd_7 (iShr x0 (3 * k)); omega) (by decide) dL_law_73 ?_
            exact x_ti (x2 := kd9 x0 k) (by unfold kd9; first | rw [if_pos (by omega)] | rw [if_neg (by omega)]) K55
          · refine x_iconst (pc := 58) C dL_law_58 ?_
            refine x_goto (pc := 59) C 74 dL_law_59 (by decide) ?_
            exact x_ti (x2 := kd9 x0 k) (by unfold kd9; first | rw [if_pos (by omega)] | rw [if_neg (by omega)]) K55
        refine x_istore (pc := 74) C [(7, .int (iI (kd9 x0 k))), (6, .int (iI k)), (5, .int (iI 1)), (4, .int (iI x0)), (3, .int (iI tn)), (2, .ref (bs (gw γ true))), (1, .ref (bs (gw γ false))), (0, .ref b0)] dL_law_74 (by decide) rfl ?_
        refine x_aload_n (pc := 76) C 6 rfl dL_law_76 ?_
        refine x_bipush (pc := 77) C (by decide +kernel) dL_law_77 ?_
        refine x_iload (pc := 79) C 0 rfl dL_law_79 ?_
        refine x_bipush (pc := 81) C (by decide +kernel) dL_law_81 ?_
        refine x_bipush (pc := 83) C (by decide +kernel) dL_law_83 ?_
        refine x_iload (pc := 85) C 1 rfl dL_law_85 ?_
        refine x_imul (pc := 87) C dL_law_87 ?_
        refine x_iadd (pc := 88) C dL_law_88 ?_
        refine x_iconst (pc := 89) C dL_law_89 ?_
        refine x_cs (pc := 90) (a := 1750 + 2 * c + 0) (m := 1) (S' := (st_tryValve A (kd9 x0 k) (20 + (15 * k)), A)) (z := an_tryValve A (kd9 x0 k) (20 + (15 * k))) (as := [.ref (bs (gw γ false)), .int (iI 8), .int (iI (kd9 x0 k)), .int (iI (20 + (15 * k))), .int (iI 0)]) C (cy_L_call G.1) (wM_L_172 G.1) (dc_tryValve G false (A := A) (rfl : gat (A, A) false = A) (c := kd9 x0 k) (v := 20 + (15 * k)) (z9 := 0) (by omega) (by omega)) dL_law_90 rfl rfl (by decide) (by decide) (Nat.le_of_ble_eq_true rfl) ⟨by omega, by omega⟩ ?_
        refine x_ti (x2 := k) hv.2 ?_
        refine x_iload (pc := 93) C 1 rfl dL_law_93 ?_
        refine x_icmp_ne (pc := 95) C 124 (by omega) (by omega) dL_law_95 (by decide) (fun h9 => absurd rfl h9) (fun h95 => ?_)
        refine x_aload_n (pc := 98) C 5 rfl dL_law_98 ?_
        refine x_bipush (pc := 99) C (by decide +kernel) dL_law_99 ?_
        refine x_iload (pc := 101) C 0 rfl dL_law_101 ?_
        refine x_bipush (pc := 103) C (by decide +kernel) dL_law_103 ?_
        refine x_bipush (pc := 105) C (by decide +kernel) dL_law_105 ?_
        refine x_iload (pc := 107) C 1 rfl dL_law_107 ?_
        refine x_imul (pc := 109) C dL_law_109 ?_
        refine x_iadd (pc := 110) C dL_law_110 ?_
        refine x_iconst (pc := 111) C dL_law_111 ?_
        refine x_cs (pc := 112) (a := 1750 + 2 * c + 1) (m := 1) (S' := (st_tryValve A (kd9 x0 k) (20 + (15 * k)), st_tryValve A (kd9 x0 k) (20 + (15 * k)))) (z := an_tryValve A (kd9 x0 k) (20 + (15 * k))) (as := [.ref (bs (gw γ true)), .int (iI 8), .int (iI (kd9 x0 k)), .int (iI (20 + (15 * k))), .int (iI 0)]) C (cy_L_call G.1) (wM_L_172 G.1) (dc_tryValve G true (A := A) (rfl : gat (st_tryValve A (kd9 x0 k) (20 + (15 * k)), A) true = A) (c := kd9 x0 k) (v := 20 + (15 * k)) (z9 := 0) (by omega) (by omega)) dL_law_112 rfl rfl (by decide) (by decide) (Nat.le_of_ble_eq_true rfl) ⟨by omega, by omega⟩ ?_
        refine x_ti (x2 := k) hv.2 ?_
        refine x_iload (pc := 115) C 1 rfl dL_law_115 ?_
        refine x_icmp_ne (pc := 117) C 124 (by omega) (by omega) dL_law_117 (by decide) (fun h9 => absurd rfl h9) (fun h117 => ?_)
        refine x_iconst (pc := 120) C dL_law_120 ?_
        refine x_goto (pc := 121) C 125 dL_law_121 (by decide) ?_
        refine x_istore (pc := 125) C [(5, .int (iI 1)), (7, .int (iI (kd9 x0 k))), (6, .int (iI k)), (4, .int (iI x0)), (3, .int (iI tn)), (2, .ref (bs (gw γ true))), (1, .ref (bs (gw γ false))), (0, .ref b0)] dL_law_125 (by decide) rfl ?_
        refine x_iinc (pc := 127) C 2 [(6, .int (iI (k + 1))), (5, .int (iI 1)), (7, .int (iI (kd9 x0 k))), (4, .int (iI x0)), (3, .int (iI tn)), (2, .ref (bs (gw γ true))), (1, .ref (bs (gw γ false))), (0, .ref b0)] dL_law_127 rfl (by decide) rfl ?_
        refine x_goto (pc := 130) C 41 dL_law_130 (by decide) ?_
        exact x_lv _ [0, 1, 3, 4, 5, 6, 7] rfl (x_wide (by omega) (ih (c + 1) (k + 1) _ (by omega) (by omega) hv.1 (by omega)))
  exact x_lv _ [0, 1, 2, 3, 4, 5, 6] rfl (x_wide (by omega) (L41 5 0 0 A0 rfl (by decide) IV_0 (by decide)))
