/-! the law: beats -/
def btA (x : Int) (A : Abs) : Abs := if nA A 1 = 0 then A else st_tryUndo (st_tryLeak A (x / 16 % nA A 1) (x / 256 % 31))
theorem btA_inv {T x : Int} {A : Abs} (h : Inv T A) (hx : 0 ≤ x) : Inv T (btA x A) ∧ nA (btA x A) = nA A := by
  have h1 := h.1.wf.2.1
  unfold btA
  by_cases c : nA A 1 = 0
  · rw [if_pos c]; exact ⟨h, rfl⟩
  · rw [if_neg c]
    have hd : 0 ≤ x / 16 % nA A 1 ∧ x / 16 % nA A 1 < nA A 1 := ⟨Int.emod_nonneg _ c, Int.emod_lt_of_pos _ (by omega)⟩
    have hlv := lk_val h.1 (e := x / 16 % nA A 1) (l := x / 256 % 31) hd (by omega)
    obtain ⟨hI, hn, -⟩ := one_back h hlv.1 (ok_leak h.1 _ _)
    exact ⟨hI, hn⟩
set_option maxHeartbeats 1000000 in
set_option maxRecDepth 100000 in
theorem k_beats {γ : Gm} (G : GL γ) {T : Int} {A : Abs} {x : Int} (h : Inv T A) (hx : 0 ≤ x ∧ x < 2147483648) : Cl γ yL_beats (.code yL_beats cL_beats 14 (some .boolean)) 14 60 [.ref (bs (gw γ false)), .ref (bs (gw γ true)), .int (iI x)] (A, A) 1 (btA x A, btA x A) := by
  refine Cl.of G (by decide +kernel) (Nat.le_of_ble_eq_true rfl) (fun φ C hcr hr => ?_)
  have C : Cx γ φ RL cL_beats 14 14 := C
  have h0 := h.1.wf.1
  have h1 := h.1.wf.2.1
  have h4 := h.2.1.2.1.1
  refine x_lv [(0, .ref (bs (gw γ false))), (1, .ref (bs (gw γ true))), (2, .int (iI x))] [0, 1, 2] rfl ?_
  refine x_iload_n (pc := 0) C 2 rfl dL_beats_0 ?_
  refine x_aload_n (pc := 1) C 0 rfl dL_beats_1 ?_
  refine x_iconst (pc := 2) C dL_beats_2 ?_
  refine x_iconst (pc := 3) C dL_beats_3 ?_
  refine x_iconst (pc := 4) C dL_beats_4 ?_
  refine x_iconst (pc := 5) C dL_beats_5 ?_
  refine x_cs (pc := 6) (a := 0) (m := 1) (S' := (A, A)) (z := nA A 0) (as := [.ref (bs (gw γ false)), .int (iI 2), .int (iI 0), .int (iI 0), .int (iI 0)]) C (cy_L_call G.1) (wM_L_172 G.1) (t_ab0 G false (A := A) (rfl : gat (A, A) false = A) h.1) dL_beats_6 rfl rfl (by decide) (by decide) (Nat.le_of_ble_eq_true rfl) ⟨by omega, by omega⟩ ?_
  refine x_irem (pc := 9) C (by omega) (by omega) dL_beats_9 ?_
  refine x_nm (fun v ev => ?_)
  have hv : 0 ≤ v ∧ v < nA A 0 := ⟨ev ▸ Int.emod_nonneg _ (by omega), ev ▸ Int.emod_lt_of_pos _ (by omega)⟩
  refine x_istore_n (pc := 10) C [(3, .int (iI v)), (0, .ref (bs (gw γ false))), (1, .ref (bs (gw γ true))), (2, .int (iI x))] dL_beats_10 rfl (by decide) rfl ?_
  refine x_aload_n (pc := 11) C 1 rfl dL_beats_11 ?_
  refine x_iconst (pc := 12) C dL_beats_12 ?_
  refine x_iconst (pc := 13) C dL_beats_13 ?_
  refine x_iconst (pc := 14) C dL_beats_14 ?_
  refine x_iconst (pc := 15) C dL_beats_15 ?_
  refine x_cs (pc := 16) (a := 1) (m := 1) (S' := (A, A)) (z := nA A 1) (as := [.ref (bs (gw γ false)), .int (iI 2), .int (iI 1), .int (iI 0), .int (iI 0)]) C (cy_L_call G.1) (wM_L_172 G.1) (t_ab1 G false (A := A) (rfl : gat (A, A) false = A) h.1) dL_beats_16 rfl rfl (by decide) (by decide) (Nat.le_of_ble_eq_true rfl) ⟨by omega, by omega⟩ ?_
  refine x_istore (pc := 19) C [(4, .int (iI (nA A 1))), (3, .int (iI v)), (0, .ref (bs (gw γ false))), (1, .ref (bs (gw γ true))), (2, .int (iI x))] dL_beats_19 (by decide) rfl ?_
  refine x_aload_n (pc := 21) C 2 rfl dL_beats_21 ?_
  refine x_bipush (pc := 22) C (by decide +kernel) dL_beats_22 ?_
  refine x_iload_n (pc := 24) C 1 rfl dL_beats_24 ?_
  refine x_iconst (pc := 25) C dL_beats_25 ?_
  refine x_iconst (pc := 26) C dL_beats_26 ?_
  refine x_cs (pc := 27) (a := 2) (m := 1) (S' := (A, A)) (z := beatR (nA A) v) (as := [.ref (bs (gw γ false)), .int (iI 15), .int (iI v), .int (iI 0), .int (iI 0)]) C (cy_L_call G.1) (wM_L_172 G.1) (t_beat G false (A := A) (rfl : gat (A, A) false = A) h.1 (v := v) hv) dL_beats_27 rfl rfl (by decide) (by decide) (Nat.le_of_ble_eq_true rfl) ⟨by omega, by omega⟩ ?_
  refine x_nm (fun bt ebt => ?_)
  have hbt := beatR_b (nA A) v
  rw [← ebt] at hbt
  have hbr : -2147483648 ≤ bt ∧ bt < 2147483648 := by omega
  refine x_istore (pc := 30) C [(5, .int (iI bt)), (4, .int (iI (nA A 1))), (3, .int (iI v)), (0, .ref (bs (gw γ false))), (1, .ref (bs (gw γ true))), (2, .int (iI x))] dL_beats_30 (by decide) rfl ?_
  refine x_iload (pc := 32) C 0 rfl dL_beats_32 ?_
  refine x_iconst (pc := 34) C dL_beats_34 ?_
  suffices K35 : Vl γ φ 14 (3) (QL γ φ 60 1 (btA x A, btA x A)) (A, A) 52 [(5, .int (iI bt)), (4, .int (iI (nA A 1))), (3, .int (iI v)), (0, .ref (bs (gw γ false))), (1, .ref (bs (gw γ true))), (2, .int (iI x))] [] by
    refine x_icmp_eq (pc := 35) C 52 hbr (by decide) dL_beats_35 (by decide) (fun h35 => ?_) (fun h35 => ?_)
    · exact K35
    · refine x_iload (pc := 38) C 0 rfl dL_beats_38 ?_
      refine x_iconst (pc := 40) C dL_beats_40 ?_
      refine x_icmp_le (pc := 41) C 56 hbr (by decide) dL_beats_41 (by decide) (fun h => by exfalso; omega) (fun h41 => ?_)
      refine x_iload (pc := 44) C 0 rfl dL_beats_44 ?_
      refine x_sipush (pc := 46) C (by decide +kernel) dL_beats_46 ?_
      refine x_icmp_ge (pc := 49) C 56 hbr (by decide) dL_beats_49 (by decide) (fun h => by exfalso; omega) (fun h49 => ?_)
      exact K35
  refine x_iconst (pc := 52) C dL_beats_52 ?_
  refine x_goto (pc := 53) C 57 dL_beats_53 (by decide) ?_
  refine x_istore (pc := 57) C [(6, .int (iI 1)), (5, .int (iI bt)), (4, .int (iI (nA A 1))), (3, .int (iI v)), (0, .ref (bs (gw γ false))), (1, .ref (bs (gw γ true))), (2, .int (iI x))] dL_beats_57 (by decide) rfl ?_
  refine x_aload_n (pc := 59) C 4 rfl dL_beats_59 ?_
  refine x_cv (pc := 60) (a := 3) (w := false) (as := []) C (cy_X5_restIn G.1) (wM_L_232 G.1) rfl (fun σ hC9 hO9 => k_X5_restIn (G.w false) hC9 hO9) (z := restL 301 (nA A) 0) (fun _ _ _ q => ⟨q.2.1, q.2.2.1⟩) dL_beats_60 rfl rfl (by decide) (by decide) (Nat.le_of_ble_eq_true rfl) ⟨by omega, by omega⟩ ?_
  refine x_iconst (pc := 63) C dL_beats_63 ?_
  suffices K64 : Vl γ φ 14 (3) (QL γ φ 60 1 (btA x A, btA x A)) (A, A) 94 [(6, .int (iI 1)), (5, .int (iI bt)), (4, .int (iI (nA A 1))), (3, .int (iI v)), (0, .ref (bs (gw γ false))), (1, .ref (bs (gw γ true))), (2, .int (iI x))] [] by
    refine x_icmp_eq (pc := 64) C 94 (restL_r _) (by decide) dL_beats_64 (by decide) (fun h64 => ?_) (fun h64 => ?_)
    · exact K64
    · refine x_aload_n (pc := 67) C 4 rfl dL_beats_67 ?_
      refine x_cv (pc := 68) (a := 3) (w := false) (as := []) C (cy_X5_restIn G.1) (wM_L_232 G.1) rfl (fun σ hC9 hO9 => k_X5_restIn (G.w false) hC9 hO9) (z := restL 301 (nA A) 0) (fun _ _ _ q => ⟨q.2.1, q.2.2.1⟩) dL_beats_68 rfl rfl (by decide) (by decide) (Nat.le_of_ble_eq_true rfl) ⟨by omega, by omega⟩ ?_
      refine x_bipush (pc := 71) C (by decide +kernel) dL_beats_71 ?_
      refine x_icmp_ge (pc := 73) C 94 (restL_r _) (by decide) dL_beats_73 (by decide) (fun h73 => ?_) (fun h73 => ?_)
      · exact K64
      · refine x_iload (pc := 76) C 0 rfl dL_beats_76 ?_
        refine x_if_eq (pc := 78) C 91 (by decide) dL_beats_78 (by decide) (fun h => absurd h (by decide)) (fun h78 => ?_)
        refine x_iload (pc := 81) C 1 rfl dL_beats_81 ?_
        refine x_iconst (pc := 83) C dL_beats_83 ?_
        refine x_icmp_ne (pc := 84) C 91 hbr (by decide) dL_beats_84 (by decide) (fun h9 => absurd (ebt.trans (beat_rest h.1.wf hv.1 h64 (by omega))) h9) (fun h84 => ?_)
        refine x_iconst (pc := 87) C dL_beats_87 ?_
        refine x_goto (pc := 88) C 92 dL_beats_88 (by decide) ?_
        refine x_istore (pc := 92) C [(6, .int (iI 1)), (5, .int (iI bt)), (4, .int (iI (nA A 1))), (3, .int (iI v)), (0, .ref (bs (gw γ false))), (1, .ref (bs (gw γ true))), (2, .int (iI x))] dL_beats_92 (by decide) rfl ?_
        exact K64
  refine x_iload (pc := 94) C 2 rfl dL_beats_94 ?_
  refine x_if_ne (pc := 96) C 123 (by omega) dL_beats_96 (by decide) (fun h96 => ?_) (fun h96 => ?_)
  · refine x_iload_n (pc := 123) C 6 rfl dL_beats_123 ?_
    refine x_bipush (pc := 124) C (by decide +kernel) dL_beats_124 ?_
    refine x_idiv (pc := 126) C (by omega) (by decide) dL_beats_126 ?_
    refine x_iload (pc := 127) C 2 rfl dL_beats_127 ?_
    refine x_irem (pc := 129) C (by omega) (by omega) dL_beats_129 ?_
    refine x_nm (fun d ed => ?_)
    have he : 0 ≤ d ∧ d < nA A 1 := ⟨ed ▸ Int.emod_nonneg _ (by omega), ed ▸ Int.emod_lt_of_pos _ (by omega)⟩
    refine x_istore (pc := 130) C [(7, .int (iI d)), (6, .int (iI 1)), (5, .int (iI bt)), (4, .int (iI (nA A 1))), (3, .int (iI v)), (0, .ref (bs (gw γ false))), (1, .ref (bs (gw γ true))), (2, .int (iI x))] dL_beats_130 (by decide) rfl ?_
    refine x_iload_n (pc := 132) C 7 rfl dL_beats_132 ?_
    refine x_sipush (pc := 133) C (by decide +kernel) dL_beats_133 ?_
    refine x_idiv (pc := 136) C (by omega) (by decide) dL_beats_136 ?_
    refine x_bipush (pc := 137) C (by decide +kernel) dL_beats_137 ?_
    refine x_irem (pc := 139) C (by omega) (by decide) dL_beats_139 ?_
    refine x_nm (fun lk elk => ?_)
    have hlk : 0 ≤ lk ∧ lk ≤ 30 := by omega
    refine x_istore (pc := 140) C [(8, .int (iI lk)), (7, .int (iI d)), (6, .int (iI 1)), (5, .int (iI bt)), (4, .int (iI (nA A 1))), (3, .int (iI v)), (0, .ref (bs (gw γ false))), (1, .ref (bs (gw γ true))), (2, .int (iI x))] dL_beats_140 (by decide) rfl ?_
    refine x_aload_n (pc := 142) C 6 rfl dL_beats_142 ?_
    refine x_bipush (pc := 143) C (by decide +kernel) dL_beats_143 ?_
    refine x_iload (pc := 145) C 1 rfl dL_beats_145 ?_
    refine x_iconst (pc := 147) C dL_beats_147 ?_
    refine x_iconst (pc := 148) C dL_beats_148 ?_
    refine x_cs (pc := 149) (a := 3) (m := 1) (S' := (A, A)) (z := nA A (76 + 12 * d + 5)) (as := [.ref (bs (gw γ false)), .int (iI 6), .int (iI d), .int (iI 5), .int (iI 0)]) C (cy_L_call G.1) (wM_L_172 G.1) (t_pipe5 G false (A := A) (rfl : gat (A, A) false = A) h.1 (e := d) he) dL_beats_149 rfl rfl (by decide) (by decide) (Nat.le_of_ble_eq_true rfl) ⟨by omega, by omega⟩ ?_
    refine x_nm (fun hd9 ehd9 => ?_)
    have hhd : 0 ≤ hd9 ∧ hd9 ≤ 30 := by rw [ehd9]; exact (h.1.wf.2.2.2.2.2 d he.1 he.2).2.2.2.2.2.1
    refine x_istore (pc := 152) C [(9, .int (iI hd9)), (8, .int (iI lk)), (7, .int (iI d)), (6, .int (iI 1)), (5, .int (iI bt)), (4, .int (iI (nA A 1))), (3, .int (iI v)), (0, .ref (bs (gw γ false))), (1, .ref (bs (gw γ true))), (2, .int (iI x))] dL_beats_152 (by decide) rfl ?_
    refine x_aload_n (pc := 154) C 7 rfl dL_beats_154 ?_
    refine x_bipush (pc := 155) C (by decide +kernel) dL_beats_155 ?_
    refine x_iload (pc := 157) C 2 rfl dL_beats_157 ?_
    refine x_iload (pc := 159) C 1 rfl dL_beats_159 ?_
    refine x_iload_n (pc := 161) C 6 rfl dL_beats_161 ?_
    refine x_cs (pc := 162) (a := 4) (m := 1) (S' := (A, A)) (z := leakB (nA A) d lk v) (as := [.ref (bs (gw γ false)), .int (iI 17), .int (iI d), .int (iI lk), .int (iI v)]) C (cy_L_call G.1) (wM_L_172 G.1) (t_if G false (A := A) (rfl : gat (A, A) false = A) h.1 (e := d) (l := lk) (v := v) he (by omega) hv) dL_beats_162 rfl rfl (by decide) (by decide) (Nat.le_of_ble_eq_true rfl) ⟨by omega, by omega⟩ ?_
    refine x_nm (fun is9 eis9 => ?_)
    have his : is9 = -1 ∨ (2 ≤ is9 ∧ is9 ≤ 199) := by rw [eis9]; exact beatR_b _ _
    have hir : -2147483648 ≤ is9 ∧ is9 < 2147483648 := by omega
    refine x_istore (pc := 165) C [(10, .int (iI is9)), (9, .int (iI hd9)), (8, .int (iI lk)), (7, .int (iI d)), (6, .int (iI 1)), (5, .int (iI bt)), (4, .int (iI (nA A 1))), (3, .int (iI v)), (0, .ref (bs (gw γ false))), (1, .ref (bs (gw γ true))), (2, .int (iI x))] dL_beats_165 (by decide) rfl ?_
    refine x_iload (pc := 167) C 4 rfl dL_beats_167 ?_
    refine x_if_eq (pc := 169) C 268 (by decide) dL_beats_169 (by decide) (fun h => absurd h (by decide)) (fun h169 => ?_)
    have hlv := lk_val h.1 he hlk
    have hO1 : AOkA (st_tryLeak A d lk) := ok_leak h.1 d lk
    obtain ⟨hI, hnE, hu0, hu1⟩ := one_back h hlv.1 hO1
    have hn1 : nA (st_tryLeak A d lk) = upr (nA A) (76 + 12 * d + 5) lk := by rw [hlv.1]
    generalize hA1 : st_tryLeak A d lk = A1 at *
    generalize hA2 : st_tryUndo A1 = A2 at *
    have hv1 : 0 ≤ v ∧ v < nA A1 0 := by rw [hn1, upr_ne _ _ (by omega)]; exact hv
    have hv2 : 0 ≤ v ∧ v < nA A2 0 := by rw [hnE]; exact hv
    have he2 : 0 ≤ d ∧ d < nA A2 1 := by rw [hnE]; exact he
    refine x_aload_n (pc := 172) C 8 rfl dL_beats_172 ?_
    refine x_bipush (pc := 173) C (by decide +kernel) dL_beats_173 ?_
    refine x_iload (pc := 175) C 3 rfl dL_beats_175 ?_
    refine x_iload (pc := 177) C 1 rfl dL_beats_177 ?_
    refine x_iload_n (pc := 179) C 7 rfl dL_beats_179 ?_
    refine x_cs (pc := 180) (a := 5) (m := 1) (S' := (A, A)) (z := leakB (nA A) d hd9 v) (as := [.ref (bs (gw γ false)), .int (iI 17), .int (iI d), .int (iI hd9), .int (iI v)]) C (cy_L_call G.1) (wM_L_172 G.1) (t_if G false (A := A) (rfl : gat (A, A) false = A) h.1 (e := d) (l := hd9) (v := v) he (by omega) hv) dL_beats_180 rfl rfl (by decide) (by decide) (Nat.le_of_ble_eq_true rfl) ⟨by omega, by omega⟩ ?_
    refine x_iload (pc := 183) C 5 rfl dL_beats_183 ?_
    refine x_icmp_ne (pc := 185) C 268 (leakB_r _ _ _ _) hbr dL_beats_185 (by decide) (fun h9 => absurd (by rw [ehd9, leakB_had, ebt]) h9) (fun h185 => ?_)
    refine x_aload_n (pc := 188) C 8 rfl dL_beats_188 ?_
    refine x_bipush (pc := 189) C (by decide +kernel) dL_beats_189 ?_
    refine x_iload (pc := 191) C 3 rfl dL_beats_191 ?_
    refine x_iload (pc := 193) C 2 rfl dL_beats_193 ?_
    refine x_iconst (pc := 195) C dL_beats_195 ?_
    refine x_cs (pc := 196) (a := 6) (m := 1) (S' := (A1, A)) (z := an_tryLeak A d lk) (as := [.ref (bs (gw γ false)), .int (iI 10), .int (iI d), .int (iI lk), .int (iI 0)]) C (cy_L_call G.1) (wM_L_172 G.1) ((by have hc9 := dc_tryLeak G false (A := A) (rfl : gat (A, A) false = A) (e := d) (l := lk) (z9 := 0) (by omega) (by omega); rw [hA1] at hc9; exact hc9)) dL_beats_196 rfl rfl (by decide) (by decide) (Nat.le_of_ble_eq_true rfl) ⟨by omega, by omega⟩ ?_
    refine x_iload (pc := 199) C 1 rfl dL_beats_199 ?_
    refine x_icmp_ne (pc := 201) C 268 (by apply an_tryLeak_r) (by omega) dL_beats_201 (by decide) (fun h9 => absurd (hlv.2.trans ehd9.symm) h9) (fun h201 => ?_)
    refine x_aload_n (pc := 204) C 9 rfl dL_beats_204 ?_
    refine x_bipush (pc := 205) C (by decide +kernel) dL_beats_205 ?_
    refine x_iload (pc := 207) C 3 rfl dL_beats_207 ?_
    refine x_iload (pc := 209) C 2 rfl dL_beats_209 ?_
    refine x_iconst (pc := 211) C dL_beats_211 ?_
    refine x_cs (pc := 212) (a := 7) (m := 1) (S' := (A1, A1)) (z := an_tryLeak A d lk) (as := [.ref (bs (gw γ true)), .int (iI 10), .int (iI d), .int (iI lk), .int (iI 0)]) C (cy_L_call G.1) (wM_L_172 G.1) ((by have hc9 := dc_tryLeak G true (A := A) (rfl : gat (A1, A) true = A) (e := d) (l := lk) (z9 := 0) (by omega) (by omega); rw [hA1] at hc9; exact hc9)) dL_beats_212 rfl rfl (by decide) (by decide) (Nat.le_of_ble_eq_true rfl) ⟨by omega, by omega⟩ ?_
    refine x_iload (pc := 215) C 1 rfl dL_beats_215 ?_
    refine x_icmp_ne (pc := 217) C 268 (by apply an_tryLeak_r) (by omega) dL_beats_217 (by decide) (fun h9 => absurd (hlv.2.trans ehd9.symm) h9) (fun h217 => ?_)
    refine x_aload_n (pc := 220) C 8 rfl dL_beats_220 ?_
    refine x_bipush (pc := 221) C (by decide +kernel) dL_beats_221 ?_
    refine x_iload_n (pc := 223) C 7 rfl dL_beats_223 ?_
    refine x_iconst (pc := 224) C dL_beats_224 ?_
    refine x_iconst (pc := 225) C dL_beats_225 ?_
    refine x_cs (pc := 226) (a := 8) (m := 1) (S' := (A1, A1)) (z := beatR (nA A1) v) (as := [.ref (bs (gw γ false)), .int (iI 15), .int (iI v), .int (iI 0), .int (iI 0)]) C (cy_L_call G.1) (wM_L_172 G.1) (t_beat G false (A := A1) (rfl : gat (A1, A1) false = A1) hO1 (v := v) hv1) dL_beats_226 rfl rfl (by decide) (by decide) (Nat.le_of_ble_eq_true rfl) ⟨by omega, by omega⟩ ?_
    refine x_iload (pc := 229) C 0 rfl dL_beats_229 ?_
    refine x_icmp_ne (pc := 231) C 268 (beatR_r _ _) hir dL_beats_231 (by decide) (fun h9 => absurd (by rw [hn1, eis9]; rfl) h9) (fun h231 => ?_)
    refine x_aload_n (pc := 234) C 8 rfl dL_beats_234 ?_
    refine x_bipush (pc := 235) C (by decide +kernel) dL_beats_235 ?_
    refine x_iconst (pc := 237) C dL_beats_237 ?_
    refine x_iconst (pc := 238) C dL_beats_238 ?_
    refine x_iconst (pc := 239) C dL_beats_239 ?_
    refine x_cs (pc := 240) (a := 9) (m := 1) (S' := (A2, A1)) (z := an_tryUndo A1) (as := [.ref (bs (gw γ false)), .int (iI 14), .int (iI 0), .int (iI 0), .int (iI 0)]) C (cy_L_call G.1) (wM_L_172 G.1) ((by have hc9 := dc_tryUndo G false (A := A1) (rfl : gat (A1, A1) false = A1) (x := 0) (y9 := 0) (z9 := 0) ; rw [hA2] at hc9; exact hc9)) dL_beats_240 rfl rfl (by decide) (by decide) (Nat.le_of_ble_eq_true rfl) ⟨by omega, by omega⟩ ?_
    refine x_cs (pc := 243) (a := 10) (m := 0) (S' := (A2, A1)) (z := 0) (as := [.int (iI (an_tryUndo A1))]) C (cy_L_thrown G.1) (wM_L_228 G.1) (k_thrown G (by omega)) dL_beats_243 rfl rfl (by decide) (by decide) (Nat.le_of_ble_eq_true rfl) ⟨by omega, by omega⟩ ?_
    refine x_if_ne (pc := 246) C 268 (by decide) dL_beats_246 (by decide) (fun h => absurd h (by decide)) (fun h246 => ?_)
    refine x_aload_n (pc := 249) C 9 rfl dL_beats_249 ?_
    refine x_bipush (pc := 250) C (by decide +kernel) dL_beats_250 ?_
    refine x_iconst (pc := 252) C dL_beats_252 ?_
    refine x_iconst (pc := 253) C dL_beats_253 ?_
    refine x_iconst (pc := 254) C dL_beats_254 ?_
    refine x_cs (pc := 255) (a := 10) (m := 1) (S' := (A2, A2)) (z := an_tryUndo A1) (as := [.ref (bs (gw γ true)), .int (iI 14), .int (iI 0), .int (iI 0), .int (iI 0)]) C (cy_L_call G.1) (wM_L_172 G.1) ((by have hc9 := dc_tryUndo G true (A := A1) (rfl : gat (A2, A1) true = A1) (x := 0) (y9 := 0) (z9 := 0) ; rw [hA2] at hc9; exact hc9)) dL_beats_255 rfl rfl (by decide) (by decide) (Nat.le_of_ble_eq_true rfl) ⟨by omega, by omega⟩ ?_
    refine x_cs (pc := 258) (a := 11) (m := 0) (S' := (A2, A2)) (z := 0) (as := [.int (iI (an_tryUndo A1))]) C (cy_L_thrown G.1) (wM_L_228 G.1) (k_thrown G (by omega)) dL_beats_258 rfl rfl (by decide) (by decide) (Nat.le_of_ble_eq_true rfl) ⟨by omega, by omega⟩ ?_
    refine x_if_ne (pc := 261) C 268 (by decide) dL_beats_261 (by decide) (fun h => absurd h (by decide)) (fun h261 => ?_)
    refine x_iconst (pc := 264) C dL_beats_264 ?_
    refine x_goto (pc := 265) C 269 dL_beats_265 (by decide) ?_
    refine x_istore (pc := 269) C [(6, .int (iI 1)), (10, .int (iI is9)), (9, .int (iI hd9)), (8, .int (iI lk)), (7, .int (iI d)), (5, .int (iI bt)), (4, .int (iI (nA A 1))), (3, .int (iI v)), (0, .ref (bs (gw γ false))), (1, .ref (bs (gw γ true))), (2, .int (iI x))] dL_beats_269 (by decide) rfl ?_
    refine x_iload_n (pc := 271) C 10 rfl dL_beats_271 ?_
    refine x_iconst (pc := 272) C dL_beats_272 ?_
    refine x_irem (pc := 273) C (by omega) (by decide) dL_beats_273 ?_
    suffices K274 : Vl γ φ 14 (46) (QL γ φ 60 1 (btA x A, btA x A)) (A2, A2) 408 [(6, .int (iI 1)), (10, .int (iI is9)), (9, .int (iI hd9)), (8, .int (iI lk)), (7, .int (iI d)), (5, .int (iI bt)), (4, .int (iI (nA A 1))), (3, .int (iI v)), (0, .ref (bs (gw γ false))), (1, .ref (bs (gw γ true))), (2, .int (iI x))] [] by
      refine x_if_ne (pc := 274) C 408 (by omega) dL_beats_274 (by decide) (fun h274 => ?_) (fun h274 => ?_)
      · exact x_wide (by omega) K274
      · refine x_aload_n (pc := 277) C 8 rfl dL_beats_277 ?_
        refine x_bipush (pc := 278) C (by decide +kernel) dL_beats_278 ?_
        refine x_iload_n (pc := 280) C 7 rfl dL_beats_280 ?_
        refine x_iload (pc := 281) C 1 rfl dL_beats_281 ?_
        refine x_iconst (pc := 283) C dL_beats_283 ?_
        refine x_cs (pc := 284) (a := 11) (m := 1) (S' := (A2, A2)) (z := suspD (nA A2) v is9 (nA A2 1).toNat 0) (as := [.ref (bs (gw γ false)), .int (iI 18), .int (iI v), .int (iI is9), .int (iI 0)]) C (cy_L_call G.1) (wM_L_172 G.1) (t_susp G false (A := A2) (rfl : gat (A2, A2) false = A2) hI.1 (v := v) (b := is9) hv2 (by omega)) dL_beats_284 rfl rfl (by decide) (by decide) (Nat.le_of_ble_eq_true rfl) ⟨by omega, by omega⟩ ?_
        refine x_ti (x2 := suspD (nA A) v is9 (nA A 1).toNat 0) (by rw [hnE]) ?_
        refine x_nm (fun fs efs => ?_)
        have hsr : -2147483648 ≤ fs ∧ fs < 2147483648 := by rw [efs]; exact suspD_r h.1.wf v is9
        have hsp := suspD_spec (nA A) v is9 (nA A 1).toNat 0
        rw [← efs] at hsp
        refine x_istore (pc := 287) C [(11, .int (iI fs)), (6, .int (iI 1)), (10, .int (iI is9)), (9, .int (iI hd9)), (8, .int (iI lk)), (7, .int (iI d)), (5, .int (iI bt)), (4, .int (iI (nA A 1))), (3, .int (iI v)), (0, .ref (bs (gw γ false))), (1, .ref (bs (gw γ true))), (2, .int (iI x))] dL_beats_287 (by decide) rfl ?_
        refine x_iconst (pc := 289) C dL_beats_289 ?_
        refine x_istore (pc := 290) C [(12, .int (iI 0)), (11, .int (iI fs)), (6, .int (iI 1)), (10, .int (iI is9)), (9, .int (iI hd9)), (8, .int (iI lk)), (7, .int (iI d)), (5, .int (iI bt)), (4, .int (iI (nA A 1))), (3, .int (iI v)), (0, .ref (bs (gw γ false))), (1, .ref (bs (gw γ true))), (2, .int (iI x))] dL_beats_290 (by decide) rfl ?_
        suffices K342 : ∀ m9 : Int, (0 ≤ m9 ∧ m9 ≤ 1) → (fs = -1 ∨ m9 = 1) → Vl γ φ 14 (42) (QL γ φ 60 1 (btA x A, btA x A)) (A2, A2) 342 [(12, .int (iI m9)), (11, .int (iI fs)), (6, .int (iI 1)), (10, .int (iI is9)), (9, .int (iI hd9)), (8, .int (iI lk)), (7, .int (iI d)), (5, .int (iI bt)), (4, .int (iI (nA A 1))), (3, .int (iI v)), (0, .ref (bs (gw γ false))), (1, .ref (bs (gw γ true))), (2, .int (iI x))] [] by
          refine x_iconst (pc := 292) C dL_beats_292 ?_
          refine x_istore (pc := 293) C [(13, .int (iI 1)), (12, .int (iI 0)), (11, .int (iI fs)), (6, .int (iI 1)), (10, .int (iI is9)), (9, .int (iI hd9)), (8, .int (iI lk)), (7, .int (iI d)), (5, .int (iI bt)), (4, .int (iI (nA A 1))), (3, .int (iI v)), (0, .ref (bs (gw γ false))), (1, .ref (bs (gw γ true))), (2, .int (iI x))] dL_beats_293 (by decide) rfl ?_
          have L295 : ∀ (fu : Nat) (c : Nat) (k m9 : Int), (ek : k = (c : Int) + 1) → (hc : c ≤ 30) → (hm : (m9 = 0 ∧ ∀ i, 1 ≤ i → i < k → ¬ leakB (nA A) fs i v = is9) ∨ m9 = 1) → 31 - c < fu → Vl γ φ 14 (12 + c) (QL γ φ 60 1 (btA x A, btA x A)) (A2, A2) 295 [(13, .int (iI k)), (12, .int (iI m9)), (11, .int (iI fs)), (6, .int (iI 1)), (10, .int (iI is9)), (9, .int (iI hd9)), (8, .int (iI lk)), (7, .int (iI d)), (5, .int (iI bt)), (4, .int (iI (nA A 1))), (3, .int (iI v)), (0, .ref (bs (gw γ false))), (1, .ref (bs (gw γ true))), (2, .int (iI x))] [] := by
            intro fu
            induction fu with
            | zero => intro c k m9 ek hc hm hz; exact absurd hz (Nat.not_lt_zero _)
            | succ fu ih =>
              intro c k m9 ek hc hm hz
              refine x_iload (pc := 295) C 0 rfl dL_beats_295 ?_
              refine x_bipush (pc := 297) C (by decide +kernel) dL_beats_297 ?_
              refine x_icmp_ge (pc := 299) C 342 (by omega) (by decide) dL_beats_299 (by decide) (fun h299 => ?_) (fun h299 => ?_)
              · have hx9 : fs = -1 ∨ m9 = 1 := by
                  rcases hm with ⟨hm0, hall⟩ | hm1
                  · rcases hsp with ⟨a1, -⟩ | ⟨a1, a2, ⟨a3, a4⟩, a5⟩
                    · exact Or.inl a1
                    · obtain ⟨kk, hk, hb⟩ := (suspI_iff (nA A) v is9 fs 30 1).mp a4
                      exact absurd hb (hall (1 + (kk : Int)) (by omega) (by omega))
                  · exact Or.inr hm1
                have hm9 : 0 ≤ m9 ∧ m9 ≤ 1 := by rcases hm with ⟨q, -⟩ | q <;> omega
                exact x_lv _ [1, 2, 3, 4, 5, 6, 7, 8, 9, 10, 11, 12, 13] rfl (x_wide (by omega) (K342 m9 (by omega) hx9))
              · refine x_iload (pc := 302) C 2 rfl dL_beats_302 ?_
                refine x_iconst (pc := 304) C dL_beats_304 ?_
                refine x_icmp_eq (pc := 305) C 342 hsr (by decide) dL_beats_305 (by decide) (fun h305 => ?_) (fun h305 => ?_)
                · have hx9 : fs = -1 ∨ m9 = 1 := Or.inl h305
                  have hm9 : 0 ≤ m9 ∧ m9 ≤ 1 := by rcases hm with ⟨q, -⟩ | q <;> omega
                  exact x_lv _ [1, 2, 3, 4, 5, 6, 7, 8, 9, 10, 11, 12, 13] rfl (x_wide (by omega) (K342 m9 (by omega) hx9))
                · have he9 : 0 ≤ fs ∧ fs < nA A2 1 := by
                    rw [hnE]
                    rcases hsp with ⟨a1, -⟩ | ⟨a1, a2, -⟩
                    · exact absurd a1 h305
                    · exact ⟨a1, by omega⟩
                  refine x_iload (pc := 308) C 1 rfl dL_beats_308 ?_
                  refine x_if_ne (pc := 310) C 342 (by rcases hm with ⟨q, -⟩ | q <;> omega) dL_beats_310 (by decide) (fun h310 => ?_) (fun h310 => ?_)
                  · have hx9 : fs = -1 ∨ m9 = 1 := by rcases hm with ⟨q, -⟩ | q <;> omega
                    have hm9 : 0 ≤ m9 ∧ m9 ≤ 1 := by rcases hm with ⟨q, -⟩ | q <;> omega
                    exact x_lv _ [1, 2, 3, 4, 5, 6, 7, 8, 9, 10, 11, 12, 13] rfl (x_wide (by omega) (K342 m9 (by omega) hx9))
                  · refine x_aload_n (pc := 313) C 11 rfl dL_beats_313 ?_
                    refine x_bipush (pc := 314) C (by decide +kernel) dL_beats_314 ?_
                    refine x_iload (pc := 316) C 2 rfl dL_beats_316 ?_
                    refine x_iload (pc := 318) C 0 rfl dL_beats_318 ?_
                    refine x_iload_n (pc := 320) C 10 rfl dL_beats_320 ?_
                    refine x_cs (pc := 321) (a := 12 + c + 0) (m := 1) (S' := (A2, A2)) (z := leakB (nA A2) fs k v) (as := [.ref (bs (gw γ false)), .int (iI 17), .int (iI fs), .int (iI k), .int (iI v)]) C (cy_L_call G.1) (wM_L_172 G.1) (t_if G false (A := A2) (rfl : gat (A2, A2) false = A2) hI.1 (e := fs) (l := k) (v := v) he9 (by omega) hv2) dL_beats_321 rfl rfl (by decide) (by decide) (Nat.le_of_ble_eq_true rfl) ⟨by omega, by omega⟩ ?_
                    refine x_ti (x2 := leakB (nA A) fs k v) (by rw [hnE]) ?_
                    refine x_iload (pc := 324) C 4 rfl dL_beats_324 ?_
                    refine x_icmp_ne (pc := 326) C 333 (leakB_r _ _ _ _) hir dL_beats_326 (by decide) (fun h326 => ?_) (fun h326 => ?_)
                    · refine x_iconst (pc := 333) C dL_beats_333 ?_
                      refine x_istore (pc := 334) C [(12, .int (iI 0)), (13, .int (iI k)), (11, .int (iI fs)), (6, .int (iI 1)), (10, .int (iI is9)), (9, .int (iI hd9)), (8, .int (iI lk)), (7, .int (iI d)), (5, .int (iI bt)), (4, .int (iI (nA A 1))), (3, .int (iI v)), (0, .ref (bs (gw γ false))), (1, .ref (bs (gw γ true))), (2, .int (iI x))] dL_beats_334 (by decide) rfl ?_
                      refine x_iinc (pc := 336) C 1 [(13, .int (iI (k + 1))), (12, .int (iI 0)), (11, .int (iI fs)), (6, .int (iI 1)), (10, .int (iI is9)), (9, .int (iI hd9)), (8, .int (iI lk)), (7, .int (iI d)), (5, .int (iI bt)), (4, .int (iI (nA A 1))), (3, .int (iI v)), (0, .ref (bs (gw γ false))), (1, .ref (bs (gw γ true))), (2, .int (iI x))] dL_beats_336 rfl (by decide) rfl ?_
                      refine x_goto (pc := 339) C 295 dL_beats_339 (by decide) ?_
                      exact x_lv _ [0, 1, 2, 3, 4, 5, 6, 7, 8, 9, 10, 11, 12, 13] rfl (x_wide (by omega) (ih (c + 1) (k + 1) 0 (by omega) (by omega) (Or.inl ⟨rfl, fun i a b => by
                                              rcases (show i < k ∨ i = k by omega) with q | q
                                              · exact (hm.resolve_right (by omega)).2 i a q
                                              · rw [q]; exact h326⟩) (by omega)))
                    · refine x_iconst (pc := 329) C dL_beats_329 ?_
                      refine x_goto (pc := 330) C 334 dL_beats_330 (by decide) ?_
                      refine x_istore (pc := 334) C [(12, .int (iI 1)), (13, .int (iI k)), (11, .int (iI fs)), (6, .int (iI 1)), (10, .int (iI is9)), (9, .int (iI hd9)), (8, .int (iI lk)), (7, .int (iI d)), (5, .int (iI bt)), (4, .int (iI (nA A 1))), (3, .int (iI v)), (0, .ref (bs (gw γ false))), (1, .ref (bs (gw γ true))), (2, .int (iI x))] dL_beats_334 (by decide) rfl ?_
                      refine x_iinc (pc := 336) C 1 [(13, .int (iI (k + 1))), (12, .int (iI 1)), (11, .int (iI fs)), (6, .int (iI 1)), (10, .int (iI is9)), (9, .int (iI hd9)), (8, .int (iI lk)), (7, .int (iI d)), (5, .int (iI bt)), (4, .int (iI (nA A 1))), (3, .int (iI v)), (0, .ref (bs (gw γ false))), (1, .ref (bs (gw γ true))), (2, .int (iI x))] dL_beats_336 rfl (by decide) rfl ?_
                      refine x_goto (pc := 339) C 295 dL_beats_339 (by decide) ?_
                      exact x_lv _ [0, 1, 2, 3, 4, 5, 6, 7, 8, 9, 10, 11, 12, 13] rfl (x_wide (by omega) (ih (c + 1) (k + 1) 1 (by omega) (by omega) (Or.inr rfl) (by omega)))
          exact x_lv _ [0, 1, 2, 3, 4, 5, 6, 7, 8, 9, 10, 11, 12, 13] rfl (x_wide (by omega) (L295 32 0 1 0 rfl (by decide) (Or.inl ⟨rfl, fun i a b => by omega⟩) (by decide)))
        intro m9 hm9 hx9
        refine x_iload (pc := 342) C 2 rfl dL_beats_342 ?_
        refine x_if_eq (pc := 344) C 405 (by decide) dL_beats_344 (by decide) (fun h => absurd h (by decide)) (fun h344 => ?_)
        refine x_iload (pc := 347) C 1 rfl dL_beats_347 ?_
        refine x_iconst (pc := 349) C dL_beats_349 ?_
        suffices K350 : Vl γ φ 14 (43) (QL γ φ 60 1 (btA x A, btA x A)) (A2, A2) 401 [(12, .int (iI m9)), (11, .int (iI fs)), (6, .int (iI 1)), (10, .int (iI is9)), (9, .int (iI hd9)), (8, .int (iI lk)), (7, .int (iI d)), (5, .int (iI bt)), (4, .int (iI (nA A 1))), (3, .int (iI v)), (0, .ref (bs (gw γ false))), (1, .ref (bs (gw γ true))), (2, .int (iI x))] [] by
          refine x_icmp_ne (pc := 350) C 366 hsr (by decide) dL_beats_350 (by decide) (fun h350 => ?_) (fun h350 => ?_)
          · refine x_iload (pc := 366) C 0 rfl dL_beats_366 ?_
            refine x_if_eq (pc := 368) C 405 (by omega) dL_beats_368 (by decide) (fun h => by exfalso; omega) (fun h368 => ?_)
            have he9 : 0 ≤ fs ∧ fs < nA A2 1 := by
              rw [hnE]
              rcases hsp with ⟨a1, -⟩ | ⟨a1, a2, -⟩
              · exact absurd a1 h350
              · exact ⟨a1, by omega⟩
            refine x_aload_n (pc := 371) C 10 rfl dL_beats_371 ?_
            refine x_bipush (pc := 372) C (by decide +kernel) dL_beats_372 ?_
            refine x_iload (pc := 374) C 1 rfl dL_beats_374 ?_
            refine x_iconst (pc := 376) C dL_beats_376 ?_
            refine x_iconst (pc := 377) C dL_beats_377 ?_
            refine x_cs (pc := 378) (a := 42) (m := 1) (S' := (A2, A2)) (z := nA A2 (76 + 12 * fs + 5)) (as := [.ref (bs (gw γ false)), .int (iI 6), .int (iI fs), .int (iI 5), .int (iI 0)]) C (cy_L_call G.1) (wM_L_172 G.1) (t_pipe5 G false (A := A2) (rfl : gat (A2, A2) false = A2) hI.1 (e := fs) he9) dL_beats_378 rfl rfl (by decide) (by decide) (Nat.le_of_ble_eq_true rfl) ⟨by omega, by omega⟩ ?_
            refine x_ti (x2 := 0) (by rw [hnE]; exact (hsp.resolve_left (fun q => h350 q.1)).2.2.1.1) ?_
            refine x_if_ne (pc := 381) C 405 (by decide) dL_beats_381 (by decide) (fun h => absurd h (by decide)) (fun h381 => ?_)
            refine x_iload (pc := 384) C 4 rfl dL_beats_384 ?_
            refine x_if_gt (pc := 386) C 401 (by omega) dL_beats_386 (by decide) (fun h386 => ?_) (fun h386 => ?_)
            · exact K350
            · refine x_iload (pc := 389) C 5 rfl dL_beats_389 ?_
              refine x_if_eq (pc := 391) C 401 (by omega) dL_beats_391 (by decide) (fun h391 => ?_) (fun h391 => ?_)
              · exact K350
              · refine x_iload (pc := 394) C 1 rfl dL_beats_394 ?_
                refine x_iload (pc := 396) C 6 rfl dL_beats_396 ?_
                refine x_icmp_gt (pc := 398) C 405 hsr (by omega) dL_beats_398 (by decide) (fun h9 => by
                  exfalso
                  refine (hsp.resolve_left (fun q => h350 q.1)).2.2.2 d he.1 (by omega) ⟨ehd9.symm.trans (by omega), (suspI_iff (nA A) v is9 d 30 1).mpr ⟨(lk - 1).toNat, by omega, ?_⟩⟩
                  rw [show 1 + ((lk - 1).toNat : Int) = lk by omega]
                  exact eis9.symm) (fun h398 => ?_)
                exact K350
          · refine x_iload (pc := 353) C 4 rfl dL_beats_353 ?_
            refine x_if_gt (pc := 355) C 401 (by omega) dL_beats_355 (by decide) (fun h355 => ?_) (fun h355 => ?_)
            · exact x_wide (by omega) K350
            · refine x_iload (pc := 358) C 5 rfl dL_beats_358 ?_
              refine x_if_ne (pc := 360) C 405 (by omega) dL_beats_360 (by decide) (fun h9 => by
                exfalso
                rcases hsp with ⟨-, q⟩ | ⟨q, -⟩
                · exact q d he.1 (by omega) ⟨ehd9.symm.trans (by omega), (suspI_iff (nA A) v is9 d 30 1).mpr ⟨(lk - 1).toNat, by omega, by rw [show 1 + ((lk - 1).toNat : Int) = lk by omega]; exact eis9.symm⟩⟩
                · omega) (fun h360 => ?_)
              refine x_goto (pc := 363) C 401 dL_beats_363 (by decide) ?_
              exact x_wide (by omega) K350
        refine x_iconst (pc := 401) C dL_beats_401 ?_
        refine x_goto (pc := 402) C 406 dL_beats_402 (by decide) ?_
        refine x_istore (pc := 406) C [(6, .int (iI 1)), (12, .int (iI m9)), (11, .int (iI fs)), (10, .int (iI is9)), (9, .int (iI hd9)), (8, .int (iI lk)), (7, .int (iI d)), (5, .int (iI bt)), (4, .int (iI (nA A 1))), (3, .int (iI v)), (0, .ref (bs (gw γ false))), (1, .ref (bs (gw γ true))), (2, .int (iI x))] dL_beats_406 (by decide) rfl ?_
        exact x_lv _ [0, 3, 4, 5, 6, 7, 8, 9, 10, 11, 12] rfl (x_wide (by omega) K274)
    refine x_iload (pc := 408) C 0 rfl dL_beats_408 ?_
    refine x_if_eq (pc := 410) C 432 (by decide) dL_beats_410 (by decide) (fun h => absurd h (by decide)) (fun h410 => ?_)
    refine x_aload_n (pc := 413) C 8 rfl dL_beats_413 ?_
    refine x_bipush (pc := 414) C (by decide +kernel) dL_beats_414 ?_
    refine x_iload (pc := 416) C 4 rfl dL_beats_416 ?_
    refine x_iconst (pc := 418) C dL_beats_418 ?_
    refine x_iconst (pc := 419) C dL_beats_419 ?_
    refine x_cs (pc := 420) (a := 46) (m := 1) (S' := (A2, A2)) (z := nA A2 (76 + 12 * d + 5)) (as := [.ref (bs (gw γ false)), .int (iI 6), .int (iI d), .int (iI 5), .int (iI 0)]) C (cy_L_call G.1) (wM_L_172 G.1) (t_pipe5 G false (A := A2) (rfl : gat (A2, A2) false = A2) hI.1 (e := d) he2) dL_beats_420 rfl rfl (by decide) (by decide) (Nat.le_of_ble_eq_true rfl) ⟨by omega, by omega⟩ ?_
    refine x_ti (x2 := hd9) (by rw [hnE, ehd9]) ?_
    refine x_iload (pc := 423) C 2 rfl dL_beats_423 ?_
    refine x_icmp_ne (pc := 425) C 432 (by omega) (by omega) dL_beats_425 (by decide) (fun h9 => absurd rfl h9) (fun h425 => ?_)
    refine x_iconst (pc := 428) C dL_beats_428 ?_
    refine x_goto (pc := 429) C 433 dL_beats_429 (by decide) ?_
    exact x_ret (pc := 433) C (by omega) hr rfl dL_beats_433 rfl (by unfold btA; rw [if_neg h96, ← ed, ← elk, hA1, hA2])
  · refine x_iload (pc := 99) C 0 rfl dL_beats_99 ?_
    refine x_if_eq (pc := 101) C 121 (by decide) dL_beats_101 (by decide) (fun h => absurd h (by decide)) (fun h101 => ?_)
    refine x_aload_n (pc := 104) C 4 rfl dL_beats_104 ?_
    refine x_bipush (pc := 105) C (by decide +kernel) dL_beats_105 ?_
    refine x_iload_n (pc := 107) C 3 rfl dL_beats_107 ?_
    refine x_iconst (pc := 108) C dL_beats_108 ?_
    refine x_iconst (pc := 109) C dL_beats_109 ?_
    refine x_cs (pc := 110) (a := 3) (m := 1) (S' := (A, A)) (z := suspD (nA A) v 5 (nA A 1).toNat 0) (as := [.ref (bs (gw γ false)), .int (iI 18), .int (iI v), .int (iI 5), .int (iI 0)]) C (cy_L_call G.1) (wM_L_172 G.1) (t_susp G false (A := A) (rfl : gat (A, A) false = A) h.1 (v := v) (b := 5) hv (Or.inr (by decide))) dL_beats_110 rfl rfl (by decide) (by decide) (Nat.le_of_ble_eq_true rfl) ⟨by omega, by omega⟩ ?_
    refine x_ti (x2 := (-1)) (by rw [show (nA A 1).toNat = 0 by omega]; rfl) ?_
    refine x_iconst (pc := 113) C dL_beats_113 ?_
    refine x_icmp_ne (pc := 114) C 121 (by decide) (by decide) dL_beats_114 (by decide) (fun h => absurd h (by decide)) (fun h114 => ?_)
    refine x_iconst (pc := 117) C dL_beats_117 ?_
    refine x_goto (pc := 118) C 122 dL_beats_118 (by decide) ?_
    exact x_ret (pc := 122) C (by omega) hr rfl dL_beats_122 rfl (by unfold btA; rw [if_pos (show nA A 1 = 0 by omega)])

