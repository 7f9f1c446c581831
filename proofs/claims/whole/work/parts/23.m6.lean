set_option maxHeartbeats 4000000 in
set_option maxRecDepth 100000 in
theorem k_X6_readCommand {γ : Gm} (G : Glo γ) {σ : St} {p u : Int} {r f : Int → Int} (hn : 0 ≤ σ 255 2 ∧ σ 255 2 ≤ 120) (hp : 0 ≤ p ∧ p < σ 255 2) (ht : ∀ i, 0 ≤ i → i < σ 255 2 → 0 ≤ σ 256 i ∧ σ 256 i ≤ 255) (hW : Wf r) (hu : 0 ≤ u ∧ u ≤ 150) : Ct γ yX6_readCommand cX6_readCommand 5 (some .boolean) 8 [.ref (bs γ + 255), .ref (bs γ + 258)] (mT σ p u r f) (pI (fun z σ2 => (z = 1 ∧ cmdOk (σ 256) (σ 255 2) p ∧ ∃ f2, σ2 = mT σ (cmdP (σ 256) (σ 255 2) p) (u + cmdNo r (σ 256 p) (argV (σ 256) (σ 255 2) p)) (cmdDo r (σ 256 p) (argV (σ 256) (σ 255 2) p)) f2) ∨ (z = 0 ∧ ¬ cmdOk (σ 256) (σ 255 2) p ∧ σ2 = mT σ (cmdP (σ 256) (σ 255 2) p) u r f))) := by
  refine Ct.of G (by decide +kernel) (Nat.le_of_ble_eq_true rfl) (fun φ C hr => ?_)
  have C : Cx γ φ RX6 cX6_readCommand 5 8 := C
  have hc : sh 258 = (0, 268) ∧ 268 ≤ 4000 := ⟨sh_258, by decide⟩
  have hn0 := hW.1
  have hn1 := hW.2.1
  refine v_lv [(0, .ref (bs γ + 255)), (1, .ref (bs γ + 258))] [0, 1] rfl ?_
  refine v_aload_n (pc := 0) C 0 rfl dX6_readCommand_0 ?_
  refine v_getr (pc := 1) C inX6 goX6 (ci := 4) rfl 1 (by decide) (wF_X6_7 G) rfl sh_255 (256) rfl dX6_readCommand_1 ?_
  refine v_aload_n (pc := 4) C 0 rfl dX6_readCommand_4 ?_
  refine v_geti (pc := 5) C inX6 goX6 (ci := 4) rfl 10 (by decide) (wF_X6_127 G) rfl sh_255 10 rfl dX6_readCommand_5 (fun z5 ez5 rz5 => ?_)
  simp only [mT_10, mT_11, mT_2, mT_256, mT_258, mT_259] at ez5
  refine v_iald (pc := 8) C sh_256 (by decide) (by first | omega | assumption) dX6_readCommand_8 (fun z8 ez8 rz8 => ?_)
  simp only [mT_10, mT_11, mT_2, mT_256, mT_258, mT_259] at ez8
  have w8 : z8 = σ 256 p := by rw [ez8]; congr 1 <;> omega
  refine v_istore_n (pc := 9) C [(2, .int (iI z8)), (0, .ref (bs γ + 255)), (1, .ref (bs γ + 258))] dX6_readCommand_9 rfl (by decide) rfl ?_
  refine v_aload_n (pc := 10) C 1 rfl dX6_readCommand_10 ?_
  refine v_dup (pc := 11) C rfl dX6_readCommand_11 ?_
  refine v_geti (pc := 12) C inX6 goX6 (ci := 4) rfl 10 (by decide) (wF_X6_127 G) rfl sh_255 10 rfl dX6_readCommand_12 (fun z12 ez12 rz12 => ?_)
  simp only [mT_10, mT_11, mT_2, mT_256, mT_258, mT_259] at ez12
  refine v_iconst (pc := 15) C dX6_readCommand_15 ?_
  refine v_iadd (pc := 16) C dX6_readCommand_16 ?_
  refine v_puti (pc := 17) C inX6 goX6 (ci := 4) rfl 10 (by decide) (wF_X6_127 G) rfl sh_255 tyX6 tyX6_ok nmX6 rfl rfl (fun _ => Nat.le_of_ble_eq_true rfl) (fun _ _ => ob_set_X6_10) (by first | omega | assumption) dX6_readCommand_17 ?_
  first | rw [mT_p10] | rw [mT_p11]
  rw [ez12]
  refine v_iload_n (pc := 20) C 0 rfl dX6_readCommand_20 ?_
  by_cases hs21 : 100 ≤ z8 ∧ z8 ≤ 118
  · have hs21 : z8 = 100 ∨ z8 = 101 ∨ z8 = 102 ∨ z8 = 103 ∨ z8 = 104 ∨ z8 = 105 ∨ z8 = 106 ∨ z8 = 107 ∨ z8 = 108 ∨ z8 = 109 ∨ z8 = 110 ∨ z8 = 111 ∨ z8 = 112 ∨ z8 = 113 ∨ z8 = 114 ∨ z8 = 115 ∨ z8 = 116 ∨ z8 = 117 ∨ z8 = 118 := by omega
    rcases hs21 with hs21 | hs21 | hs21 | hs21 | hs21 | hs21 | hs21 | hs21 | hs21 | hs21 | hs21 | hs21 | hs21 | hs21 | hs21 | hs21 | hs21 | hs21 | hs21
    · refine v_tabIn (pc := 21) C 175 (by first | omega | assumption) dX6_readCommand_21 (by omega) (by rw [hs21]; rfl) (by decide) ?_
      have hsg : σ 256 p = 100 := by rw [← w8]; exact hs21
      have hk : tabS (σ 256 p) = 1 := by unfold tabS; rw [hsg]; rfl
      have hav : argV (σ 256) (σ 255 2) p = (fun i => (nums (σ 256) (σ 255 2) 1 (p + 1) (i + 1)).1) := by funext i; unfold argV; rw [hk]
      have hV : cmdV (σ 256) (σ 255 2) p = (nums (σ 256) (σ 255 2) 1 (p + 1) 5).1 := by unfold cmdV; rw [hk]; rfl
      have hP : cmdP (σ 256) (σ 255 2) p = (nums (σ 256) (σ 255 2) 1 (p + 1) 5).2 := by unfold cmdP; rw [if_neg (by rw [hk]; decide), hk]; rfl
      refine v_aload_n (pc := 175) C 1 rfl dX6_readCommand_175 ?_
      refine v_aload_n (pc := 176) C 2 rfl dX6_readCommand_176 ?_
      refine v_cv (pc := 177) (as := [.ref (bs γ + 258)]) C (cy_X6_readDuct G) (wM_X6_156 G) sh_255 (ci := 4) rfl rfl (k_X6_readDuct G hn (by omega) ht hW (by omega)) dX6_readCommand_177 rfl rfl (by decide) (by decide) (Nat.le_of_ble_eq_true rfl) zc (k_I (fun z177 s177 q177 => ?_))
      rcases q177 with ⟨rfl, q177, rfl⟩ | ⟨rfl, q177, rfl⟩
      · exact v_iret (pc := 180) C hr (rfl) dX6_readCommand_180 (⟨_, rfl, Or.inl ⟨rfl, ⟨by rw [hk]; decide, by rw [hV]; exact q177⟩, _, by rw [hP, hsg, hav]⟩⟩)
      · exact v_iret (pc := 180) C hr (rfl) dX6_readCommand_180 (⟨_, rfl, Or.inr ⟨rfl, fun h => h.2 (by rw [hV]; exact Decidable.not_not.mp q177), by rw [hP]⟩⟩)
    · refine v_tabIn (pc := 21) C 350 (by first | omega | assumption) dX6_readCommand_21 (by omega) (by rw [hs21]; rfl) (by decide) ?_
      have hsg : σ 256 p = 101 := by rw [← w8]; exact hs21
      have hk : tabS (σ 256 p) = 5 := by unfold tabS; rw [hsg]; rfl
      refine v_aload_n (pc := 350) C 1 rfl dX6_readCommand_350 ?_
      refine v_dup (pc := 351) C rfl dX6_readCommand_351 ?_
      refine v_geti (pc := 352) C inX6 goX6 (ci := 4) rfl 10 (by decide) (wF_X6_127 G) rfl sh_255 10 rfl dX6_readCommand_352 (fun z352 ez352 rz352 => ?_)
      simp only [mT_10, mT_11, mT_2, mT_256, mT_258, mT_259] at ez352
      refine v_iconst (pc := 355) C dX6_readCommand_355 ?_
      refine v_isub (pc := 356) C dX6_readCommand_356 ?_
      refine v_puti (pc := 357) C inX6 goX6 (ci := 4) rfl 10 (by decide) (wF_X6_127 G) rfl sh_255 tyX6 tyX6_ok nmX6 rfl rfl (fun _ => Nat.le_of_ble_eq_true rfl) (fun _ _ => ob_set_X6_10) (by first | omega | assumption) dX6_readCommand_357 ?_
      first | rw [mT_p10] | rw [mT_p11]
      refine v_iconst (pc := 360) C dX6_readCommand_360 ?_
      exact v_iret (pc := 361) C hr (rfl) dX6_readCommand_361 (⟨_, rfl, Or.inr ⟨rfl, fun h => h.1 hk, by rw [show cmdP (σ 256) (σ 255 2) p = p from if_pos hk, show z352 - 1 = p by omega]⟩⟩)
    · refine v_tabIn (pc := 21) C 350 (by first | omega | assumption) dX6_readCommand_21 (by omega) (by rw [hs21]; rfl) (by decide) ?_
      have hsg : σ 256 p = 102 := by rw [← w8]; exact hs21
      have hk : tabS (σ 256 p) = 5 := by unfold tabS; rw [hsg]; rfl
      refine v_aload_n (pc := 350) C 1 rfl dX6_readCommand_350 ?_
      refine v_dup (pc := 351) C rfl dX6_readCommand_351 ?_
      refine v_geti (pc := 352) C inX6 goX6 (ci := 4) rfl 10 (by decide) (wF_X6_127 G) rfl sh_255 10 rfl dX6_readCommand_352 (fun z352_1 ez352_1 rz352_1 => ?_)
      simp only [mT_10, mT_11, mT_2, mT_256, mT_258, mT_259] at ez352_1
      refine v_iconst (pc := 355) C dX6_readCommand_355 ?_
      refine v_isub (pc := 356) C dX6_readCommand_356 ?_
      refine v_puti (pc := 357) C inX6 goX6 (ci := 4) rfl 10 (by decide) (wF_X6_127 G) rfl sh_255 tyX6 tyX6_ok nmX6 rfl rfl (fun _ => Nat.le_of_ble_eq_true rfl) (fun _ _ => ob_set_X6_10) (by first | omega | assumption) dX6_readCommand_357 ?_
      first | rw [mT_p10] | rw [mT_p11]
      refine v_iconst (pc := 360) C dX6_readCommand_360 ?_
      exact v_iret (pc := 361) C hr (rfl) dX6_readCommand_361 (⟨_, rfl, Or.inr ⟨rfl, fun h => h.1 hk, by rw [show cmdP (σ 256) (σ 255 2) p = p from if_pos hk, show z352_1 - 1 = p by omega]⟩⟩)
    · refine v_tabIn (pc := 21) C 350 (by first | omega | assumption) dX6_readCommand_21 (by omega) (by rw [hs21]; rfl) (by decide) ?_
      have hsg : σ 256 p = 103 := by rw [← w8]; exact hs21
      have hk : tabS (σ 256 p) = 5 := by unfold tabS; rw [hsg]; rfl
      refine v_aload_n (pc := 350) C 1 rfl dX6_readCommand_350 ?_
      refine v_dup (pc := 351) C rfl dX6_readCommand_351 ?_
      refine v_geti (pc := 352) C inX6 goX6 (ci := 4) rfl 10 (by decide) (wF_X6_127 G) rfl sh_255 10 rfl dX6_readCommand_352 (fun z352_2 ez352_2 rz352_2 => ?_)
      simp only [mT_10, mT_11, mT_2, mT_256, mT_258, mT_259] at ez352_2
      refine v_iconst (pc := 355) C dX6_readCommand_355 ?_
      refine v_isub (pc := 356) C dX6_readCommand_356 ?_
      refine v_puti (pc := 357) C inX6 goX6 (ci := 4) rfl 10 (by decide) (wF_X6_127 G) rfl sh_255 tyX6 tyX6_ok nmX6 rfl rfl (fun _ => Nat.le_of_ble_eq_true rfl) (fun _ _ => ob_set_X6_10) (by first | omega | assumption) dX6_readCommand_357 ?_
      first | rw [mT_p10] | rw [mT_p11]
      refine v_iconst (pc := 360) C dX6_readCommand_360 ?_
      exact v_iret (pc := 361) C hr (rfl) dX6_readCommand_361 (⟨_, rfl, Or.inr ⟨rfl, fun h => h.1 hk, by rw [show cmdP (σ 256) (σ 255 2) p = p from if_pos hk, show z352_2 - 1 = p by omega]⟩⟩)
    · refine v_tabIn (pc := 21) C 350 (by first | omega | assumption) dX6_readCommand_21 (by omega) (by rw [hs21]; rfl) (by decide) ?_
      have hsg : σ 256 p = 104 := by rw [← w8]; exact hs21
      have hk : tabS (σ 256 p) = 5 := by unfold tabS; rw [hsg]; rfl
      refine v_aload_n (pc := 350) C 1 rfl dX6_readCommand_350 ?_
      refine v_dup (pc := 351) C rfl dX6_readCommand_351 ?_
      refine v_geti (pc := 352) C inX6 goX6 (ci := 4) rfl 10 (by decide) (wF_X6_127 G) rfl sh_255 10 rfl dX6_readCommand_352 (fun z352_3 ez352_3 rz352_3 => ?_)
      simp only [mT_10, mT_11, mT_2, mT_256, mT_258, mT_259] at ez352_3
      refine v_iconst (pc := 355) C dX6_readCommand_355 ?_
      refine v_isub (pc := 356) C dX6_readCommand_356 ?_
      refine v_puti (pc := 357) C inX6 goX6 (ci := 4) rfl 10 (by decide) (wF_X6_127 G) rfl sh_255 tyX6 tyX6_ok nmX6 rfl rfl (fun _ => Nat.le_of_ble_eq_true rfl) (fun _ _ => ob_set_X6_10) (by first | omega | assumption) dX6_readCommand_357 ?_
      first | rw [mT_p10] | rw [mT_p11]
      refine v_iconst (pc := 360) C dX6_readCommand_360 ?_
      exact v_iret (pc := 361) C hr (rfl) dX6_readCommand_361 (⟨_, rfl, Or.inr ⟨rfl, fun h => h.1 hk, by rw [show cmdP (σ 256) (σ 255 2) p = p from if_pos hk, show z352_3 - 1 = p by omega]⟩⟩)
    · refine v_tabIn (pc := 21) C 350 (by first | omega | assumption) dX6_readCommand_21 (by omega) (by rw [hs21]; rfl) (by decide) ?_
      have hsg : σ 256 p = 105 := by rw [← w8]; exact hs21
      have hk : tabS (σ 256 p) = 5 := by unfold tabS; rw [hsg]; rfl
      refine v_aload_n (pc := 350) C 1 rfl dX6_readCommand_350 ?_
      refine v_dup (pc := 351) C rfl dX6_readCommand_351 ?_
      refine v_geti (pc := 352) C inX6 goX6 (ci := 4) rfl 10 (by decide) (wF_X6_127 G) rfl sh_255 10 rfl dX6_readCommand_352 (fun z352_4 ez352_4 rz352_4 => ?_)
      simp only [mT_10, mT_11, mT_2, mT_256, mT_258, mT_259] at ez352_4
      refine v_iconst (pc := 355) C dX6_readCommand_355 ?_
      refine v_isub (pc := 356) C dX6_readCommand_356 ?_
      refine v_puti (pc := 357) C inX6 goX6 (ci := 4) rfl 10 (by decide) (wF_X6_127 G) rfl sh_255 tyX6 tyX6_ok nmX6 rfl rfl (fun _ => Nat.le_of_ble_eq_true rfl) (fun _ _ => ob_set_X6_10) (by first | omega | assumption) dX6_readCommand_357 ?_
      first | rw [mT_p10] | rw [mT_p11]
      refine v_iconst (pc := 360) C dX6_readCommand_360 ?_
      exact v_iret (pc := 361) C hr (rfl) dX6_readCommand_361 (⟨_, rfl, Or.inr ⟨rfl, fun h => h.1 hk, by rw [show cmdP (σ 256) (σ 255 2) p = p from if_pos hk, show z352_4 - 1 = p by omega]⟩⟩)
    · refine v_tabIn (pc := 21) C 350 (by first | omega | assumption) dX6_readCommand_21 (by omega) (by rw [hs21]; rfl) (by decide) ?_
      have hsg : σ 256 p = 106 := by rw [← w8]; exact hs21
      have hk : tabS (σ 256 p) = 5 := by unfold tabS; rw [hsg]; rfl
      refine v_aload_n (pc := 350) C 1 rfl dX6_readCommand_350 ?_
      refine v_dup (pc := 351) C rfl dX6_readCommand_351 ?_
      refine v_geti (pc := 352) C inX6 goX6 (ci := 4) rfl 10 (by decide) (wF_X6_127 G) rfl sh_255 10 rfl dX6_readCommand_352 (fun z352_5 ez352_5 rz352_5 => ?_)
      simp only [mT_10, mT_11, mT_2, mT_256, mT_258, mT_259] at ez352_5
      refine v_iconst (pc := 355) C dX6_readCommand_355 ?_
      refine v_isub (pc := 356) C dX6_readCommand_356 ?_
      refine v_puti (pc := 357) C inX6 goX6 (ci := 4) rfl 10 (by decide) (wF_X6_127 G) rfl sh_255 tyX6 tyX6_ok nmX6 rfl rfl (fun _ => Nat.le_of_ble_eq_true rfl) (fun _ _ => ob_set_X6_10) (by first | omega | assumption) dX6_readCommand_357 ?_
      first | rw [mT_p10] | rw [mT_p11]
      refine v_iconst (pc := 360) C dX6_readCommand_360 ?_
      exact v_iret (pc := 361) C hr (rfl) dX6_readCommand_361 (⟨_, rfl, Or.inr ⟨rfl, fun h => h.1 hk, by rw [show cmdP (σ 256) (σ 255 2) p = p from if_pos hk, show z352_5 - 1 = p by omega]⟩⟩)
    · refine v_tabIn (pc := 21) C 181 (by first | omega | assumption) dX6_readCommand_21 (by omega) (by rw [hs21]; rfl) (by decide) ?_
      have hsg : σ 256 p = 107 := by rw [← w8]; exact hs21
      have hk : tabS (σ 256 p) = 2 := by unfold tabS; rw [hsg]; rfl
      have nk0 : (nums (σ 256) (σ 255 2) 2 (p + 1) 0).1 = 0 ∧ (nums (σ 256) (σ 255 2) 2 (p + 1) 0).2 = (p + 1) := ⟨rfl, rfl⟩
      refine v_aload_n (pc := 181) C 1 rfl dX6_readCommand_181 ?_
      refine v_iconst (pc := 182) C dX6_readCommand_182 ?_
      refine v_cv (pc := 183) (as := [.int (iI 0)]) C (cy_X6_who G) (wM_X6_137 G) sh_255 (ci := 4) rfl rfl (k_X6_who G hn (by omega) ht (by omega)) dX6_readCommand_183 rfl rfl (by decide) (by decide) (Nat.le_of_ble_eq_true rfl) zc (k_I (fun z183 s183 q183 => ?_))
      obtain ⟨ez183, rfl⟩ := q183
      have bz183 := figV_b ez183 (by decide) (by decide) (by decide)
      have bp_183 := figP_r (σ 256) (σ 255 2) (p + 1) 0 1 0 9
      have nk1 := nums_s (k := 2) (i := 0) nk0 (by decide : _ = (1 : Int)) (by decide : _ = (0 : Int)) (by decide : _ = (9 : Int))
      rw [← ez183] at nk1
      generalize figP (σ 256) (σ 255 2) (p + 1) 0 1 0 9 = p_183 at bp_183 nk1 ⊢
      refine v_istore_n (pc := 186) C [(3, .int (iI z183)), (2, .int (iI z8)), (0, .ref (bs γ + 255)), (1, .ref (bs γ + 258))] dX6_readCommand_186 rfl (by decide) rfl ?_
      have hV : cmdV (σ 256) (σ 255 2) p = z183 := by unfold cmdV; rw [hk]; exact nk1.1
      have hP : cmdP (σ 256) (σ 255 2) p = p_183 := by unfold cmdP; rw [if_neg (by rw [hk]; decide), hk]; exact nk1.2
      have a0 : argV (σ 256) (σ 255 2) p 0 = z183 := by unfold argV; rw [hk]; exact nk1.1
      refine v_iload_n (pc := 187) C 0 rfl dX6_readCommand_187 ?_
      refine v_iconst (pc := 188) C dX6_readCommand_188 ?_
      refine v_icmp_eq (pc := 189) C 235 (by first | omega | assumption) (by first | omega | assumption) dX6_readCommand_189 (by decide) (fun h189 => ?_) (fun h189 => ?_)
      · refine v_iconst (pc := 235) C dX6_readCommand_235 ?_
        exact v_iret (pc := 236) C hr (rfl) dX6_readCommand_236 (⟨_, rfl, Or.inr ⟨rfl, fun h => h.2 (by rw [hV]; exact h189), by rw [hP]⟩⟩)
      · refine v_aload_n (pc := 192) C 2 rfl dX6_readCommand_192 ?_
        refine v_aload_n (pc := 193) C 3 rfl dX6_readCommand_193 ?_
        refine v_iload_n (pc := 194) C 0 rfl dX6_readCommand_194 ?_
        refine v_st (mT_i8 _ _ _ _ _) ?_
        refine v_cs (pc := 195) (as := [.ref (bs γ + 258), .int (iI z183)]) C (cy_X6_isKey G) (wM_X6_160 G) (k_X6_isKey G hc (by first | omega | assumption) (by first | omega | assumption)) dX6_readCommand_195 rfl rfl (by decide) (by decide) (Nat.le_of_ble_eq_true rfl) zc (k_I (fun z195 s195 q195 => ?_))
        rcases q195 with ⟨⟨rfl, q195⟩ | ⟨rfl, q195⟩, rfl⟩
        · rw [mT_o8]
          have a0k := a0
          have hno : cmdNo r (σ 256 p) (argV (σ 256) (σ 255 2) p) = 0 := by unfold cmdNo; rw [if_neg (by omega), if_neg (by omega), if_pos (by omega)]; refine if_pos ?_; rw [a0]; exact q195
          have hdo : cmdDo r (σ 256 p) (argV (σ 256) (σ 255 2) p) = upr r (6 + 7 * (argV (σ 256) (σ 255 2) p 0) + 2) (if σ 256 p = 107 then 1 else 0) := by unfold cmdDo; rw [hno, if_neg (by decide)]; rw [if_neg (by omega), if_neg (by omega), if_pos (by omega)]
          rw [a0] at hdo
          refine v_if_eq (pc := 198) C 224 (by first | omega | assumption) dX6_readCommand_198 (by decide) (fun h => absurd h (by decide)) (fun _ => ?_)
          refine v_aload_n (pc := 201) C 3 rfl dX6_readCommand_201 ?_
          refine v_iload_n (pc := 202) C 0 rfl dX6_readCommand_202 ?_
          refine v_iload_n (pc := 203) C 1 rfl dX6_readCommand_203 ?_
          refine v_bipush (pc := 204) C (by decide +kernel) dX6_readCommand_204 ?_
          refine v_icmp_ne (pc := 206) C 213 (by first | omega | assumption) (by first | omega | assumption) dX6_readCommand_206 (by decide) (fun h206 => ?_) (fun h206 => ?_)
          · refine v_iconst (pc := 213) C dX6_readCommand_213 ?_
            refine v_st (mT_i8 _ _ _ _ _) ?_
            refine v_cs (pc := 214) (as := [.ref (bs γ + 258), .int (iI z183), .int (iI 0)]) C (cy_X6_pressOn G) (wM_X6_163 G) (k_X6_pressOn G hc (by omega) (by first | omega | assumption)) dX6_readCommand_214 rfl rfl (by decide) (by decide) (Nat.le_of_ble_eq_true rfl) zc (k_I (fun z214 s214 q214 => ?_))
            obtain ⟨ez214, rfl⟩ := q214
            have hzz : 0 ≤ z214 := by rw [ez214]; split <;> decide
            rw [mT_o8]
            refine v_if_lt (pc := 217) C 224 (by first | omega | assumption) dX6_readCommand_217 (by decide) (fun h217 => absurd h217 (by omega)) (fun h217 => ?_)
            refine v_iconst (pc := 220) C dX6_readCommand_220 ?_
            refine v_goto (pc := 221) C 225 dX6_readCommand_221 (by decide) ?_
            refine v_cv (pc := 225) (as := [.int (iI 1)]) C (cy_X6_done G) (wM_X6_149 G) sh_255 (ci := 4) rfl rfl (k_X6_done G (by omega) (by omega)) dX6_readCommand_225 rfl rfl (by decide) (by decide) (Nat.le_of_ble_eq_true rfl) zc (k_I (fun z225 s225 q225 => ?_))
            obtain ⟨rfl, rfl⟩ := q225
            refine v_if_eq (pc := 228) C 235 (by first | omega | assumption) dX6_readCommand_228 (by decide) (fun h => absurd h (by decide)) (fun _ => ?_)
            refine v_iconst (pc := 231) C dX6_readCommand_231 ?_
            refine v_goto (pc := 232) C 236 dX6_readCommand_232 (by decide) ?_
            exact v_iret (pc := 236) C hr (rfl) dX6_readCommand_236 (⟨_, rfl, Or.inl ⟨rfl, ⟨by rw [hk]; decide, by rw [hV]; first | assumption | (exfalso; omega)⟩, _, by rw [hP, hno, hdo]; first | rfl | (rw [if_pos (by omega)]; rfl) | (rw [if_neg (by omega)]; rfl) | (exfalso; omega)⟩⟩)
          · refine v_iconst (pc := 209) C dX6_readCommand_209 ?_
            refine v_goto (pc := 210) C 214 dX6_readCommand_210 (by decide) ?_
            refine v_st (mT_i8 _ _ _ _ _) ?_
            refine v_cs (pc := 214) (as := [.ref (bs γ + 258), .int (iI z183), .int (iI 1)]) C (cy_X6_pressOn G) (wM_X6_163 G) (k_X6_pressOn G hc (by omega) (by first | omega | assumption)) dX6_readCommand_214 rfl rfl (by decide) (by decide) (Nat.le_of_ble_eq_true rfl) zc (k_I (fun z214_1 s214_1 q214_1 => ?_))
            obtain ⟨ez214_1, rfl⟩ := q214_1
            have hzz : 0 ≤ z214_1 := by rw [ez214_1]; split <;> decide
            rw [mT_o8]
            refine v_if_lt (pc := 217) C 224 (by first | omega | assumption) dX6_readCommand_217 (by decide) (fun h217_1 => absurd h217_1 (by omega)) (fun h217_1 => ?_)
            refine v_iconst (pc := 220) C dX6_readCommand_220 ?_
            refine v_goto (pc := 221) C 225 dX6_readCommand_221 (by decide) ?_
            refine v_cv (pc := 225) (as := [.int (iI 1)]) C (cy_X6_done G) (wM_X6_149 G) sh_255 (ci := 4) rfl rfl (k_X6_done G (by omega) (by omega)) dX6_readCommand_225 rfl rfl (by decide) (by decide) (Nat.le_of_ble_eq_true rfl) zc (k_I (fun z225_1 s225_1 q225_1 => ?_))
            obtain ⟨rfl, rfl⟩ := q225_1
            refine v_if_eq (pc := 228) C 235 (by first | omega | assumption) dX6_readCommand_228 (by decide) (fun h => absurd h (by decide)) (fun _ => ?_)
            refine v_iconst (pc := 231) C dX6_readCommand_231 ?_
            refine v_goto (pc := 232) C 236 dX6_readCommand_232 (by decide) ?_
            exact v_iret (pc := 236) C hr (rfl) dX6_readCommand_236 (⟨_, rfl, Or.inl ⟨rfl, ⟨by rw [hk]; decide, by rw [hV]; first | assumption | (exfalso; omega)⟩, _, by rw [hP, hno, hdo]; first | rfl | (rw [if_pos (by omega)]; rfl) | (rw [if_neg (by omega)]; rfl) | (exfalso; omega)⟩⟩)
        · rw [mT_o8]
          have hno : cmdNo r (σ 256 p) (argV (σ 256) (σ 255 2) p) = 1 := by unfold cmdNo; rw [if_neg (by omega), if_neg (by omega), if_pos (by omega)]; refine if_neg ?_; rw [a0]; exact q195
          have hdo : cmdDo r (σ 256 p) (argV (σ 256) (σ 255 2) p) = r := by unfold cmdDo; rw [hno, if_pos rfl]
          refine v_if_eq (pc := 198) C 224 (by first | omega | assumption) dX6_readCommand_198 (by decide) (fun _ => ?_) (fun h => absurd h (by decide))
          refine v_iconst (pc := 224) C dX6_readCommand_224 ?_
          refine v_cv (pc := 225) (as := [.int (iI 0)]) C (cy_X6_done G) (wM_X6_149 G) sh_255 (ci := 4) rfl rfl (k_X6_done G (by omega) (by omega)) dX6_readCommand_225 rfl rfl (by decide) (by decide) (Nat.le_of_ble_eq_true rfl) zc (k_I (fun z225_2 s225_2 q225_2 => ?_))
          obtain ⟨rfl, rfl⟩ := q225_2
          refine v_if_eq (pc := 228) C 235 (by first | omega | assumption) dX6_readCommand_228 (by decide) (fun h => absurd h (by decide)) (fun _ => ?_)
          refine v_iconst (pc := 231) C dX6_readCommand_231 ?_
          refine v_goto (pc := 232) C 236 dX6_readCommand_232 (by decide) ?_
          exact v_iret (pc := 236) C hr (rfl) dX6_readCommand_236 (⟨_, rfl, Or.inl ⟨rfl, ⟨by rw [hk]; decide, by rw [hV]; first | assumption | (exfalso; omega)⟩, _, by rw [hP, hno, hdo]; first | rfl | (rw [if_pos (by omega)]; rfl) | (rw [if_neg (by omega)]; rfl) | (exfalso; omega)⟩⟩)
    · refine v_tabIn (pc := 21) C 237 (by first | omega | assumption) dX6_readCommand_21 (by omega) (by rw [hs21]; rfl) (by decide) ?_
      have hsg : σ 256 p = 108 := by rw [← w8]; exact hs21
      have hk : tabS (σ 256 p) = 3 := by unfold tabS; rw [hsg]; rfl
      have nl0 : (nums (σ 256) (σ 255 2) 3 (p + 1) 0).1 = 0 ∧ (nums (σ 256) (σ 255 2) 3 (p + 1) 0).2 = (p + 1) := ⟨rfl, rfl⟩
      refine v_aload_n (pc := 237) C 1 rfl dX6_readCommand_237 ?_
      refine v_iconst (pc := 238) C dX6_readCommand_238 ?_
      refine v_iconst (pc := 239) C dX6_readCommand_239 ?_
      refine v_iconst (pc := 240) C dX6_readCommand_240 ?_
      refine v_bipush (pc := 241) C (by decide +kernel) dX6_readCommand_241 ?_
      refine v_cv (pc := 243) (as := [.int (iI 0), .int (iI 2), .int (iI 0), .int (iI 15)]) C (cy_X6_figures G) (wM_X6_133 G) sh_255 (ci := 4) rfl rfl (k_X6_figures2 G hn (by omega) ht (by omega) (by omega)) dX6_readCommand_243 rfl rfl (by decide) (by decide) (Nat.le_of_ble_eq_true rfl) zc (k_I (fun z243 s243 q243 => ?_))
      obtain ⟨ez243, rfl⟩ := q243
      have bz243 := figV_b ez243 (by decide) (by decide) (by decide)
      have bp_243 := figP_r (σ 256) (σ 255 2) (p + 1) 0 2 0 15
      have nl1 := nums_s (k := 3) (i := 0) nl0 (by decide : _ = (2 : Int)) (by decide : _ = (0 : Int)) (by decide : _ = (15 : Int))
      rw [← ez243] at nl1
      generalize figP (σ 256) (σ 255 2) (p + 1) 0 2 0 15 = p_243 at bp_243 nl1 ⊢
      refine v_istore_n (pc := 246) C [(3, .int (iI z243)), (2, .int (iI z8)), (0, .ref (bs γ + 255)), (1, .ref (bs γ + 258))] dX6_readCommand_246 rfl (by decide) rfl ?_
      refine v_aload_n (pc := 247) C 2 rfl dX6_readCommand_247 ?_
      refine v_iload_n (pc := 248) C 0 rfl dX6_readCommand_248 ?_
      refine v_iconst (pc := 249) C dX6_readCommand_249 ?_
      refine v_iconst (pc := 250) C dX6_readCommand_250 ?_
      refine v_bipush (pc := 251) C (by decide +kernel) dX6_readCommand_251 ?_
      refine v_cv (pc := 253) (as := [.int (iI z243), .int (iI 2), .int (iI 0), .int (iI 30)]) C (cy_X6_figures G) (wM_X6_133 G) sh_255 (ci := 4) rfl rfl (k_X6_figures2 G hn (by omega) ht (by omega) (by omega)) dX6_readCommand_253 rfl rfl (by decide) (by decide) (Nat.le_of_ble_eq_true rfl) zc (k_I (fun z253 s253 q253 => ?_))
      obtain ⟨ez253, rfl⟩ := q253
      have bz253 := figV_b ez253 (by decide) (by decide) (by decide)
      have bp_253 := figP_r (σ 256) (σ 255 2) p_243 z243 2 0 30
      have nl2 := nums_s (k := 3) (i := 1) nl1 (by decide : _ = (2 : Int)) (by decide : _ = (0 : Int)) (by decide : _ = (30 : Int))
      rw [← ez253] at nl2
      generalize figP (σ 256) (σ 255 2) p_243 z243 2 0 30 = p_253 at bp_253 nl2 ⊢
      refine v_istore (pc := 256) C [(4, .int (iI z253)), (3, .int (iI z243)), (2, .int (iI z8)), (0, .ref (bs γ + 255)), (1, .ref (bs γ + 258))] dX6_readCommand_256 (by decide) rfl ?_
      have hV : cmdV (σ 256) (σ 255 2) p = z253 := by unfold cmdV; rw [hk]; exact nl2.1
      have hP : cmdP (σ 256) (σ 255 2) p = p_253 := by unfold cmdP; rw [if_neg (by rw [hk]; decide), hk]; exact nl2.2
      have a0 : argV (σ 256) (σ 255 2) p 0 = z243 := by unfold argV; rw [hk]; exact nl1.1
      have a1 : argV (σ 256) (σ 255 2) p 1 = z253 := by unfold argV; rw [hk]; exact nl2.1
      refine v_iload (pc := 258) C 0 rfl dX6_readCommand_258 ?_
      refine v_iconst (pc := 260) C dX6_readCommand_260 ?_
      refine v_icmp_eq (pc := 261) C 306 (by first | omega | assumption) (by first | omega | assumption) dX6_readCommand_261 (by decide) (fun h261 => ?_) (fun h261 => ?_)
      · refine v_iconst (pc := 306) C dX6_readCommand_306 ?_
        exact v_iret (pc := 307) C hr (rfl) dX6_readCommand_307 (⟨_, rfl, Or.inr ⟨rfl, fun h => h.2 (by rw [hV]; exact h261), by rw [hP]⟩⟩)
      · refine v_aload_n (pc := 264) C 3 rfl dX6_readCommand_264 ?_
        refine v_aload_n (pc := 265) C 4 rfl dX6_readCommand_265 ?_
        refine v_iload_n (pc := 266) C 1 rfl dX6_readCommand_266 ?_
        refine v_st (mT_i8 _ _ _ _ _) ?_
        refine v_cs (pc := 267) (as := [.ref (bs γ + 258), .int (iI z243)]) C (cy_X6_isDuct G) (wM_X6_167 G) (k_X6_isDuct G hc (by first | omega | assumption) (by first | omega | assumption)) dX6_readCommand_267 rfl rfl (by decide) (by decide) (Nat.le_of_ble_eq_true rfl) zc (k_I (fun z267 s267 q267 => ?_))
        rcases q267 with ⟨⟨rfl, q267⟩ | ⟨rfl, q267⟩, rfl⟩
        · rw [mT_o8]
          have hno : cmdNo r (σ 256 p) (argV (σ 256) (σ 255 2) p) = 0 := by unfold cmdNo; rw [if_neg (by omega), if_neg (by omega), if_neg (by omega), if_pos hsg]; refine if_pos ?_; rw [a0]; exact q267
          have hdo : cmdDo r (σ 256 p) (argV (σ 256) (σ 255 2) p) = upr r (76 + 12 * (argV (σ 256) (σ 255 2) p 0) + 5) (argV (σ 256) (σ 255 2) p 1) := by unfold cmdDo; rw [hno, if_neg (by decide)]; rw [if_neg (by omega), if_neg (by omega), if_neg (by omega), if_pos hsg]
          rw [a0, a1] at hdo
          obtain ⟨-, -, -, -, -, d5, -⟩ := hW.2.2.2.2.2 _ q267.1 q267.2
          refine v_if_eq (pc := 270) C 295 (by first | omega | assumption) dX6_readCommand_270 (by decide) (fun h => absurd h (by decide)) (fun _ => ?_)
          refine v_aload_n (pc := 273) C 4 rfl dX6_readCommand_273 ?_
          refine v_bipush (pc := 274) C (by decide +kernel) dX6_readCommand_274 ?_
          refine v_bipush (pc := 276) C (by decide +kernel) dX6_readCommand_276 ?_
          refine v_iload_n (pc := 278) C 1 rfl dX6_readCommand_278 ?_
          refine v_imul (pc := 279) C dX6_readCommand_279 ?_
          refine v_iadd (pc := 280) C dX6_readCommand_280 ?_
          refine v_iconst (pc := 281) C dX6_readCommand_281 ?_
          refine v_iadd (pc := 282) C dX6_readCommand_282 ?_
          refine v_iload (pc := 283) C 0 rfl dX6_readCommand_283 ?_
          refine v_st (mT_i8 _ _ _ _ _) ?_
          refine v_cs (pc := 285) (as := [.ref (bs γ + 258), .int (iI ((76 + (12 * z243)) + 5)), .int (iI z253)]) C (cy_X6_change G) (wM_X6_116 G) (k_X6_change G hc (by omega) (by first | omega | assumption)) dX6_readCommand_285 rfl rfl (by decide) (by decide) (Nat.le_of_ble_eq_true rfl) zc (k_I (fun z285 s285 q285 => ?_))
          obtain ⟨⟨ez285, rz285⟩, rfl⟩ := q285
          rw [mT_o8]
          refine v_if_lt (pc := 288) C 295 (by first | omega | assumption) dX6_readCommand_288 (by decide) (fun h288 => absurd h288 (by omega)) (fun h288 => ?_)
          refine v_iconst (pc := 291) C dX6_readCommand_291 ?_
          refine v_goto (pc := 292) C 296 dX6_readCommand_292 (by decide) ?_
          refine v_cv (pc := 296) (as := [.int (iI 1)]) C (cy_X6_done G) (wM_X6_149 G) sh_255 (ci := 4) rfl rfl (k_X6_done G (by omega) (by omega)) dX6_readCommand_296 rfl rfl (by decide) (by decide) (Nat.le_of_ble_eq_true rfl) zc (k_I (fun z296 s296 q296 => ?_))
          obtain ⟨rfl, rfl⟩ := q296
          refine v_if_eq (pc := 299) C 306 (by first | omega | assumption) dX6_readCommand_299 (by decide) (fun h => absurd h (by decide)) (fun _ => ?_)
          refine v_iconst (pc := 302) C dX6_readCommand_302 ?_
          refine v_goto (pc := 303) C 307 dX6_readCommand_303 (by decide) ?_
          exact v_iret (pc := 307) C hr (rfl) dX6_readCommand_307 (⟨_, rfl, Or.inl ⟨rfl, ⟨by rw [hk]; decide, by rw [hV]; first | assumption | (exfalso; omega)⟩, _, by rw [hP, hno, hdo]; first | rfl | (rw [if_pos (by omega)]; rfl) | (rw [if_neg (by omega)]; rfl) | (exfalso; omega)⟩⟩)
        · rw [mT_o8]
          have hno : cmdNo r (σ 256 p) (argV (σ 256) (σ 255 2) p) = 1 := by unfold cmdNo; rw [if_neg (by omega), if_neg (by omega), if_neg (by omega), if_pos hsg]; refine if_neg ?_; rw [a0]; exact q267
          have hdo : cmdDo r (σ 256 p) (argV (σ 256) (σ 255 2) p) = r := by unfold cmdDo; rw [hno, if_pos rfl]
          refine v_if_eq (pc := 270) C 295 (by first | omega | assumption) dX6_readCommand_270 (by decide) (fun _ => ?_) (fun h => absurd h (by decide))
          refine v_iconst (pc := 295) C dX6_readCommand_295 ?_
          refine v_cv (pc := 296) (as := [.int (iI 0)]) C (cy_X6_done G) (wM_X6_149 G) sh_255 (ci := 4) rfl rfl (k_X6_done G (by omega) (by omega)) dX6_readCommand_296 rfl rfl (by decide) (by decide) (Nat.le_of_ble_eq_true rfl) zc (k_I (fun z296_1 s296_1 q296_1 => ?_))
          obtain ⟨rfl, rfl⟩ := q296_1
          refine v_if_eq (pc := 299) C 306 (by first | omega | assumption) dX6_readCommand_299 (by decide) (fun h => absurd h (by decide)) (fun _ => ?_)
          refine v_iconst (pc := 302) C dX6_readCommand_302 ?_
          refine v_goto (pc := 303) C 307 dX6_readCommand_303 (by decide) ?_
          exact v_iret (pc := 307) C hr (rfl) dX6_readCommand_307 (⟨_, rfl, Or.inl ⟨rfl, ⟨by rw [hk]; decide, by rw [hV]; first | assumption | (exfalso; omega)⟩, _, by rw [hP, hno, hdo]; first | rfl | (rw [if_pos (by omega)]; rfl) | (rw [if_neg (by omega)]; rfl) | (exfalso; omega)⟩⟩)
    · refine v_tabIn (pc := 21) C 350 (by first | omega | assumption) dX6_readCommand_21 (by omega) (by rw [hs21]; rfl) (by decide) ?_
      have hsg : σ 256 p = 109 := by rw [← w8]; exact hs21
      have hk : tabS (σ 256 p) = 5 := by unfold tabS; rw [hsg]; rfl
      refine v_aload_n (pc := 350) C 1 rfl dX6_readCommand_350 ?_
      refine v_dup (pc := 351) C rfl dX6_readCommand_351 ?_
      refine v_geti (pc := 352) C inX6 goX6 (ci := 4) rfl 10 (by decide) (wF_X6_127 G) rfl sh_255 10 rfl dX6_readCommand_352 (fun z352_6 ez352_6 rz352_6 => ?_)
      simp only [mT_10, mT_11, mT_2, mT_256, mT_258, mT_259] at ez352_6
      refine v_iconst (pc := 355) C dX6_readCommand_355 ?_
      refine v_isub (pc := 356) C dX6_readCommand_356 ?_
      refine v_puti (pc := 357) C inX6 goX6 (ci := 4) rfl 10 (by decide) (wF_X6_127 G) rfl sh_255 tyX6 tyX6_ok nmX6 rfl rfl (fun _ => Nat.le_of_ble_eq_true rfl) (fun _ _ => ob_set_X6_10) (by first | omega | assumption) dX6_readCommand_357 ?_
      first | rw [mT_p10] | rw [mT_p11]
      refine v_iconst (pc := 360) C dX6_readCommand_360 ?_
      exact v_iret (pc := 361) C hr (rfl) dX6_readCommand_361 (⟨_, rfl, Or.inr ⟨rfl, fun h => h.1 hk, by rw [show cmdP (σ 256) (σ 255 2) p = p from if_pos hk, show z352_6 - 1 = p by omega]⟩⟩)
    · refine v_tabIn (pc := 21) C 350 (by first | omega | assumption) dX6_readCommand_21 (by omega) (by rw [hs21]; rfl) (by decide) ?_
      have hsg : σ 256 p = 110 := by rw [← w8]; exact hs21
      have hk : tabS (σ 256 p) = 5 := by unfold tabS; rw [hsg]; rfl
      refine v_aload_n (pc := 350) C 1 rfl dX6_readCommand_350 ?_
      refine v_dup (pc := 351) C rfl dX6_readCommand_351 ?_
      refine v_geti (pc := 352) C inX6 goX6 (ci := 4) rfl 10 (by decide) (wF_X6_127 G) rfl sh_255 10 rfl dX6_readCommand_352 (fun z352_7 ez352_7 rz352_7 => ?_)
      simp only [mT_10, mT_11, mT_2, mT_256, mT_258, mT_259] at ez352_7
      refine v_iconst (pc := 355) C dX6_readCommand_355 ?_
      refine v_isub (pc := 356) C dX6_readCommand_356 ?_
      refine v_puti (pc := 357) C inX6 goX6 (ci := 4) rfl 10 (by decide) (wF_X6_127 G) rfl sh_255 tyX6 tyX6_ok nmX6 rfl rfl (fun _ => Nat.le_of_ble_eq_true rfl) (fun _ _ => ob_set_X6_10) (by first | omega | assumption) dX6_readCommand_357 ?_
      first | rw [mT_p10] | rw [mT_p11]
      refine v_iconst (pc := 360) C dX6_readCommand_360 ?_
      exact v_iret (pc := 361) C hr (rfl) dX6_readCommand_361 (⟨_, rfl, Or.inr ⟨rfl, fun h => h.1 hk, by rw [show cmdP (σ 256) (σ 255 2) p = p from if_pos hk, show z352_7 - 1 = p by omega]⟩⟩)
    · refine v_tabIn (pc := 21) C 350 (by first | omega | assumption) dX6_readCommand_21 (by omega) (by rw [hs21]; rfl) (by decide) ?_
      have hsg : σ 256 p = 111 := by rw [← w8]; exact hs21
      have hk : tabS (σ 256 p) = 5 := by unfold tabS; rw [hsg]; rfl
      refine v_aload_n (pc := 350) C 1 rfl dX6_readCommand_350 ?_
      refine v_dup (pc := 351) C rfl dX6_readCommand_351 ?_
      refine v_geti (pc := 352) C inX6 goX6 (ci := 4) rfl 10 (by decide) (wF_X6_127 G) rfl sh_255 10 rfl dX6_readCommand_352 (fun z352_8 ez352_8 rz352_8 => ?_)
      simp only [mT_10, mT_11, mT_2, mT_256, mT_258, mT_259] at ez352_8
      refine v_iconst (pc := 355) C dX6_readCommand_355 ?_
      refine v_isub (pc := 356) C dX6_readCommand_356 ?_
      refine v_puti (pc := 357) C inX6 goX6 (ci := 4) rfl 10 (by decide) (wF_X6_127 G) rfl sh_255 tyX6 tyX6_ok nmX6 rfl rfl (fun _ => Nat.le_of_ble_eq_true rfl) (fun _ _ => ob_set_X6_10) (by first | omega | assumption) dX6_readCommand_357 ?_
      first | rw [mT_p10] | rw [mT_p11]
      refine v_iconst (pc := 360) C dX6_readCommand_360 ?_
      exact v_iret (pc := 361) C hr (rfl) dX6_readCommand_361 (⟨_, rfl, Or.inr ⟨rfl, fun h => h.1 hk, by rw [show cmdP (σ 256) (σ 255 2) p = p from if_pos hk, show z352_8 - 1 = p by omega]⟩⟩)
    · refine v_tabIn (pc := 21) C 350 (by first | omega | assumption) dX6_readCommand_21 (by omega) (by rw [hs21]; rfl) (by decide) ?_
      have hsg : σ 256 p = 112 := by rw [← w8]; exact hs21
      have hk : tabS (σ 256 p) = 5 := by unfold tabS; rw [hsg]; rfl
      refine v_aload_n (pc := 350) C 1 rfl dX6_readCommand_350 ?_
      refine v_dup (pc := 351) C rfl dX6_readCommand_351 ?_
      refine v_geti (pc := 352) C inX6 goX6 (ci := 4) rfl 10 (by decide) (wF_X6_127 G) rfl sh_255 10 rfl dX6_readCommand_352 (fun z352_9 ez352_9 rz352_9 => ?_)
      simp only [mT_10, mT_11, mT_2, mT_256, mT_258, mT_259] at ez352_9
      refine v_iconst (pc := 355) C dX6_readCommand_355 ?_
      refine v_isub (pc := 356) C dX6_readCommand_356 ?_
      refine v_puti (pc := 357) C inX6 goX6 (ci := 4) rfl 10 (by decide) (wF_X6_127 G) rfl sh_255 tyX6 tyX6_ok nmX6 rfl rfl (fun _ => Nat.le_of_ble_eq_true rfl) (fun _ _ => ob_set_X6_10) (by first | omega | assumption) dX6_readCommand_357 ?_
      first | rw [mT_p10] | rw [mT_p11]
      refine v_iconst (pc := 360) C dX6_readCommand_360 ?_
      exact v_iret (pc := 361) C hr (rfl) dX6_readCommand_361 (⟨_, rfl, Or.inr ⟨rfl, fun h => h.1 hk, by rw [show cmdP (σ 256) (σ 255 2) p = p from if_pos hk, show z352_9 - 1 = p by omega]⟩⟩)
    · refine v_tabIn (pc := 21) C 350 (by first | omega | assumption) dX6_readCommand_21 (by omega) (by rw [hs21]; rfl) (by decide) ?_
      have hsg : σ 256 p = 113 := by rw [← w8]; exact hs21
      have hk : tabS (σ 256 p) = 5 := by unfold tabS; rw [hsg]; rfl
      refine v_aload_n (pc := 350) C 1 rfl dX6_readCommand_350 ?_
      refine v_dup (pc := 351) C rfl dX6_readCommand_351 ?_
      refine v_geti (pc := 352) C inX6 goX6 (ci := 4) rfl 10 (by decide) (wF_X6_127 G) rfl sh_255 10 rfl dX6_readCommand_352 (fun z352_10 ez352_10 rz352_10 => ?_)
      simp only [mT_10, mT_11, mT_2, mT_256, mT_258, mT_259] at ez352_10
      refine v_iconst (pc := 355) C dX6_readCommand_355 ?_
      refine v_isub (pc := 356) C dX6_readCommand_356 ?_
      refine v_puti (pc := 357) C inX6 goX6 (ci := 4) rfl 10 (by decide) (wF_X6_127 G) rfl sh_255 tyX6 tyX6_ok nmX6 rfl rfl (fun _ => Nat.le_of_ble_eq_true rfl) (fun _ _ => ob_set_X6_10) (by first | omega | assumption) dX6_readCommand_357 ?_
      first | rw [mT_p10] | rw [mT_p11]
      refine v_iconst (pc := 360) C dX6_readCommand_360 ?_
      exact v_iret (pc := 361) C hr (rfl) dX6_readCommand_361 (⟨_, rfl, Or.inr ⟨rfl, fun h => h.1 hk, by rw [show cmdP (σ 256) (σ 255 2) p = p from if_pos hk, show z352_10 - 1 = p by omega]⟩⟩)
    · refine v_tabIn (pc := 21) C 181 (by first | omega | assumption) dX6_readCommand_21 (by omega) (by rw [hs21]; rfl) (by decide) ?_
      have hsg : σ 256 p = 114 := by rw [← w8]; exact hs21
      have hk : tabS (σ 256 p) = 2 := by unfold tabS; rw [hsg]; rfl
      have nk0 : (nums (σ 256) (σ 255 2) 2 (p + 1) 0).1 = 0 ∧ (nums (σ 256) (σ 255 2) 2 (p + 1) 0).2 = (p + 1) := ⟨rfl, rfl⟩
      refine v_aload_n (pc := 181) C 1 rfl dX6_readCommand_181 ?_
      refine v_iconst (pc := 182) C dX6_readCommand_182 ?_
      refine v_cv (pc := 183) (as := [.int (iI 0)]) C (cy_X6_who G) (wM_X6_137 G) sh_255 (ci := 4) rfl rfl (k_X6_who G hn (by omega) ht (by omega)) dX6_readCommand_183 rfl rfl (by decide) (by decide) (Nat.le_of_ble_eq_true rfl) zc (k_I (fun z183_1 s183_1 q183_1 => ?_))
      obtain ⟨ez183_1, rfl⟩ := q183_1
      have bz183_1 := figV_b ez183_1 (by decide) (by decide) (by decide)
      have bp_183_1 := figP_r (σ 256) (σ 255 2) (p + 1) 0 1 0 9
      have nk1 := nums_s (k := 2) (i := 0) nk0 (by decide : _ = (1 : Int)) (by decide : _ = (0 : Int)) (by decide : _ = (9 : Int))
      rw [← ez183_1] at nk1
      generalize figP (σ 256) (σ 255 2) (p + 1) 0 1 0 9 = p_183_1 at bp_183_1 nk1 ⊢
      refine v_istore_n (pc := 186) C [(3, .int (iI z183_1)), (2, .int (iI z8)), (0, .ref (bs γ + 255)), (1, .ref (bs γ + 258))] dX6_readCommand_186 rfl (by decide) rfl ?_
      have hV : cmdV (σ 256) (σ 255 2) p = z183_1 := by unfold cmdV; rw [hk]; exact nk1.1
      have hP : cmdP (σ 256) (σ 255 2) p = p_183_1 := by unfold cmdP; rw [if_neg (by rw [hk]; decide), hk]; exact nk1.2
      have a0 : argV (σ 256) (σ 255 2) p 0 = z183_1 := by unfold argV; rw [hk]; exact nk1.1
      refine v_iload_n (pc := 187) C 0 rfl dX6_readCommand_187 ?_
      refine v_iconst (pc := 188) C dX6_readCommand_188 ?_
      refine v_icmp_eq (pc := 189) C 235 (by first | omega | assumption) (by first | omega | assumption) dX6_readCommand_189 (by decide) (fun h189_1 => ?_) (fun h189_1 => ?_)
      · refine v_iconst (pc := 235) C dX6_readCommand_235 ?_
        exact v_iret (pc := 236) C hr (rfl) dX6_readCommand_236 (⟨_, rfl, Or.inr ⟨rfl, fun h => h.2 (by rw [hV]; exact h189_1), by rw [hP]⟩⟩)
      · refine v_aload_n (pc := 192) C 2 rfl dX6_readCommand_192 ?_
        refine v_aload_n (pc := 193) C 3 rfl dX6_readCommand_193 ?_
        refine v_iload_n (pc := 194) C 0 rfl dX6_readCommand_194 ?_
        refine v_st (mT_i8 _ _ _ _ _) ?_
        refine v_cs (pc := 195) (as := [.ref (bs γ + 258), .int (iI z183_1)]) C (cy_X6_isKey G) (wM_X6_160 G) (k_X6_isKey G hc (by first | omega | assumption) (by first | omega | assumption)) dX6_readCommand_195 rfl rfl (by decide) (by decide) (Nat.le_of_ble_eq_true rfl) zc (k_I (fun z195_1 s195_1 q195_1 => ?_))
        rcases q195_1 with ⟨⟨rfl, q195_1⟩ | ⟨rfl, q195_1⟩, rfl⟩
        · rw [mT_o8]
          have a0k := a0
          have hno : cmdNo r (σ 256 p) (argV (σ 256) (σ 255 2) p) = 0 := by unfold cmdNo; rw [if_neg (by omega), if_neg (by omega), if_pos (by omega)]; refine if_pos ?_; rw [a0]; exact q195_1
          have hdo : cmdDo r (σ 256 p) (argV (σ 256) (σ 255 2) p) = upr r (6 + 7 * (argV (σ 256) (σ 255 2) p 0) + 2) (if σ 256 p = 107 then 1 else 0) := by unfold cmdDo; rw [hno, if_neg (by decide)]; rw [if_neg (by omega), if_neg (by omega), if_pos (by omega)]
          rw [a0] at hdo
          refine v_if_eq (pc := 198) C 224 (by first | omega | assumption) dX6_readCommand_198 (by decide) (fun h => absurd h (by decide)) (fun _ => ?_)
          refine v_aload_n (pc := 201) C 3 rfl dX6_readCommand_201 ?_
          refine v_iload_n (pc := 202) C 0 rfl dX6_readCommand_202 ?_
          refine v_iload_n (pc := 203) C 1 rfl dX6_readCommand_203 ?_
          refine v_bipush (pc := 204) C (by decide +kernel) dX6_readCommand_204 ?_
          refine v_icmp_ne (pc := 206) C 213 (by first | omega | assumption) (by first | omega | assumption) dX6_readCommand_206 (by decide) (fun h206_1 => ?_) (fun h206_1 => ?_)
          · refine v_iconst (pc := 213) C dX6_readCommand_213 ?_
            refine v_st (mT_i8 _ _ _ _ _) ?_
            refine v_cs (pc := 214) (as := [.ref (bs γ + 258), .int (iI z183_1), .int (iI 0)]) C (cy_X6_pressOn G) (wM_X6_163 G) (k_X6_pressOn G hc (by omega) (by first | omega | assumption)) dX6_readCommand_214 rfl rfl (by decide) (by decide) (Nat.le_of_ble_eq_true rfl) zc (k_I (fun z214_2 s214_2 q214_2 => ?_))
            obtain ⟨ez214_2, rfl⟩ := q214_2
            have hzz : 0 ≤ z214_2 := by rw [ez214_2]; split <;> decide
            rw [mT_o8]
            refine v_if_lt (pc := 217) C 224 (by first | omega | assumption) dX6_readCommand_217 (by decide) (fun h217_2 => absurd h217_2 (by omega)) (fun h217_2 => ?_)
            refine v_iconst (pc := 220) C dX6_readCommand_220 ?_
            refine v_goto (pc := 221) C 225 dX6_readCommand_221 (by decide) ?_
            refine v_cv (pc := 225) (as := [.int (iI 1)]) C (cy_X6_done G) (wM_X6_149 G) sh_255 (ci := 4) rfl rfl (k_X6_done G (by omega) (by omega)) dX6_readCommand_225 rfl rfl (by decide) (by decide) (Nat.le_of_ble_eq_true rfl) zc (k_I (fun z225_3 s225_3 q225_3 => ?_))
            obtain ⟨rfl, rfl⟩ := q225_3
            refine v_if_eq (pc := 228) C 235 (by first | omega | assumption) dX6_readCommand_228 (by decide) (fun h => absurd h (by decide)) (fun _ => ?_)
            refine v_iconst (pc := 231) C dX6_readCommand_231 ?_
            refine v_goto (pc := 232) C 236 dX6_readCommand_232 (by decide) ?_
            exact v_iret (pc := 236) C hr (rfl) dX6_readCommand_236 (⟨_, rfl, Or.inl ⟨rfl, ⟨by rw [hk]; decide, by rw [hV]; first | assumption | (exfalso; omega)⟩, _, by rw [hP, hno, hdo]; first | rfl | (rw [if_pos (by omega)]; rfl) | (rw [if_neg (by omega)]; rfl) | (exfalso; omega)⟩⟩)
          · refine v_iconst (pc := 209) C dX6_readCommand_209 ?_
            refine v_goto (pc := 210) C 214 dX6_readCommand_210 (by decide) ?_
            refine v_st (mT_i8 _ _ _ _ _) ?_
            refine v_cs (pc := 214) (as := [.ref (bs γ + 258), .int (iI z183_1), .int (iI 1)]) C (cy_X6_pressOn G) (wM_X6_163 G) (k_X6_pressOn G hc (by omega) (by first | omega | assumption)) dX6_readCommand_214 rfl rfl (by decide) (by decide) (Nat.le_of_ble_eq_true rfl) zc (k_I (fun z214_3 s214_3 q214_3 => ?_))
            obtain ⟨ez214_3, rfl⟩ := q214_3
            have hzz : 0 ≤ z214_3 := by rw [ez214_3]; split <;> decide
            rw [mT_o8]
            refine v_if_lt (pc := 217) C 224 (by first | omega | assumption) dX6_readCommand_217 (by decide) (fun h217_3 => absurd h217_3 (by omega)) (fun h217_3 => ?_)
            refine v_iconst (pc := 220) C dX6_readCommand_220 ?_
            refine v_goto (pc := 221) C 225 dX6_readCommand_221 (by decide) ?_
            refine v_cv (pc := 225) (as := [.int (iI 1)]) C (cy_X6_done G) (wM_X6_149 G) sh_255 (ci := 4) rfl rfl (k_X6_done G (by omega) (by omega)) dX6_readCommand_225 rfl rfl (by decide) (by decide) (Nat.le_of_ble_eq_true rfl) zc (k_I (fun z225_4 s225_4 q225_4 => ?_))
            obtain ⟨rfl, rfl⟩ := q225_4
            refine v_if_eq (pc := 228) C 235 (by first | omega | assumption) dX6_readCommand_228 (by decide) (fun h => absurd h (by decide)) (fun _ => ?_)
            refine v_iconst (pc := 231) C dX6_readCommand_231 ?_
            refine v_goto (pc := 232) C 236 dX6_readCommand_232 (by decide) ?_
            exact v_iret (pc := 236) C hr (rfl) dX6_readCommand_236 (⟨_, rfl, Or.inl ⟨rfl, ⟨by rw [hk]; decide, by rw [hV]; first | assumption | (exfalso; omega)⟩, _, by rw [hP, hno, hdo]; first | rfl | (rw [if_pos (by omega)]; rfl) | (rw [if_neg (by omega)]; rfl) | (exfalso; omega)⟩⟩)
        · rw [mT_o8]
          have hno : cmdNo r (σ 256 p) (argV (σ 256) (σ 255 2) p) = 1 := by unfold cmdNo; rw [if_neg (by omega), if_neg (by omega), if_pos (by omega)]; refine if_neg ?_; rw [a0]; exact q195_1
          have hdo : cmdDo r (σ 256 p) (argV (σ 256) (σ 255 2) p) = r := by unfold cmdDo; rw [hno, if_pos rfl]
          refine v_if_eq (pc := 198) C 224 (by first | omega | assumption) dX6_readCommand_198 (by decide) (fun _ => ?_) (fun h => absurd h (by decide))
          refine v_iconst (pc := 224) C dX6_readCommand_224 ?_
          refine v_cv (pc := 225) (as := [.int (iI 0)]) C (cy_X6_done G) (wM_X6_149 G) sh_255 (ci := 4) rfl rfl (k_X6_done G (by omega) (by omega)) dX6_readCommand_225 rfl rfl (by decide) (by decide) (Nat.le_of_ble_eq_true rfl) zc (k_I (fun z225_5 s225_5 q225_5 => ?_))
          obtain ⟨rfl, rfl⟩ := q225_5
          refine v_if_eq (pc := 228) C 235 (by first | omega | assumption) dX6_readCommand_228 (by decide) (fun h => absurd h (by decide)) (fun _ => ?_)
          refine v_iconst (pc := 231) C dX6_readCommand_231 ?_
          refine v_goto (pc := 232) C 236 dX6_readCommand_232 (by decide) ?_
          exact v_iret (pc := 236) C hr (rfl) dX6_readCommand_236 (⟨_, rfl, Or.inl ⟨rfl, ⟨by rw [hk]; decide, by rw [hV]; first | assumption | (exfalso; omega)⟩, _, by rw [hP, hno, hdo]; first | rfl | (rw [if_pos (by omega)]; rfl) | (rw [if_neg (by omega)]; rfl) | (exfalso; omega)⟩⟩)
    · refine v_tabIn (pc := 21) C 350 (by first | omega | assumption) dX6_readCommand_21 (by omega) (by rw [hs21]; rfl) (by decide) ?_
      have hsg : σ 256 p = 115 := by rw [← w8]; exact hs21
      have hk : tabS (σ 256 p) = 5 := by unfold tabS; rw [hsg]; rfl
      refine v_aload_n (pc := 350) C 1 rfl dX6_readCommand_350 ?_
      refine v_dup (pc := 351) C rfl dX6_readCommand_351 ?_
      refine v_geti (pc := 352) C inX6 goX6 (ci := 4) rfl 10 (by decide) (wF_X6_127 G) rfl sh_255 10 rfl dX6_readCommand_352 (fun z352_11 ez352_11 rz352_11 => ?_)
      simp only [mT_10, mT_11, mT_2, mT_256, mT_258, mT_259] at ez352_11
      refine v_iconst (pc := 355) C dX6_readCommand_355 ?_
      refine v_isub (pc := 356) C dX6_readCommand_356 ?_
      refine v_puti (pc := 357) C inX6 goX6 (ci := 4) rfl 10 (by decide) (wF_X6_127 G) rfl sh_255 tyX6 tyX6_ok nmX6 rfl rfl (fun _ => Nat.le_of_ble_eq_true rfl) (fun _ _ => ob_set_X6_10) (by first | omega | assumption) dX6_readCommand_357 ?_
      first | rw [mT_p10] | rw [mT_p11]
      refine v_iconst (pc := 360) C dX6_readCommand_360 ?_
      exact v_iret (pc := 361) C hr (rfl) dX6_readCommand_361 (⟨_, rfl, Or.inr ⟨rfl, fun h => h.1 hk, by rw [show cmdP (σ 256) (σ 255 2) p = p from if_pos hk, show z352_11 - 1 = p by omega]⟩⟩)
    · refine v_tabIn (pc := 21) C 308 (by first | omega | assumption) dX6_readCommand_21 (by omega) (by rw [hs21]; rfl) (by decide) ?_
      have hsg : σ 256 p = 116 := by rw [← w8]; exact hs21
      have hk : tabS (σ 256 p) = 4 := by unfold tabS; rw [hsg]; rfl
      have nt0 : (nums (σ 256) (σ 255 2) 4 (p + 1) 0).1 = 0 ∧ (nums (σ 256) (σ 255 2) 4 (p + 1) 0).2 = (p + 1) := ⟨rfl, rfl⟩
      refine v_aload_n (pc := 308) C 1 rfl dX6_readCommand_308 ?_
      refine v_iconst (pc := 309) C dX6_readCommand_309 ?_
      refine v_iconst (pc := 310) C dX6_readCommand_310 ?_
      refine v_iconst (pc := 311) C dX6_readCommand_311 ?_
      refine v_bipush (pc := 312) C (by decide +kernel) dX6_readCommand_312 ?_
      refine v_cv (pc := 314) (as := [.int (iI 0), .int (iI 2), .int (iI 1), .int (iI 99)]) C (cy_X6_figures G) (wM_X6_133 G) sh_255 (ci := 4) rfl rfl (k_X6_figures2 G hn (by omega) ht (by omega) (by omega)) dX6_readCommand_314 rfl rfl (by decide) (by decide) (Nat.le_of_ble_eq_true rfl) zc (k_I (fun z314 s314 q314 => ?_))
      obtain ⟨ez314, rfl⟩ := q314
      have bz314 := figV_b ez314 (by decide) (by decide) (by decide)
      have bp_314 := figP_r (σ 256) (σ 255 2) (p + 1) 0 2 1 99
      have nt1 := nums_s (k := 4) (i := 0) nt0 (by decide : _ = (2 : Int)) (by decide : _ = (1 : Int)) (by decide : _ = (99 : Int))
      rw [← ez314] at nt1
      generalize figP (σ 256) (σ 255 2) (p + 1) 0 2 1 99 = p_314 at bp_314 nt1 ⊢
      refine v_istore_n (pc := 317) C [(3, .int (iI z314)), (2, .int (iI z8)), (0, .ref (bs γ + 255)), (1, .ref (bs γ + 258))] dX6_readCommand_317 rfl (by decide) rfl ?_
      have hV : cmdV (σ 256) (σ 255 2) p = z314 := by unfold cmdV; rw [hk]; exact nt1.1
      have hP : cmdP (σ 256) (σ 255 2) p = p_314 := by unfold cmdP; rw [if_neg (by rw [hk]; decide), hk]; exact nt1.2
      have a0 : argV (σ 256) (σ 255 2) p 0 = z314 := by unfold argV; rw [hk]; exact nt1.1
      refine v_iload_n (pc := 318) C 0 rfl dX6_readCommand_318 ?_
      refine v_iconst (pc := 319) C dX6_readCommand_319 ?_
      refine v_icmp_eq (pc := 320) C 348 (by first | omega | assumption) (by first | omega | assumption) dX6_readCommand_320 (by decide) (fun h320 => ?_) (fun h320 => ?_)
      · refine v_iconst (pc := 348) C dX6_readCommand_348 ?_
        exact v_iret (pc := 349) C hr (rfl) dX6_readCommand_349 (⟨_, rfl, Or.inr ⟨rfl, fun h => h.2 (by rw [hV]; exact h320), by rw [hP]⟩⟩)
      · refine v_aload_n (pc := 323) C 2 rfl dX6_readCommand_323 ?_
        refine v_aload_n (pc := 324) C 2 rfl dX6_readCommand_324 ?_
        refine v_aload_n (pc := 325) C 3 rfl dX6_readCommand_325 ?_
        refine v_iload_n (pc := 326) C 0 rfl dX6_readCommand_326 ?_
        refine v_ok (fun hz => ?_)
        refine v_cv (pc := 327) (as := [.ref (bs γ + 258), .int (iI z314)]) C (cy_X6_runOn G) (wM_X6_170 G) sh_255 (ci := 4) rfl rfl (k_X6_runOn G (c := 258) (Or.inr rfl) hW (by omega) hz) dX6_readCommand_327 rfl rfl (by decide) (by decide) (Nat.le_of_ble_eq_true rfl) zc (k_I (fun z327 s327 q327 => ?_))
        obtain ⟨⟨ez327, rz327⟩, rfl⟩ := q327
        rw [mT_258, mT_o9, mT_o8]
        have hno : cmdNo r (σ 256 p) (argV (σ 256) (σ 255 2) p) = 0 := by unfold cmdNo; rw [if_neg (by omega), if_neg (by omega), if_neg (by omega), if_neg (by omega)]
        have hdo : cmdDo r (σ 256 p) (argV (σ 256) (σ 255 2) p) = runR r (argV (σ 256) (σ 255 2) p 0).toNat := by unfold cmdDo; rw [hno, if_neg (by decide)]; rw [if_neg (by omega), if_neg (by omega), if_neg (by omega), if_neg (by omega)]
        rw [a0] at hdo
        refine v_if_lt (pc := 330) C 337 (by first | omega | assumption) dX6_readCommand_330 (by decide) (fun h330 => absurd h330 (by omega)) (fun h330 => ?_)
        refine v_iconst (pc := 333) C dX6_readCommand_333 ?_
        refine v_goto (pc := 334) C 338 dX6_readCommand_334 (by decide) ?_
        refine v_cv (pc := 338) (as := [.int (iI 1)]) C (cy_X6_done G) (wM_X6_149 G) sh_255 (ci := 4) rfl rfl (k_X6_done G (by omega) (by omega)) dX6_readCommand_338 rfl rfl (by decide) (by decide) (Nat.le_of_ble_eq_true rfl) zc (k_I (fun z338 s338 q338 => ?_))
        obtain ⟨rfl, rfl⟩ := q338
        refine v_if_eq (pc := 341) C 348 (by first | omega | assumption) dX6_readCommand_341 (by decide) (fun h => absurd h (by decide)) (fun _ => ?_)
        refine v_iconst (pc := 344) C dX6_readCommand_344 ?_
        refine v_goto (pc := 345) C 349 dX6_readCommand_345 (by decide) ?_
        exact v_iret (pc := 349) C hr (rfl) dX6_readCommand_349 (⟨_, rfl, Or.inl ⟨rfl, ⟨by rw [hk]; decide, by rw [hV]; first | assumption | (exfalso; omega)⟩, _, by rw [hP, hno, hdo]; first | rfl | (rw [if_pos (by omega)]; rfl) | (rw [if_neg (by omega)]; rfl) | (exfalso; omega)⟩⟩)
    · refine v_tabIn (pc := 21) C 350 (by first | omega | assumption) dX6_readCommand_21 (by omega) (by rw [hs21]; rfl) (by decide) ?_
      have hsg : σ 256 p = 117 := by rw [← w8]; exact hs21
      have hk : tabS (σ 256 p) = 5 := by unfold tabS; rw [hsg]; rfl
      refine v_aload_n (pc := 350) C 1 rfl dX6_readCommand_350 ?_
      refine v_dup (pc := 351) C rfl dX6_readCommand_351 ?_
      refine v_geti (pc := 352) C inX6 goX6 (ci := 4) rfl 10 (by decide) (wF_X6_127 G) rfl sh_255 10 rfl dX6_readCommand_352 (fun z352_12 ez352_12 rz352_12 => ?_)
      simp only [mT_10, mT_11, mT_2, mT_256, mT_258, mT_259] at ez352_12
      refine v_iconst (pc := 355) C dX6_readCommand_355 ?_
      refine v_isub (pc := 356) C dX6_readCommand_356 ?_
      refine v_puti (pc := 357) C inX6 goX6 (ci := 4) rfl 10 (by decide) (wF_X6_127 G) rfl sh_255 tyX6 tyX6_ok nmX6 rfl rfl (fun _ => Nat.le_of_ble_eq_true rfl) (fun _ _ => ob_set_X6_10) (by first | omega | assumption) dX6_readCommand_357 ?_
      first | rw [mT_p10] | rw [mT_p11]
      refine v_iconst (pc := 360) C dX6_readCommand_360 ?_
      exact v_iret (pc := 361) C hr (rfl) dX6_readCommand_361 (⟨_, rfl, Or.inr ⟨rfl, fun h => h.1 hk, by rw [show cmdP (σ 256) (σ 255 2) p = p from if_pos hk, show z352_12 - 1 = p by omega]⟩⟩)
    · refine v_tabIn (pc := 21) C 112 (by first | omega | assumption) dX6_readCommand_21 (by omega) (by rw [hs21]; rfl) (by decide) ?_
      have hsg : σ 256 p = 118 := by rw [← w8]; exact hs21
      have hk : tabS (σ 256 p) = 0 := by unfold tabS; rw [hsg]; rfl
      have nv0 : (nums (σ 256) (σ 255 2) 0 (p + 1) 0).1 = 0 ∧ (nums (σ 256) (σ 255 2) 0 (p + 1) 0).2 = (p + 1) := ⟨rfl, rfl⟩
      refine v_aload_n (pc := 112) C 1 rfl dX6_readCommand_112 ?_
      refine v_iconst (pc := 113) C dX6_readCommand_113 ?_
      refine v_iconst (pc := 114) C dX6_readCommand_114 ?_
      refine v_iconst (pc := 115) C dX6_readCommand_115 ?_
      refine v_iconst (pc := 116) C dX6_readCommand_116 ?_
      refine v_cv (pc := 117) (as := [.int (iI 0), .int (iI 1), .int (iI 0), .int (iI 4)]) C (cy_X6_figures G) (wM_X6_133 G) sh_255 (ci := 4) rfl rfl (k_X6_figures1 G hn (by omega) ht (by omega) (by omega)) dX6_readCommand_117 rfl rfl (by decide) (by decide) (Nat.le_of_ble_eq_true rfl) zc (k_I (fun z117 s117 q117 => ?_))
      obtain ⟨ez117, rfl⟩ := q117
      have bz117 := figV_b ez117 (by decide) (by decide) (by decide)
      have bp_117 := figP_r (σ 256) (σ 255 2) (p + 1) 0 1 0 4
      have nv1 := nums_s (k := 0) (i := 0) nv0 (by decide : _ = (1 : Int)) (by decide : _ = (0 : Int)) (by decide : _ = (4 : Int))
      rw [← ez117] at nv1
      generalize figP (σ 256) (σ 255 2) (p + 1) 0 1 0 4 = p_117 at bp_117 nv1 ⊢
      refine v_istore_n (pc := 120) C [(3, .int (iI z117)), (2, .int (iI z8)), (0, .ref (bs γ + 255)), (1, .ref (bs γ + 258))] dX6_readCommand_120 rfl (by decide) rfl ?_
      refine v_aload_n (pc := 121) C 2 rfl dX6_readCommand_121 ?_
      refine v_iload_n (pc := 122) C 0 rfl dX6_readCommand_122 ?_
      refine v_iconst (pc := 123) C dX6_readCommand_123 ?_
      refine v_bipush (pc := 124) C (by decide +kernel) dX6_readCommand_124 ?_
      refine v_bipush (pc := 126) C (by decide +kernel) dX6_readCommand_126 ?_
      refine v_cv (pc := 128) (as := [.int (iI z117), .int (iI 2), .int (iI 10), .int (iI 99)]) C (cy_X6_figures G) (wM_X6_133 G) sh_255 (ci := 4) rfl rfl (k_X6_figures2 G hn (by omega) ht (by omega) (by omega)) dX6_readCommand_128 rfl rfl (by decide) (by decide) (Nat.le_of_ble_eq_true rfl) zc (k_I (fun z128 s128 q128 => ?_))
      obtain ⟨ez128, rfl⟩ := q128
      have bz128 := figV_b ez128 (by decide) (by decide) (by decide)
      have bp_128 := figP_r (σ 256) (σ 255 2) p_117 z117 2 10 99
      have nv2 := nums_s (k := 0) (i := 1) nv1 (by decide : _ = (2 : Int)) (by decide : _ = (10 : Int)) (by decide : _ = (99 : Int))
      rw [← ez128] at nv2
      generalize figP (σ 256) (σ 255 2) p_117 z117 2 10 99 = p_128 at bp_128 nv2 ⊢
      refine v_istore (pc := 131) C [(4, .int (iI z128)), (3, .int (iI z117)), (2, .int (iI z8)), (0, .ref (bs γ + 255)), (1, .ref (bs γ + 258))] dX6_readCommand_131 (by decide) rfl ?_
      have hV : cmdV (σ 256) (σ 255 2) p = z128 := by unfold cmdV; rw [hk]; exact nv2.1
      have hP : cmdP (σ 256) (σ 255 2) p = p_128 := by unfold cmdP; rw [if_neg (by rw [hk]; decide), hk]; exact nv2.2
      have a0 : argV (σ 256) (σ 255 2) p 0 = z117 := by unfold argV; rw [hk]; exact nv1.1
      have a1 : argV (σ 256) (σ 255 2) p 1 = z128 := by unfold argV; rw [hk]; exact nv2.1
      refine v_iload (pc := 133) C 0 rfl dX6_readCommand_133 ?_
      refine v_iconst (pc := 135) C dX6_readCommand_135 ?_
      refine v_icmp_eq (pc := 136) C 173 (by first | omega | assumption) (by first | omega | assumption) dX6_readCommand_136 (by decide) (fun h136 => ?_) (fun h136 => ?_)
      · refine v_iconst (pc := 173) C dX6_readCommand_173 ?_
        exact v_iret (pc := 174) C hr (rfl) dX6_readCommand_174 (⟨_, rfl, Or.inr ⟨rfl, fun h => h.2 (by rw [hV]; exact h136), by rw [hP]⟩⟩)
      · refine v_aload_n (pc := 139) C 3 rfl dX6_readCommand_139 ?_
        refine v_aload_n (pc := 140) C 4 rfl dX6_readCommand_140 ?_
        refine v_iconst (pc := 141) C dX6_readCommand_141 ?_
        refine v_iald (pc := 142) C sh_258 (by decide) (by first | omega | assumption) dX6_readCommand_142 (fun z142 ez142 rz142 => ?_)
        simp only [mT_10, mT_11, mT_2, mT_256, mT_258, mT_259] at ez142
        refine v_bipush (pc := 143) C (by decide +kernel) dX6_readCommand_143 ?_
        refine v_icmp_ge (pc := 145) C 162 (by first | omega | assumption) (by first | omega | assumption) dX6_readCommand_145 (by decide) (fun h145 => ?_) (fun h145 => ?_)
        · have hno : cmdNo r (σ 256 p) (argV (σ 256) (σ 255 2) p) = 1 := by unfold cmdNo; rw [if_pos hsg, if_neg (by omega)]
          have hdo : cmdDo r (σ 256 p) (argV (σ 256) (σ 255 2) p) = r := by unfold cmdDo; rw [hno, if_pos rfl]
          refine v_iconst (pc := 162) C dX6_readCommand_162 ?_
          refine v_cv (pc := 163) (as := [.int (iI 0)]) C (cy_X6_done G) (wM_X6_149 G) sh_255 (ci := 4) rfl rfl (k_X6_done G (by omega) (by omega)) dX6_readCommand_163 rfl rfl (by decide) (by decide) (Nat.le_of_ble_eq_true rfl) zc (k_I (fun z163 s163 q163 => ?_))
          obtain ⟨rfl, rfl⟩ := q163
          refine v_if_eq (pc := 166) C 173 (by first | omega | assumption) dX6_readCommand_166 (by decide) (fun h => absurd h (by decide)) (fun _ => ?_)
          refine v_iconst (pc := 169) C dX6_readCommand_169 ?_
          refine v_goto (pc := 170) C 174 dX6_readCommand_170 (by decide) ?_
          exact v_iret (pc := 174) C hr (rfl) dX6_readCommand_174 (⟨_, rfl, Or.inl ⟨rfl, ⟨by rw [hk]; decide, by rw [hV]; first | assumption | (exfalso; omega)⟩, _, by rw [hP, hno, hdo]; first | rfl | (rw [if_pos (by omega)]; rfl) | (rw [if_neg (by omega)]; rfl) | (exfalso; omega)⟩⟩)
        · have hno : cmdNo r (σ 256 p) (argV (σ 256) (σ 255 2) p) = 0 := by unfold cmdNo; rw [if_pos hsg, if_pos (by omega)]
          have hdo : cmdDo r (σ 256 p) (argV (σ 256) (σ 255 2) p) = valveR r z117 z128 := by unfold cmdDo; rw [hno, if_neg (by decide)]; rw [if_pos hsg, a0, a1]
          refine v_aload_n (pc := 148) C 4 rfl dX6_readCommand_148 ?_
          refine v_iload_n (pc := 149) C 1 rfl dX6_readCommand_149 ?_
          refine v_iload (pc := 150) C 0 rfl dX6_readCommand_150 ?_
          refine v_st (mT_i8 _ _ _ _ _) ?_
          refine v_cs (pc := 152) (as := [.ref (bs γ + 258), .int (iI z117), .int (iI z128)]) C (cy_X6_valveOn G) (wM_X6_153 G) (k_X6_valveOn G hc (by omega) (by first | omega | assumption) (by first | omega | assumption)) dX6_readCommand_152 rfl rfl (by decide) (by decide) (Nat.le_of_ble_eq_true rfl) zc (k_I (fun z152 s152 q152 => ?_))
          obtain ⟨ez152, rfl⟩ := q152
          rw [mT_o8]
          refine v_if_lt (pc := 155) C 162 (by first | omega | assumption) dX6_readCommand_155 (by decide) (fun h155 => absurd h155 (by omega)) (fun h155 => ?_)
          refine v_iconst (pc := 158) C dX6_readCommand_158 ?_
          refine v_goto (pc := 159) C 163 dX6_readCommand_159 (by decide) ?_
          refine v_cv (pc := 163) (as := [.int (iI 1)]) C (cy_X6_done G) (wM_X6_149 G) sh_255 (ci := 4) rfl rfl (k_X6_done G (by omega) (by omega)) dX6_readCommand_163 rfl rfl (by decide) (by decide) (Nat.le_of_ble_eq_true rfl) zc (k_I (fun z163_1 s163_1 q163_1 => ?_))
          obtain ⟨rfl, rfl⟩ := q163_1
          refine v_if_eq (pc := 166) C 173 (by first | omega | assumption) dX6_readCommand_166 (by decide) (fun h => absurd h (by decide)) (fun _ => ?_)
          refine v_iconst (pc := 169) C dX6_readCommand_169 ?_
          refine v_goto (pc := 170) C 174 dX6_readCommand_170 (by decide) ?_
          exact v_iret (pc := 174) C hr (rfl) dX6_readCommand_174 (⟨_, rfl, Or.inl ⟨rfl, ⟨by rw [hk]; decide, by rw [hV]; first | assumption | (exfalso; omega)⟩, _, by rw [hP, hno, hdo]; first | rfl | (rw [if_pos (by omega)]; rfl) | (rw [if_neg (by omega)]; rfl) | (exfalso; omega)⟩⟩)
  · refine v_tabOut (pc := 21) C 350 (by first | omega | assumption) dX6_readCommand_21 (by omega) (by decide) ?_
    have hk : tabS (σ 256 p) = 5 := by unfold tabS; rw [if_neg (by omega), if_neg (by omega), if_neg (by omega), if_neg (by omega), if_neg (by omega)]
    refine v_aload_n (pc := 350) C 1 rfl dX6_readCommand_350 ?_
    refine v_dup (pc := 351) C rfl dX6_readCommand_351 ?_
    refine v_geti (pc := 352) C inX6 goX6 (ci := 4) rfl 10 (by decide) (wF_X6_127 G) rfl sh_255 10 rfl dX6_readCommand_352 (fun z352_13 ez352_13 rz352_13 => ?_)
    simp only [mT_10, mT_11, mT_2, mT_256, mT_258, mT_259] at ez352_13
    refine v_iconst (pc := 355) C dX6_readCommand_355 ?_
    refine v_isub (pc := 356) C dX6_readCommand_356 ?_
    refine v_puti (pc := 357) C inX6 goX6 (ci := 4) rfl 10 (by decide) (wF_X6_127 G) rfl sh_255 tyX6 tyX6_ok nmX6 rfl rfl (fun _ => Nat.le_of_ble_eq_true rfl) (fun _ _ => ob_set_X6_10) (by first | omega | assumption) dX6_readCommand_357 ?_
    first | rw [mT_p10] | rw [mT_p11]
    refine v_iconst (pc := 360) C dX6_readCommand_360 ?_
    exact v_iret (pc := 361) C hr (rfl) dX6_readCommand_361 (⟨_, rfl, Or.inr ⟨rfl, fun h => h.1 hk, by rw [show cmdP (σ 256) (σ 255 2) p = p from if_pos hk, show z352_13 - 1 = p by omega]⟩⟩)
