set_option maxHeartbeats 4000000 in
set_option maxRecDepth 100000 in
theorem k_X3_succeeds {γ : Gm} (G : Glo γ) {σ α : St} {n m : Nat} {r : Int → Int} {y : Int} (hN : NetB n) (hM : NetB m) (hd : m + 13 ≤ n ∨ n + 13 ≤ m) (hR : Rep α r) (h : Wf r) (hy : 0 ≤ y ∧ y < 1000000) : Ct γ yX3_succeeds cX3_succeeds 9 (some .boolean) 6 [.ref (bs γ + n), .ref (bs γ + m), .int (iI y)] (setN σ n α) (pI (fun z σ2 => (z = 1 ∧ (cmdS r (y / 100000) (y % 100000)).1 = 1 ∨ z = 0 ∧ (cmdS r (y / 100000) (y % 100000)).1 = 0) ∧ ∃ α2 β2, Rep α2 (cmdS r (y / 100000) (y % 100000)).2 ∧ σ2 = setN (setN σ n α2) m β2)) := by
  refine Ct.of G (by decide +kernel) (Nat.le_of_ble_eq_true rfl) (fun φ C hr => ?_)
  have C : Cx γ φ RX3 cX3_succeeds 9 6 := C
  have hn0 := h.1
  have hn1 := h.2.1
  have hn4 := h.2.2.1
  have hn5 := h.2.2.2.1
  refine v_lv [(0, .ref (bs γ + n)), (1, .ref (bs γ + m)), (2, .int (iI y))] [0, 1, 2] rfl ?_
  refine v_iload_n (pc := 0) C 2 rfl dX3_succeeds_0 ?_
  refine v_sipush (pc := 1) C (by decide +kernel) dX3_succeeds_1 ?_
  refine v_idiv (pc := 4) C (by first | omega | assumption) (by first | omega | assumption) dX3_succeeds_4 ?_
  refine v_bipush (pc := 5) C (by decide +kernel) dX3_succeeds_5 ?_
  refine v_irem (pc := 7) C (by first | omega | assumption) (by first | omega | assumption) dX3_succeeds_7 ?_
  refine v_nm (fun b2 eb2 => ?_)
  refine v_istore_n (pc := 8) C [(3, .int (iI b2)), (0, .ref (bs γ + n)), (1, .ref (bs γ + m)), (2, .int (iI y))] dX3_succeeds_8 rfl (by decide) rfl ?_
  refine v_iload_n (pc := 9) C 3 rfl dX3_succeeds_9 ?_
  refine v_sipush (pc := 10) C (by decide +kernel) dX3_succeeds_10 ?_
  refine v_idiv (pc := 13) C (by first | omega | assumption) (by first | omega | assumption) dX3_succeeds_13 ?_
  refine v_bipush (pc := 14) C (by decide +kernel) dX3_succeeds_14 ?_
  refine v_irem (pc := 16) C (by first | omega | assumption) (by first | omega | assumption) dX3_succeeds_16 ?_
  refine v_nm (fun b3 eb3 => ?_)
  refine v_istore (pc := 17) C [(4, .int (iI b3)), (3, .int (iI b2)), (0, .ref (bs γ + n)), (1, .ref (bs γ + m)), (2, .int (iI y))] dX3_succeeds_17 (by decide) rfl ?_
  refine v_iload_n (pc := 19) C 4 rfl dX3_succeeds_19 ?_
  refine v_bipush (pc := 20) C (by decide +kernel) dX3_succeeds_20 ?_
  refine v_idiv (pc := 22) C (by first | omega | assumption) (by first | omega | assumption) dX3_succeeds_22 ?_
  refine v_bipush (pc := 23) C (by decide +kernel) dX3_succeeds_23 ?_
  refine v_irem (pc := 25) C (by first | omega | assumption) (by first | omega | assumption) dX3_succeeds_25 ?_
  refine v_nm (fun b4 eb4 => ?_)
  refine v_istore (pc := 26) C [(5, .int (iI b4)), (4, .int (iI b3)), (3, .int (iI b2)), (0, .ref (bs γ + n)), (1, .ref (bs γ + m)), (2, .int (iI y))] dX3_succeeds_26 (by decide) rfl ?_
  refine v_iload_n (pc := 28) C 5 rfl dX3_succeeds_28 ?_
  refine v_bipush (pc := 29) C (by decide +kernel) dX3_succeeds_29 ?_
  refine v_idiv (pc := 31) C (by first | omega | assumption) (by first | omega | assumption) dX3_succeeds_31 ?_
  refine v_bipush (pc := 32) C (by decide +kernel) dX3_succeeds_32 ?_
  refine v_irem (pc := 34) C (by first | omega | assumption) (by first | omega | assumption) dX3_succeeds_34 ?_
  refine v_nm (fun b5 eb5 => ?_)
  refine v_istore (pc := 35) C [(6, .int (iI b5)), (5, .int (iI b4)), (4, .int (iI b3)), (3, .int (iI b2)), (0, .ref (bs γ + n)), (1, .ref (bs γ + m)), (2, .int (iI y))] dX3_succeeds_35 (by decide) rfl ?_
  refine v_iload_n (pc := 37) C 6 rfl dX3_succeeds_37 ?_
  refine v_bipush (pc := 38) C (by decide +kernel) dX3_succeeds_38 ?_
  refine v_irem (pc := 40) C (by first | omega | assumption) (by first | omega | assumption) dX3_succeeds_40 ?_
  refine v_nm (fun b6 eb6 => ?_)
  refine v_istore (pc := 41) C [(7, .int (iI b6)), (6, .int (iI b5)), (5, .int (iI b4)), (4, .int (iI b3)), (3, .int (iI b2)), (0, .ref (bs γ + n)), (1, .ref (bs γ + m)), (2, .int (iI y))] dX3_succeeds_41 (by decide) rfl ?_
  refine v_iload_n (pc := 43) C 7 rfl dX3_succeeds_43 ?_
  refine v_bipush (pc := 44) C (by decide +kernel) dX3_succeeds_44 ?_
  refine v_irem (pc := 46) C (by first | omega | assumption) (by first | omega | assumption) dX3_succeeds_46 ?_
  refine v_nm (fun b8 eb8 => ?_)
  refine v_istore (pc := 47) C [(8, .int (iI b8)), (7, .int (iI b6)), (6, .int (iI b5)), (5, .int (iI b4)), (4, .int (iI b3)), (3, .int (iI b2)), (0, .ref (bs γ + n)), (1, .ref (bs γ + m)), (2, .int (iI y))] dX3_succeeds_47 (by decide) rfl ?_
  obtain ⟨q0, hq0⟩ : ∃ q, q = y % 100000 := ⟨_, rfl⟩
  rw [show y / 10000 % 10 = q0 / 10000 by omega] at eb2
  rw [show y / 1000 % 10 = q0 / 1000 % 10 by omega] at eb3
  rw [show y / 100 % 10 = q0 / 100 % 10 by omega] at eb4
  rw [show y / 10 % 10 = q0 / 10 % 10 by omega] at eb5
  rw [show y % 10 = q0 % 10 by omega] at eb6
  rw [show y % 100 = q0 % 100 by omega] at eb8
  rw [← hq0]
  have hqr : 0 ≤ q0 ∧ q0 < 100000 := by omega
  refine v_iload_n (pc := 49) C 8 rfl dX3_succeeds_49 ?_
  refine v_ldc (pc := 50) C (wC_X3_7 G) dX3_succeeds_50 ?_
  refine v_idiv (pc := 52) C (by first | omega | assumption) (by first | omega | assumption) dX3_succeeds_52 ?_
  refine v_nm (fun g0 eg0 => ?_)
  rw [← eg0]
  have hyg : y = 100000 * g0 + q0 := by omega
  clear hq0 eg0
  by_cases hs53 : 1 ≤ g0 ∧ g0 ≤ 9
  · have hs53 : g0 = 1 ∨ g0 = 2 ∨ g0 = 3 ∨ g0 = 4 ∨ g0 = 5 ∨ g0 = 6 ∨ g0 = 7 ∨ g0 = 8 ∨ g0 = 9 := by omega
    rcases hs53 with hs53 | hs53 | hs53 | hs53 | hs53 | hs53 | hs53 | hs53 | hs53
    · refine v_tabIn (pc := 53) C 104 (by first | omega | assumption) dX3_succeeds_53 (by omega) (by rw [hs53]; rfl) (by decide) ?_
      refine v_iload_n (pc := 104) C 5 rfl dX3_succeeds_104 ?_
      refine v_if_ne (pc := 105) C 131 (by first | omega | assumption) dX3_succeeds_105 (by decide) (fun h105 => ?_) (fun h105 => ?_)
      · refine v_iconst (pc := 131) C dX3_succeeds_131 ?_
        exact v_iret (pc := 132) C hr (rfl) dX3_succeeds_132 (⟨_, rfl, Or.inr ⟨rfl, by rw [show cmdS r g0 q0 = (0, r) from by unfold cmdS; rw [if_pos (by omega), if_neg (by omega)]]⟩, α, _, by rw [show cmdS r g0 q0 = (0, r) from by unfold cmdS; rw [if_pos (by omega), if_neg (by omega)]]; exact hR, (setN_eta _ _).symm⟩)
      · refine v_iload (pc := 108) C 4 rfl dX3_succeeds_108 ?_
        refine v_if_ne (pc := 110) C 131 (by first | omega | assumption) dX3_succeeds_110 (by decide) (fun h110 => ?_) (fun h110 => ?_)
        · refine v_iconst (pc := 131) C dX3_succeeds_131 ?_
          exact v_iret (pc := 132) C hr (rfl) dX3_succeeds_132 (⟨_, rfl, Or.inr ⟨rfl, by rw [show cmdS r g0 q0 = (0, r) from by unfold cmdS; rw [if_pos (by omega), if_neg (by omega)]]⟩, α, _, by rw [show cmdS r g0 q0 = (0, r) from by unfold cmdS; rw [if_pos (by omega), if_neg (by omega)]]; exact hR, (setN_eta _ _).symm⟩)
        · refine v_iload (pc := 113) C 3 rfl dX3_succeeds_113 ?_
          refine v_if_ne (pc := 115) C 131 (by first | omega | assumption) dX3_succeeds_115 (by decide) (fun h115 => ?_) (fun h115 => ?_)
          · refine v_iconst (pc := 131) C dX3_succeeds_131 ?_
            exact v_iret (pc := 132) C hr (rfl) dX3_succeeds_132 (⟨_, rfl, Or.inr ⟨rfl, by rw [show cmdS r g0 q0 = (0, r) from by unfold cmdS; rw [if_pos (by omega), if_neg (by omega)]]⟩, α, _, by rw [show cmdS r g0 q0 = (0, r) from by unfold cmdS; rw [if_pos (by omega), if_neg (by omega)]]; exact hR, (setN_eta _ _).symm⟩)
          · refine v_aload_n (pc := 118) C 6 rfl dX3_succeeds_118 ?_
            refine v_iload (pc := 119) C 0 rfl dX3_succeeds_119 ?_
            refine v_cs (pc := 121) (as := [.ref (bs γ + n), .int (iI b8)]) C (cy_X0_tryTicks G) (wM_X3_8 G) (k_X0_tryTicks G hN hR h (by first | omega | assumption)) dX3_succeeds_121 rfl rfl (by decide) (by decide) (Nat.le_of_ble_eq_true rfl) zc (k_I (fun z121 s121 q121 => ?_))
            rcases q121 with ⟨rfl, q121, α9, hR9, rfl⟩ | ⟨rfl, q121, rfl⟩
            · refine v_if_eq (pc := 124) C 131 (by first | omega | assumption) dX3_succeeds_124 (by decide) (fun h => absurd h (by decide)) (fun _ => ?_)
              refine v_iconst (pc := 127) C dX3_succeeds_127 ?_
              refine v_goto (pc := 128) C 132 dX3_succeeds_128 (by decide) ?_
              exact v_iret (pc := 132) C hr (rfl) dX3_succeeds_132 (⟨_, rfl, Or.inl ⟨rfl, by rw [show cmdS r g0 q0 = (1, runR r q0.toNat) from by unfold cmdS; rw [if_pos (by omega), if_pos (by omega)]]⟩, α9, _, by rw [show cmdS r g0 q0 = (1, runR r q0.toNat) from by unfold cmdS; rw [if_pos (by omega), if_pos (by omega)]]; rw [show q0.toNat = b8.toNat by omega]; exact hR9, (setN_eta _ _).symm⟩)
            · refine v_if_eq (pc := 124) C 131 (by first | omega | assumption) dX3_succeeds_124 (by decide) (fun _ => ?_) (fun h => absurd h (by decide))
              refine v_iconst (pc := 131) C dX3_succeeds_131 ?_
              exact v_iret (pc := 132) C hr (rfl) dX3_succeeds_132 (⟨_, rfl, Or.inr ⟨rfl, by rw [show cmdS r g0 q0 = (0, r) from by unfold cmdS; rw [if_pos (by omega), if_neg (by omega)]]⟩, α, _, by rw [show cmdS r g0 q0 = (0, r) from by unfold cmdS; rw [if_pos (by omega), if_neg (by omega)]]; exact hR, (setN_eta _ _).symm⟩)
    · refine v_tabIn (pc := 53) C 133 (by first | omega | assumption) dX3_succeeds_53 (by omega) (by rw [hs53]; rfl) (by decide) ?_
      refine v_iload (pc := 133) C 4 rfl dX3_succeeds_133 ?_
      refine v_iconst (pc := 135) C dX3_succeeds_135 ?_
      refine v_icmp_gt (pc := 136) C 172 (by first | omega | assumption) (by first | omega | assumption) dX3_succeeds_136 (by decide) (fun h136 => ?_) (fun h136 => ?_)
      · refine v_iconst (pc := 172) C dX3_succeeds_172 ?_
        exact v_iret (pc := 173) C hr (rfl) dX3_succeeds_173 (⟨_, rfl, Or.inr ⟨rfl, by rw [show cmdS r g0 q0 = (0, r) from by unfold cmdS; rw [if_neg (by omega), if_pos (by omega), if_neg (by omega)]]⟩, α, _, by rw [show cmdS r g0 q0 = (0, r) from by unfold cmdS; rw [if_neg (by omega), if_pos (by omega), if_neg (by omega)]]; exact hR, (setN_eta _ _).symm⟩)
      · refine v_iload (pc := 139) C 3 rfl dX3_succeeds_139 ?_
        refine v_if_ne (pc := 141) C 172 (by first | omega | assumption) dX3_succeeds_141 (by decide) (fun h141 => ?_) (fun h141 => ?_)
        · refine v_iconst (pc := 172) C dX3_succeeds_172 ?_
          exact v_iret (pc := 173) C hr (rfl) dX3_succeeds_173 (⟨_, rfl, Or.inr ⟨rfl, by rw [show cmdS r g0 q0 = (0, r) from by unfold cmdS; rw [if_neg (by omega), if_pos (by omega), if_neg (by omega)]]⟩, α, _, by rw [show cmdS r g0 q0 = (0, r) from by unfold cmdS; rw [if_neg (by omega), if_pos (by omega), if_neg (by omega)]]; exact hR, (setN_eta _ _).symm⟩)
        · refine v_iload (pc := 144) C 0 rfl dX3_succeeds_144 ?_
          refine v_if_ne (pc := 146) C 172 (by first | omega | assumption) dX3_succeeds_146 (by decide) (fun h146 => ?_) (fun h146 => ?_)
          · refine v_iconst (pc := 172) C dX3_succeeds_172 ?_
            exact v_iret (pc := 173) C hr (rfl) dX3_succeeds_173 (⟨_, rfl, Or.inr ⟨rfl, by rw [show cmdS r g0 q0 = (0, r) from by unfold cmdS; rw [if_neg (by omega), if_pos (by omega), if_neg (by omega)]]⟩, α, _, by rw [show cmdS r g0 q0 = (0, r) from by unfold cmdS; rw [if_neg (by omega), if_pos (by omega), if_neg (by omega)]]; exact hR, (setN_eta _ _).symm⟩)
          · have hkk : r (6 + 7 * b2 + 0) = r (6 + 7 * (q0 / 10000) + 0) := by rw [eb2]
            refine v_aload_n (pc := 149) C 6 rfl dX3_succeeds_149 ?_
            refine v_iload_n (pc := 150) C 5 rfl dX3_succeeds_150 ?_
            refine v_iload (pc := 151) C 4 rfl dX3_succeeds_151 ?_
            refine v_iconst (pc := 153) C dX3_succeeds_153 ?_
            refine v_icmp_ne (pc := 154) C 161 (by first | omega | assumption) (by first | omega | assumption) dX3_succeeds_154 (by decide) (fun h154 => ?_) (fun h154 => ?_)
            · refine v_iconst (pc := 161) C dX3_succeeds_161 ?_
              refine v_cs (pc := 162) (as := [.ref (bs γ + n), .int (iI b2), .int (iI 0)]) C (cy_X0_tryPress G) (wM_X3_14 G) (k_X0_tryPress G hN hR h (by first | omega | assumption) (by omega)) dX3_succeeds_162 rfl rfl (by decide) (by decide) (Nat.le_of_ble_eq_true rfl) zc (k_I (fun z162 s162 q162 => ?_))
              rcases q162 with ⟨rfl, q162, α9, hR9, rfl⟩ | ⟨rfl, q162, rfl⟩
              · refine v_if_eq (pc := 165) C 172 (by first | omega | assumption) dX3_succeeds_165 (by decide) (fun h => absurd h (by decide)) (fun _ => ?_)
                refine v_iconst (pc := 168) C dX3_succeeds_168 ?_
                refine v_goto (pc := 169) C 173 dX3_succeeds_169 (by decide) ?_
                exact v_iret (pc := 173) C hr (rfl) dX3_succeeds_173 (⟨_, rfl, Or.inl ⟨rfl, by rw [show cmdS r g0 q0 = (1, upr r (6 + 7 * (q0 / 10000) + 2) (if q0 / 1000 % 10 = 1 then 1 else 0)) from by unfold cmdS; rw [if_neg (by omega), if_pos (by omega), if_pos (by omega)]]⟩, α9, _, by rw [show cmdS r g0 q0 = (1, upr r (6 + 7 * (q0 / 10000) + 2) (if q0 / 1000 % 10 = 1 then 1 else 0)) from by unfold cmdS; rw [if_neg (by omega), if_pos (by omega), if_pos (by omega)]]; first | (rw [if_pos (by omega), ← eb2]; exact hR9) | (rw [if_neg (by omega), ← eb2]; exact hR9), (setN_eta _ _).symm⟩)
              · refine v_if_eq (pc := 165) C 172 (by first | omega | assumption) dX3_succeeds_165 (by decide) (fun _ => ?_) (fun h => absurd h (by decide))
                refine v_iconst (pc := 172) C dX3_succeeds_172 ?_
                exact v_iret (pc := 173) C hr (rfl) dX3_succeeds_173 (⟨_, rfl, Or.inr ⟨rfl, by rw [show cmdS r g0 q0 = (0, r) from by unfold cmdS; rw [if_neg (by omega), if_pos (by omega), if_neg (by omega)]]⟩, α, _, by rw [show cmdS r g0 q0 = (0, r) from by unfold cmdS; rw [if_neg (by omega), if_pos (by omega), if_neg (by omega)]]; exact hR, (setN_eta _ _).symm⟩)
            · refine v_iconst (pc := 157) C dX3_succeeds_157 ?_
              refine v_goto (pc := 158) C 162 dX3_succeeds_158 (by decide) ?_
              refine v_cs (pc := 162) (as := [.ref (bs γ + n), .int (iI b2), .int (iI 1)]) C (cy_X0_tryPress G) (wM_X3_14 G) (k_X0_tryPress G hN hR h (by first | omega | assumption) (by omega)) dX3_succeeds_162 rfl rfl (by decide) (by decide) (Nat.le_of_ble_eq_true rfl) zc (k_I (fun z162_1 s162_1 q162_1 => ?_))
              rcases q162_1 with ⟨rfl, q162_1, α9, hR9, rfl⟩ | ⟨rfl, q162_1, rfl⟩
              · refine v_if_eq (pc := 165) C 172 (by first | omega | assumption) dX3_succeeds_165 (by decide) (fun h => absurd h (by decide)) (fun _ => ?_)
                refine v_iconst (pc := 168) C dX3_succeeds_168 ?_
                refine v_goto (pc := 169) C 173 dX3_succeeds_169 (by decide) ?_
                exact v_iret (pc := 173) C hr (rfl) dX3_succeeds_173 (⟨_, rfl, Or.inl ⟨rfl, by rw [show cmdS r g0 q0 = (1, upr r (6 + 7 * (q0 / 10000) + 2) (if q0 / 1000 % 10 = 1 then 1 else 0)) from by unfold cmdS; rw [if_neg (by omega), if_pos (by omega), if_pos (by omega)]]⟩, α9, _, by rw [show cmdS r g0 q0 = (1, upr r (6 + 7 * (q0 / 10000) + 2) (if q0 / 1000 % 10 = 1 then 1 else 0)) from by unfold cmdS; rw [if_neg (by omega), if_pos (by omega), if_pos (by omega)]]; first | (rw [if_pos (by omega), ← eb2]; exact hR9) | (rw [if_neg (by omega), ← eb2]; exact hR9), (setN_eta _ _).symm⟩)
              · refine v_if_eq (pc := 165) C 172 (by first | omega | assumption) dX3_succeeds_165 (by decide) (fun _ => ?_) (fun h => absurd h (by decide))
                refine v_iconst (pc := 172) C dX3_succeeds_172 ?_
                exact v_iret (pc := 173) C hr (rfl) dX3_succeeds_173 (⟨_, rfl, Or.inr ⟨rfl, by rw [show cmdS r g0 q0 = (0, r) from by unfold cmdS; rw [if_neg (by omega), if_pos (by omega), if_neg (by omega)]]⟩, α, _, by rw [show cmdS r g0 q0 = (0, r) from by unfold cmdS; rw [if_neg (by omega), if_pos (by omega), if_neg (by omega)]]; exact hR, (setN_eta _ _).symm⟩)
    · refine v_tabIn (pc := 53) C 174 (by first | omega | assumption) dX3_succeeds_53 (by omega) (by rw [hs53]; rfl) (by decide) ?_
      refine v_iload (pc := 174) C 3 rfl dX3_succeeds_174 ?_
      refine v_if_ne (pc := 176) C 199 (by first | omega | assumption) dX3_succeeds_176 (by decide) (fun h176 => ?_) (fun h176 => ?_)
      · refine v_iconst (pc := 199) C dX3_succeeds_199 ?_
        exact v_iret (pc := 200) C hr (rfl) dX3_succeeds_200 (⟨_, rfl, Or.inr ⟨rfl, by rw [show cmdS r g0 q0 = (0, r) from by unfold cmdS; rw [if_neg (by omega), if_neg (by omega), if_pos (by omega), if_neg (by omega)]]⟩, α, _, by rw [show cmdS r g0 q0 = (0, r) from by unfold cmdS; rw [if_neg (by omega), if_neg (by omega), if_pos (by omega), if_neg (by omega)]]; exact hR, (setN_eta _ _).symm⟩)
      · refine v_aload_n (pc := 179) C 6 rfl dX3_succeeds_179 ?_
        refine v_bipush (pc := 180) C (by decide +kernel) dX3_succeeds_180 ?_
        refine v_iload_n (pc := 182) C 5 rfl dX3_succeeds_182 ?_
        refine v_imul (pc := 183) C dX3_succeeds_183 ?_
        refine v_iload (pc := 184) C 4 rfl dX3_succeeds_184 ?_
        refine v_iadd (pc := 186) C dX3_succeeds_186 ?_
        refine v_iload (pc := 187) C 0 rfl dX3_succeeds_187 ?_
        refine v_cs (pc := 189) (as := [.ref (bs γ + n), .int (iI ((10 * b2) + b3)), .int (iI b8)]) C (cy_X0_tryLeak G) (wM_X3_18 G) (k_X0_tryLeak G hN hR h (by first | omega | assumption) (by first | omega | assumption)) dX3_succeeds_189 rfl rfl (by decide) (by decide) (Nat.le_of_ble_eq_true rfl) zc (k_I (fun z189 s189 q189 => ?_))
        rcases q189 with ⟨rfl, q189, α9, hR9, rfl⟩ | ⟨rfl, q189, rfl⟩
        · refine v_if_eq (pc := 192) C 199 (by first | omega | assumption) dX3_succeeds_192 (by decide) (fun h => absurd h (by decide)) (fun _ => ?_)
          refine v_iconst (pc := 195) C dX3_succeeds_195 ?_
          refine v_goto (pc := 196) C 200 dX3_succeeds_196 (by decide) ?_
          exact v_iret (pc := 200) C hr (rfl) dX3_succeeds_200 (⟨_, rfl, Or.inl ⟨rfl, by rw [show cmdS r g0 q0 = (1, upr r (76 + 12 * (q0 / 1000) + 5) (q0 % 100)) from by unfold cmdS; rw [if_neg (by omega), if_neg (by omega), if_pos (by omega), if_pos (by omega)]]⟩, α9, _, by rw [show cmdS r g0 q0 = (1, upr r (76 + 12 * (q0 / 1000) + 5) (q0 % 100)) from by unfold cmdS; rw [if_neg (by omega), if_neg (by omega), if_pos (by omega), if_pos (by omega)]]; rw [show q0 / 1000 = 10 * b2 + b3 by omega, ← eb8]; exact hR9, (setN_eta _ _).symm⟩)
        · refine v_if_eq (pc := 192) C 199 (by first | omega | assumption) dX3_succeeds_192 (by decide) (fun _ => ?_) (fun h => absurd h (by decide))
          refine v_iconst (pc := 199) C dX3_succeeds_199 ?_
          exact v_iret (pc := 200) C hr (rfl) dX3_succeeds_200 (⟨_, rfl, Or.inr ⟨rfl, by rw [show cmdS r g0 q0 = (0, r) from by unfold cmdS; rw [if_neg (by omega), if_neg (by omega), if_pos (by omega), if_neg (by omega)]]⟩, α, _, by rw [show cmdS r g0 q0 = (0, r) from by unfold cmdS; rw [if_neg (by omega), if_neg (by omega), if_pos (by omega), if_neg (by omega)]]; exact hR, (setN_eta _ _).symm⟩)
    · refine v_tabIn (pc := 53) C 201 (by first | omega | assumption) dX3_succeeds_53 (by omega) (by rw [hs53]; rfl) (by decide) ?_
      refine v_iload (pc := 201) C 4 rfl dX3_succeeds_201 ?_
      refine v_if_ne (pc := 203) C 225 (by first | omega | assumption) dX3_succeeds_203 (by decide) (fun h203 => ?_) (fun h203 => ?_)
      · refine v_iconst (pc := 225) C dX3_succeeds_225 ?_
        exact v_iret (pc := 226) C hr (rfl) dX3_succeeds_226 (⟨_, rfl, Or.inr ⟨rfl, by rw [show cmdS r g0 q0 = (0, r) from by unfold cmdS; rw [if_neg (by omega), if_neg (by omega), if_neg (by omega), if_pos (by omega), if_neg (by omega)]]⟩, α, _, by rw [show cmdS r g0 q0 = (0, r) from by unfold cmdS; rw [if_neg (by omega), if_neg (by omega), if_neg (by omega), if_pos (by omega), if_neg (by omega)]]; exact hR, (setN_eta _ _).symm⟩)
      · refine v_iload (pc := 206) C 3 rfl dX3_succeeds_206 ?_
        refine v_if_ne (pc := 208) C 225 (by first | omega | assumption) dX3_succeeds_208 (by decide) (fun h208 => ?_) (fun h208 => ?_)
        · refine v_iconst (pc := 225) C dX3_succeeds_225 ?_
          exact v_iret (pc := 226) C hr (rfl) dX3_succeeds_226 (⟨_, rfl, Or.inr ⟨rfl, by rw [show cmdS r g0 q0 = (0, r) from by unfold cmdS; rw [if_neg (by omega), if_neg (by omega), if_neg (by omega), if_pos (by omega), if_neg (by omega)]]⟩, α, _, by rw [show cmdS r g0 q0 = (0, r) from by unfold cmdS; rw [if_neg (by omega), if_neg (by omega), if_neg (by omega), if_pos (by omega), if_neg (by omega)]]; exact hR, (setN_eta _ _).symm⟩)
        · refine v_aload_n (pc := 211) C 6 rfl dX3_succeeds_211 ?_
          refine v_iload_n (pc := 212) C 5 rfl dX3_succeeds_212 ?_
          refine v_iload (pc := 213) C 0 rfl dX3_succeeds_213 ?_
          refine v_cs (pc := 215) (as := [.ref (bs γ + n), .int (iI b2), .int (iI b8)]) C (cy_X0_tryFeed G) (wM_X3_22 G) (k_X0_tryFeed G hN hR h (by first | omega | assumption) (by first | omega | assumption)) dX3_succeeds_215 rfl rfl (by decide) (by decide) (Nat.le_of_ble_eq_true rfl) zc (k_I (fun z215 s215 q215 => ?_))
          rcases q215 with ⟨rfl, q215, α9, hR9, rfl⟩ | ⟨rfl, q215, rfl⟩
          · refine v_if_eq (pc := 218) C 225 (by first | omega | assumption) dX3_succeeds_218 (by decide) (fun h => absurd h (by decide)) (fun _ => ?_)
            refine v_iconst (pc := 221) C dX3_succeeds_221 ?_
            refine v_goto (pc := 222) C 226 dX3_succeeds_222 (by decide) ?_
            exact v_iret (pc := 226) C hr (rfl) dX3_succeeds_226 (⟨_, rfl, Or.inl ⟨rfl, by rw [show cmdS r g0 q0 = (1, upr r (6 + 7 * (q0 / 10000) + 1) (q0 % 100)) from by unfold cmdS; rw [if_neg (by omega), if_neg (by omega), if_neg (by omega), if_pos (by omega), if_pos (by omega)]]⟩, α9, _, by rw [show cmdS r g0 q0 = (1, upr r (6 + 7 * (q0 / 10000) + 1) (q0 % 100)) from by unfold cmdS; rw [if_neg (by omega), if_neg (by omega), if_neg (by omega), if_pos (by omega), if_pos (by omega)]]; rw [← eb2, ← eb8]; exact hR9, (setN_eta _ _).symm⟩)
          · refine v_if_eq (pc := 218) C 225 (by first | omega | assumption) dX3_succeeds_218 (by decide) (fun _ => ?_) (fun h => absurd h (by decide))
            refine v_iconst (pc := 225) C dX3_succeeds_225 ?_
            exact v_iret (pc := 226) C hr (rfl) dX3_succeeds_226 (⟨_, rfl, Or.inr ⟨rfl, by rw [show cmdS r g0 q0 = (0, r) from by unfold cmdS; rw [if_neg (by omega), if_neg (by omega), if_neg (by omega), if_pos (by omega), if_neg (by omega)]]⟩, α, _, by rw [show cmdS r g0 q0 = (0, r) from by unfold cmdS; rw [if_neg (by omega), if_neg (by omega), if_neg (by omega), if_pos (by omega), if_neg (by omega)]]; exact hR, (setN_eta _ _).symm⟩)
    · refine v_tabIn (pc := 53) C 227 (by first | omega | assumption) dX3_succeeds_53 (by omega) (by rw [hs53]; rfl) (by decide) ?_
      refine v_iload (pc := 227) C 4 rfl dX3_succeeds_227 ?_
      refine v_if_ne (pc := 229) C 251 (by first | omega | assumption) dX3_succeeds_229 (by decide) (fun h229 => ?_) (fun h229 => ?_)
      · refine v_iconst (pc := 251) C dX3_succeeds_251 ?_
        exact v_iret (pc := 252) C hr (rfl) dX3_succeeds_252 (⟨_, rfl, Or.inr ⟨rfl, by rw [show cmdS r g0 q0 = (0, r) from by unfold cmdS; rw [if_neg (by omega), if_neg (by omega), if_neg (by omega), if_neg (by omega), if_pos (by omega), if_neg (by omega)]]⟩, α, _, by rw [show cmdS r g0 q0 = (0, r) from by unfold cmdS; rw [if_neg (by omega), if_neg (by omega), if_neg (by omega), if_neg (by omega), if_pos (by omega), if_neg (by omega)]]; exact hR, (setN_eta _ _).symm⟩)
      · refine v_iload (pc := 232) C 3 rfl dX3_succeeds_232 ?_
        refine v_if_ne (pc := 234) C 251 (by first | omega | assumption) dX3_succeeds_234 (by decide) (fun h234 => ?_) (fun h234 => ?_)
        · refine v_iconst (pc := 251) C dX3_succeeds_251 ?_
          exact v_iret (pc := 252) C hr (rfl) dX3_succeeds_252 (⟨_, rfl, Or.inr ⟨rfl, by rw [show cmdS r g0 q0 = (0, r) from by unfold cmdS; rw [if_neg (by omega), if_neg (by omega), if_neg (by omega), if_neg (by omega), if_pos (by omega), if_neg (by omega)]]⟩, α, _, by rw [show cmdS r g0 q0 = (0, r) from by unfold cmdS; rw [if_neg (by omega), if_neg (by omega), if_neg (by omega), if_neg (by omega), if_pos (by omega), if_neg (by omega)]]; exact hR, (setN_eta _ _).symm⟩)
        · refine v_aload_n (pc := 237) C 6 rfl dX3_succeeds_237 ?_
          refine v_iload_n (pc := 238) C 5 rfl dX3_succeeds_238 ?_
          refine v_iload (pc := 239) C 0 rfl dX3_succeeds_239 ?_
          refine v_cs (pc := 241) (as := [.ref (bs γ + n), .int (iI b2), .int (iI b8)]) C (cy_X0_trySet G) (wM_X3_25 G) (k_X0_trySet G hN hR h (by first | omega | assumption) (by first | omega | assumption)) dX3_succeeds_241 rfl rfl (by decide) (by decide) (Nat.le_of_ble_eq_true rfl) zc (k_I (fun z241 s241 q241 => ?_))
          rcases q241 with ⟨rfl, q241, α9, hR9, rfl⟩ | ⟨rfl, q241, rfl⟩
          · refine v_if_eq (pc := 244) C 251 (by first | omega | assumption) dX3_succeeds_244 (by decide) (fun h => absurd h (by decide)) (fun _ => ?_)
            refine v_iconst (pc := 247) C dX3_succeeds_247 ?_
            refine v_goto (pc := 248) C 252 dX3_succeeds_248 (by decide) ?_
            exact v_iret (pc := 252) C hr (rfl) dX3_succeeds_252 (⟨_, rfl, Or.inl ⟨rfl, by rw [show cmdS r g0 q0 = (1, upr r (4 + q0 / 10000) (q0 % 100)) from by unfold cmdS; rw [if_neg (by omega), if_neg (by omega), if_neg (by omega), if_neg (by omega), if_pos (by omega), if_pos (by omega)]]⟩, α9, _, by rw [show cmdS r g0 q0 = (1, upr r (4 + q0 / 10000) (q0 % 100)) from by unfold cmdS; rw [if_neg (by omega), if_neg (by omega), if_neg (by omega), if_neg (by omega), if_pos (by omega), if_pos (by omega)]]; rw [← eb2, ← eb8]; exact hR9, (setN_eta _ _).symm⟩)
          · refine v_if_eq (pc := 244) C 251 (by first | omega | assumption) dX3_succeeds_244 (by decide) (fun _ => ?_) (fun h => absurd h (by decide))
            refine v_iconst (pc := 251) C dX3_succeeds_251 ?_
            exact v_iret (pc := 252) C hr (rfl) dX3_succeeds_252 (⟨_, rfl, Or.inr ⟨rfl, by rw [show cmdS r g0 q0 = (0, r) from by unfold cmdS; rw [if_neg (by omega), if_neg (by omega), if_neg (by omega), if_neg (by omega), if_pos (by omega), if_neg (by omega)]]⟩, α, _, by rw [show cmdS r g0 q0 = (0, r) from by unfold cmdS; rw [if_neg (by omega), if_neg (by omega), if_neg (by omega), if_neg (by omega), if_pos (by omega), if_neg (by omega)]]; exact hR, (setN_eta _ _).symm⟩)
    · refine v_tabIn (pc := 53) C 253 (by first | omega | assumption) dX3_succeeds_53 (by omega) (by rw [hs53]; rfl) (by decide) ?_
      refine v_iload (pc := 253) C 3 rfl dX3_succeeds_253 ?_
      refine v_if_ne (pc := 255) C 288 (by first | omega | assumption) dX3_succeeds_255 (by decide) (fun h255 => ?_) (fun h255 => ?_)
      · refine v_iconst (pc := 288) C dX3_succeeds_288 ?_
        exact v_iret (pc := 289) C hr (rfl) dX3_succeeds_289 (⟨_, rfl, Or.inr ⟨rfl, by rw [show cmdS r g0 q0 = (0, r) from by unfold cmdS; rw [if_neg (by omega), if_neg (by omega), if_neg (by omega), if_neg (by omega), if_neg (by omega), if_pos (by omega), if_neg (by omega)]]⟩, α, _, by rw [show cmdS r g0 q0 = (0, r) from by unfold cmdS; rw [if_neg (by omega), if_neg (by omega), if_neg (by omega), if_neg (by omega), if_neg (by omega), if_pos (by omega), if_neg (by omega)]]; exact hR, (setN_eta _ _).symm⟩)
      · refine v_aload_n (pc := 258) C 6 rfl dX3_succeeds_258 ?_
        refine v_iload_n (pc := 259) C 5 rfl dX3_succeeds_259 ?_
        refine v_iload (pc := 260) C 4 rfl dX3_succeeds_260 ?_
        refine v_cv (pc := 262) (as := [.int (iI b2), .int (iI b3)]) C (cy_X2_hasEnd G) (wM_X3_28 G) (show sh n = (5, 1) from hN.sh (k := 0) (by decide)) (ci := 1) rfl rfl (k_X2_hasEnd G hN hR h (by first | omega | assumption) (by first | omega | assumption)) dX3_succeeds_262 rfl rfl (by decide) (by decide) (Nat.le_of_ble_eq_true rfl) zc (k_I (fun z262 s262 q262 => ?_))
        rcases q262 with ⟨⟨rfl, q262⟩ | ⟨rfl, q262⟩, rfl⟩
        · refine v_if_eq (pc := 265) C 288 (by first | omega | assumption) dX3_succeeds_265 (by decide) (fun h => absurd h (by decide)) (fun _ => ?_)
          refine v_aload_n (pc := 268) C 6 rfl dX3_succeeds_268 ?_
          refine v_getrN (pc := 269) C hN 8 5 (by decide) (wF_X3_34 G) rfl dX3_succeeds_269 ?_
          refine v_iload_n (pc := 272) C 5 rfl dX3_succeeds_272 ?_
          refine v_iload (pc := 273) C 4 rfl dX3_succeeds_273 ?_
          refine v_csN (pc := 275) (as := [.int (iI b2), .int (iI b3)]) C (cy_X5_endOf G) (wN_X3_38 G) (k_X5_endOf G) dX3_succeeds_275 rfl rfl (by decide) (by decide) (Nat.le_of_ble_eq_true rfl) zc (k_I (fun z275 s275 q275 => ?_))
          obtain ⟨ez275, rfl⟩ := q275
          refine v_ialdN (pc := 278) C hN 5 (by decide) (m := 20) rfl (by first | omega | assumption) dX3_succeeds_278 (fun z278 ez278 rz278 => ?_)
          have wz278 : z278 = r (6 + 7 * (q0 / 10000) + (3 + q0 / 1000 % 10)) := by rw [ez278, ez275, ← eb2, ← eb3]; exact (hR.2.2.1 b2 b3 (by omega) (by omega) (by omega) (by omega)).1
          refine v_iload (pc := 279) C 0 rfl dX3_succeeds_279 ?_
          refine v_icmp_lt (pc := 281) C 288 (by first | omega | assumption) (by first | omega | assumption) dX3_succeeds_281 (by decide) (fun h281 => ?_) (fun h281 => ?_)
          · refine v_iconst (pc := 288) C dX3_succeeds_288 ?_
            exact v_iret (pc := 289) C hr (rfl) dX3_succeeds_289 (⟨_, rfl, Or.inr ⟨rfl, by rw [show cmdS r g0 q0 = (0, r) from by unfold cmdS; rw [if_neg (by omega), if_neg (by omega), if_neg (by omega), if_neg (by omega), if_neg (by omega), if_pos (by omega), if_neg (by omega)]]⟩, α, _, by rw [show cmdS r g0 q0 = (0, r) from by unfold cmdS; rw [if_neg (by omega), if_neg (by omega), if_neg (by omega), if_neg (by omega), if_neg (by omega), if_pos (by omega), if_neg (by omega)]]; exact hR, (setN_eta _ _).symm⟩)
          · refine v_iconst (pc := 284) C dX3_succeeds_284 ?_
            refine v_goto (pc := 285) C 289 dX3_succeeds_285 (by decide) ?_
            exact v_iret (pc := 289) C hr (rfl) dX3_succeeds_289 (⟨_, rfl, Or.inl ⟨rfl, by rw [show cmdS r g0 q0 = (1, r) from by unfold cmdS; rw [if_neg (by omega), if_neg (by omega), if_neg (by omega), if_neg (by omega), if_neg (by omega), if_pos (by omega), if_pos (by omega)]]⟩, α, _, by rw [show cmdS r g0 q0 = (1, r) from by unfold cmdS; rw [if_neg (by omega), if_neg (by omega), if_neg (by omega), if_neg (by omega), if_neg (by omega), if_pos (by omega), if_pos (by omega)]]; exact hR, (setN_eta _ _).symm⟩)
        · refine v_if_eq (pc := 265) C 288 (by first | omega | assumption) dX3_succeeds_265 (by decide) (fun _ => ?_) (fun h => absurd h (by decide))
          refine v_iconst (pc := 288) C dX3_succeeds_288 ?_
          exact v_iret (pc := 289) C hr (rfl) dX3_succeeds_289 (⟨_, rfl, Or.inr ⟨rfl, by rw [show cmdS r g0 q0 = (0, r) from by unfold cmdS; rw [if_neg (by omega), if_neg (by omega), if_neg (by omega), if_neg (by omega), if_neg (by omega), if_pos (by omega), if_neg (by omega)]]⟩, α, _, by rw [show cmdS r g0 q0 = (0, r) from by unfold cmdS; rw [if_neg (by omega), if_neg (by omega), if_neg (by omega), if_neg (by omega), if_neg (by omega), if_pos (by omega), if_neg (by omega)]]; exact hR, (setN_eta _ _).symm⟩)
    · refine v_tabIn (pc := 53) C 290 (by first | omega | assumption) dX3_succeeds_53 (by omega) (by rw [hs53]; rfl) (by decide) ?_
      refine v_iload (pc := 290) C 3 rfl dX3_succeeds_290 ?_
      refine v_if_ne (pc := 292) C 337 (by first | omega | assumption) dX3_succeeds_292 (by decide) (fun h292 => ?_) (fun h292 => ?_)
      · refine v_iconst (pc := 337) C dX3_succeeds_337 ?_
        exact v_iret (pc := 338) C hr (rfl) dX3_succeeds_338 (⟨_, rfl, Or.inr ⟨rfl, by rw [show cmdS r g0 q0 = (0, r) from by unfold cmdS; rw [if_neg (by omega), if_neg (by omega), if_neg (by omega), if_neg (by omega), if_neg (by omega), if_neg (by omega), if_pos (by omega), if_neg (fun hh => by have h1 := hh.1; have h2 := hh.2.1; have h3 := hh.2.2.1; have h4 := hh.2.2.2; first | omega | (rw [if_pos (by assumption)] at h4; omega) | (rw [if_neg (by assumption)] at h4; omega))]]⟩, α, _, by rw [show cmdS r g0 q0 = (0, r) from by unfold cmdS; rw [if_neg (by omega), if_neg (by omega), if_neg (by omega), if_neg (by omega), if_neg (by omega), if_neg (by omega), if_pos (by omega), if_neg (fun hh => by have h1 := hh.1; have h2 := hh.2.1; have h3 := hh.2.2.1; have h4 := hh.2.2.2; first | omega | (rw [if_pos (by assumption)] at h4; omega) | (rw [if_neg (by assumption)] at h4; omega))]]; exact hR, (setN_eta _ _).symm⟩)
      · refine v_iload (pc := 295) C 2 rfl dX3_succeeds_295 ?_
        refine v_if_ne (pc := 297) C 337 (by first | omega | assumption) dX3_succeeds_297 (by decide) (fun h297 => ?_) (fun h297 => ?_)
        · refine v_iconst (pc := 337) C dX3_succeeds_337 ?_
          exact v_iret (pc := 338) C hr (rfl) dX3_succeeds_338 (⟨_, rfl, Or.inr ⟨rfl, by rw [show cmdS r g0 q0 = (0, r) from by unfold cmdS; rw [if_neg (by omega), if_neg (by omega), if_neg (by omega), if_neg (by omega), if_neg (by omega), if_neg (by omega), if_pos (by omega), if_neg (fun hh => by have h1 := hh.1; have h2 := hh.2.1; have h3 := hh.2.2.1; have h4 := hh.2.2.2; first | omega | (rw [if_pos (by assumption)] at h4; omega) | (rw [if_neg (by assumption)] at h4; omega))]]⟩, α, _, by rw [show cmdS r g0 q0 = (0, r) from by unfold cmdS; rw [if_neg (by omega), if_neg (by omega), if_neg (by omega), if_neg (by omega), if_neg (by omega), if_neg (by omega), if_pos (by omega), if_neg (fun hh => by have h1 := hh.1; have h2 := hh.2.1; have h3 := hh.2.2.1; have h4 := hh.2.2.2; first | omega | (rw [if_pos (by assumption)] at h4; omega) | (rw [if_neg (by assumption)] at h4; omega))]]; exact hR, (setN_eta _ _).symm⟩)
        · refine v_aload_n (pc := 300) C 6 rfl dX3_succeeds_300 ?_
          refine v_iload_n (pc := 301) C 5 rfl dX3_succeeds_301 ?_
          refine v_iload (pc := 302) C 4 rfl dX3_succeeds_302 ?_
          refine v_cv (pc := 304) (as := [.int (iI b2), .int (iI b3)]) C (cy_X2_hasEnd G) (wM_X3_28 G) (show sh n = (5, 1) from hN.sh (k := 0) (by decide)) (ci := 1) rfl rfl (k_X2_hasEnd G hN hR h (by first | omega | assumption) (by first | omega | assumption)) dX3_succeeds_304 rfl rfl (by decide) (by decide) (Nat.le_of_ble_eq_true rfl) zc (k_I (fun z304 s304 q304 => ?_))
          rcases q304 with ⟨⟨rfl, q304⟩ | ⟨rfl, q304⟩, rfl⟩
          · refine v_if_eq (pc := 307) C 337 (by first | omega | assumption) dX3_succeeds_307 (by decide) (fun h => absurd h (by decide)) (fun _ => ?_)
            refine v_aload_n (pc := 310) C 6 rfl dX3_succeeds_310 ?_
            refine v_iload_n (pc := 311) C 5 rfl dX3_succeeds_311 ?_
            refine v_iload (pc := 312) C 4 rfl dX3_succeeds_312 ?_
            refine v_csN (pc := 314) (as := [.int (iI b2), .int (iI b3)]) C (cy_X5_endOf G) (wN_X3_38 G) (k_X5_endOf G) dX3_succeeds_314 rfl rfl (by decide) (by decide) (Nat.le_of_ble_eq_true rfl) zc (k_I (fun z314 s314 q314 => ?_))
            obtain ⟨ez314, rfl⟩ := q314
            refine v_cv (pc := 317) (as := [.int (iI z314)]) C (cy_X2_works G) (wM_X3_44 G) (show sh n = (5, 1) from hN.sh (k := 0) (by decide)) (ci := 1) rfl rfl (k_X2_works G hN hR h (v := q0 / 10000) (g := q0 / 1000 % 10) (by omega) (by omega) (by omega)) dX3_succeeds_317 rfl rfl (by decide) (by decide) (Nat.le_of_ble_eq_true rfl) zc (k_I (fun z317 s317 q317 => ?_))
            rcases q317 with ⟨⟨rfl, q317⟩ | ⟨rfl, q317⟩, rfl⟩
            · refine v_if_eq (pc := 320) C 327 (by first | omega | assumption) dX3_succeeds_320 (by decide) (fun h => absurd h (by decide)) (fun _ => ?_)
              refine v_iconst (pc := 323) C dX3_succeeds_323 ?_
              refine v_goto (pc := 324) C 328 dX3_succeeds_324 (by decide) ?_
              refine v_iload (pc := 328) C 1 rfl dX3_succeeds_328 ?_
              refine v_icmp_ne (pc := 330) C 337 (by first | omega | assumption) (by first | omega | assumption) dX3_succeeds_330 (by decide) (fun h330 => ?_) (fun h330 => ?_)
              · refine v_iconst (pc := 337) C dX3_succeeds_337 ?_
                exact v_iret (pc := 338) C hr (rfl) dX3_succeeds_338 (⟨_, rfl, Or.inr ⟨rfl, by rw [show cmdS r g0 q0 = (0, r) from by unfold cmdS; rw [if_neg (by omega), if_neg (by omega), if_neg (by omega), if_neg (by omega), if_neg (by omega), if_neg (by omega), if_pos (by omega), if_neg (fun hh => by have h1 := hh.1; have h2 := hh.2.1; have h3 := hh.2.2.1; have h4 := hh.2.2.2; first | omega | (rw [if_pos (by assumption)] at h4; omega) | (rw [if_neg (by assumption)] at h4; omega))]]⟩, α, _, by rw [show cmdS r g0 q0 = (0, r) from by unfold cmdS; rw [if_neg (by omega), if_neg (by omega), if_neg (by omega), if_neg (by omega), if_neg (by omega), if_neg (by omega), if_pos (by omega), if_neg (fun hh => by have h1 := hh.1; have h2 := hh.2.1; have h3 := hh.2.2.1; have h4 := hh.2.2.2; first | omega | (rw [if_pos (by assumption)] at h4; omega) | (rw [if_neg (by assumption)] at h4; omega))]]; exact hR, (setN_eta _ _).symm⟩)
              · refine v_iconst (pc := 333) C dX3_succeeds_333 ?_
                refine v_goto (pc := 334) C 338 dX3_succeeds_334 (by decide) ?_
                exact v_iret (pc := 338) C hr (rfl) dX3_succeeds_338 (⟨_, rfl, Or.inl ⟨rfl, by rw [show cmdS r g0 q0 = (1, r) from by unfold cmdS; rw [if_neg (by omega), if_neg (by omega), if_neg (by omega), if_neg (by omega), if_neg (by omega), if_neg (by omega), if_pos (by omega), if_pos (⟨by omega, by omega, by omega, by first | (rw [if_pos (by assumption)]; omega) | (rw [if_neg (by assumption)]; omega)⟩)]]⟩, α, _, by rw [show cmdS r g0 q0 = (1, r) from by unfold cmdS; rw [if_neg (by omega), if_neg (by omega), if_neg (by omega), if_neg (by omega), if_neg (by omega), if_neg (by omega), if_pos (by omega), if_pos (⟨by omega, by omega, by omega, by first | (rw [if_pos (by assumption)]; omega) | (rw [if_neg (by assumption)]; omega)⟩)]]; exact hR, (setN_eta _ _).symm⟩)
            · refine v_if_eq (pc := 320) C 327 (by first | omega | assumption) dX3_succeeds_320 (by decide) (fun _ => ?_) (fun h => absurd h (by decide))
              refine v_iconst (pc := 327) C dX3_succeeds_327 ?_
              refine v_iload (pc := 328) C 1 rfl dX3_succeeds_328 ?_
              refine v_icmp_ne (pc := 330) C 337 (by first | omega | assumption) (by first | omega | assumption) dX3_succeeds_330 (by decide) (fun h330_1 => ?_) (fun h330_1 => ?_)
              · refine v_iconst (pc := 337) C dX3_succeeds_337 ?_
                exact v_iret (pc := 338) C hr (rfl) dX3_succeeds_338 (⟨_, rfl, Or.inr ⟨rfl, by rw [show cmdS r g0 q0 = (0, r) from by unfold cmdS; rw [if_neg (by omega), if_neg (by omega), if_neg (by omega), if_neg (by omega), if_neg (by omega), if_neg (by omega), if_pos (by omega), if_neg (fun hh => by have h1 := hh.1; have h2 := hh.2.1; have h3 := hh.2.2.1; have h4 := hh.2.2.2; first | omega | (rw [if_pos (by assumption)] at h4; omega) | (rw [if_neg (by assumption)] at h4; omega))]]⟩, α, _, by rw [show cmdS r g0 q0 = (0, r) from by unfold cmdS; rw [if_neg (by omega), if_neg (by omega), if_neg (by omega), if_neg (by omega), if_neg (by omega), if_neg (by omega), if_pos (by omega), if_neg (fun hh => by have h1 := hh.1; have h2 := hh.2.1; have h3 := hh.2.2.1; have h4 := hh.2.2.2; first | omega | (rw [if_pos (by assumption)] at h4; omega) | (rw [if_neg (by assumption)] at h4; omega))]]; exact hR, (setN_eta _ _).symm⟩)
              · refine v_iconst (pc := 333) C dX3_succeeds_333 ?_
                refine v_goto (pc := 334) C 338 dX3_succeeds_334 (by decide) ?_
                exact v_iret (pc := 338) C hr (rfl) dX3_succeeds_338 (⟨_, rfl, Or.inl ⟨rfl, by rw [show cmdS r g0 q0 = (1, r) from by unfold cmdS; rw [if_neg (by omega), if_neg (by omega), if_neg (by omega), if_neg (by omega), if_neg (by omega), if_neg (by omega), if_pos (by omega), if_pos (⟨by omega, by omega, by omega, by first | (rw [if_pos (by assumption)]; omega) | (rw [if_neg (by assumption)]; omega)⟩)]]⟩, α, _, by rw [show cmdS r g0 q0 = (1, r) from by unfold cmdS; rw [if_neg (by omega), if_neg (by omega), if_neg (by omega), if_neg (by omega), if_neg (by omega), if_neg (by omega), if_pos (by omega), if_pos (⟨by omega, by omega, by omega, by first | (rw [if_pos (by assumption)]; omega) | (rw [if_neg (by assumption)]; omega)⟩)]]; exact hR, (setN_eta _ _).symm⟩)
          · refine v_if_eq (pc := 307) C 337 (by first | omega | assumption) dX3_succeeds_307 (by decide) (fun _ => ?_) (fun h => absurd h (by decide))
            refine v_iconst (pc := 337) C dX3_succeeds_337 ?_
            exact v_iret (pc := 338) C hr (rfl) dX3_succeeds_338 (⟨_, rfl, Or.inr ⟨rfl, by rw [show cmdS r g0 q0 = (0, r) from by unfold cmdS; rw [if_neg (by omega), if_neg (by omega), if_neg (by omega), if_neg (by omega), if_neg (by omega), if_neg (by omega), if_pos (by omega), if_neg (fun hh => by have h1 := hh.1; have h2 := hh.2.1; have h3 := hh.2.2.1; have h4 := hh.2.2.2; first | omega | (rw [if_pos (by assumption)] at h4; omega) | (rw [if_neg (by assumption)] at h4; omega))]]⟩, α, _, by rw [show cmdS r g0 q0 = (0, r) from by unfold cmdS; rw [if_neg (by omega), if_neg (by omega), if_neg (by omega), if_neg (by omega), if_neg (by omega), if_neg (by omega), if_pos (by omega), if_neg (fun hh => by have h1 := hh.1; have h2 := hh.2.1; have h3 := hh.2.2.1; have h4 := hh.2.2.2; first | omega | (rw [if_pos (by assumption)] at h4; omega) | (rw [if_neg (by assumption)] at h4; omega))]]; exact hR, (setN_eta _ _).symm⟩)
    · refine v_tabIn (pc := 53) C 339 (by first | omega | assumption) dX3_succeeds_53 (by omega) (by rw [hs53]; rfl) (by decide) ?_
      refine v_iload_n (pc := 339) C 8 rfl dX3_succeeds_339 ?_
      refine v_ldc (pc := 340) C (wC_X3_48 G) dX3_succeeds_340 ?_
      refine v_icmp_ne (pc := 342) C 357 (by first | omega | assumption) (by first | omega | assumption) dX3_succeeds_342 (by decide) (fun h342 => ?_) (fun h342 => ?_)
      · refine v_iconst (pc := 357) C dX3_succeeds_357 ?_
        exact v_iret (pc := 358) C hr (rfl) dX3_succeeds_358 (⟨_, rfl, Or.inr ⟨rfl, by rw [show cmdS r g0 q0 = (0, r) from by unfold cmdS; rw [if_neg (by omega), if_neg (by omega), if_neg (by omega), if_neg (by omega), if_neg (by omega), if_neg (by omega), if_neg (by omega), if_pos (by omega), if_neg (fun hh => by have h1 := hh.1; have h2 := hh.2; first | omega | exact absurd h2 (by assumption))]]⟩, α, _, by rw [show cmdS r g0 q0 = (0, r) from by unfold cmdS; rw [if_neg (by omega), if_neg (by omega), if_neg (by omega), if_neg (by omega), if_neg (by omega), if_neg (by omega), if_neg (by omega), if_pos (by omega), if_neg (fun hh => by have h1 := hh.1; have h2 := hh.2; first | omega | exact absurd h2 (by assumption))]]; exact hR, (setN_eta _ _).symm⟩)
      · refine v_aload_n (pc := 345) C 6 rfl dX3_succeeds_345 ?_
        refine v_aload_n (pc := 346) C 7 rfl dX3_succeeds_346 ?_
        refine v_cs (pc := 347) (as := [.ref (bs γ + n), .ref (bs γ + m)]) C (cy_X3_isAtRest G) (wM_X3_49 G) (k_X3_isAtRest G hN hM hd hR h) dX3_succeeds_347 rfl rfl (by decide) (by decide) (Nat.le_of_ble_eq_true rfl) zc (k_I (fun z347 s347 q347 => ?_))
        rcases q347 with ⟨⟨rfl, hq9⟩ | ⟨rfl, hq9⟩, β9, rfl⟩
        · refine v_if_eq (pc := 350) C 357 (by first | omega | assumption) dX3_succeeds_350 (by decide) (fun h => absurd h (by decide)) (fun _ => ?_)
          refine v_iconst (pc := 353) C dX3_succeeds_353 ?_
          refine v_goto (pc := 354) C 358 dX3_succeeds_354 (by decide) ?_
          exact v_iret (pc := 358) C hr (rfl) dX3_succeeds_358 (⟨_, rfl, Or.inl ⟨rfl, by rw [show cmdS r g0 q0 = (1, r) from by unfold cmdS; rw [if_neg (by omega), if_neg (by omega), if_neg (by omega), if_neg (by omega), if_neg (by omega), if_neg (by omega), if_neg (by omega), if_pos (by omega), if_pos (⟨by omega, by assumption⟩)]]⟩, α, _, by rw [show cmdS r g0 q0 = (1, r) from by unfold cmdS; rw [if_neg (by omega), if_neg (by omega), if_neg (by omega), if_neg (by omega), if_neg (by omega), if_neg (by omega), if_neg (by omega), if_pos (by omega), if_pos (⟨by omega, by assumption⟩)]]; exact hR, rfl⟩)
        · refine v_if_eq (pc := 350) C 357 (by first | omega | assumption) dX3_succeeds_350 (by decide) (fun _ => ?_) (fun h => absurd h (by decide))
          refine v_iconst (pc := 357) C dX3_succeeds_357 ?_
          exact v_iret (pc := 358) C hr (rfl) dX3_succeeds_358 (⟨_, rfl, Or.inr ⟨rfl, by rw [show cmdS r g0 q0 = (0, r) from by unfold cmdS; rw [if_neg (by omega), if_neg (by omega), if_neg (by omega), if_neg (by omega), if_neg (by omega), if_neg (by omega), if_neg (by omega), if_pos (by omega), if_neg (fun hh => by have h1 := hh.1; have h2 := hh.2; first | omega | exact absurd h2 (by assumption))]]⟩, α, _, by rw [show cmdS r g0 q0 = (0, r) from by unfold cmdS; rw [if_neg (by omega), if_neg (by omega), if_neg (by omega), if_neg (by omega), if_neg (by omega), if_neg (by omega), if_neg (by omega), if_pos (by omega), if_neg (fun hh => by have h1 := hh.1; have h2 := hh.2; first | omega | exact absurd h2 (by assumption))]]; exact hR, rfl⟩)
    · refine v_tabIn (pc := 53) C 359 (by first | omega | assumption) dX3_succeeds_53 (by omega) (by rw [hs53]; rfl) (by decide) ?_
      refine v_iload (pc := 359) C 4 rfl dX3_succeeds_359 ?_
      refine v_if_ne (pc := 361) C 397 (by first | omega | assumption) dX3_succeeds_361 (by decide) (fun h361 => ?_) (fun h361 => ?_)
      · refine v_iconst (pc := 397) C dX3_succeeds_397 ?_
        exact v_iret (pc := 398) C hr (rfl) dX3_succeeds_398 (⟨_, rfl, Or.inr ⟨rfl, by rw [show cmdS r g0 q0 = (0, r) from by unfold cmdS; rw [if_neg (by omega), if_neg (by omega), if_neg (by omega), if_neg (by omega), if_neg (by omega), if_neg (by omega), if_neg (by omega), if_neg (by omega), if_pos (by omega), if_neg (by omega)]]⟩, α, _, by rw [show cmdS r g0 q0 = (0, r) from by unfold cmdS; rw [if_neg (by omega), if_neg (by omega), if_neg (by omega), if_neg (by omega), if_neg (by omega), if_neg (by omega), if_neg (by omega), if_neg (by omega), if_pos (by omega), if_neg (by omega)]]; exact hR, (setN_eta _ _).symm⟩)
      · refine v_iload (pc := 364) C 3 rfl dX3_succeeds_364 ?_
        refine v_if_ne (pc := 366) C 397 (by first | omega | assumption) dX3_succeeds_366 (by decide) (fun h366 => ?_) (fun h366 => ?_)
        · refine v_iconst (pc := 397) C dX3_succeeds_397 ?_
          exact v_iret (pc := 398) C hr (rfl) dX3_succeeds_398 (⟨_, rfl, Or.inr ⟨rfl, by rw [show cmdS r g0 q0 = (0, r) from by unfold cmdS; rw [if_neg (by omega), if_neg (by omega), if_neg (by omega), if_neg (by omega), if_neg (by omega), if_neg (by omega), if_neg (by omega), if_neg (by omega), if_pos (by omega), if_neg (by omega)]]⟩, α, _, by rw [show cmdS r g0 q0 = (0, r) from by unfold cmdS; rw [if_neg (by omega), if_neg (by omega), if_neg (by omega), if_neg (by omega), if_neg (by omega), if_neg (by omega), if_neg (by omega), if_neg (by omega), if_pos (by omega), if_neg (by omega)]]; exact hR, (setN_eta _ _).symm⟩)
        · refine v_iload (pc := 369) C 2 rfl dX3_succeeds_369 ?_
          refine v_if_ne (pc := 371) C 397 (by first | omega | assumption) dX3_succeeds_371 (by decide) (fun h371 => ?_) (fun h371 => ?_)
          · refine v_iconst (pc := 397) C dX3_succeeds_397 ?_
            exact v_iret (pc := 398) C hr (rfl) dX3_succeeds_398 (⟨_, rfl, Or.inr ⟨rfl, by rw [show cmdS r g0 q0 = (0, r) from by unfold cmdS; rw [if_neg (by omega), if_neg (by omega), if_neg (by omega), if_neg (by omega), if_neg (by omega), if_neg (by omega), if_neg (by omega), if_neg (by omega), if_pos (by omega), if_neg (by omega)]]⟩, α, _, by rw [show cmdS r g0 q0 = (0, r) from by unfold cmdS; rw [if_neg (by omega), if_neg (by omega), if_neg (by omega), if_neg (by omega), if_neg (by omega), if_neg (by omega), if_neg (by omega), if_neg (by omega), if_pos (by omega), if_neg (by omega)]]; exact hR, (setN_eta _ _).symm⟩)
          · refine v_aload_n (pc := 374) C 6 rfl dX3_succeeds_374 ?_
            refine v_iload_n (pc := 375) C 5 rfl dX3_succeeds_375 ?_
            refine v_cv (pc := 376) (as := [.int (iI b2)]) C (cy_X2_hasValve G) (wM_X3_55 G) (show sh n = (5, 1) from hN.sh (k := 0) (by decide)) (ci := 1) rfl rfl (k_X2_hasValve G hN hR h (by first | omega | assumption)) dX3_succeeds_376 rfl rfl (by decide) (by decide) (Nat.le_of_ble_eq_true rfl) zc (k_I (fun z376 s376 q376 => ?_))
            rcases q376 with ⟨⟨rfl, q376⟩ | ⟨rfl, q376⟩, rfl⟩
            · refine v_if_eq (pc := 379) C 397 (by first | omega | assumption) dX3_succeeds_379 (by decide) (fun h => absurd h (by decide)) (fun _ => ?_)
              refine v_aload_n (pc := 382) C 6 rfl dX3_succeeds_382 ?_
              refine v_getrN (pc := 383) C hN 7 4 (by decide) (wF_X3_58 G) rfl dX3_succeeds_383 ?_
              refine v_iload_n (pc := 386) C 5 rfl dX3_succeeds_386 ?_
              refine v_ialdN (pc := 387) C hN 4 (by decide) (m := 10) rfl (by first | omega | assumption) dX3_succeeds_387 (fun z387 ez387 rz387 => ?_)
              have wz387 : z387 = r (6 + 7 * (q0 / 10000) + 2) := by rw [ez387, ← eb2]; exact (hR.2.1 b2 (by omega) (by omega)).2.2
              refine v_iload (pc := 388) C 1 rfl dX3_succeeds_388 ?_
              refine v_icmp_ne (pc := 390) C 397 (by first | omega | assumption) (by first | omega | assumption) dX3_succeeds_390 (by decide) (fun h390 => ?_) (fun h390 => ?_)
              · refine v_iconst (pc := 397) C dX3_succeeds_397 ?_
                exact v_iret (pc := 398) C hr (rfl) dX3_succeeds_398 (⟨_, rfl, Or.inr ⟨rfl, by rw [show cmdS r g0 q0 = (0, r) from by unfold cmdS; rw [if_neg (by omega), if_neg (by omega), if_neg (by omega), if_neg (by omega), if_neg (by omega), if_neg (by omega), if_neg (by omega), if_neg (by omega), if_pos (by omega), if_neg (by omega)]]⟩, α, _, by rw [show cmdS r g0 q0 = (0, r) from by unfold cmdS; rw [if_neg (by omega), if_neg (by omega), if_neg (by omega), if_neg (by omega), if_neg (by omega), if_neg (by omega), if_neg (by omega), if_neg (by omega), if_pos (by omega), if_neg (by omega)]]; exact hR, (setN_eta _ _).symm⟩)
              · refine v_iconst (pc := 393) C dX3_succeeds_393 ?_
                refine v_goto (pc := 394) C 398 dX3_succeeds_394 (by decide) ?_
                exact v_iret (pc := 398) C hr (rfl) dX3_succeeds_398 (⟨_, rfl, Or.inl ⟨rfl, by rw [show cmdS r g0 q0 = (1, r) from by unfold cmdS; rw [if_neg (by omega), if_neg (by omega), if_neg (by omega), if_neg (by omega), if_neg (by omega), if_neg (by omega), if_neg (by omega), if_neg (by omega), if_pos (by omega), if_pos (by omega)]]⟩, α, _, by rw [show cmdS r g0 q0 = (1, r) from by unfold cmdS; rw [if_neg (by omega), if_neg (by omega), if_neg (by omega), if_neg (by omega), if_neg (by omega), if_neg (by omega), if_neg (by omega), if_neg (by omega), if_pos (by omega), if_pos (by omega)]]; exact hR, (setN_eta _ _).symm⟩)
            · refine v_if_eq (pc := 379) C 397 (by first | omega | assumption) dX3_succeeds_379 (by decide) (fun _ => ?_) (fun h => absurd h (by decide))
              refine v_iconst (pc := 397) C dX3_succeeds_397 ?_
              exact v_iret (pc := 398) C hr (rfl) dX3_succeeds_398 (⟨_, rfl, Or.inr ⟨rfl, by rw [show cmdS r g0 q0 = (0, r) from by unfold cmdS; rw [if_neg (by omega), if_neg (by omega), if_neg (by omega), if_neg (by omega), if_neg (by omega), if_neg (by omega), if_neg (by omega), if_neg (by omega), if_pos (by omega), if_neg (by omega)]]⟩, α, _, by rw [show cmdS r g0 q0 = (0, r) from by unfold cmdS; rw [if_neg (by omega), if_neg (by omega), if_neg (by omega), if_neg (by omega), if_neg (by omega), if_neg (by omega), if_neg (by omega), if_neg (by omega), if_pos (by omega), if_neg (by omega)]]; exact hR, (setN_eta _ _).symm⟩)
  · refine v_tabOut (pc := 53) C 399 (by first | omega | assumption) dX3_succeeds_53 (by omega) (by decide) ?_
    refine v_iconst (pc := 399) C dX3_succeeds_399 ?_
    exact v_iret (pc := 400) C hr (rfl) dX3_succeeds_400 (⟨_, rfl, Or.inr ⟨rfl, by rw [show cmdS r g0 q0 = (0, r) from by unfold cmdS; rw [if_neg (by omega), if_neg (by omega), if_neg (by omega), if_neg (by omega), if_neg (by omega), if_neg (by omega), if_neg (by omega), if_neg (by omega), if_neg (by omega)]]⟩, α, _, by rw [show cmdS r g0 q0 = (0, r) from by unfold cmdS; rw [if_neg (by omega), if_neg (by omega), if_neg (by omega), if_neg (by omega), if_neg (by omega), if_neg (by omega), if_neg (by omega), if_neg (by omega), if_neg (by omega)]]; exact hR, (setN_eta _ _).symm⟩)
