set_option maxHeartbeats 4000000 in
set_option maxRecDepth 100000 in
theorem k_X6_command {γ : Gm} (G : Glo γ) {σ : St} {w s a p u : Int} {t n x f d k i : Int → Int} {g q : Int} (hX : Wf x) (hg : 0 ≤ g ∧ g ≤ 10) (hq : 0 ≤ q ∧ q ≤ 99999) : Ct γ yX6_command cX6_command 10 (some .boolean) 9 [.ref (bs γ + 255), .int (iI g), .int (iI q)] (mS σ w s a p u t n x f d k i) (pI (fun z σ2 => (z = 1 ∧ (cmdS x g q).1 = 1 ∨ z = 0 ∧ (cmdS x g q).1 = 0) ∧ ∃ f9, σ2 = mS σ w s a p u t n ((cmdS x g q).2) f9 d k i)) := by
  refine Ct.of G (by decide +kernel) (Nat.le_of_ble_eq_true rfl) (fun φ C hr => ?_)
  have C : Cx γ φ RX6 cX6_command 10 9 := C
  have hn0 := hX.1
  have hn1 := hX.2.1
  have hn4 := hX.2.2.1
  have hn5 := hX.2.2.2.1
  refine v_lv [(0, .ref (bs γ + 255)), (1, .int (iI g)), (2, .int (iI q))] [0, 1, 2] rfl ?_
  refine v_iload_n (pc := 0) C 2 rfl dX6_command_0 ?_
  refine v_sipush (pc := 1) C (by decide +kernel) dX6_command_1 ?_
  refine v_idiv (pc := 4) C (by first | omega | assumption) (by first | omega | assumption) dX6_command_4 ?_
  refine v_istore_n (pc := 5) C [(3, .int (iI (q / 10000))), (0, .ref (bs γ + 255)), (1, .int (iI g)), (2, .int (iI q))] dX6_command_5 rfl (by decide) rfl ?_
  refine v_iload_n (pc := 6) C 3 rfl dX6_command_6 ?_
  refine v_sipush (pc := 7) C (by decide +kernel) dX6_command_7 ?_
  refine v_idiv (pc := 10) C (by first | omega | assumption) (by first | omega | assumption) dX6_command_10 ?_
  refine v_bipush (pc := 11) C (by decide +kernel) dX6_command_11 ?_
  refine v_irem (pc := 13) C (by first | omega | assumption) (by first | omega | assumption) dX6_command_13 ?_
  refine v_istore (pc := 14) C [(4, .int (iI ((q / 1000) % 10))), (3, .int (iI (q / 10000))), (0, .ref (bs γ + 255)), (1, .int (iI g)), (2, .int (iI q))] dX6_command_14 (by decide) rfl ?_
  refine v_iload_n (pc := 16) C 4 rfl dX6_command_16 ?_
  refine v_sipush (pc := 17) C (by decide +kernel) dX6_command_17 ?_
  refine v_irem (pc := 20) C (by first | omega | assumption) (by first | omega | assumption) dX6_command_20 ?_
  refine v_istore (pc := 21) C [(5, .int (iI (q % 1000))), (4, .int (iI ((q / 1000) % 10))), (3, .int (iI (q / 10000))), (0, .ref (bs γ + 255)), (1, .int (iI g)), (2, .int (iI q))] dX6_command_21 (by decide) rfl ?_
  refine v_iload_n (pc := 23) C 5 rfl dX6_command_23 ?_
  refine v_sipush (pc := 24) C (by decide +kernel) dX6_command_24 ?_
  refine v_idiv (pc := 27) C (by first | omega | assumption) (by first | omega | assumption) dX6_command_27 ?_
  refine v_istore (pc := 28) C [(6, .int (iI (q / 1000))), (5, .int (iI (q % 1000))), (4, .int (iI ((q / 1000) % 10))), (3, .int (iI (q / 10000))), (0, .ref (bs γ + 255)), (1, .int (iI g)), (2, .int (iI q))] dX6_command_28 (by decide) rfl ?_
  refine v_iload_n (pc := 30) C 6 rfl dX6_command_30 ?_
  refine v_bipush (pc := 31) C (by decide +kernel) dX6_command_31 ?_
  refine v_irem (pc := 33) C (by first | omega | assumption) (by first | omega | assumption) dX6_command_33 ?_
  refine v_istore (pc := 34) C [(7, .int (iI (q % 100))), (6, .int (iI (q / 1000))), (5, .int (iI (q % 1000))), (4, .int (iI ((q / 1000) % 10))), (3, .int (iI (q / 10000))), (0, .ref (bs γ + 255)), (1, .int (iI g)), (2, .int (iI q))] dX6_command_34 (by decide) rfl ?_
  refine v_iload_n (pc := 36) C 7 rfl dX6_command_36 ?_
  refine v_bipush (pc := 37) C (by decide +kernel) dX6_command_37 ?_
  refine v_irem (pc := 39) C (by first | omega | assumption) (by first | omega | assumption) dX6_command_39 ?_
  refine v_istore (pc := 40) C [(8, .int (iI (q % 10))), (7, .int (iI (q % 100))), (6, .int (iI (q / 1000))), (5, .int (iI (q % 1000))), (4, .int (iI ((q / 1000) % 10))), (3, .int (iI (q / 10000))), (0, .ref (bs γ + 255)), (1, .int (iI g)), (2, .int (iI q))] dX6_command_40 (by decide) rfl ?_
  refine v_iload_n (pc := 42) C 8 rfl dX6_command_42 ?_
  refine v_sipush (pc := 43) C (by decide +kernel) dX6_command_43 ?_
  refine v_irem (pc := 46) C (by first | omega | assumption) (by first | omega | assumption) dX6_command_46 ?_
  refine v_istore (pc := 47) C [(9, .int (iI (q % 10000))), (8, .int (iI (q % 10))), (7, .int (iI (q % 100))), (6, .int (iI (q / 1000))), (5, .int (iI (q % 1000))), (4, .int (iI ((q / 1000) % 10))), (3, .int (iI (q / 10000))), (0, .ref (bs γ + 255)), (1, .int (iI g)), (2, .int (iI q))] dX6_command_47 (by decide) rfl ?_
  refine v_iload_n (pc := 49) C 8 rfl dX6_command_49 ?_
  by_cases hs50 : 1 ≤ g ∧ g ≤ 9
  · have hs50 : g = 1 ∨ g = 2 ∨ g = 3 ∨ g = 4 ∨ g = 5 ∨ g = 6 ∨ g = 7 ∨ g = 8 ∨ g = 9 := by omega
    rcases hs50 with hs50 | hs50 | hs50 | hs50 | hs50 | hs50 | hs50 | hs50 | hs50
    · refine v_tabIn (pc := 50) C 100 (by first | omega | assumption) dX6_command_50 (by omega) (by rw [hs50]; rfl) (by decide) ?_
      refine v_iload_n (pc := 100) C 9 rfl dX6_command_100 ?_
      refine v_i2l (pc := 101) C (by first | omega | assumption) dX6_command_101 ?_
      refine v_lconst (pc := 102) C (z := 1) rfl dX6_command_102 ?_
      refine v_ldc2 (pc := 103) C (wCL_X6_104 G) dX6_command_103 ?_
      refine v_cs (pc := 106) (as := [.long (lI q), .long (lI 1), .long (lI 99)]) C (cy_X6_in G) (wM_X6_40 G) (k_X6_in G (by first | omega | assumption) (by first | omega | assumption) (by first | omega | assumption)) dX6_command_106 rfl rfl (by decide) (by decide) (Nat.le_of_ble_eq_true rfl) zc (k_I (fun z106 s106 q106 => ?_))
      rcases q106 with ⟨⟨rfl, q106⟩ | ⟨rfl, q106⟩, rfl⟩
      · refine v_if_eq (pc := 109) C 128 (by first | omega | assumption) dX6_command_109 (by decide) (fun h => absurd h (by decide)) (fun _ => ?_)
        refine v_aload_n (pc := 112) C 7 rfl dX6_command_112 ?_
        refine v_aload_n (pc := 113) C 7 rfl dX6_command_113 ?_
        refine v_getr (pc := 114) C inX6 goX6 (ci := 4) rfl 4 (by decide) (wF_X6_16 G) rfl sh_255 (258) rfl dX6_command_114 ?_
        refine v_iload_n (pc := 117) C 9 rfl dX6_command_117 ?_
        refine v_ok (fun hz => ?_)
        refine v_cv (pc := 118) (as := [.ref (bs γ + 258), .int (iI q)]) C (cy_X6_runOn G) (wM_X6_170 G) sh_255 (ci := 4) rfl rfl (k_X6_runOn G (c := 258) (by decide) hX (by first | omega | assumption) hz) dX6_command_118 rfl rfl (by decide) (by decide) (Nat.le_of_ble_eq_true rfl) zc (k_I (fun z118 s118 q118 => ?_))
        obtain ⟨⟨ez118, rz118⟩, rfl⟩ := q118
        rw [mS_o259, mS_o258, mS_x]
        rw [mS_x] at ez118
        have hgz118 := rz118
        refine v_if_lt (pc := 121) C 128 (by first | omega | assumption) dX6_command_121 (by decide) (fun h121 => absurd h121 (by omega)) (fun h121 => ?_)
        refine v_iconst (pc := 124) C dX6_command_124 ?_
        refine v_goto (pc := 125) C 129 dX6_command_125 (by decide) ?_
        exact v_iret (pc := 129) C hr (rfl) dX6_command_129 (⟨_, rfl, Or.inl ⟨rfl, by rw [show cmdS x g q = (1, runR x q.toNat) from by unfold cmdS; rw [if_pos (by omega), if_pos (by omega)]]⟩, _, by rw [show cmdS x g q = (1, runR x q.toNat) from by unfold cmdS; rw [if_pos (by omega), if_pos (by omega)]]⟩)
      · refine v_if_eq (pc := 109) C 128 (by first | omega | assumption) dX6_command_109 (by decide) (fun _ => ?_) (fun h => absurd h (by decide))
        refine v_iconst (pc := 128) C dX6_command_128 ?_
        exact v_iret (pc := 129) C hr (rfl) dX6_command_129 (⟨_, rfl, Or.inr ⟨rfl, by rw [show cmdS x g q = (0, x) from by unfold cmdS; rw [if_pos (by omega), if_neg (by omega)]]⟩, _, by rw [show cmdS x g q = (0, x) from by unfold cmdS; rw [if_pos (by omega), if_neg (by omega)]]⟩)
    · refine v_tabIn (pc := 50) C 130 (by first | omega | assumption) dX6_command_50 (by omega) (by rw [hs50]; rfl) (by decide) ?_
      refine v_iload (pc := 130) C 4 rfl dX6_command_130 ?_
      refine v_if_ne (pc := 132) C 178 (by first | omega | assumption) dX6_command_132 (by decide) (fun h132 => ?_) (fun h132 => ?_)
      · refine v_iconst (pc := 178) C dX6_command_178 ?_
        exact v_iret (pc := 179) C hr (rfl) dX6_command_179 (⟨_, rfl, Or.inr ⟨rfl, by rw [show cmdS x g q = (0, x) from by unfold cmdS; rw [if_neg (by omega), if_pos (by omega), if_neg (fun hh => by have h1 := hh.1; have h2 := hh.2.1; have h3 := hh.2.2.1; have h4 := hh.2.2.2; omega)]]⟩, _, by rw [show cmdS x g q = (0, x) from by unfold cmdS; rw [if_neg (by omega), if_pos (by omega), if_neg (fun hh => by have h1 := hh.1; have h2 := hh.2.1; have h3 := hh.2.2.1; have h4 := hh.2.2.2; omega)]]⟩)
      · refine v_iload (pc := 135) C 5 rfl dX6_command_135 ?_
        refine v_iconst (pc := 137) C dX6_command_137 ?_
        refine v_icmp_ge (pc := 138) C 178 (by first | omega | assumption) (by first | omega | assumption) dX6_command_138 (by decide) (fun h138 => ?_) (fun h138 => ?_)
        · refine v_iconst (pc := 178) C dX6_command_178 ?_
          exact v_iret (pc := 179) C hr (rfl) dX6_command_179 (⟨_, rfl, Or.inr ⟨rfl, by rw [show cmdS x g q = (0, x) from by unfold cmdS; rw [if_neg (by omega), if_pos (by omega), if_neg (fun hh => by have h1 := hh.1; have h2 := hh.2.1; have h3 := hh.2.2.1; have h4 := hh.2.2.2; omega)]]⟩, _, by rw [show cmdS x g q = (0, x) from by unfold cmdS; rw [if_neg (by omega), if_pos (by omega), if_neg (fun hh => by have h1 := hh.1; have h2 := hh.2.1; have h3 := hh.2.2.1; have h4 := hh.2.2.2; omega)]]⟩)
        · refine v_aload_n (pc := 141) C 7 rfl dX6_command_141 ?_
          refine v_getr (pc := 142) C inX6 goX6 (ci := 4) rfl 4 (by decide) (wF_X6_16 G) rfl sh_255 (258) rfl dX6_command_142 ?_
          refine v_iload_n (pc := 145) C 6 rfl dX6_command_145 ?_
          refine v_st (mS_i258 _ _ _ _ _ _ _ _ _ _ _ _ _ ) ?_
          refine v_cs (pc := 146) (as := [.ref (bs γ + 258), .int (iI (q / 10000))]) C (cy_X6_isKey G) (wM_X6_160 G) (k_X6_isKey G (⟨sh_258, by decide⟩ : sh 258 = (0, 268) ∧ 268 ≤ 4000) (by first | omega | assumption) (by first | omega | assumption)) dX6_command_146 rfl rfl (by decide) (by decide) (Nat.le_of_ble_eq_true rfl) zc (k_I (fun z146 s146 q146 => ?_))
          rcases q146 with ⟨⟨rfl, q146⟩ | ⟨rfl, q146⟩, rfl⟩
          · rw [mS_o258]
            refine v_if_eq (pc := 149) C 178 (by first | omega | assumption) dX6_command_149 (by decide) (fun h => absurd h (by decide)) (fun _ => ?_)
            refine v_aload_n (pc := 152) C 7 rfl dX6_command_152 ?_
            refine v_getr (pc := 153) C inX6 goX6 (ci := 4) rfl 4 (by decide) (wF_X6_16 G) rfl sh_255 (258) rfl dX6_command_153 ?_
            refine v_iload_n (pc := 156) C 6 rfl dX6_command_156 ?_
            refine v_iload (pc := 157) C 5 rfl dX6_command_157 ?_
            refine v_iconst (pc := 159) C dX6_command_159 ?_
            refine v_icmp_ne (pc := 160) C 167 (by first | omega | assumption) (by first | omega | assumption) dX6_command_160 (by decide) (fun h160 => ?_) (fun h160 => ?_)
            · refine v_iconst (pc := 167) C dX6_command_167 ?_
              refine v_st (mS_i258 _ _ _ _ _ _ _ _ _ _ _ _ _ ) ?_
              refine v_cs (pc := 168) (as := [.ref (bs γ + 258), .int (iI (q / 10000)), .int (iI 0)]) C (cy_X6_pressOn G) (wM_X6_163 G) (k_X6_pressOn G (⟨sh_258, by decide⟩ : sh 258 = (0, 268) ∧ 268 ≤ 4000) (by omega) (by first | omega | assumption)) dX6_command_168 rfl rfl (by decide) (by decide) (Nat.le_of_ble_eq_true rfl) zc (k_I (fun z168 s168 q168 => ?_))
              obtain ⟨ez168, rfl⟩ := q168
              rw [mS_o258]
              have hgz168 : 0 ≤ z168 ∧ z168 ≤ 1 := by rw [ez168]; split <;> decide
              refine v_if_lt (pc := 171) C 178 (by first | omega | assumption) dX6_command_171 (by decide) (fun h171 => absurd h171 (by omega)) (fun h171 => ?_)
              refine v_iconst (pc := 174) C dX6_command_174 ?_
              refine v_goto (pc := 175) C 179 dX6_command_175 (by decide) ?_
              exact v_iret (pc := 179) C hr (rfl) dX6_command_179 (⟨_, rfl, Or.inl ⟨rfl, by rw [show cmdS x g q = (1, upr x (6 + 7 * (q / 10000) + 2) (if q / 1000 % 10 = 1 then 1 else 0)) from by unfold cmdS; rw [if_neg (by omega), if_pos (by omega), if_pos (⟨by omega, by omega, ⟨by omega, by omega⟩, by omega⟩)]]⟩, _, by rw [show cmdS x g q = (1, upr x (6 + 7 * (q / 10000) + 2) (if q / 1000 % 10 = 1 then 1 else 0)) from by unfold cmdS; rw [if_neg (by omega), if_pos (by omega), if_pos (⟨by omega, by omega, ⟨by omega, by omega⟩, by omega⟩)]]; first | rw [if_pos (by omega)] | rw [if_neg (by omega)]⟩)
            · refine v_iconst (pc := 163) C dX6_command_163 ?_
              refine v_goto (pc := 164) C 168 dX6_command_164 (by decide) ?_
              refine v_st (mS_i258 _ _ _ _ _ _ _ _ _ _ _ _ _ ) ?_
              refine v_cs (pc := 168) (as := [.ref (bs γ + 258), .int (iI (q / 10000)), .int (iI 1)]) C (cy_X6_pressOn G) (wM_X6_163 G) (k_X6_pressOn G (⟨sh_258, by decide⟩ : sh 258 = (0, 268) ∧ 268 ≤ 4000) (by omega) (by first | omega | assumption)) dX6_command_168 rfl rfl (by decide) (by decide) (Nat.le_of_ble_eq_true rfl) zc (k_I (fun z168_1 s168_1 q168_1 => ?_))
              obtain ⟨ez168_1, rfl⟩ := q168_1
              rw [mS_o258]
              have hgz168_1 : 0 ≤ z168_1 ∧ z168_1 ≤ 1 := by rw [ez168_1]; split <;> decide
              refine v_if_lt (pc := 171) C 178 (by first | omega | assumption) dX6_command_171 (by decide) (fun h171_1 => absurd h171_1 (by omega)) (fun h171_1 => ?_)
              refine v_iconst (pc := 174) C dX6_command_174 ?_
              refine v_goto (pc := 175) C 179 dX6_command_175 (by decide) ?_
              exact v_iret (pc := 179) C hr (rfl) dX6_command_179 (⟨_, rfl, Or.inl ⟨rfl, by rw [show cmdS x g q = (1, upr x (6 + 7 * (q / 10000) + 2) (if q / 1000 % 10 = 1 then 1 else 0)) from by unfold cmdS; rw [if_neg (by omega), if_pos (by omega), if_pos (⟨by omega, by omega, ⟨by omega, by omega⟩, by omega⟩)]]⟩, _, by rw [show cmdS x g q = (1, upr x (6 + 7 * (q / 10000) + 2) (if q / 1000 % 10 = 1 then 1 else 0)) from by unfold cmdS; rw [if_neg (by omega), if_pos (by omega), if_pos (⟨by omega, by omega, ⟨by omega, by omega⟩, by omega⟩)]]; first | rw [if_pos (by omega)] | rw [if_neg (by omega)]⟩)
          · rw [mS_o258]
            refine v_if_eq (pc := 149) C 178 (by first | omega | assumption) dX6_command_149 (by decide) (fun _ => ?_) (fun h => absurd h (by decide))
            refine v_iconst (pc := 178) C dX6_command_178 ?_
            exact v_iret (pc := 179) C hr (rfl) dX6_command_179 (⟨_, rfl, Or.inr ⟨rfl, by rw [show cmdS x g q = (0, x) from by unfold cmdS; rw [if_neg (by omega), if_pos (by omega), if_neg (fun hh => by have h1 := hh.1; have h2 := hh.2.1; have h3 := hh.2.2.1; have h4 := hh.2.2.2; omega)]]⟩, _, by rw [show cmdS x g q = (0, x) from by unfold cmdS; rw [if_neg (by omega), if_pos (by omega), if_neg (fun hh => by have h1 := hh.1; have h2 := hh.2.1; have h3 := hh.2.2.1; have h4 := hh.2.2.2; omega)]]⟩)
    · refine v_tabIn (pc := 50) C 180 (by first | omega | assumption) dX6_command_50 (by omega) (by rw [hs50]; rfl) (by decide) ?_
      refine v_iload (pc := 180) C 4 rfl dX6_command_180 ?_
      refine v_bipush (pc := 182) C (by decide +kernel) dX6_command_182 ?_
      refine v_icmp_ge (pc := 184) C 238 (by first | omega | assumption) (by first | omega | assumption) dX6_command_184 (by decide) (fun h184 => ?_) (fun h184 => ?_)
      · refine v_iconst (pc := 238) C dX6_command_238 ?_
        exact v_iret (pc := 239) C hr (rfl) dX6_command_239 (⟨_, rfl, Or.inr ⟨rfl, by rw [show cmdS x g q = (0, x) from by unfold cmdS; rw [if_neg (by omega), if_neg (by omega), if_pos (by omega), if_neg (by omega)]]⟩, _, by rw [show cmdS x g q = (0, x) from by unfold cmdS; rw [if_neg (by omega), if_neg (by omega), if_pos (by omega), if_neg (by omega)]]⟩)
      · refine v_aload_n (pc := 187) C 7 rfl dX6_command_187 ?_
        refine v_getr (pc := 188) C inX6 goX6 (ci := 4) rfl 4 (by decide) (wF_X6_16 G) rfl sh_255 (258) rfl dX6_command_188 ?_
        refine v_iload (pc := 191) C 3 rfl dX6_command_191 ?_
        refine v_st (mS_i258 _ _ _ _ _ _ _ _ _ _ _ _ _ ) ?_
        refine v_cs (pc := 193) (as := [.ref (bs γ + 258), .int (iI (q / 1000))]) C (cy_X6_isDuct G) (wM_X6_167 G) (k_X6_isDuct G (⟨sh_258, by decide⟩ : sh 258 = (0, 268) ∧ 268 ≤ 4000) (by first | omega | assumption) (by first | omega | assumption)) dX6_command_193 rfl rfl (by decide) (by decide) (Nat.le_of_ble_eq_true rfl) zc (k_I (fun z193 s193 q193 => ?_))
        rcases q193 with ⟨⟨rfl, q193⟩ | ⟨rfl, q193⟩, rfl⟩
        · rw [mS_o258]
          refine v_if_eq (pc := 196) C 238 (by first | omega | assumption) dX6_command_196 (by decide) (fun h => absurd h (by decide)) (fun _ => ?_)
          refine v_iload (pc := 199) C 2 rfl dX6_command_199 ?_
          refine v_i2l (pc := 201) C (by first | omega | assumption) dX6_command_201 ?_
          refine v_lconst (pc := 202) C (z := 0) rfl dX6_command_202 ?_
          refine v_ldc2 (pc := 203) C (wCL_X6_204 G) dX6_command_203 ?_
          refine v_cs (pc := 206) (as := [.long (lI (q % 100)), .long (lI 0), .long (lI 30)]) C (cy_X6_in G) (wM_X6_40 G) (k_X6_in G (by first | omega | assumption) (by first | omega | assumption) (by first | omega | assumption)) dX6_command_206 rfl rfl (by decide) (by decide) (Nat.le_of_ble_eq_true rfl) zc (k_I (fun z206 s206 q206 => ?_))
          rcases q206 with ⟨⟨rfl, q206⟩ | ⟨rfl, q206⟩, rfl⟩
          · refine v_if_eq (pc := 209) C 238 (by first | omega | assumption) dX6_command_209 (by decide) (fun h => absurd h (by decide)) (fun _ => ?_)
            refine v_aload_n (pc := 212) C 7 rfl dX6_command_212 ?_
            refine v_getr (pc := 213) C inX6 goX6 (ci := 4) rfl 4 (by decide) (wF_X6_16 G) rfl sh_255 (258) rfl dX6_command_213 ?_
            refine v_bipush (pc := 216) C (by decide +kernel) dX6_command_216 ?_
            refine v_bipush (pc := 218) C (by decide +kernel) dX6_command_218 ?_
            refine v_iload (pc := 220) C 3 rfl dX6_command_220 ?_
            refine v_imul (pc := 222) C dX6_command_222 ?_
            refine v_iadd (pc := 223) C dX6_command_223 ?_
            refine v_iconst (pc := 224) C dX6_command_224 ?_
            refine v_iadd (pc := 225) C dX6_command_225 ?_
            refine v_iload (pc := 226) C 2 rfl dX6_command_226 ?_
            refine v_st (mS_i258 _ _ _ _ _ _ _ _ _ _ _ _ _ ) ?_
            refine v_cs (pc := 228) (as := [.ref (bs γ + 258), .int (iI ((76 + (12 * (q / 1000))) + 5)), .int (iI (q % 100))]) C (cy_X6_change G) (wM_X6_116 G) (k_X6_change G (⟨sh_258, by decide⟩ : sh 258 = (0, 268) ∧ 268 ≤ 4000) (by omega) (by first | omega | assumption)) dX6_command_228 rfl rfl (by decide) (by decide) (Nat.le_of_ble_eq_true rfl) zc (k_I (fun z228 s228 q228 => ?_))
            obtain ⟨⟨ez228, rz228⟩, rfl⟩ := q228
            rw [mS_o258]
            have hgz228 : 0 ≤ z228 := by obtain ⟨-, -, -, -, -, d5, -⟩ := hX.2.2.2.2.2 (q / 1000) (by omega) (by omega); omega
            refine v_if_lt (pc := 231) C 238 (by first | omega | assumption) dX6_command_231 (by decide) (fun h231 => absurd h231 (by omega)) (fun h231 => ?_)
            refine v_iconst (pc := 234) C dX6_command_234 ?_
            refine v_goto (pc := 235) C 239 dX6_command_235 (by decide) ?_
            exact v_iret (pc := 239) C hr (rfl) dX6_command_239 (⟨_, rfl, Or.inl ⟨rfl, by rw [show cmdS x g q = (1, upr x (76 + 12 * (q / 1000) + 5) (q % 100)) from by unfold cmdS; rw [if_neg (by omega), if_neg (by omega), if_pos (by omega), if_pos (by omega)]]⟩, _, by rw [show cmdS x g q = (1, upr x (76 + 12 * (q / 1000) + 5) (q % 100)) from by unfold cmdS; rw [if_neg (by omega), if_neg (by omega), if_pos (by omega), if_pos (by omega)]]⟩)
          · refine v_if_eq (pc := 209) C 238 (by first | omega | assumption) dX6_command_209 (by decide) (fun _ => ?_) (fun h => absurd h (by decide))
            refine v_iconst (pc := 238) C dX6_command_238 ?_
            exact v_iret (pc := 239) C hr (rfl) dX6_command_239 (⟨_, rfl, Or.inr ⟨rfl, by rw [show cmdS x g q = (0, x) from by unfold cmdS; rw [if_neg (by omega), if_neg (by omega), if_pos (by omega), if_neg (by omega)]]⟩, _, by rw [show cmdS x g q = (0, x) from by unfold cmdS; rw [if_neg (by omega), if_neg (by omega), if_pos (by omega), if_neg (by omega)]]⟩)
        · rw [mS_o258]
          refine v_if_eq (pc := 196) C 238 (by first | omega | assumption) dX6_command_196 (by decide) (fun _ => ?_) (fun h => absurd h (by decide))
          refine v_iconst (pc := 238) C dX6_command_238 ?_
          exact v_iret (pc := 239) C hr (rfl) dX6_command_239 (⟨_, rfl, Or.inr ⟨rfl, by rw [show cmdS x g q = (0, x) from by unfold cmdS; rw [if_neg (by omega), if_neg (by omega), if_pos (by omega), if_neg (by omega)]]⟩, _, by rw [show cmdS x g q = (0, x) from by unfold cmdS; rw [if_neg (by omega), if_neg (by omega), if_pos (by omega), if_neg (by omega)]]⟩)
    · refine v_tabIn (pc := 50) C 240 (by first | omega | assumption) dX6_command_50 (by omega) (by rw [hs50]; rfl) (by decide) ?_
      refine v_iload (pc := 240) C 0 rfl dX6_command_240 ?_
      refine v_bipush (pc := 242) C (by decide +kernel) dX6_command_242 ?_
      refine v_icmp_ge (pc := 244) C 298 (by first | omega | assumption) (by first | omega | assumption) dX6_command_244 (by decide) (fun h244 => ?_) (fun h244 => ?_)
      · refine v_iconst (pc := 298) C dX6_command_298 ?_
        exact v_iret (pc := 299) C hr (rfl) dX6_command_299 (⟨_, rfl, Or.inr ⟨rfl, by rw [show cmdS x g q = (0, x) from by unfold cmdS; rw [if_neg (by omega), if_neg (by omega), if_neg (by omega), if_pos (by omega), if_neg (by omega)]]⟩, _, by rw [show cmdS x g q = (0, x) from by unfold cmdS; rw [if_neg (by omega), if_neg (by omega), if_neg (by omega), if_pos (by omega), if_neg (by omega)]]⟩)
      · refine v_aload_n (pc := 247) C 7 rfl dX6_command_247 ?_
        refine v_getr (pc := 248) C inX6 goX6 (ci := 4) rfl 4 (by decide) (wF_X6_16 G) rfl sh_255 (258) rfl dX6_command_248 ?_
        refine v_iload_n (pc := 251) C 6 rfl dX6_command_251 ?_
        refine v_st (mS_i258 _ _ _ _ _ _ _ _ _ _ _ _ _ ) ?_
        refine v_cs (pc := 252) (as := [.ref (bs γ + 258), .int (iI (q / 10000))]) C (cy_X6_isValve G) (wM_X6_44 G) (k_X6_isValve G (⟨sh_258, by decide⟩ : sh 258 = (0, 268) ∧ 268 ≤ 4000) (by first | omega | assumption) (by first | omega | assumption)) dX6_command_252 rfl rfl (by decide) (by decide) (Nat.le_of_ble_eq_true rfl) zc (k_I (fun z252 s252 q252 => ?_))
        rcases q252 with ⟨⟨rfl, q252⟩ | ⟨rfl, q252⟩, rfl⟩
        · rw [mS_o258]
          refine v_if_eq (pc := 255) C 298 (by first | omega | assumption) dX6_command_255 (by decide) (fun h => absurd h (by decide)) (fun _ => ?_)
          refine v_iload (pc := 258) C 2 rfl dX6_command_258 ?_
          refine v_i2l (pc := 260) C (by first | omega | assumption) dX6_command_260 ?_
          refine v_ldc2 (pc := 261) C (wCL_X6_102 G) dX6_command_261 ?_
          refine v_ldc2 (pc := 264) C (wCL_X6_104 G) dX6_command_264 ?_
          refine v_cs (pc := 267) (as := [.long (lI (q % 100)), .long (lI 10), .long (lI 99)]) C (cy_X6_in G) (wM_X6_40 G) (k_X6_in G (by first | omega | assumption) (by first | omega | assumption) (by first | omega | assumption)) dX6_command_267 rfl rfl (by decide) (by decide) (Nat.le_of_ble_eq_true rfl) zc (k_I (fun z267 s267 q267 => ?_))
          rcases q267 with ⟨⟨rfl, q267⟩ | ⟨rfl, q267⟩, rfl⟩
          · refine v_if_eq (pc := 270) C 298 (by first | omega | assumption) dX6_command_270 (by decide) (fun h => absurd h (by decide)) (fun _ => ?_)
            refine v_aload_n (pc := 273) C 7 rfl dX6_command_273 ?_
            refine v_getr (pc := 274) C inX6 goX6 (ci := 4) rfl 4 (by decide) (wF_X6_16 G) rfl sh_255 (258) rfl dX6_command_274 ?_
            refine v_bipush (pc := 277) C (by decide +kernel) dX6_command_277 ?_
            refine v_bipush (pc := 279) C (by decide +kernel) dX6_command_279 ?_
            refine v_iload_n (pc := 281) C 6 rfl dX6_command_281 ?_
            refine v_imul (pc := 282) C dX6_command_282 ?_
            refine v_iadd (pc := 283) C dX6_command_283 ?_
            refine v_iconst (pc := 284) C dX6_command_284 ?_
            refine v_iadd (pc := 285) C dX6_command_285 ?_
            refine v_iload (pc := 286) C 2 rfl dX6_command_286 ?_
            refine v_st (mS_i258 _ _ _ _ _ _ _ _ _ _ _ _ _ ) ?_
            refine v_cs (pc := 288) (as := [.ref (bs γ + 258), .int (iI ((6 + (7 * (q / 10000))) + 1)), .int (iI (q % 100))]) C (cy_X6_change G) (wM_X6_116 G) (k_X6_change G (⟨sh_258, by decide⟩ : sh 258 = (0, 268) ∧ 268 ≤ 4000) (by omega) (by first | omega | assumption)) dX6_command_288 rfl rfl (by decide) (by decide) (Nat.le_of_ble_eq_true rfl) zc (k_I (fun z288 s288 q288 => ?_))
            obtain ⟨⟨ez288, rz288⟩, rfl⟩ := q288
            rw [mS_o258]
            have hgz288 : 0 ≤ z288 := by have := hX.su (v := q / 10000) (by omega); omega
            refine v_if_lt (pc := 291) C 298 (by first | omega | assumption) dX6_command_291 (by decide) (fun h291 => absurd h291 (by omega)) (fun h291 => ?_)
            refine v_iconst (pc := 294) C dX6_command_294 ?_
            refine v_goto (pc := 295) C 299 dX6_command_295 (by decide) ?_
            exact v_iret (pc := 299) C hr (rfl) dX6_command_299 (⟨_, rfl, Or.inl ⟨rfl, by rw [show cmdS x g q = (1, upr x (6 + 7 * (q / 10000) + 1) (q % 100)) from by unfold cmdS; rw [if_neg (by omega), if_neg (by omega), if_neg (by omega), if_pos (by omega), if_pos (by omega)]]⟩, _, by rw [show cmdS x g q = (1, upr x (6 + 7 * (q / 10000) + 1) (q % 100)) from by unfold cmdS; rw [if_neg (by omega), if_neg (by omega), if_neg (by omega), if_pos (by omega), if_pos (by omega)]]⟩)
          · refine v_if_eq (pc := 270) C 298 (by first | omega | assumption) dX6_command_270 (by decide) (fun _ => ?_) (fun h => absurd h (by decide))
            refine v_iconst (pc := 298) C dX6_command_298 ?_
            exact v_iret (pc := 299) C hr (rfl) dX6_command_299 (⟨_, rfl, Or.inr ⟨rfl, by rw [show cmdS x g q = (0, x) from by unfold cmdS; rw [if_neg (by omega), if_neg (by omega), if_neg (by omega), if_pos (by omega), if_neg (by omega)]]⟩, _, by rw [show cmdS x g q = (0, x) from by unfold cmdS; rw [if_neg (by omega), if_neg (by omega), if_neg (by omega), if_pos (by omega), if_neg (by omega)]]⟩)
        · rw [mS_o258]
          refine v_if_eq (pc := 255) C 298 (by first | omega | assumption) dX6_command_255 (by decide) (fun _ => ?_) (fun h => absurd h (by decide))
          refine v_iconst (pc := 298) C dX6_command_298 ?_
          exact v_iret (pc := 299) C hr (rfl) dX6_command_299 (⟨_, rfl, Or.inr ⟨rfl, by rw [show cmdS x g q = (0, x) from by unfold cmdS; rw [if_neg (by omega), if_neg (by omega), if_neg (by omega), if_pos (by omega), if_neg (by omega)]]⟩, _, by rw [show cmdS x g q = (0, x) from by unfold cmdS; rw [if_neg (by omega), if_neg (by omega), if_neg (by omega), if_pos (by omega), if_neg (by omega)]]⟩)
    · refine v_tabIn (pc := 50) C 300 (by first | omega | assumption) dX6_command_50 (by omega) (by rw [hs50]; rfl) (by decide) ?_
      refine v_iload (pc := 300) C 0 rfl dX6_command_300 ?_
      refine v_bipush (pc := 302) C (by decide +kernel) dX6_command_302 ?_
      refine v_icmp_ge (pc := 304) C 335 (by first | omega | assumption) (by first | omega | assumption) dX6_command_304 (by decide) (fun h304 => ?_) (fun h304 => ?_)
      · refine v_iconst (pc := 335) C dX6_command_335 ?_
        exact v_iret (pc := 336) C hr (rfl) dX6_command_336 (⟨_, rfl, Or.inr ⟨rfl, by rw [show cmdS x g q = (0, x) from by unfold cmdS; rw [if_neg (by omega), if_neg (by omega), if_neg (by omega), if_neg (by omega), if_pos (by omega), if_neg (by omega)]]⟩, _, by rw [show cmdS x g q = (0, x) from by unfold cmdS; rw [if_neg (by omega), if_neg (by omega), if_neg (by omega), if_neg (by omega), if_pos (by omega), if_neg (by omega)]]⟩)
      · refine v_iload_n (pc := 307) C 6 rfl dX6_command_307 ?_
        refine v_iload (pc := 308) C 2 rfl dX6_command_308 ?_
        refine v_cs (pc := 310) (as := [.int (iI (q / 10000)), .int (iI (q % 100))]) C (cy_X6_isSetting G) (wM_X6_206 G) (k_X6_isSetting G (by first | omega | assumption) (by first | omega | assumption)) dX6_command_310 rfl rfl (by decide) (by decide) (Nat.le_of_ble_eq_true rfl) zc (k_I (fun z310 s310 q310 => ?_))
        rcases q310 with ⟨⟨rfl, q310⟩ | ⟨rfl, q310⟩, rfl⟩
        · refine v_if_eq (pc := 313) C 335 (by first | omega | assumption) dX6_command_313 (by decide) (fun h => absurd h (by decide)) (fun _ => ?_)
          refine v_aload_n (pc := 316) C 7 rfl dX6_command_316 ?_
          refine v_getr (pc := 317) C inX6 goX6 (ci := 4) rfl 4 (by decide) (wF_X6_16 G) rfl sh_255 (258) rfl dX6_command_317 ?_
          refine v_iconst (pc := 320) C dX6_command_320 ?_
          refine v_iload_n (pc := 321) C 6 rfl dX6_command_321 ?_
          refine v_iadd (pc := 322) C dX6_command_322 ?_
          refine v_iload (pc := 323) C 2 rfl dX6_command_323 ?_
          refine v_st (mS_i258 _ _ _ _ _ _ _ _ _ _ _ _ _ ) ?_
          refine v_cs (pc := 325) (as := [.ref (bs γ + 258), .int (iI (4 + (q / 10000))), .int (iI (q % 100))]) C (cy_X6_change G) (wM_X6_116 G) (k_X6_change G (⟨sh_258, by decide⟩ : sh 258 = (0, 268) ∧ 268 ≤ 4000) (by omega) (by first | omega | assumption)) dX6_command_325 rfl rfl (by decide) (by decide) (Nat.le_of_ble_eq_true rfl) zc (k_I (fun z325 s325 q325 => ?_))
          obtain ⟨⟨ez325, rz325⟩, rfl⟩ := q325
          rw [mS_o258]
          have hgz325 : 0 ≤ z325 := by have h4 := hX.2.2.1; have h5 := hX.2.2.2.1; rcases (show q / 10000 = 0 ∨ q / 10000 = 1 by omega) with e | e <;> (rw [e] at ez325; simp only [Int.add_zero, show (4 + 1 : Int) = 5 from rfl] at ez325; omega)
          refine v_if_lt (pc := 328) C 335 (by first | omega | assumption) dX6_command_328 (by decide) (fun h328 => absurd h328 (by omega)) (fun h328 => ?_)
          refine v_iconst (pc := 331) C dX6_command_331 ?_
          refine v_goto (pc := 332) C 336 dX6_command_332 (by decide) ?_
          exact v_iret (pc := 336) C hr (rfl) dX6_command_336 (⟨_, rfl, Or.inl ⟨rfl, by rw [show cmdS x g q = (1, upr x (4 + q / 10000) (q % 100)) from by unfold cmdS; rw [if_neg (by omega), if_neg (by omega), if_neg (by omega), if_neg (by omega), if_pos (by omega), if_pos (by omega)]]⟩, _, by rw [show cmdS x g q = (1, upr x (4 + q / 10000) (q % 100)) from by unfold cmdS; rw [if_neg (by omega), if_neg (by omega), if_neg (by omega), if_neg (by omega), if_pos (by omega), if_pos (by omega)]]⟩)
        · refine v_if_eq (pc := 313) C 335 (by first | omega | assumption) dX6_command_313 (by decide) (fun _ => ?_) (fun h => absurd h (by decide))
          refine v_iconst (pc := 335) C dX6_command_335 ?_
          exact v_iret (pc := 336) C hr (rfl) dX6_command_336 (⟨_, rfl, Or.inr ⟨rfl, by rw [show cmdS x g q = (0, x) from by unfold cmdS; rw [if_neg (by omega), if_neg (by omega), if_neg (by omega), if_neg (by omega), if_pos (by omega), if_neg (by omega)]]⟩, _, by rw [show cmdS x g q = (0, x) from by unfold cmdS; rw [if_neg (by omega), if_neg (by omega), if_neg (by omega), if_neg (by omega), if_pos (by omega), if_neg (by omega)]]⟩)
    · refine v_tabIn (pc := 50) C 337 (by first | omega | assumption) dX6_command_50 (by omega) (by rw [hs50]; rfl) (by decide) ?_
      refine v_iload (pc := 337) C 4 rfl dX6_command_337 ?_
      refine v_bipush (pc := 339) C (by decide +kernel) dX6_command_339 ?_
      refine v_icmp_ge (pc := 341) C 384 (by first | omega | assumption) (by first | omega | assumption) dX6_command_341 (by decide) (fun h341 => ?_) (fun h341 => ?_)
      · refine v_iconst (pc := 384) C dX6_command_384 ?_
        exact v_iret (pc := 385) C hr (rfl) dX6_command_385 (⟨_, rfl, Or.inr ⟨rfl, by rw [show cmdS x g q = (0, x) from by unfold cmdS; rw [if_neg (by omega), if_neg (by omega), if_neg (by omega), if_neg (by omega), if_neg (by omega), if_pos (by omega), if_neg (by omega)]]⟩, _, by rw [show cmdS x g q = (0, x) from by unfold cmdS; rw [if_neg (by omega), if_neg (by omega), if_neg (by omega), if_neg (by omega), if_neg (by omega), if_pos (by omega), if_neg (by omega)]]⟩)
      · refine v_aload_n (pc := 344) C 7 rfl dX6_command_344 ?_
        refine v_getr (pc := 345) C inX6 goX6 (ci := 4) rfl 4 (by decide) (wF_X6_16 G) rfl sh_255 (258) rfl dX6_command_345 ?_
        refine v_iload_n (pc := 348) C 6 rfl dX6_command_348 ?_
        refine v_st (mS_i258 _ _ _ _ _ _ _ _ _ _ _ _ _ ) ?_
        refine v_cs (pc := 349) (as := [.ref (bs γ + 258), .int (iI (q / 10000))]) C (cy_X6_isValve G) (wM_X6_44 G) (k_X6_isValve G (⟨sh_258, by decide⟩ : sh 258 = (0, 268) ∧ 268 ≤ 4000) (by first | omega | assumption) (by first | omega | assumption)) dX6_command_349 rfl rfl (by decide) (by decide) (Nat.le_of_ble_eq_true rfl) zc (k_I (fun z349 s349 q349 => ?_))
        rcases q349 with ⟨⟨rfl, q349⟩ | ⟨rfl, q349⟩, rfl⟩
        · rw [mS_o258]
          refine v_if_eq (pc := 352) C 384 (by first | omega | assumption) dX6_command_352 (by decide) (fun h => absurd h (by decide)) (fun _ => ?_)
          refine v_iload (pc := 355) C 5 rfl dX6_command_355 ?_
          refine v_cs (pc := 357) (as := [.int (iI ((q / 1000) % 10))]) C (cy_X6_isSide G) (wM_X6_106 G) (k_X6_isSide G (by first | omega | assumption)) dX6_command_357 rfl rfl (by decide) (by decide) (Nat.le_of_ble_eq_true rfl) zc (k_I (fun z357 s357 q357 => ?_))
          rcases q357 with ⟨⟨rfl, q357⟩ | ⟨rfl, q357⟩, rfl⟩
          · refine v_if_eq (pc := 360) C 384 (by first | omega | assumption) dX6_command_360 (by decide) (fun h => absurd h (by decide)) (fun _ => ?_)
            refine v_aload_n (pc := 363) C 7 rfl dX6_command_363 ?_
            refine v_getr (pc := 364) C inX6 goX6 (ci := 4) rfl 4 (by decide) (wF_X6_16 G) rfl sh_255 (258) rfl dX6_command_364 ?_
            refine v_iload_n (pc := 367) C 6 rfl dX6_command_367 ?_
            refine v_iconst (pc := 368) C dX6_command_368 ?_
            refine v_iload (pc := 369) C 5 rfl dX6_command_369 ?_
            refine v_iadd (pc := 371) C dX6_command_371 ?_
            refine v_st (mS_i258 _ _ _ _ _ _ _ _ _ _ _ _ _ ) ?_
            refine v_cs (pc := 372) (as := [.ref (bs γ + 258), .int (iI (q / 10000)), .int (iI (3 + ((q / 1000) % 10)))]) C (cy_X6_of G) (wM_X6_48 G) (k_X6_of G (⟨sh_258, by decide⟩ : sh 258 = (0, 268) ∧ 268 ≤ 4000) (by omega)) dX6_command_372 rfl rfl (by decide) (by decide) (Nat.le_of_ble_eq_true rfl) zc (k_I (fun z372 s372 q372 => ?_))
            obtain ⟨⟨ez372, rz372⟩, rfl⟩ := q372
            rw [mS_o258]
            refine v_iload (pc := 375) C 2 rfl dX6_command_375 ?_
            refine v_icmp_lt (pc := 377) C 384 (by first | omega | assumption) (by first | omega | assumption) dX6_command_377 (by decide) (fun h377 => ?_) (fun h377 => ?_)
            · refine v_iconst (pc := 384) C dX6_command_384 ?_
              exact v_iret (pc := 385) C hr (rfl) dX6_command_385 (⟨_, rfl, Or.inr ⟨rfl, by rw [show cmdS x g q = (0, x) from by unfold cmdS; rw [if_neg (by omega), if_neg (by omega), if_neg (by omega), if_neg (by omega), if_neg (by omega), if_pos (by omega), if_neg (by omega)]]⟩, _, by rw [show cmdS x g q = (0, x) from by unfold cmdS; rw [if_neg (by omega), if_neg (by omega), if_neg (by omega), if_neg (by omega), if_neg (by omega), if_pos (by omega), if_neg (by omega)]]⟩)
            · refine v_iconst (pc := 380) C dX6_command_380 ?_
              refine v_goto (pc := 381) C 385 dX6_command_381 (by decide) ?_
              exact v_iret (pc := 385) C hr (rfl) dX6_command_385 (⟨_, rfl, Or.inl ⟨rfl, by rw [show cmdS x g q = (1, x) from by unfold cmdS; rw [if_neg (by omega), if_neg (by omega), if_neg (by omega), if_neg (by omega), if_neg (by omega), if_pos (by omega), if_pos (by omega)]]⟩, _, by rw [show cmdS x g q = (1, x) from by unfold cmdS; rw [if_neg (by omega), if_neg (by omega), if_neg (by omega), if_neg (by omega), if_neg (by omega), if_pos (by omega), if_pos (by omega)]]⟩)
          · refine v_if_eq (pc := 360) C 384 (by first | omega | assumption) dX6_command_360 (by decide) (fun _ => ?_) (fun h => absurd h (by decide))
            refine v_iconst (pc := 384) C dX6_command_384 ?_
            exact v_iret (pc := 385) C hr (rfl) dX6_command_385 (⟨_, rfl, Or.inr ⟨rfl, by rw [show cmdS x g q = (0, x) from by unfold cmdS; rw [if_neg (by omega), if_neg (by omega), if_neg (by omega), if_neg (by omega), if_neg (by omega), if_pos (by omega), if_neg (by omega)]]⟩, _, by rw [show cmdS x g q = (0, x) from by unfold cmdS; rw [if_neg (by omega), if_neg (by omega), if_neg (by omega), if_neg (by omega), if_neg (by omega), if_pos (by omega), if_neg (by omega)]]⟩)
        · rw [mS_o258]
          refine v_if_eq (pc := 352) C 384 (by first | omega | assumption) dX6_command_352 (by decide) (fun _ => ?_) (fun h => absurd h (by decide))
          refine v_iconst (pc := 384) C dX6_command_384 ?_
          exact v_iret (pc := 385) C hr (rfl) dX6_command_385 (⟨_, rfl, Or.inr ⟨rfl, by rw [show cmdS x g q = (0, x) from by unfold cmdS; rw [if_neg (by omega), if_neg (by omega), if_neg (by omega), if_neg (by omega), if_neg (by omega), if_pos (by omega), if_neg (by omega)]]⟩, _, by rw [show cmdS x g q = (0, x) from by unfold cmdS; rw [if_neg (by omega), if_neg (by omega), if_neg (by omega), if_neg (by omega), if_neg (by omega), if_pos (by omega), if_neg (by omega)]]⟩)
    · refine v_tabIn (pc := 50) C 386 (by first | omega | assumption) dX6_command_50 (by omega) (by rw [hs50]; rfl) (by decide) ?_
      refine v_iload (pc := 386) C 4 rfl dX6_command_386 ?_
      refine v_bipush (pc := 388) C (by decide +kernel) dX6_command_388 ?_
      refine v_icmp_ge (pc := 390) C 439 (by first | omega | assumption) (by first | omega | assumption) dX6_command_390 (by decide) (fun h390 => ?_) (fun h390 => ?_)
      · refine v_iconst (pc := 439) C dX6_command_439 ?_
        exact v_iret (pc := 440) C hr (rfl) dX6_command_440 (⟨_, rfl, Or.inr ⟨rfl, by rw [show cmdS x g q = (0, x) from by unfold cmdS; rw [if_neg (by omega), if_neg (by omega), if_neg (by omega), if_neg (by omega), if_neg (by omega), if_neg (by omega), if_pos (by omega), if_neg (fun hh => by have h1 := hh.1; have h2 := hh.2.1; have h3 := hh.2.2.1; have h4 := hh.2.2.2; first | omega | (rw [if_pos (by assumption)] at h4; omega) | (rw [if_neg (by assumption)] at h4; omega))]]⟩, _, by rw [show cmdS x g q = (0, x) from by unfold cmdS; rw [if_neg (by omega), if_neg (by omega), if_neg (by omega), if_neg (by omega), if_neg (by omega), if_neg (by omega), if_pos (by omega), if_neg (fun hh => by have h1 := hh.1; have h2 := hh.2.1; have h3 := hh.2.2.1; have h4 := hh.2.2.2; first | omega | (rw [if_pos (by assumption)] at h4; omega) | (rw [if_neg (by assumption)] at h4; omega))]]⟩)
      · refine v_aload_n (pc := 393) C 7 rfl dX6_command_393 ?_
        refine v_getr (pc := 394) C inX6 goX6 (ci := 4) rfl 4 (by decide) (wF_X6_16 G) rfl sh_255 (258) rfl dX6_command_394 ?_
        refine v_iload_n (pc := 397) C 6 rfl dX6_command_397 ?_
        refine v_st (mS_i258 _ _ _ _ _ _ _ _ _ _ _ _ _ ) ?_
        refine v_cs (pc := 398) (as := [.ref (bs γ + 258), .int (iI (q / 10000))]) C (cy_X6_isValve G) (wM_X6_44 G) (k_X6_isValve G (⟨sh_258, by decide⟩ : sh 258 = (0, 268) ∧ 268 ≤ 4000) (by first | omega | assumption) (by first | omega | assumption)) dX6_command_398 rfl rfl (by decide) (by decide) (Nat.le_of_ble_eq_true rfl) zc (k_I (fun z398 s398 q398 => ?_))
        rcases q398 with ⟨⟨rfl, q398⟩ | ⟨rfl, q398⟩, rfl⟩
        · rw [mS_o258]
          refine v_if_eq (pc := 401) C 439 (by first | omega | assumption) dX6_command_401 (by decide) (fun h => absurd h (by decide)) (fun _ => ?_)
          refine v_iload (pc := 404) C 5 rfl dX6_command_404 ?_
          refine v_cs (pc := 406) (as := [.int (iI ((q / 1000) % 10))]) C (cy_X6_isSide G) (wM_X6_106 G) (k_X6_isSide G (by first | omega | assumption)) dX6_command_406 rfl rfl (by decide) (by decide) (Nat.le_of_ble_eq_true rfl) zc (k_I (fun z406 s406 q406 => ?_))
          rcases q406 with ⟨⟨rfl, q406⟩ | ⟨rfl, q406⟩, rfl⟩
          · refine v_if_eq (pc := 409) C 439 (by first | omega | assumption) dX6_command_409 (by decide) (fun h => absurd h (by decide)) (fun _ => ?_)
            refine v_aload_n (pc := 412) C 7 rfl dX6_command_412 ?_
            refine v_getr (pc := 413) C inX6 goX6 (ci := 4) rfl 4 (by decide) (wF_X6_16 G) rfl sh_255 (258) rfl dX6_command_413 ?_
            refine v_iload_n (pc := 416) C 6 rfl dX6_command_416 ?_
            refine v_iload (pc := 417) C 5 rfl dX6_command_417 ?_
            refine v_st (mS_i258 _ _ _ _ _ _ _ _ _ _ _ _ _ ) ?_
            refine v_cs (pc := 419) (as := [.ref (bs γ + 258), .int (iI (q / 10000)), .int (iI ((q / 1000) % 10))]) C (cy_X6_works G) (wM_X6_69 G) (k_X6_works G (⟨sh_258, by decide⟩ : sh 258 = (0, 268) ∧ 268 ≤ 4000) (k := 5 + q / 1000 % 10) rfl (by omega) (by omega) (hX.pg (by omega) (by omega)) ⟨by have := hX.su (v := q / 10000) (by omega); omega, (hX.su (by omega)).2⟩ (by omega)) dX6_command_419 rfl rfl (by decide) (by decide) (Nat.le_of_ble_eq_true rfl) zc (k_I (fun z419 s419 q419 => ?_))
            rcases q419 with ⟨⟨rfl, q419⟩ | ⟨rfl, q419⟩, rfl⟩
            · rw [mS_o258]
              refine v_if_eq (pc := 422) C 429 (by first | omega | assumption) dX6_command_422 (by decide) (fun h => absurd h (by decide)) (fun _ => ?_)
              refine v_iconst (pc := 425) C dX6_command_425 ?_
              refine v_goto (pc := 426) C 430 dX6_command_426 (by decide) ?_
              refine v_iload (pc := 430) C 1 rfl dX6_command_430 ?_
              refine v_icmp_ne (pc := 432) C 439 (by first | omega | assumption) (by first | omega | assumption) dX6_command_432 (by decide) (fun h432 => ?_) (fun h432 => ?_)
              · refine v_iconst (pc := 439) C dX6_command_439 ?_
                exact v_iret (pc := 440) C hr (rfl) dX6_command_440 (⟨_, rfl, Or.inr ⟨rfl, by rw [show cmdS x g q = (0, x) from by unfold cmdS; rw [if_neg (by omega), if_neg (by omega), if_neg (by omega), if_neg (by omega), if_neg (by omega), if_neg (by omega), if_pos (by omega), if_neg (fun hh => by have h1 := hh.1; have h2 := hh.2.1; have h3 := hh.2.2.1; have h4 := hh.2.2.2; first | omega | (rw [if_pos (by assumption)] at h4; omega) | (rw [if_neg (by assumption)] at h4; omega))]]⟩, _, by rw [show cmdS x g q = (0, x) from by unfold cmdS; rw [if_neg (by omega), if_neg (by omega), if_neg (by omega), if_neg (by omega), if_neg (by omega), if_neg (by omega), if_pos (by omega), if_neg (fun hh => by have h1 := hh.1; have h2 := hh.2.1; have h3 := hh.2.2.1; have h4 := hh.2.2.2; first | omega | (rw [if_pos (by assumption)] at h4; omega) | (rw [if_neg (by assumption)] at h4; omega))]]⟩)
              · refine v_iconst (pc := 435) C dX6_command_435 ?_
                refine v_goto (pc := 436) C 440 dX6_command_436 (by decide) ?_
                exact v_iret (pc := 440) C hr (rfl) dX6_command_440 (⟨_, rfl, Or.inl ⟨rfl, by rw [show cmdS x g q = (1, x) from by unfold cmdS; rw [if_neg (by omega), if_neg (by omega), if_neg (by omega), if_neg (by omega), if_neg (by omega), if_neg (by omega), if_pos (by omega), if_pos (⟨by omega, by omega, by omega, by first | (rw [if_pos (by assumption)]; omega) | (rw [if_neg (by assumption)]; omega)⟩)]]⟩, _, by rw [show cmdS x g q = (1, x) from by unfold cmdS; rw [if_neg (by omega), if_neg (by omega), if_neg (by omega), if_neg (by omega), if_neg (by omega), if_neg (by omega), if_pos (by omega), if_pos (⟨by omega, by omega, by omega, by first | (rw [if_pos (by assumption)]; omega) | (rw [if_neg (by assumption)]; omega)⟩)]]⟩)
            · rw [mS_o258]
              refine v_if_eq (pc := 422) C 429 (by first | omega | assumption) dX6_command_422 (by decide) (fun _ => ?_) (fun h => absurd h (by decide))
              refine v_iconst (pc := 429) C dX6_command_429 ?_
              refine v_iload (pc := 430) C 1 rfl dX6_command_430 ?_
              refine v_icmp_ne (pc := 432) C 439 (by first | omega | assumption) (by first | omega | assumption) dX6_command_432 (by decide) (fun h432_1 => ?_) (fun h432_1 => ?_)
              · refine v_iconst (pc := 439) C dX6_command_439 ?_
                exact v_iret (pc := 440) C hr (rfl) dX6_command_440 (⟨_, rfl, Or.inr ⟨rfl, by rw [show cmdS x g q = (0, x) from by unfold cmdS; rw [if_neg (by omega), if_neg (by omega), if_neg (by omega), if_neg (by omega), if_neg (by omega), if_neg (by omega), if_pos (by omega), if_neg (fun hh => by have h1 := hh.1; have h2 := hh.2.1; have h3 := hh.2.2.1; have h4 := hh.2.2.2; first | omega | (rw [if_pos (by assumption)] at h4; omega) | (rw [if_neg (by assumption)] at h4; omega))]]⟩, _, by rw [show cmdS x g q = (0, x) from by unfold cmdS; rw [if_neg (by omega), if_neg (by omega), if_neg (by omega), if_neg (by omega), if_neg (by omega), if_neg (by omega), if_pos (by omega), if_neg (fun hh => by have h1 := hh.1; have h2 := hh.2.1; have h3 := hh.2.2.1; have h4 := hh.2.2.2; first | omega | (rw [if_pos (by assumption)] at h4; omega) | (rw [if_neg (by assumption)] at h4; omega))]]⟩)
              · refine v_iconst (pc := 435) C dX6_command_435 ?_
                refine v_goto (pc := 436) C 440 dX6_command_436 (by decide) ?_
                exact v_iret (pc := 440) C hr (rfl) dX6_command_440 (⟨_, rfl, Or.inl ⟨rfl, by rw [show cmdS x g q = (1, x) from by unfold cmdS; rw [if_neg (by omega), if_neg (by omega), if_neg (by omega), if_neg (by omega), if_neg (by omega), if_neg (by omega), if_pos (by omega), if_pos (⟨by omega, by omega, by omega, by first | (rw [if_pos (by assumption)]; omega) | (rw [if_neg (by assumption)]; omega)⟩)]]⟩, _, by rw [show cmdS x g q = (1, x) from by unfold cmdS; rw [if_neg (by omega), if_neg (by omega), if_neg (by omega), if_neg (by omega), if_neg (by omega), if_neg (by omega), if_pos (by omega), if_pos (⟨by omega, by omega, by omega, by first | (rw [if_pos (by assumption)]; omega) | (rw [if_neg (by assumption)]; omega)⟩)]]⟩)
          · refine v_if_eq (pc := 409) C 439 (by first | omega | assumption) dX6_command_409 (by decide) (fun _ => ?_) (fun h => absurd h (by decide))
            refine v_iconst (pc := 439) C dX6_command_439 ?_
            exact v_iret (pc := 440) C hr (rfl) dX6_command_440 (⟨_, rfl, Or.inr ⟨rfl, by rw [show cmdS x g q = (0, x) from by unfold cmdS; rw [if_neg (by omega), if_neg (by omega), if_neg (by omega), if_neg (by omega), if_neg (by omega), if_neg (by omega), if_pos (by omega), if_neg (fun hh => by have h1 := hh.1; have h2 := hh.2.1; have h3 := hh.2.2.1; have h4 := hh.2.2.2; first | omega | (rw [if_pos (by assumption)] at h4; omega) | (rw [if_neg (by assumption)] at h4; omega))]]⟩, _, by rw [show cmdS x g q = (0, x) from by unfold cmdS; rw [if_neg (by omega), if_neg (by omega), if_neg (by omega), if_neg (by omega), if_neg (by omega), if_neg (by omega), if_pos (by omega), if_neg (fun hh => by have h1 := hh.1; have h2 := hh.2.1; have h3 := hh.2.2.1; have h4 := hh.2.2.2; first | omega | (rw [if_pos (by assumption)] at h4; omega) | (rw [if_neg (by assumption)] at h4; omega))]]⟩)
        · rw [mS_o258]
          refine v_if_eq (pc := 401) C 439 (by first | omega | assumption) dX6_command_401 (by decide) (fun _ => ?_) (fun h => absurd h (by decide))
          refine v_iconst (pc := 439) C dX6_command_439 ?_
          exact v_iret (pc := 440) C hr (rfl) dX6_command_440 (⟨_, rfl, Or.inr ⟨rfl, by rw [show cmdS x g q = (0, x) from by unfold cmdS; rw [if_neg (by omega), if_neg (by omega), if_neg (by omega), if_neg (by omega), if_neg (by omega), if_neg (by omega), if_pos (by omega), if_neg (fun hh => by have h1 := hh.1; have h2 := hh.2.1; have h3 := hh.2.2.1; have h4 := hh.2.2.2; first | omega | (rw [if_pos (by assumption)] at h4; omega) | (rw [if_neg (by assumption)] at h4; omega))]]⟩, _, by rw [show cmdS x g q = (0, x) from by unfold cmdS; rw [if_neg (by omega), if_neg (by omega), if_neg (by omega), if_neg (by omega), if_neg (by omega), if_neg (by omega), if_pos (by omega), if_neg (fun hh => by have h1 := hh.1; have h2 := hh.2.1; have h3 := hh.2.2.1; have h4 := hh.2.2.2; first | omega | (rw [if_pos (by assumption)] at h4; omega) | (rw [if_neg (by assumption)] at h4; omega))]]⟩)
    · refine v_tabIn (pc := 50) C 441 (by first | omega | assumption) dX6_command_50 (by omega) (by rw [hs50]; rfl) (by decide) ?_
      refine v_iload_n (pc := 441) C 9 rfl dX6_command_441 ?_
      refine v_if_ne (pc := 442) C 460 (by first | omega | assumption) dX6_command_442 (by decide) (fun h442 => ?_) (fun h442 => ?_)
      · refine v_iconst (pc := 460) C dX6_command_460 ?_
        exact v_iret (pc := 461) C hr (rfl) dX6_command_461 (⟨_, rfl, Or.inr ⟨rfl, by rw [show cmdS x g q = (0, x) from by unfold cmdS; rw [if_neg (by omega), if_neg (by omega), if_neg (by omega), if_neg (by omega), if_neg (by omega), if_neg (by omega), if_neg (by omega), if_pos (by omega), if_neg (fun hh => by have h1 := hh.1; have h2 := hh.2; first | omega | exact absurd h2 (by assumption))]]⟩, _, by rw [show cmdS x g q = (0, x) from by unfold cmdS; rw [if_neg (by omega), if_neg (by omega), if_neg (by omega), if_neg (by omega), if_neg (by omega), if_neg (by omega), if_neg (by omega), if_pos (by omega), if_neg (fun hh => by have h1 := hh.1; have h2 := hh.2; first | omega | exact absurd h2 (by assumption))]]⟩)
      · refine v_aload_n (pc := 445) C 7 rfl dX6_command_445 ?_
        refine v_aload_n (pc := 446) C 7 rfl dX6_command_446 ?_
        refine v_getr (pc := 447) C inX6 goX6 (ci := 4) rfl 4 (by decide) (wF_X6_16 G) rfl sh_255 (258) rfl dX6_command_447 ?_
        refine v_cv (pc := 450) (as := [.ref (bs γ + 258)]) C (cy_X6_rests G) (wM_X6_209 G) sh_255 (ci := 4) rfl rfl (k_X6_rests G ‹_›) dX6_command_450 rfl rfl (by decide) (by decide) (Nat.le_of_ble_eq_true rfl) zc (k_I (fun z450 s450 q450 => ?_))
        rcases q450 with ⟨⟨rfl, q450⟩ | ⟨rfl, q450⟩, rfl⟩
        · refine v_if_eq (pc := 453) C 460 (by first | omega | assumption) dX6_command_453 (by decide) (fun h => absurd h (by decide)) (fun _ => ?_)
          refine v_iconst (pc := 456) C dX6_command_456 ?_
          refine v_goto (pc := 457) C 461 dX6_command_457 (by decide) ?_
          exact v_iret (pc := 461) C hr (rfl) dX6_command_461 (⟨_, rfl, Or.inl ⟨rfl, by rw [show cmdS x g q = (1, x) from by unfold cmdS; rw [if_neg (by omega), if_neg (by omega), if_neg (by omega), if_neg (by omega), if_neg (by omega), if_neg (by omega), if_neg (by omega), if_pos (by omega), if_pos (⟨by omega, by assumption⟩)]]⟩, _, by rw [show cmdS x g q = (1, x) from by unfold cmdS; rw [if_neg (by omega), if_neg (by omega), if_neg (by omega), if_neg (by omega), if_neg (by omega), if_neg (by omega), if_neg (by omega), if_pos (by omega), if_pos (⟨by omega, by assumption⟩)]]⟩)
        · refine v_if_eq (pc := 453) C 460 (by first | omega | assumption) dX6_command_453 (by decide) (fun _ => ?_) (fun h => absurd h (by decide))
          refine v_iconst (pc := 460) C dX6_command_460 ?_
          exact v_iret (pc := 461) C hr (rfl) dX6_command_461 (⟨_, rfl, Or.inr ⟨rfl, by rw [show cmdS x g q = (0, x) from by unfold cmdS; rw [if_neg (by omega), if_neg (by omega), if_neg (by omega), if_neg (by omega), if_neg (by omega), if_neg (by omega), if_neg (by omega), if_pos (by omega), if_neg (fun hh => by have h1 := hh.1; have h2 := hh.2; first | omega | exact absurd h2 (by assumption))]]⟩, _, by rw [show cmdS x g q = (0, x) from by unfold cmdS; rw [if_neg (by omega), if_neg (by omega), if_neg (by omega), if_neg (by omega), if_neg (by omega), if_neg (by omega), if_neg (by omega), if_pos (by omega), if_neg (fun hh => by have h1 := hh.1; have h2 := hh.2; first | omega | exact absurd h2 (by assumption))]]⟩)
    · refine v_tabIn (pc := 50) C 462 (by first | omega | assumption) dX6_command_50 (by omega) (by rw [hs50]; rfl) (by decide) ?_
      refine v_iload (pc := 462) C 0 rfl dX6_command_462 ?_
      refine v_bipush (pc := 464) C (by decide +kernel) dX6_command_464 ?_
      refine v_icmp_ge (pc := 466) C 498 (by first | omega | assumption) (by first | omega | assumption) dX6_command_466 (by decide) (fun h466 => ?_) (fun h466 => ?_)
      · refine v_iconst (pc := 498) C dX6_command_498 ?_
        exact v_iret (pc := 499) C hr (rfl) dX6_command_499 (⟨_, rfl, Or.inr ⟨rfl, by rw [show cmdS x g q = (0, x) from by unfold cmdS; rw [if_neg (by omega), if_neg (by omega), if_neg (by omega), if_neg (by omega), if_neg (by omega), if_neg (by omega), if_neg (by omega), if_neg (by omega), if_pos (by omega), if_neg (by omega)]]⟩, _, by rw [show cmdS x g q = (0, x) from by unfold cmdS; rw [if_neg (by omega), if_neg (by omega), if_neg (by omega), if_neg (by omega), if_neg (by omega), if_neg (by omega), if_neg (by omega), if_neg (by omega), if_pos (by omega), if_neg (by omega)]]⟩)
      · refine v_aload_n (pc := 469) C 7 rfl dX6_command_469 ?_
        refine v_getr (pc := 470) C inX6 goX6 (ci := 4) rfl 4 (by decide) (wF_X6_16 G) rfl sh_255 (258) rfl dX6_command_470 ?_
        refine v_iload_n (pc := 473) C 6 rfl dX6_command_473 ?_
        refine v_st (mS_i258 _ _ _ _ _ _ _ _ _ _ _ _ _ ) ?_
        refine v_cs (pc := 474) (as := [.ref (bs γ + 258), .int (iI (q / 10000))]) C (cy_X6_isValve G) (wM_X6_44 G) (k_X6_isValve G (⟨sh_258, by decide⟩ : sh 258 = (0, 268) ∧ 268 ≤ 4000) (by first | omega | assumption) (by first | omega | assumption)) dX6_command_474 rfl rfl (by decide) (by decide) (Nat.le_of_ble_eq_true rfl) zc (k_I (fun z474 s474 q474 => ?_))
        rcases q474 with ⟨⟨rfl, q474⟩ | ⟨rfl, q474⟩, rfl⟩
        · rw [mS_o258]
          refine v_if_eq (pc := 477) C 498 (by first | omega | assumption) dX6_command_477 (by decide) (fun h => absurd h (by decide)) (fun _ => ?_)
          refine v_aload_n (pc := 480) C 7 rfl dX6_command_480 ?_
          refine v_getr (pc := 481) C inX6 goX6 (ci := 4) rfl 4 (by decide) (wF_X6_16 G) rfl sh_255 (258) rfl dX6_command_481 ?_
          refine v_iload_n (pc := 484) C 6 rfl dX6_command_484 ?_
          refine v_iconst (pc := 485) C dX6_command_485 ?_
          refine v_st (mS_i258 _ _ _ _ _ _ _ _ _ _ _ _ _ ) ?_
          refine v_cs (pc := 486) (as := [.ref (bs γ + 258), .int (iI (q / 10000)), .int (iI 2)]) C (cy_X6_of G) (wM_X6_48 G) (k_X6_of G (⟨sh_258, by decide⟩ : sh 258 = (0, 268) ∧ 268 ≤ 4000) (by omega)) dX6_command_486 rfl rfl (by decide) (by decide) (Nat.le_of_ble_eq_true rfl) zc (k_I (fun z486 s486 q486 => ?_))
          obtain ⟨⟨ez486, rz486⟩, rfl⟩ := q486
          rw [mS_o258]
          refine v_iload (pc := 489) C 1 rfl dX6_command_489 ?_
          refine v_icmp_ne (pc := 491) C 498 (by first | omega | assumption) (by first | omega | assumption) dX6_command_491 (by decide) (fun h491 => ?_) (fun h491 => ?_)
          · refine v_iconst (pc := 498) C dX6_command_498 ?_
            exact v_iret (pc := 499) C hr (rfl) dX6_command_499 (⟨_, rfl, Or.inr ⟨rfl, by rw [show cmdS x g q = (0, x) from by unfold cmdS; rw [if_neg (by omega), if_neg (by omega), if_neg (by omega), if_neg (by omega), if_neg (by omega), if_neg (by omega), if_neg (by omega), if_neg (by omega), if_pos (by omega), if_neg (by omega)]]⟩, _, by rw [show cmdS x g q = (0, x) from by unfold cmdS; rw [if_neg (by omega), if_neg (by omega), if_neg (by omega), if_neg (by omega), if_neg (by omega), if_neg (by omega), if_neg (by omega), if_neg (by omega), if_pos (by omega), if_neg (by omega)]]⟩)
          · refine v_iconst (pc := 494) C dX6_command_494 ?_
            refine v_goto (pc := 495) C 499 dX6_command_495 (by decide) ?_
            exact v_iret (pc := 499) C hr (rfl) dX6_command_499 (⟨_, rfl, Or.inl ⟨rfl, by rw [show cmdS x g q = (1, x) from by unfold cmdS; rw [if_neg (by omega), if_neg (by omega), if_neg (by omega), if_neg (by omega), if_neg (by omega), if_neg (by omega), if_neg (by omega), if_neg (by omega), if_pos (by omega), if_pos (by omega)]]⟩, _, by rw [show cmdS x g q = (1, x) from by unfold cmdS; rw [if_neg (by omega), if_neg (by omega), if_neg (by omega), if_neg (by omega), if_neg (by omega), if_neg (by omega), if_neg (by omega), if_neg (by omega), if_pos (by omega), if_pos (by omega)]]⟩)
        · rw [mS_o258]
          refine v_if_eq (pc := 477) C 498 (by first | omega | assumption) dX6_command_477 (by decide) (fun _ => ?_) (fun h => absurd h (by decide))
          refine v_iconst (pc := 498) C dX6_command_498 ?_
          exact v_iret (pc := 499) C hr (rfl) dX6_command_499 (⟨_, rfl, Or.inr ⟨rfl, by rw [show cmdS x g q = (0, x) from by unfold cmdS; rw [if_neg (by omega), if_neg (by omega), if_neg (by omega), if_neg (by omega), if_neg (by omega), if_neg (by omega), if_neg (by omega), if_neg (by omega), if_pos (by omega), if_neg (by omega)]]⟩, _, by rw [show cmdS x g q = (0, x) from by unfold cmdS; rw [if_neg (by omega), if_neg (by omega), if_neg (by omega), if_neg (by omega), if_neg (by omega), if_neg (by omega), if_neg (by omega), if_neg (by omega), if_pos (by omega), if_neg (by omega)]]⟩)
  · refine v_tabOut (pc := 50) C 500 (by first | omega | assumption) dX6_command_50 (by omega) (by decide) ?_
    refine v_iconst (pc := 500) C dX6_command_500 ?_
    exact v_iret (pc := 501) C hr (rfl) dX6_command_501 (⟨_, rfl, Or.inr ⟨rfl, by rw [show cmdS x g q = (0, x) from by unfold cmdS; rw [if_neg (by omega), if_neg (by omega), if_neg (by omega), if_neg (by omega), if_neg (by omega), if_neg (by omega), if_neg (by omega), if_neg (by omega), if_neg (by omega)]]⟩, _, by rw [show cmdS x g q = (0, x) from by unfold cmdS; rw [if_neg (by omega), if_neg (by omega), if_neg (by omega), if_neg (by omega), if_neg (by omega), if_neg (by omega), if_neg (by omega), if_neg (by omega), if_neg (by omega)]]⟩)
