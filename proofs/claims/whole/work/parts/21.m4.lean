set_option maxHeartbeats 4000000 in
set_option maxRecDepth 100000 in
theorem k_X6_figures1 {γ : Gm} (G : Glo γ) {σ : St} {p u : Int} {r f : Int → Int} {a lo hi : Int} (hn : 0 ≤ σ 255 2 ∧ σ 255 2 ≤ 120) (hp : 0 ≤ p ∧ p ≤ 200) (ht : ∀ i, 0 ≤ i → i < σ 255 2 → 0 ≤ σ 256 i ∧ σ 256 i ≤ 255) (ha : R3 a) (hl : 0 ≤ lo ∧ lo ≤ hi ∧ hi ≤ 99) : Ct γ yX6_figures cX6_figures 9 (some .int) 2 [.ref (bs γ + 255), .int (iI a), .int (iI 1), .int (iI lo), .int (iI hi)] (mT σ p u r f) (pI (fun z σ2 => z = figV (σ 256) (σ 255 2) p a 1 lo hi ∧ σ2 = mT σ (figP (σ 256) (σ 255 2) p a 1 lo hi) u r f)) := by
  refine Ct.of G (by decide +kernel) (Nat.le_of_ble_eq_true rfl) (fun φ C hr => ?_)
  have C : Cx γ φ RX6 cX6_figures 9 2 := C
  refine v_lv [(0, .ref (bs γ + 255)), (1, .int (iI a)), (2, .int (iI 1)), (3, .int (iI lo)), (4, .int (iI hi))] [0, 1, 2, 3, 4] rfl ?_
  refine v_iconst (pc := 0) C dX6_figures_0 ?_
  refine v_istore (pc := 1) C [(5, .int (iI 0)), (0, .ref (bs γ + 255)), (1, .int (iI a)), (2, .int (iI 1)), (3, .int (iI lo)), (4, .int (iI hi))] dX6_figures_1 (by decide) rfl ?_
  refine v_iload_n (pc := 3) C 3 rfl dX6_figures_3 ?_
  refine v_iconst (pc := 4) C dX6_figures_4 ?_
  refine v_icmp_ne (pc := 5) C 13 (by first | omega | assumption) (by first | omega | assumption) dX6_figures_5 (by decide) (fun _ => ?_) (fun h => absurd h (by decide))
  refine v_iconst (pc := 13) C dX6_figures_13 ?_
  refine v_istore (pc := 14) C [(6, .int (iI 1)), (5, .int (iI 0)), (0, .ref (bs γ + 255)), (1, .int (iI a)), (2, .int (iI 1)), (3, .int (iI lo)), (4, .int (iI hi))] dX6_figures_14 (by decide) rfl ?_
  refine v_iload (pc := 16) C 0 rfl dX6_figures_16 ?_
  refine v_if_le (pc := 18) C 122 (by first | omega | assumption) dX6_figures_18 (by decide) (fun h => absurd h (by decide)) (fun _ => ?_)
  refine v_iload_n (pc := 21) C 3 rfl dX6_figures_21 ?_
  refine v_iconst (pc := 22) C dX6_figures_22 ?_
  refine v_icmp_eq (pc := 23) C 122 (by first | omega | assumption) (by first | omega | assumption) dX6_figures_23 (by decide) (fun h23 => ?_) (fun h23 => ?_)
  · refine v_iload_n (pc := 122) C 3 rfl dX6_figures_122 ?_
    refine v_iconst (pc := 123) C dX6_figures_123 ?_
    refine v_icmp_ne (pc := 124) C 131 (by first | omega | assumption) (by first | omega | assumption) dX6_figures_124 (by decide) (fun h124 => ?_) (fun h124 => ?_)
    · refine v_iload (pc := 131) C 1 rfl dX6_figures_131 ?_
      exact v_iret (pc := 133) C hr (rfl) dX6_figures_133 (⟨_, rfl, by unfold figV; (repeat' split) <;> omega, congrArg (fun x => mT σ x u r f) (by unfold figP; (repeat' split) <;> omega)⟩)
    · refine v_iconst (pc := 127) C dX6_figures_127 ?_
      refine v_goto (pc := 128) C 133 dX6_figures_128 (by decide) ?_
      exact v_iret (pc := 133) C hr (rfl) dX6_figures_133 (⟨_, rfl, by unfold figV; (repeat' split) <;> omega, congrArg (fun x => mT σ x u r f) (by unfold figP; (repeat' split) <;> omega)⟩)
  · refine v_aload_n (pc := 26) C 2 rfl dX6_figures_26 ?_
    refine v_geti (pc := 27) C inX6 goX6 (ci := 4) rfl 10 (by decide) (wF_X6_127 G) rfl sh_255 10 rfl dX6_figures_27 (fun z27 ez27 rz27 => ?_)
    simp only [mT_10, mT_11, mT_2, mT_256, mT_258, mT_259] at ez27
    refine v_aload_n (pc := 30) C 2 rfl dX6_figures_30 ?_
    refine v_geti (pc := 31) C inX6 goX6 (ci := 4) rfl 2 (by decide) (wF_X6_121 G) rfl sh_255 2 rfl dX6_figures_31 (fun z31 ez31 rz31 => ?_)
    simp only [mT_10, mT_11, mT_2, mT_256, mT_258, mT_259] at ez31
    refine v_icmp_ge (pc := 34) C 52 (by first | omega | assumption) (by first | omega | assumption) dX6_figures_34 (by decide) (fun h34 => ?_) (fun h34 => ?_)
    · refine v_iconst (pc := 52) C dX6_figures_52 ?_
      refine v_nm (fun d ed => ?_)
      refine v_istore (pc := 53) C [(7, .int (iI d)), (6, .int (iI 1)), (5, .int (iI 0)), (0, .ref (bs γ + 255)), (1, .int (iI a)), (2, .int (iI 1)), (3, .int (iI lo)), (4, .int (iI hi))] dX6_figures_53 (by decide) rfl ?_
      have xd : d = dg (σ 256) (σ 255 2) p := by unfold dg; split <;> omega
      refine v_iload (pc := 55) C 2 rfl dX6_figures_55 ?_
      refine v_iload (pc := 57) C 0 rfl dX6_figures_57 ?_
      refine v_iload (pc := 59) C 1 rfl dX6_figures_59 ?_
      refine v_imul (pc := 61) C dX6_figures_61 ?_
      refine v_iadd (pc := 62) C dX6_figures_62 ?_
      refine v_istore (pc := 63) C [(8, .int (iI (0 + (d * 1)))), (7, .int (iI d)), (6, .int (iI 1)), (5, .int (iI 0)), (0, .ref (bs γ + 255)), (1, .int (iI a)), (2, .int (iI 1)), (3, .int (iI lo)), (4, .int (iI hi))] dX6_figures_63 (by decide) rfl ?_
      refine v_iload (pc := 65) C 1 rfl dX6_figures_65 ?_
      refine v_i2l (pc := 67) C (by first | omega | assumption) dX6_figures_67 ?_
      refine v_lconst (pc := 68) C (z := 0) rfl dX6_figures_68 ?_
      refine v_ldc2 (pc := 69) C (wCL_X6_52 G) dX6_figures_69 ?_
      refine v_cs (pc := 72) (as := [.long (lI d), .long (lI 0), .long (lI 9)]) C (cy_X6_in G) (wM_X6_40 G) (k_X6_in G (by first | omega | assumption) (by first | omega | assumption) (by first | omega | assumption)) dX6_figures_72 rfl rfl (by decide) (by decide) (Nat.le_of_ble_eq_true rfl) zc (k_I (fun z72 s72 q72 => ?_))
      rcases q72 with ⟨⟨rfl, q72⟩ | ⟨rfl, q72⟩, rfl⟩
      · refine v_if_eq (pc := 75) C 96 (by first | omega | assumption) dX6_figures_75 (by decide) (fun h => absurd h (by decide)) (fun _ => ?_)
        refine v_iload (pc := 78) C 0 rfl dX6_figures_78 ?_
        refine v_iload (pc := 80) C 8 rfl dX6_figures_80 ?_
        refine v_icmp_gt (pc := 82) C 96 (by first | omega | assumption) (by first | omega | assumption) dX6_figures_82 (by decide) (fun h82 => ?_) (fun h82 => ?_)
        · refine v_iconst (pc := 96) C dX6_figures_96 ?_
          exact v_iret (pc := 97) C hr (rfl) dX6_figures_97 (⟨_, rfl, by unfold figV; (repeat' split) <;> omega, congrArg (fun x => mT σ x u r f) (by unfold figP; (repeat' split) <;> omega)⟩)
        · refine v_iload (pc := 85) C 0 rfl dX6_figures_85 ?_
          refine v_iload (pc := 87) C 2 rfl dX6_figures_87 ?_
          refine v_iadd (pc := 89) C dX6_figures_89 ?_
          refine v_iconst (pc := 90) C dX6_figures_90 ?_
          refine v_isub (pc := 91) C dX6_figures_91 ?_
          refine v_iload_n (pc := 92) C 7 rfl dX6_figures_92 ?_
          refine v_icmp_ge (pc := 93) C 98 (by first | omega | assumption) (by first | omega | assumption) dX6_figures_93 (by decide) (fun h93 => ?_) (fun h93 => ?_)
          · refine v_iload (pc := 98) C 0 rfl dX6_figures_98 ?_
            refine v_istore (pc := 100) C [(5, .int (iI (0 + (d * 1)))), (8, .int (iI (0 + (d * 1)))), (7, .int (iI d)), (6, .int (iI 1)), (0, .ref (bs γ + 255)), (1, .int (iI a)), (2, .int (iI 1)), (3, .int (iI lo)), (4, .int (iI hi))] dX6_figures_100 (by decide) rfl ?_
            refine v_aload_n (pc := 102) C 4 rfl dX6_figures_102 ?_
            refine v_dup (pc := 103) C rfl dX6_figures_103 ?_
            refine v_geti (pc := 104) C inX6 goX6 (ci := 4) rfl 10 (by decide) (wF_X6_127 G) rfl sh_255 10 rfl dX6_figures_104 (fun z104 ez104 rz104 => ?_)
            simp only [mT_10, mT_11, mT_2, mT_256, mT_258, mT_259] at ez104
            refine v_iconst (pc := 107) C dX6_figures_107 ?_
            refine v_iadd (pc := 108) C dX6_figures_108 ?_
            refine v_puti (pc := 109) C inX6 goX6 (ci := 4) rfl 10 (by decide) (wF_X6_127 G) rfl sh_255 tyX6 tyX6_ok nmX6 rfl rfl (fun _ => Nat.le_of_ble_eq_true rfl) (fun _ _ => ob_set_X6_10) (by first | omega | assumption) dX6_figures_109 ?_
            first | rw [mT_p10] | rw [mT_p11]
            refine v_iload (pc := 112) C 3 rfl dX6_figures_112 ?_
            refine v_bipush (pc := 114) C (by decide +kernel) dX6_figures_114 ?_
            refine v_idiv (pc := 116) C (by first | omega | assumption) (by first | omega | assumption) dX6_figures_116 ?_
            refine v_ti (x2 := 0) (by decide) ?_
            refine v_istore (pc := 117) C [(6, .int (iI 0)), (5, .int (iI (0 + (d * 1)))), (8, .int (iI (0 + (d * 1)))), (7, .int (iI d)), (0, .ref (bs γ + 255)), (1, .int (iI a)), (2, .int (iI 1)), (3, .int (iI lo)), (4, .int (iI hi))] dX6_figures_117 (by decide) rfl ?_
            refine v_goto (pc := 119) C 16 dX6_figures_119 (by decide) ?_
            refine v_iload (pc := 16) C 0 rfl dX6_figures_16 ?_
            refine v_if_le (pc := 18) C 122 (by first | omega | assumption) dX6_figures_18 (by decide) (fun _ => ?_) (fun h => absurd h (by decide))
            refine v_iload_n (pc := 122) C 5 rfl dX6_figures_122 ?_
            refine v_iconst (pc := 123) C dX6_figures_123 ?_
            refine v_icmp_ne (pc := 124) C 131 (by first | omega | assumption) (by first | omega | assumption) dX6_figures_124 (by decide) (fun h124_1 => ?_) (fun h124_1 => ?_)
            · refine v_iload (pc := 131) C 1 rfl dX6_figures_131 ?_
              exact v_iret (pc := 133) C hr (rfl) dX6_figures_133 (⟨_, rfl, by unfold figV; (repeat' split) <;> omega, congrArg (fun x => mT σ x u r f) (by unfold figP; (repeat' split) <;> omega)⟩)
            · refine v_iconst (pc := 127) C dX6_figures_127 ?_
              refine v_goto (pc := 128) C 133 dX6_figures_128 (by decide) ?_
              exact v_iret (pc := 133) C hr (rfl) dX6_figures_133 (⟨_, rfl, by unfold figV; (repeat' split) <;> omega, congrArg (fun x => mT σ x u r f) (by unfold figP; (repeat' split) <;> omega)⟩)
          · refine v_iconst (pc := 96) C dX6_figures_96 ?_
            exact v_iret (pc := 97) C hr (rfl) dX6_figures_97 (⟨_, rfl, by unfold figV; (repeat' split) <;> omega, congrArg (fun x => mT σ x u r f) (by unfold figP; (repeat' split) <;> omega)⟩)
      · refine v_if_eq (pc := 75) C 96 (by first | omega | assumption) dX6_figures_75 (by decide) (fun _ => ?_) (fun h => absurd h (by decide))
        refine v_iconst (pc := 96) C dX6_figures_96 ?_
        exact v_iret (pc := 97) C hr (rfl) dX6_figures_97 (⟨_, rfl, by unfold figV; (repeat' split) <;> omega, congrArg (fun x => mT σ x u r f) (by unfold figP; (repeat' split) <;> omega)⟩)
    · refine v_aload_n (pc := 37) C 2 rfl dX6_figures_37 ?_
      refine v_getr (pc := 38) C inX6 goX6 (ci := 4) rfl 1 (by decide) (wF_X6_7 G) rfl sh_255 (256) rfl dX6_figures_38 ?_
      refine v_aload_n (pc := 41) C 2 rfl dX6_figures_41 ?_
      refine v_geti (pc := 42) C inX6 goX6 (ci := 4) rfl 10 (by decide) (wF_X6_127 G) rfl sh_255 10 rfl dX6_figures_42 (fun z42 ez42 rz42 => ?_)
      simp only [mT_10, mT_11, mT_2, mT_256, mT_258, mT_259] at ez42
      refine v_iald (pc := 45) C sh_256 (by decide) (by first | omega | assumption) dX6_figures_45 (fun z45 ez45 rz45 => ?_)
      simp only [mT_10, mT_11, mT_2, mT_256, mT_258, mT_259] at ez45
      have wz45 : z45 = σ 256 p := by rw [ez45]; congr 1 <;> omega
      have ht9 := ht p (by omega) (by omega)
      refine v_bipush (pc := 46) C (by decide +kernel) dX6_figures_46 ?_
      refine v_isub (pc := 48) C dX6_figures_48 ?_
      refine v_goto (pc := 49) C 53 dX6_figures_49 (by decide) ?_
      refine v_nm (fun d_1 ed_1 => ?_)
      refine v_istore (pc := 53) C [(7, .int (iI d_1)), (6, .int (iI 1)), (5, .int (iI 0)), (0, .ref (bs γ + 255)), (1, .int (iI a)), (2, .int (iI 1)), (3, .int (iI lo)), (4, .int (iI hi))] dX6_figures_53 (by decide) rfl ?_
      have xd_1 : d_1 = dg (σ 256) (σ 255 2) p := by unfold dg; split <;> omega
      refine v_iload (pc := 55) C 2 rfl dX6_figures_55 ?_
      refine v_iload (pc := 57) C 0 rfl dX6_figures_57 ?_
      refine v_iload (pc := 59) C 1 rfl dX6_figures_59 ?_
      refine v_imul (pc := 61) C dX6_figures_61 ?_
      refine v_iadd (pc := 62) C dX6_figures_62 ?_
      refine v_istore (pc := 63) C [(8, .int (iI (0 + (d_1 * 1)))), (7, .int (iI d_1)), (6, .int (iI 1)), (5, .int (iI 0)), (0, .ref (bs γ + 255)), (1, .int (iI a)), (2, .int (iI 1)), (3, .int (iI lo)), (4, .int (iI hi))] dX6_figures_63 (by decide) rfl ?_
      refine v_iload (pc := 65) C 1 rfl dX6_figures_65 ?_
      refine v_i2l (pc := 67) C (by first | omega | assumption) dX6_figures_67 ?_
      refine v_lconst (pc := 68) C (z := 0) rfl dX6_figures_68 ?_
      refine v_ldc2 (pc := 69) C (wCL_X6_52 G) dX6_figures_69 ?_
      refine v_cs (pc := 72) (as := [.long (lI d_1), .long (lI 0), .long (lI 9)]) C (cy_X6_in G) (wM_X6_40 G) (k_X6_in G (by first | omega | assumption) (by first | omega | assumption) (by first | omega | assumption)) dX6_figures_72 rfl rfl (by decide) (by decide) (Nat.le_of_ble_eq_true rfl) zc (k_I (fun z72_1 s72_1 q72_1 => ?_))
      rcases q72_1 with ⟨⟨rfl, q72_1⟩ | ⟨rfl, q72_1⟩, rfl⟩
      · refine v_if_eq (pc := 75) C 96 (by first | omega | assumption) dX6_figures_75 (by decide) (fun h => absurd h (by decide)) (fun _ => ?_)
        refine v_iload (pc := 78) C 0 rfl dX6_figures_78 ?_
        refine v_iload (pc := 80) C 8 rfl dX6_figures_80 ?_
        refine v_icmp_gt (pc := 82) C 96 (by first | omega | assumption) (by first | omega | assumption) dX6_figures_82 (by decide) (fun h82_1 => ?_) (fun h82_1 => ?_)
        · refine v_iconst (pc := 96) C dX6_figures_96 ?_
          exact v_iret (pc := 97) C hr (rfl) dX6_figures_97 (⟨_, rfl, by unfold figV; (repeat' split) <;> omega, congrArg (fun x => mT σ x u r f) (by unfold figP; (repeat' split) <;> omega)⟩)
        · refine v_iload (pc := 85) C 0 rfl dX6_figures_85 ?_
          refine v_iload (pc := 87) C 2 rfl dX6_figures_87 ?_
          refine v_iadd (pc := 89) C dX6_figures_89 ?_
          refine v_iconst (pc := 90) C dX6_figures_90 ?_
          refine v_isub (pc := 91) C dX6_figures_91 ?_
          refine v_iload_n (pc := 92) C 7 rfl dX6_figures_92 ?_
          refine v_icmp_ge (pc := 93) C 98 (by first | omega | assumption) (by first | omega | assumption) dX6_figures_93 (by decide) (fun h93_1 => ?_) (fun h93_1 => ?_)
          · refine v_iload (pc := 98) C 0 rfl dX6_figures_98 ?_
            refine v_istore (pc := 100) C [(5, .int (iI (0 + (d_1 * 1)))), (8, .int (iI (0 + (d_1 * 1)))), (7, .int (iI d_1)), (6, .int (iI 1)), (0, .ref (bs γ + 255)), (1, .int (iI a)), (2, .int (iI 1)), (3, .int (iI lo)), (4, .int (iI hi))] dX6_figures_100 (by decide) rfl ?_
            refine v_aload_n (pc := 102) C 4 rfl dX6_figures_102 ?_
            refine v_dup (pc := 103) C rfl dX6_figures_103 ?_
            refine v_geti (pc := 104) C inX6 goX6 (ci := 4) rfl 10 (by decide) (wF_X6_127 G) rfl sh_255 10 rfl dX6_figures_104 (fun z104_1 ez104_1 rz104_1 => ?_)
            simp only [mT_10, mT_11, mT_2, mT_256, mT_258, mT_259] at ez104_1
            refine v_iconst (pc := 107) C dX6_figures_107 ?_
            refine v_iadd (pc := 108) C dX6_figures_108 ?_
            refine v_puti (pc := 109) C inX6 goX6 (ci := 4) rfl 10 (by decide) (wF_X6_127 G) rfl sh_255 tyX6 tyX6_ok nmX6 rfl rfl (fun _ => Nat.le_of_ble_eq_true rfl) (fun _ _ => ob_set_X6_10) (by first | omega | assumption) dX6_figures_109 ?_
            first | rw [mT_p10] | rw [mT_p11]
            refine v_iload (pc := 112) C 3 rfl dX6_figures_112 ?_
            refine v_bipush (pc := 114) C (by decide +kernel) dX6_figures_114 ?_
            refine v_idiv (pc := 116) C (by first | omega | assumption) (by first | omega | assumption) dX6_figures_116 ?_
            refine v_ti (x2 := 0) (by decide) ?_
            refine v_istore (pc := 117) C [(6, .int (iI 0)), (5, .int (iI (0 + (d_1 * 1)))), (8, .int (iI (0 + (d_1 * 1)))), (7, .int (iI d_1)), (0, .ref (bs γ + 255)), (1, .int (iI a)), (2, .int (iI 1)), (3, .int (iI lo)), (4, .int (iI hi))] dX6_figures_117 (by decide) rfl ?_
            refine v_goto (pc := 119) C 16 dX6_figures_119 (by decide) ?_
            refine v_iload (pc := 16) C 0 rfl dX6_figures_16 ?_
            refine v_if_le (pc := 18) C 122 (by first | omega | assumption) dX6_figures_18 (by decide) (fun _ => ?_) (fun h => absurd h (by decide))
            refine v_iload_n (pc := 122) C 5 rfl dX6_figures_122 ?_
            refine v_iconst (pc := 123) C dX6_figures_123 ?_
            refine v_icmp_ne (pc := 124) C 131 (by first | omega | assumption) (by first | omega | assumption) dX6_figures_124 (by decide) (fun h124_2 => ?_) (fun h124_2 => ?_)
            · refine v_iload (pc := 131) C 1 rfl dX6_figures_131 ?_
              exact v_iret (pc := 133) C hr (rfl) dX6_figures_133 (⟨_, rfl, by unfold figV; (repeat' split) <;> omega, congrArg (fun x => mT σ x u r f) (by unfold figP; (repeat' split) <;> omega)⟩)
            · refine v_iconst (pc := 127) C dX6_figures_127 ?_
              refine v_goto (pc := 128) C 133 dX6_figures_128 (by decide) ?_
              exact v_iret (pc := 133) C hr (rfl) dX6_figures_133 (⟨_, rfl, by unfold figV; (repeat' split) <;> omega, congrArg (fun x => mT σ x u r f) (by unfold figP; (repeat' split) <;> omega)⟩)
          · refine v_iconst (pc := 96) C dX6_figures_96 ?_
            exact v_iret (pc := 97) C hr (rfl) dX6_figures_97 (⟨_, rfl, by unfold figV; (repeat' split) <;> omega, congrArg (fun x => mT σ x u r f) (by unfold figP; (repeat' split) <;> omega)⟩)
      · refine v_if_eq (pc := 75) C 96 (by first | omega | assumption) dX6_figures_75 (by decide) (fun _ => ?_) (fun h => absurd h (by decide))
        refine v_iconst (pc := 96) C dX6_figures_96 ?_
        exact v_iret (pc := 97) C hr (rfl) dX6_figures_97 (⟨_, rfl, by unfold figV; (repeat' split) <;> omega, congrArg (fun x => mT σ x u r f) (by unfold figP; (repeat' split) <;> omega)⟩)

set_option maxHeartbeats 4000000 in
set_option maxRecDepth 100000 in
theorem k_X6_figures2 {γ : Gm} (G : Glo γ) {σ : St} {p u : Int} {r f : Int → Int} {a lo hi : Int} (hn : 0 ≤ σ 255 2 ∧ σ 255 2 ≤ 120) (hp : 0 ≤ p ∧ p ≤ 200) (ht : ∀ i, 0 ≤ i → i < σ 255 2 → 0 ≤ σ 256 i ∧ σ 256 i ≤ 255) (ha : R3 a) (hl : 0 ≤ lo ∧ lo ≤ hi ∧ hi ≤ 99) : Ct γ yX6_figures cX6_figures 9 (some .int) 2 [.ref (bs γ + 255), .int (iI a), .int (iI 2), .int (iI lo), .int (iI hi)] (mT σ p u r f) (pI (fun z σ2 => z = figV (σ 256) (σ 255 2) p a 2 lo hi ∧ σ2 = mT σ (figP (σ 256) (σ 255 2) p a 2 lo hi) u r f)) := by
  refine Ct.of G (by decide +kernel) (Nat.le_of_ble_eq_true rfl) (fun φ C hr => ?_)
  have C : Cx γ φ RX6 cX6_figures 9 2 := C
  refine v_lv [(0, .ref (bs γ + 255)), (1, .int (iI a)), (2, .int (iI 2)), (3, .int (iI lo)), (4, .int (iI hi))] [0, 1, 2, 3, 4] rfl ?_
  refine v_iconst (pc := 0) C dX6_figures_0 ?_
  refine v_istore (pc := 1) C [(5, .int (iI 0)), (0, .ref (bs γ + 255)), (1, .int (iI a)), (2, .int (iI 2)), (3, .int (iI lo)), (4, .int (iI hi))] dX6_figures_1 (by decide) rfl ?_
  refine v_iload_n (pc := 3) C 3 rfl dX6_figures_3 ?_
  refine v_iconst (pc := 4) C dX6_figures_4 ?_
  refine v_icmp_ne (pc := 5) C 13 (by first | omega | assumption) (by first | omega | assumption) dX6_figures_5 (by decide) (fun h => absurd h (by decide)) (fun _ => ?_)
  refine v_bipush (pc := 8) C (by decide +kernel) dX6_figures_8 ?_
  refine v_goto (pc := 10) C 14 dX6_figures_10 (by decide) ?_
  refine v_istore (pc := 14) C [(6, .int (iI 10)), (5, .int (iI 0)), (0, .ref (bs γ + 255)), (1, .int (iI a)), (2, .int (iI 2)), (3, .int (iI lo)), (4, .int (iI hi))] dX6_figures_14 (by decide) rfl ?_
  refine v_iload (pc := 16) C 0 rfl dX6_figures_16 ?_
  refine v_if_le (pc := 18) C 122 (by first | omega | assumption) dX6_figures_18 (by decide) (fun h => absurd h (by decide)) (fun _ => ?_)
  refine v_iload_n (pc := 21) C 3 rfl dX6_figures_21 ?_
  refine v_iconst (pc := 22) C dX6_figures_22 ?_
  refine v_icmp_eq (pc := 23) C 122 (by first | omega | assumption) (by first | omega | assumption) dX6_figures_23 (by decide) (fun h23 => ?_) (fun h23 => ?_)
  · refine v_iload_n (pc := 122) C 3 rfl dX6_figures_122 ?_
    refine v_iconst (pc := 123) C dX6_figures_123 ?_
    refine v_icmp_ne (pc := 124) C 131 (by first | omega | assumption) (by first | omega | assumption) dX6_figures_124 (by decide) (fun h124 => ?_) (fun h124 => ?_)
    · refine v_iload (pc := 131) C 1 rfl dX6_figures_131 ?_
      exact v_iret (pc := 133) C hr (rfl) dX6_figures_133 (⟨_, rfl, by unfold figV; (repeat' split) <;> omega, congrArg (fun x => mT σ x u r f) (by unfold figP; (repeat' split) <;> omega)⟩)
    · refine v_iconst (pc := 127) C dX6_figures_127 ?_
      refine v_goto (pc := 128) C 133 dX6_figures_128 (by decide) ?_
      exact v_iret (pc := 133) C hr (rfl) dX6_figures_133 (⟨_, rfl, by unfold figV; (repeat' split) <;> omega, congrArg (fun x => mT σ x u r f) (by unfold figP; (repeat' split) <;> omega)⟩)
  · refine v_aload_n (pc := 26) C 2 rfl dX6_figures_26 ?_
    refine v_geti (pc := 27) C inX6 goX6 (ci := 4) rfl 10 (by decide) (wF_X6_127 G) rfl sh_255 10 rfl dX6_figures_27 (fun z27 ez27 rz27 => ?_)
    simp only [mT_10, mT_11, mT_2, mT_256, mT_258, mT_259] at ez27
    refine v_aload_n (pc := 30) C 2 rfl dX6_figures_30 ?_
    refine v_geti (pc := 31) C inX6 goX6 (ci := 4) rfl 2 (by decide) (wF_X6_121 G) rfl sh_255 2 rfl dX6_figures_31 (fun z31 ez31 rz31 => ?_)
    simp only [mT_10, mT_11, mT_2, mT_256, mT_258, mT_259] at ez31
    refine v_icmp_ge (pc := 34) C 52 (by first | omega | assumption) (by first | omega | assumption) dX6_figures_34 (by decide) (fun h34 => ?_) (fun h34 => ?_)
    · refine v_iconst (pc := 52) C dX6_figures_52 ?_
      refine v_nm (fun d ed => ?_)
      refine v_istore (pc := 53) C [(7, .int (iI d)), (6, .int (iI 10)), (5, .int (iI 0)), (0, .ref (bs γ + 255)), (1, .int (iI a)), (2, .int (iI 2)), (3, .int (iI lo)), (4, .int (iI hi))] dX6_figures_53 (by decide) rfl ?_
      have xd : d = dg (σ 256) (σ 255 2) p := by unfold dg; split <;> omega
      refine v_iload (pc := 55) C 2 rfl dX6_figures_55 ?_
      refine v_iload (pc := 57) C 0 rfl dX6_figures_57 ?_
      refine v_iload (pc := 59) C 1 rfl dX6_figures_59 ?_
      refine v_imul (pc := 61) C dX6_figures_61 ?_
      refine v_iadd (pc := 62) C dX6_figures_62 ?_
      refine v_istore (pc := 63) C [(8, .int (iI (0 + (d * 10)))), (7, .int (iI d)), (6, .int (iI 10)), (5, .int (iI 0)), (0, .ref (bs γ + 255)), (1, .int (iI a)), (2, .int (iI 2)), (3, .int (iI lo)), (4, .int (iI hi))] dX6_figures_63 (by decide) rfl ?_
      refine v_iload (pc := 65) C 1 rfl dX6_figures_65 ?_
      refine v_i2l (pc := 67) C (by first | omega | assumption) dX6_figures_67 ?_
      refine v_lconst (pc := 68) C (z := 0) rfl dX6_figures_68 ?_
      refine v_ldc2 (pc := 69) C (wCL_X6_52 G) dX6_figures_69 ?_
      refine v_cs (pc := 72) (as := [.long (lI d), .long (lI 0), .long (lI 9)]) C (cy_X6_in G) (wM_X6_40 G) (k_X6_in G (by first | omega | assumption) (by first | omega | assumption) (by first | omega | assumption)) dX6_figures_72 rfl rfl (by decide) (by decide) (Nat.le_of_ble_eq_true rfl) zc (k_I (fun z72 s72 q72 => ?_))
      rcases q72 with ⟨⟨rfl, q72⟩ | ⟨rfl, q72⟩, rfl⟩
      · refine v_if_eq (pc := 75) C 96 (by first | omega | assumption) dX6_figures_75 (by decide) (fun h => absurd h (by decide)) (fun _ => ?_)
        refine v_iload (pc := 78) C 0 rfl dX6_figures_78 ?_
        refine v_iload (pc := 80) C 8 rfl dX6_figures_80 ?_
        refine v_icmp_gt (pc := 82) C 96 (by first | omega | assumption) (by first | omega | assumption) dX6_figures_82 (by decide) (fun h82 => ?_) (fun h82 => ?_)
        · refine v_iconst (pc := 96) C dX6_figures_96 ?_
          exact v_iret (pc := 97) C hr (rfl) dX6_figures_97 (⟨_, rfl, by unfold figV; (repeat' split) <;> omega, congrArg (fun x => mT σ x u r f) (by unfold figP; (repeat' split) <;> omega)⟩)
        · refine v_iload (pc := 85) C 0 rfl dX6_figures_85 ?_
          refine v_iload (pc := 87) C 2 rfl dX6_figures_87 ?_
          refine v_iadd (pc := 89) C dX6_figures_89 ?_
          refine v_iconst (pc := 90) C dX6_figures_90 ?_
          refine v_isub (pc := 91) C dX6_figures_91 ?_
          refine v_iload_n (pc := 92) C 7 rfl dX6_figures_92 ?_
          refine v_icmp_ge (pc := 93) C 98 (by first | omega | assumption) (by first | omega | assumption) dX6_figures_93 (by decide) (fun h93 => ?_) (fun h93 => ?_)
          · refine v_iload (pc := 98) C 0 rfl dX6_figures_98 ?_
            refine v_istore (pc := 100) C [(5, .int (iI (0 + (d * 10)))), (8, .int (iI (0 + (d * 10)))), (7, .int (iI d)), (6, .int (iI 10)), (0, .ref (bs γ + 255)), (1, .int (iI a)), (2, .int (iI 2)), (3, .int (iI lo)), (4, .int (iI hi))] dX6_figures_100 (by decide) rfl ?_
            refine v_aload_n (pc := 102) C 4 rfl dX6_figures_102 ?_
            refine v_dup (pc := 103) C rfl dX6_figures_103 ?_
            refine v_geti (pc := 104) C inX6 goX6 (ci := 4) rfl 10 (by decide) (wF_X6_127 G) rfl sh_255 10 rfl dX6_figures_104 (fun z104 ez104 rz104 => ?_)
            simp only [mT_10, mT_11, mT_2, mT_256, mT_258, mT_259] at ez104
            refine v_iconst (pc := 107) C dX6_figures_107 ?_
            refine v_iadd (pc := 108) C dX6_figures_108 ?_
            refine v_puti (pc := 109) C inX6 goX6 (ci := 4) rfl 10 (by decide) (wF_X6_127 G) rfl sh_255 tyX6 tyX6_ok nmX6 rfl rfl (fun _ => Nat.le_of_ble_eq_true rfl) (fun _ _ => ob_set_X6_10) (by first | omega | assumption) dX6_figures_109 ?_
            first | rw [mT_p10] | rw [mT_p11]
            refine v_iload (pc := 112) C 3 rfl dX6_figures_112 ?_
            refine v_bipush (pc := 114) C (by decide +kernel) dX6_figures_114 ?_
            refine v_idiv (pc := 116) C (by first | omega | assumption) (by first | omega | assumption) dX6_figures_116 ?_
            refine v_ti (x2 := 1) (by decide) ?_
            refine v_istore (pc := 117) C [(6, .int (iI 1)), (5, .int (iI (0 + (d * 10)))), (8, .int (iI (0 + (d * 10)))), (7, .int (iI d)), (0, .ref (bs γ + 255)), (1, .int (iI a)), (2, .int (iI 2)), (3, .int (iI lo)), (4, .int (iI hi))] dX6_figures_117 (by decide) rfl ?_
            refine v_goto (pc := 119) C 16 dX6_figures_119 (by decide) ?_
            refine v_iload (pc := 16) C 0 rfl dX6_figures_16 ?_
            refine v_if_le (pc := 18) C 122 (by first | omega | assumption) dX6_figures_18 (by decide) (fun h => absurd h (by decide)) (fun _ => ?_)
            refine v_iload_n (pc := 21) C 5 rfl dX6_figures_21 ?_
            refine v_iconst (pc := 22) C dX6_figures_22 ?_
            refine v_icmp_eq (pc := 23) C 122 (by first | omega | assumption) (by first | omega | assumption) dX6_figures_23 (by decide) (fun h23_1 => ?_) (fun h23_1 => ?_)
            · refine v_iload_n (pc := 122) C 5 rfl dX6_figures_122 ?_
              refine v_iconst (pc := 123) C dX6_figures_123 ?_
              refine v_icmp_ne (pc := 124) C 131 (by first | omega | assumption) (by first | omega | assumption) dX6_figures_124 (by decide) (fun h124_1 => ?_) (fun h124_1 => ?_)
              · refine v_iload (pc := 131) C 1 rfl dX6_figures_131 ?_
                exact v_iret (pc := 133) C hr (rfl) dX6_figures_133 (⟨_, rfl, by unfold figV; (repeat' split) <;> omega, congrArg (fun x => mT σ x u r f) (by unfold figP; (repeat' split) <;> omega)⟩)
              · refine v_iconst (pc := 127) C dX6_figures_127 ?_
                refine v_goto (pc := 128) C 133 dX6_figures_128 (by decide) ?_
                exact v_iret (pc := 133) C hr (rfl) dX6_figures_133 (⟨_, rfl, by unfold figV; (repeat' split) <;> omega, congrArg (fun x => mT σ x u r f) (by unfold figP; (repeat' split) <;> omega)⟩)
            · refine v_aload_n (pc := 26) C 4 rfl dX6_figures_26 ?_
              refine v_geti (pc := 27) C inX6 goX6 (ci := 4) rfl 10 (by decide) (wF_X6_127 G) rfl sh_255 10 rfl dX6_figures_27 (fun z27_1 ez27_1 rz27_1 => ?_)
              simp only [mT_10, mT_11, mT_2, mT_256, mT_258, mT_259] at ez27_1
              refine v_aload_n (pc := 30) C 4 rfl dX6_figures_30 ?_
              refine v_geti (pc := 31) C inX6 goX6 (ci := 4) rfl 2 (by decide) (wF_X6_121 G) rfl sh_255 2 rfl dX6_figures_31 (fun z31_1 ez31_1 rz31_1 => ?_)
              simp only [mT_10, mT_11, mT_2, mT_256, mT_258, mT_259] at ez31_1
              refine v_icmp_ge (pc := 34) C 52 (by first | omega | assumption) (by first | omega | assumption) dX6_figures_34 (by decide) (fun h34_1 => ?_) (fun h34_1 => ?_)
              · refine v_iconst (pc := 52) C dX6_figures_52 ?_
                refine v_nm (fun d_1 ed_1 => ?_)
                refine v_istore (pc := 53) C [(7, .int (iI d_1)), (6, .int (iI 1)), (5, .int (iI (0 + (d * 10)))), (8, .int (iI (0 + (d * 10)))), (0, .ref (bs γ + 255)), (1, .int (iI a)), (2, .int (iI 2)), (3, .int (iI lo)), (4, .int (iI hi))] dX6_figures_53 (by decide) rfl ?_
                have xd_1 : d_1 = dg (σ 256) (σ 255 2) (p + 1) := by unfold dg; split <;> omega
                refine v_iload (pc := 55) C 2 rfl dX6_figures_55 ?_
                refine v_iload (pc := 57) C 0 rfl dX6_figures_57 ?_
                refine v_iload (pc := 59) C 1 rfl dX6_figures_59 ?_
                refine v_imul (pc := 61) C dX6_figures_61 ?_
                refine v_iadd (pc := 62) C dX6_figures_62 ?_
                refine v_istore (pc := 63) C [(8, .int (iI ((0 + (d * 10)) + (d_1 * 1)))), (7, .int (iI d_1)), (6, .int (iI 1)), (5, .int (iI (0 + (d * 10)))), (0, .ref (bs γ + 255)), (1, .int (iI a)), (2, .int (iI 2)), (3, .int (iI lo)), (4, .int (iI hi))] dX6_figures_63 (by decide) rfl ?_
                refine v_iload (pc := 65) C 1 rfl dX6_figures_65 ?_
                refine v_i2l (pc := 67) C (by first | omega | assumption) dX6_figures_67 ?_
                refine v_lconst (pc := 68) C (z := 0) rfl dX6_figures_68 ?_
                refine v_ldc2 (pc := 69) C (wCL_X6_52 G) dX6_figures_69 ?_
                refine v_cs (pc := 72) (as := [.long (lI d_1), .long (lI 0), .long (lI 9)]) C (cy_X6_in G) (wM_X6_40 G) (k_X6_in G (by first | omega | assumption) (by first | omega | assumption) (by first | omega | assumption)) dX6_figures_72 rfl rfl (by decide) (by decide) (Nat.le_of_ble_eq_true rfl) zc (k_I (fun z72_1 s72_1 q72_1 => ?_))
                rcases q72_1 with ⟨⟨rfl, q72_1⟩ | ⟨rfl, q72_1⟩, rfl⟩
                · refine v_if_eq (pc := 75) C 96 (by first | omega | assumption) dX6_figures_75 (by decide) (fun h => absurd h (by decide)) (fun _ => ?_)
                  refine v_iload (pc := 78) C 0 rfl dX6_figures_78 ?_
                  refine v_iload (pc := 80) C 8 rfl dX6_figures_80 ?_
                  refine v_icmp_gt (pc := 82) C 96 (by first | omega | assumption) (by first | omega | assumption) dX6_figures_82 (by decide) (fun h82_1 => ?_) (fun h82_1 => ?_)
                  · refine v_iconst (pc := 96) C dX6_figures_96 ?_
                    exact v_iret (pc := 97) C hr (rfl) dX6_figures_97 (⟨_, rfl, by unfold figV; (repeat' split) <;> omega, congrArg (fun x => mT σ x u r f) (by unfold figP; (repeat' split) <;> omega)⟩)
                  · refine v_iload (pc := 85) C 0 rfl dX6_figures_85 ?_
                    refine v_iload (pc := 87) C 2 rfl dX6_figures_87 ?_
                    refine v_iadd (pc := 89) C dX6_figures_89 ?_
                    refine v_iconst (pc := 90) C dX6_figures_90 ?_
                    refine v_isub (pc := 91) C dX6_figures_91 ?_
                    refine v_iload_n (pc := 92) C 7 rfl dX6_figures_92 ?_
                    refine v_icmp_ge (pc := 93) C 98 (by first | omega | assumption) (by first | omega | assumption) dX6_figures_93 (by decide) (fun h93_1 => ?_) (fun h93_1 => ?_)
                    · refine v_iload (pc := 98) C 0 rfl dX6_figures_98 ?_
                      refine v_istore (pc := 100) C [(5, .int (iI ((0 + (d * 10)) + (d_1 * 1)))), (8, .int (iI ((0 + (d * 10)) + (d_1 * 1)))), (7, .int (iI d_1)), (6, .int (iI 1)), (0, .ref (bs γ + 255)), (1, .int (iI a)), (2, .int (iI 2)), (3, .int (iI lo)), (4, .int (iI hi))] dX6_figures_100 (by decide) rfl ?_
                      refine v_aload_n (pc := 102) C 4 rfl dX6_figures_102 ?_
                      refine v_dup (pc := 103) C rfl dX6_figures_103 ?_
                      refine v_geti (pc := 104) C inX6 goX6 (ci := 4) rfl 10 (by decide) (wF_X6_127 G) rfl sh_255 10 rfl dX6_figures_104 (fun z104_1 ez104_1 rz104_1 => ?_)
                      simp only [mT_10, mT_11, mT_2, mT_256, mT_258, mT_259] at ez104_1
                      refine v_iconst (pc := 107) C dX6_figures_107 ?_
                      refine v_iadd (pc := 108) C dX6_figures_108 ?_
                      refine v_puti (pc := 109) C inX6 goX6 (ci := 4) rfl 10 (by decide) (wF_X6_127 G) rfl sh_255 tyX6 tyX6_ok nmX6 rfl rfl (fun _ => Nat.le_of_ble_eq_true rfl) (fun _ _ => ob_set_X6_10) (by first | omega | assumption) dX6_figures_109 ?_
                      first | rw [mT_p10] | rw [mT_p11]
                      refine v_iload (pc := 112) C 3 rfl dX6_figures_112 ?_
                      refine v_bipush (pc := 114) C (by decide +kernel) dX6_figures_114 ?_
                      refine v_idiv (pc := 116) C (by first | omega | assumption) (by first | omega | assumption) dX6_figures_116 ?_
                      refine v_ti (x2 := 0) (by decide) ?_
                      refine v_istore (pc := 117) C [(6, .int (iI 0)), (5, .int (iI ((0 + (d * 10)) + (d_1 * 1)))), (8, .int (iI ((0 + (d * 10)) + (d_1 * 1)))), (7, .int (iI d_1)), (0, .ref (bs γ + 255)), (1, .int (iI a)), (2, .int (iI 2)), (3, .int (iI lo)), (4, .int (iI hi))] dX6_figures_117 (by decide) rfl ?_
                      refine v_goto (pc := 119) C 16 dX6_figures_119 (by decide) ?_
                      refine v_iload (pc := 16) C 0 rfl dX6_figures_16 ?_
                      refine v_if_le (pc := 18) C 122 (by first | omega | assumption) dX6_figures_18 (by decide) (fun _ => ?_) (fun h => absurd h (by decide))
                      refine v_iload_n (pc := 122) C 5 rfl dX6_figures_122 ?_
                      refine v_iconst (pc := 123) C dX6_figures_123 ?_
                      refine v_icmp_ne (pc := 124) C 131 (by first | omega | assumption) (by first | omega | assumption) dX6_figures_124 (by decide) (fun h124_2 => ?_) (fun h124_2 => ?_)
                      · refine v_iload (pc := 131) C 1 rfl dX6_figures_131 ?_
                        exact v_iret (pc := 133) C hr (rfl) dX6_figures_133 (⟨_, rfl, by unfold figV; (repeat' split) <;> omega, congrArg (fun x => mT σ x u r f) (by unfold figP; (repeat' split) <;> omega)⟩)
                      · refine v_iconst (pc := 127) C dX6_figures_127 ?_
                        refine v_goto (pc := 128) C 133 dX6_figures_128 (by decide) ?_
                        exact v_iret (pc := 133) C hr (rfl) dX6_figures_133 (⟨_, rfl, by unfold figV; (repeat' split) <;> omega, congrArg (fun x => mT σ x u r f) (by unfold figP; (repeat' split) <;> omega)⟩)
                    · refine v_iconst (pc := 96) C dX6_figures_96 ?_
                      exact v_iret (pc := 97) C hr (rfl) dX6_figures_97 (⟨_, rfl, by unfold figV; (repeat' split) <;> omega, congrArg (fun x => mT σ x u r f) (by unfold figP; (repeat' split) <;> omega)⟩)
                · refine v_if_eq (pc := 75) C 96 (by first | omega | assumption) dX6_figures_75 (by decide) (fun _ => ?_) (fun h => absurd h (by decide))
                  refine v_iconst (pc := 96) C dX6_figures_96 ?_
                  exact v_iret (pc := 97) C hr (rfl) dX6_figures_97 (⟨_, rfl, by unfold figV; (repeat' split) <;> omega, congrArg (fun x => mT σ x u r f) (by unfold figP; (repeat' split) <;> omega)⟩)
              · refine v_aload_n (pc := 37) C 4 rfl dX6_figures_37 ?_
                refine v_getr (pc := 38) C inX6 goX6 (ci := 4) rfl 1 (by decide) (wF_X6_7 G) rfl sh_255 (256) rfl dX6_figures_38 ?_
                refine v_aload_n (pc := 41) C 4 rfl dX6_figures_41 ?_
                refine v_geti (pc := 42) C inX6 goX6 (ci := 4) rfl 10 (by decide) (wF_X6_127 G) rfl sh_255 10 rfl dX6_figures_42 (fun z42 ez42 rz42 => ?_)
                simp only [mT_10, mT_11, mT_2, mT_256, mT_258, mT_259] at ez42
                refine v_iald (pc := 45) C sh_256 (by decide) (by first | omega | assumption) dX6_figures_45 (fun z45 ez45 rz45 => ?_)
                simp only [mT_10, mT_11, mT_2, mT_256, mT_258, mT_259] at ez45
                have wz45 : z45 = σ 256 (p + 1) := by rw [ez45]; congr 1 <;> omega
                have ht9 := ht (p + 1) (by omega) (by omega)
                refine v_bipush (pc := 46) C (by decide +kernel) dX6_figures_46 ?_
                refine v_isub (pc := 48) C dX6_figures_48 ?_
                refine v_goto (pc := 49) C 53 dX6_figures_49 (by decide) ?_
                refine v_nm (fun d_2 ed_2 => ?_)
                refine v_istore (pc := 53) C [(7, .int (iI d_2)), (6, .int (iI 1)), (5, .int (iI (0 + (d * 10)))), (8, .int (iI (0 + (d * 10)))), (0, .ref (bs γ + 255)), (1, .int (iI a)), (2, .int (iI 2)), (3, .int (iI lo)), (4, .int (iI hi))] dX6_figures_53 (by decide) rfl ?_
                have xd_2 : d_2 = dg (σ 256) (σ 255 2) (p + 1) := by unfold dg; split <;> omega
                refine v_iload (pc := 55) C 2 rfl dX6_figures_55 ?_
                refine v_iload (pc := 57) C 0 rfl dX6_figures_57 ?_
                refine v_iload (pc := 59) C 1 rfl dX6_figures_59 ?_
                refine v_imul (pc := 61) C dX6_figures_61 ?_
                refine v_iadd (pc := 62) C dX6_figures_62 ?_
                refine v_istore (pc := 63) C [(8, .int (iI ((0 + (d * 10)) + (d_2 * 1)))), (7, .int (iI d_2)), (6, .int (iI 1)), (5, .int (iI (0 + (d * 10)))), (0, .ref (bs γ + 255)), (1, .int (iI a)), (2, .int (iI 2)), (3, .int (iI lo)), (4, .int (iI hi))] dX6_figures_63 (by decide) rfl ?_
                refine v_iload (pc := 65) C 1 rfl dX6_figures_65 ?_
                refine v_i2l (pc := 67) C (by first | omega | assumption) dX6_figures_67 ?_
                refine v_lconst (pc := 68) C (z := 0) rfl dX6_figures_68 ?_
                refine v_ldc2 (pc := 69) C (wCL_X6_52 G) dX6_figures_69 ?_
                refine v_cs (pc := 72) (as := [.long (lI d_2), .long (lI 0), .long (lI 9)]) C (cy_X6_in G) (wM_X6_40 G) (k_X6_in G (by first | omega | assumption) (by first | omega | assumption) (by first | omega | assumption)) dX6_figures_72 rfl rfl (by decide) (by decide) (Nat.le_of_ble_eq_true rfl) zc (k_I (fun z72_2 s72_2 q72_2 => ?_))
                rcases q72_2 with ⟨⟨rfl, q72_2⟩ | ⟨rfl, q72_2⟩, rfl⟩
                · refine v_if_eq (pc := 75) C 96 (by first | omega | assumption) dX6_figures_75 (by decide) (fun h => absurd h (by decide)) (fun _ => ?_)
                  refine v_iload (pc := 78) C 0 rfl dX6_figures_78 ?_
                  refine v_iload (pc := 80) C 8 rfl dX6_figures_80 ?_
                  refine v_icmp_gt (pc := 82) C 96 (by first | omega | assumption) (by first | omega | assumption) dX6_figures_82 (by decide) (fun h82_2 => ?_) (fun h82_2 => ?_)
                  · refine v_iconst (pc := 96) C dX6_figures_96 ?_
                    exact v_iret (pc := 97) C hr (rfl) dX6_figures_97 (⟨_, rfl, by unfold figV; (repeat' split) <;> omega, congrArg (fun x => mT σ x u r f) (by unfold figP; (repeat' split) <;> omega)⟩)
                  · refine v_iload (pc := 85) C 0 rfl dX6_figures_85 ?_
                    refine v_iload (pc := 87) C 2 rfl dX6_figures_87 ?_
                    refine v_iadd (pc := 89) C dX6_figures_89 ?_
                    refine v_iconst (pc := 90) C dX6_figures_90 ?_
                    refine v_isub (pc := 91) C dX6_figures_91 ?_
                    refine v_iload_n (pc := 92) C 7 rfl dX6_figures_92 ?_
                    refine v_icmp_ge (pc := 93) C 98 (by first | omega | assumption) (by first | omega | assumption) dX6_figures_93 (by decide) (fun h93_2 => ?_) (fun h93_2 => ?_)
                    · refine v_iload (pc := 98) C 0 rfl dX6_figures_98 ?_
                      refine v_istore (pc := 100) C [(5, .int (iI ((0 + (d * 10)) + (d_2 * 1)))), (8, .int (iI ((0 + (d * 10)) + (d_2 * 1)))), (7, .int (iI d_2)), (6, .int (iI 1)), (0, .ref (bs γ + 255)), (1, .int (iI a)), (2, .int (iI 2)), (3, .int (iI lo)), (4, .int (iI hi))] dX6_figures_100 (by decide) rfl ?_
                      refine v_aload_n (pc := 102) C 4 rfl dX6_figures_102 ?_
                      refine v_dup (pc := 103) C rfl dX6_figures_103 ?_
                      refine v_geti (pc := 104) C inX6 goX6 (ci := 4) rfl 10 (by decide) (wF_X6_127 G) rfl sh_255 10 rfl dX6_figures_104 (fun z104_2 ez104_2 rz104_2 => ?_)
                      simp only [mT_10, mT_11, mT_2, mT_256, mT_258, mT_259] at ez104_2
                      refine v_iconst (pc := 107) C dX6_figures_107 ?_
                      refine v_iadd (pc := 108) C dX6_figures_108 ?_
                      refine v_puti (pc := 109) C inX6 goX6 (ci := 4) rfl 10 (by decide) (wF_X6_127 G) rfl sh_255 tyX6 tyX6_ok nmX6 rfl rfl (fun _ => Nat.le_of_ble_eq_true rfl) (fun _ _ => ob_set_X6_10) (by first | omega | assumption) dX6_figures_109 ?_
                      first | rw [mT_p10] | rw [mT_p11]
                      refine v_iload (pc := 112) C 3 rfl dX6_figures_112 ?_
                      refine v_bipush (pc := 114) C (by decide +kernel) dX6_figures_114 ?_
                      refine v_idiv (pc := 116) C (by first | omega | assumption) (by first | omega | assumption) dX6_figures_116 ?_
                      refine v_ti (x2 := 0) (by decide) ?_
                      refine v_istore (pc := 117) C [(6, .int (iI 0)), (5, .int (iI ((0 + (d * 10)) + (d_2 * 1)))), (8, .int (iI ((0 + (d * 10)) + (d_2 * 1)))), (7, .int (iI d_2)), (0, .ref (bs γ + 255)), (1, .int (iI a)), (2, .int (iI 2)), (3, .int (iI lo)), (4, .int (iI hi))] dX6_figures_117 (by decide) rfl ?_
                      refine v_goto (pc := 119) C 16 dX6_figures_119 (by decide) ?_
                      refine v_iload (pc := 16) C 0 rfl dX6_figures_16 ?_
                      refine v_if_le (pc := 18) C 122 (by first | omega | assumption) dX6_figures_18 (by decide) (fun _ => ?_) (fun h => absurd h (by decide))
                      refine v_iload_n (pc := 122) C 5 rfl dX6_figures_122 ?_
                      refine v_iconst (pc := 123) C dX6_figures_123 ?_
                      refine v_icmp_ne (pc := 124) C 131 (by first | omega | assumption) (by first | omega | assumption) dX6_figures_124 (by decide) (fun h124_3 => ?_) (fun h124_3 => ?_)
                      · refine v_iload (pc := 131) C 1 rfl dX6_figures_131 ?_
                        exact v_iret (pc := 133) C hr (rfl) dX6_figures_133 (⟨_, rfl, by unfold figV; (repeat' split) <;> omega, congrArg (fun x => mT σ x u r f) (by unfold figP; (repeat' split) <;> omega)⟩)
                      · refine v_iconst (pc := 127) C dX6_figures_127 ?_
                        refine v_goto (pc := 128) C 133 dX6_figures_128 (by decide) ?_
                        exact v_iret (pc := 133) C hr (rfl) dX6_figures_133 (⟨_, rfl, by unfold figV; (repeat' split) <;> omega, congrArg (fun x => mT σ x u r f) (by unfold figP; (repeat' split) <;> omega)⟩)
                    · refine v_iconst (pc := 96) C dX6_figures_96 ?_
                      exact v_iret (pc := 97) C hr (rfl) dX6_figures_97 (⟨_, rfl, by unfold figV; (repeat' split) <;> omega, congrArg (fun x => mT σ x u r f) (by unfold figP; (repeat' split) <;> omega)⟩)
                · refine v_if_eq (pc := 75) C 96 (by first | omega | assumption) dX6_figures_75 (by decide) (fun _ => ?_) (fun h => absurd h (by decide))
                  refine v_iconst (pc := 96) C dX6_figures_96 ?_
                  exact v_iret (pc := 97) C hr (rfl) dX6_figures_97 (⟨_, rfl, by unfold figV; (repeat' split) <;> omega, congrArg (fun x => mT σ x u r f) (by unfold figP; (repeat' split) <;> omega)⟩)
          · refine v_iconst (pc := 96) C dX6_figures_96 ?_
            exact v_iret (pc := 97) C hr (rfl) dX6_figures_97 (⟨_, rfl, by unfold figV; (repeat' split) <;> omega, congrArg (fun x => mT σ x u r f) (by unfold figP; (repeat' split) <;> omega)⟩)
      · refine v_if_eq (pc := 75) C 96 (by first | omega | assumption) dX6_figures_75 (by decide) (fun _ => ?_) (fun h => absurd h (by decide))
        refine v_iconst (pc := 96) C dX6_figures_96 ?_
        exact v_iret (pc := 97) C hr (rfl) dX6_figures_97 (⟨_, rfl, by unfold figV; (repeat' split) <;> omega, congrArg (fun x => mT σ x u r f) (by unfold figP; (repeat' split) <;> omega)⟩)
    · refine v_aload_n (pc := 37) C 2 rfl dX6_figures_37 ?_
      refine v_getr (pc := 38) C inX6 goX6 (ci := 4) rfl 1 (by decide) (wF_X6_7 G) rfl sh_255 (256) rfl dX6_figures_38 ?_
      refine v_aload_n (pc := 41) C 2 rfl dX6_figures_41 ?_
      refine v_geti (pc := 42) C inX6 goX6 (ci := 4) rfl 10 (by decide) (wF_X6_127 G) rfl sh_255 10 rfl dX6_figures_42 (fun z42_1 ez42_1 rz42_1 => ?_)
      simp only [mT_10, mT_11, mT_2, mT_256, mT_258, mT_259] at ez42_1
      refine v_iald (pc := 45) C sh_256 (by decide) (by first | omega | assumption) dX6_figures_45 (fun z45_1 ez45_1 rz45_1 => ?_)
      simp only [mT_10, mT_11, mT_2, mT_256, mT_258, mT_259] at ez45_1
      have wz45_1 : z45_1 = σ 256 p := by rw [ez45_1]; congr 1 <;> omega
      have ht9 := ht p (by omega) (by omega)
      refine v_bipush (pc := 46) C (by decide +kernel) dX6_figures_46 ?_
      refine v_isub (pc := 48) C dX6_figures_48 ?_
      refine v_goto (pc := 49) C 53 dX6_figures_49 (by decide) ?_
      refine v_nm (fun d_3 ed_3 => ?_)
      refine v_istore (pc := 53) C [(7, .int (iI d_3)), (6, .int (iI 10)), (5, .int (iI 0)), (0, .ref (bs γ + 255)), (1, .int (iI a)), (2, .int (iI 2)), (3, .int (iI lo)), (4, .int (iI hi))] dX6_figures_53 (by decide) rfl ?_
      have xd_3 : d_3 = dg (σ 256) (σ 255 2) p := by unfold dg; split <;> omega
      refine v_iload (pc := 55) C 2 rfl dX6_figures_55 ?_
      refine v_iload (pc := 57) C 0 rfl dX6_figures_57 ?_
      refine v_iload (pc := 59) C 1 rfl dX6_figures_59 ?_
      refine v_imul (pc := 61) C dX6_figures_61 ?_
      refine v_iadd (pc := 62) C dX6_figures_62 ?_
      refine v_istore (pc := 63) C [(8, .int (iI (0 + (d_3 * 10)))), (7, .int (iI d_3)), (6, .int (iI 10)), (5, .int (iI 0)), (0, .ref (bs γ + 255)), (1, .int (iI a)), (2, .int (iI 2)), (3, .int (iI lo)), (4, .int (iI hi))] dX6_figures_63 (by decide) rfl ?_
      refine v_iload (pc := 65) C 1 rfl dX6_figures_65 ?_
      refine v_i2l (pc := 67) C (by first | omega | assumption) dX6_figures_67 ?_
      refine v_lconst (pc := 68) C (z := 0) rfl dX6_figures_68 ?_
      refine v_ldc2 (pc := 69) C (wCL_X6_52 G) dX6_figures_69 ?_
      refine v_cs (pc := 72) (as := [.long (lI d_3), .long (lI 0), .long (lI 9)]) C (cy_X6_in G) (wM_X6_40 G) (k_X6_in G (by first | omega | assumption) (by first | omega | assumption) (by first | omega | assumption)) dX6_figures_72 rfl rfl (by decide) (by decide) (Nat.le_of_ble_eq_true rfl) zc (k_I (fun z72_3 s72_3 q72_3 => ?_))
      rcases q72_3 with ⟨⟨rfl, q72_3⟩ | ⟨rfl, q72_3⟩, rfl⟩
      · refine v_if_eq (pc := 75) C 96 (by first | omega | assumption) dX6_figures_75 (by decide) (fun h => absurd h (by decide)) (fun _ => ?_)
        refine v_iload (pc := 78) C 0 rfl dX6_figures_78 ?_
        refine v_iload (pc := 80) C 8 rfl dX6_figures_80 ?_
        refine v_icmp_gt (pc := 82) C 96 (by first | omega | assumption) (by first | omega | assumption) dX6_figures_82 (by decide) (fun h82_3 => ?_) (fun h82_3 => ?_)
        · refine v_iconst (pc := 96) C dX6_figures_96 ?_
          exact v_iret (pc := 97) C hr (rfl) dX6_figures_97 (⟨_, rfl, by unfold figV; (repeat' split) <;> omega, congrArg (fun x => mT σ x u r f) (by unfold figP; (repeat' split) <;> omega)⟩)
        · refine v_iload (pc := 85) C 0 rfl dX6_figures_85 ?_
          refine v_iload (pc := 87) C 2 rfl dX6_figures_87 ?_
          refine v_iadd (pc := 89) C dX6_figures_89 ?_
          refine v_iconst (pc := 90) C dX6_figures_90 ?_
          refine v_isub (pc := 91) C dX6_figures_91 ?_
          refine v_iload_n (pc := 92) C 7 rfl dX6_figures_92 ?_
          refine v_icmp_ge (pc := 93) C 98 (by first | omega | assumption) (by first | omega | assumption) dX6_figures_93 (by decide) (fun h93_3 => ?_) (fun h93_3 => ?_)
          · refine v_iload (pc := 98) C 0 rfl dX6_figures_98 ?_
            refine v_istore (pc := 100) C [(5, .int (iI (0 + (d_3 * 10)))), (8, .int (iI (0 + (d_3 * 10)))), (7, .int (iI d_3)), (6, .int (iI 10)), (0, .ref (bs γ + 255)), (1, .int (iI a)), (2, .int (iI 2)), (3, .int (iI lo)), (4, .int (iI hi))] dX6_figures_100 (by decide) rfl ?_
            refine v_aload_n (pc := 102) C 4 rfl dX6_figures_102 ?_
            refine v_dup (pc := 103) C rfl dX6_figures_103 ?_
            refine v_geti (pc := 104) C inX6 goX6 (ci := 4) rfl 10 (by decide) (wF_X6_127 G) rfl sh_255 10 rfl dX6_figures_104 (fun z104_3 ez104_3 rz104_3 => ?_)
            simp only [mT_10, mT_11, mT_2, mT_256, mT_258, mT_259] at ez104_3
            refine v_iconst (pc := 107) C dX6_figures_107 ?_
            refine v_iadd (pc := 108) C dX6_figures_108 ?_
            refine v_puti (pc := 109) C inX6 goX6 (ci := 4) rfl 10 (by decide) (wF_X6_127 G) rfl sh_255 tyX6 tyX6_ok nmX6 rfl rfl (fun _ => Nat.le_of_ble_eq_true rfl) (fun _ _ => ob_set_X6_10) (by first | omega | assumption) dX6_figures_109 ?_
            first | rw [mT_p10] | rw [mT_p11]
            refine v_iload (pc := 112) C 3 rfl dX6_figures_112 ?_
            refine v_bipush (pc := 114) C (by decide +kernel) dX6_figures_114 ?_
            refine v_idiv (pc := 116) C (by first | omega | assumption) (by first | omega | assumption) dX6_figures_116 ?_
            refine v_ti (x2 := 1) (by decide) ?_
            refine v_istore (pc := 117) C [(6, .int (iI 1)), (5, .int (iI (0 + (d_3 * 10)))), (8, .int (iI (0 + (d_3 * 10)))), (7, .int (iI d_3)), (0, .ref (bs γ + 255)), (1, .int (iI a)), (2, .int (iI 2)), (3, .int (iI lo)), (4, .int (iI hi))] dX6_figures_117 (by decide) rfl ?_
            refine v_goto (pc := 119) C 16 dX6_figures_119 (by decide) ?_
            refine v_iload (pc := 16) C 0 rfl dX6_figures_16 ?_
            refine v_if_le (pc := 18) C 122 (by first | omega | assumption) dX6_figures_18 (by decide) (fun h => absurd h (by decide)) (fun _ => ?_)
            refine v_iload_n (pc := 21) C 5 rfl dX6_figures_21 ?_
            refine v_iconst (pc := 22) C dX6_figures_22 ?_
            refine v_icmp_eq (pc := 23) C 122 (by first | omega | assumption) (by first | omega | assumption) dX6_figures_23 (by decide) (fun h23_2 => ?_) (fun h23_2 => ?_)
            · refine v_iload_n (pc := 122) C 5 rfl dX6_figures_122 ?_
              refine v_iconst (pc := 123) C dX6_figures_123 ?_
              refine v_icmp_ne (pc := 124) C 131 (by first | omega | assumption) (by first | omega | assumption) dX6_figures_124 (by decide) (fun h124_4 => ?_) (fun h124_4 => ?_)
              · refine v_iload (pc := 131) C 1 rfl dX6_figures_131 ?_
                exact v_iret (pc := 133) C hr (rfl) dX6_figures_133 (⟨_, rfl, by unfold figV; (repeat' split) <;> omega, congrArg (fun x => mT σ x u r f) (by unfold figP; (repeat' split) <;> omega)⟩)
              · refine v_iconst (pc := 127) C dX6_figures_127 ?_
                refine v_goto (pc := 128) C 133 dX6_figures_128 (by decide) ?_
                exact v_iret (pc := 133) C hr (rfl) dX6_figures_133 (⟨_, rfl, by unfold figV; (repeat' split) <;> omega, congrArg (fun x => mT σ x u r f) (by unfold figP; (repeat' split) <;> omega)⟩)
            · refine v_aload_n (pc := 26) C 4 rfl dX6_figures_26 ?_
              refine v_geti (pc := 27) C inX6 goX6 (ci := 4) rfl 10 (by decide) (wF_X6_127 G) rfl sh_255 10 rfl dX6_figures_27 (fun z27_2 ez27_2 rz27_2 => ?_)
              simp only [mT_10, mT_11, mT_2, mT_256, mT_258, mT_259] at ez27_2
              refine v_aload_n (pc := 30) C 4 rfl dX6_figures_30 ?_
              refine v_geti (pc := 31) C inX6 goX6 (ci := 4) rfl 2 (by decide) (wF_X6_121 G) rfl sh_255 2 rfl dX6_figures_31 (fun z31_2 ez31_2 rz31_2 => ?_)
              simp only [mT_10, mT_11, mT_2, mT_256, mT_258, mT_259] at ez31_2
              refine v_icmp_ge (pc := 34) C 52 (by first | omega | assumption) (by first | omega | assumption) dX6_figures_34 (by decide) (fun h34_2 => ?_) (fun h34_2 => ?_)
              · refine v_iconst (pc := 52) C dX6_figures_52 ?_
                refine v_nm (fun d_4 ed_4 => ?_)
                refine v_istore (pc := 53) C [(7, .int (iI d_4)), (6, .int (iI 1)), (5, .int (iI (0 + (d_3 * 10)))), (8, .int (iI (0 + (d_3 * 10)))), (0, .ref (bs γ + 255)), (1, .int (iI a)), (2, .int (iI 2)), (3, .int (iI lo)), (4, .int (iI hi))] dX6_figures_53 (by decide) rfl ?_
                have xd_4 : d_4 = dg (σ 256) (σ 255 2) (p + 1) := by unfold dg; split <;> omega
                refine v_iload (pc := 55) C 2 rfl dX6_figures_55 ?_
                refine v_iload (pc := 57) C 0 rfl dX6_figures_57 ?_
                refine v_iload (pc := 59) C 1 rfl dX6_figures_59 ?_
                refine v_imul (pc := 61) C dX6_figures_61 ?_
                refine v_iadd (pc := 62) C dX6_figures_62 ?_
                refine v_istore (pc := 63) C [(8, .int (iI ((0 + (d_3 * 10)) + (d_4 * 1)))), (7, .int (iI d_4)), (6, .int (iI 1)), (5, .int (iI (0 + (d_3 * 10)))), (0, .ref (bs γ + 255)), (1, .int (iI a)), (2, .int (iI 2)), (3, .int (iI lo)), (4, .int (iI hi))] dX6_figures_63 (by decide) rfl ?_
                refine v_iload (pc := 65) C 1 rfl dX6_figures_65 ?_
                refine v_i2l (pc := 67) C (by first | omega | assumption) dX6_figures_67 ?_
                refine v_lconst (pc := 68) C (z := 0) rfl dX6_figures_68 ?_
                refine v_ldc2 (pc := 69) C (wCL_X6_52 G) dX6_figures_69 ?_
                refine v_cs (pc := 72) (as := [.long (lI d_4), .long (lI 0), .long (lI 9)]) C (cy_X6_in G) (wM_X6_40 G) (k_X6_in G (by first | omega | assumption) (by first | omega | assumption) (by first | omega | assumption)) dX6_figures_72 rfl rfl (by decide) (by decide) (Nat.le_of_ble_eq_true rfl) zc (k_I (fun z72_4 s72_4 q72_4 => ?_))
                rcases q72_4 with ⟨⟨rfl, q72_4⟩ | ⟨rfl, q72_4⟩, rfl⟩
                · refine v_if_eq (pc := 75) C 96 (by first | omega | assumption) dX6_figures_75 (by decide) (fun h => absurd h (by decide)) (fun _ => ?_)
                  refine v_iload (pc := 78) C 0 rfl dX6_figures_78 ?_
                  refine v_iload (pc := 80) C 8 rfl dX6_figures_80 ?_
                  refine v_icmp_gt (pc := 82) C 96 (by first | omega | assumption) (by first | omega | assumption) dX6_figures_82 (by decide) (fun h82_4 => ?_) (fun h82_4 => ?_)
                  · refine v_iconst (pc := 96) C dX6_figures_96 ?_
                    exact v_iret (pc := 97) C hr (rfl) dX6_figures_97 (⟨_, rfl, by unfold figV; (repeat' split) <;> omega, congrArg (fun x => mT σ x u r f) (by unfold figP; (repeat' split) <;> omega)⟩)
                  · refine v_iload (pc := 85) C 0 rfl dX6_figures_85 ?_
                    refine v_iload (pc := 87) C 2 rfl dX6_figures_87 ?_
                    refine v_iadd (pc := 89) C dX6_figures_89 ?_
                    refine v_iconst (pc := 90) C dX6_figures_90 ?_
                    refine v_isub (pc := 91) C dX6_figures_91 ?_
                    refine v_iload_n (pc := 92) C 7 rfl dX6_figures_92 ?_
                    refine v_icmp_ge (pc := 93) C 98 (by first | omega | assumption) (by first | omega | assumption) dX6_figures_93 (by decide) (fun h93_4 => ?_) (fun h93_4 => ?_)
                    · refine v_iload (pc := 98) C 0 rfl dX6_figures_98 ?_
                      refine v_istore (pc := 100) C [(5, .int (iI ((0 + (d_3 * 10)) + (d_4 * 1)))), (8, .int (iI ((0 + (d_3 * 10)) + (d_4 * 1)))), (7, .int (iI d_4)), (6, .int (iI 1)), (0, .ref (bs γ + 255)), (1, .int (iI a)), (2, .int (iI 2)), (3, .int (iI lo)), (4, .int (iI hi))] dX6_figures_100 (by decide) rfl ?_
                      refine v_aload_n (pc := 102) C 4 rfl dX6_figures_102 ?_
                      refine v_dup (pc := 103) C rfl dX6_figures_103 ?_
                      refine v_geti (pc := 104) C inX6 goX6 (ci := 4) rfl 10 (by decide) (wF_X6_127 G) rfl sh_255 10 rfl dX6_figures_104 (fun z104_4 ez104_4 rz104_4 => ?_)
                      simp only [mT_10, mT_11, mT_2, mT_256, mT_258, mT_259] at ez104_4
                      refine v_iconst (pc := 107) C dX6_figures_107 ?_
                      refine v_iadd (pc := 108) C dX6_figures_108 ?_
                      refine v_puti (pc := 109) C inX6 goX6 (ci := 4) rfl 10 (by decide) (wF_X6_127 G) rfl sh_255 tyX6 tyX6_ok nmX6 rfl rfl (fun _ => Nat.le_of_ble_eq_true rfl) (fun _ _ => ob_set_X6_10) (by first | omega | assumption) dX6_figures_109 ?_
                      first | rw [mT_p10] | rw [mT_p11]
                      refine v_iload (pc := 112) C 3 rfl dX6_figures_112 ?_
                      refine v_bipush (pc := 114) C (by decide +kernel) dX6_figures_114 ?_
                      refine v_idiv (pc := 116) C (by first | omega | assumption) (by first | omega | assumption) dX6_figures_116 ?_
                      refine v_ti (x2 := 0) (by decide) ?_
                      refine v_istore (pc := 117) C [(6, .int (iI 0)), (5, .int (iI ((0 + (d_3 * 10)) + (d_4 * 1)))), (8, .int (iI ((0 + (d_3 * 10)) + (d_4 * 1)))), (7, .int (iI d_4)), (0, .ref (bs γ + 255)), (1, .int (iI a)), (2, .int (iI 2)), (3, .int (iI lo)), (4, .int (iI hi))] dX6_figures_117 (by decide) rfl ?_
                      refine v_goto (pc := 119) C 16 dX6_figures_119 (by decide) ?_
                      refine v_iload (pc := 16) C 0 rfl dX6_figures_16 ?_
                      refine v_if_le (pc := 18) C 122 (by first | omega | assumption) dX6_figures_18 (by decide) (fun _ => ?_) (fun h => absurd h (by decide))
                      refine v_iload_n (pc := 122) C 5 rfl dX6_figures_122 ?_
                      refine v_iconst (pc := 123) C dX6_figures_123 ?_
                      refine v_icmp_ne (pc := 124) C 131 (by first | omega | assumption) (by first | omega | assumption) dX6_figures_124 (by decide) (fun h124_5 => ?_) (fun h124_5 => ?_)
                      · refine v_iload (pc := 131) C 1 rfl dX6_figures_131 ?_
                        exact v_iret (pc := 133) C hr (rfl) dX6_figures_133 (⟨_, rfl, by unfold figV; (repeat' split) <;> omega, congrArg (fun x => mT σ x u r f) (by unfold figP; (repeat' split) <;> omega)⟩)
                      · refine v_iconst (pc := 127) C dX6_figures_127 ?_
                        refine v_goto (pc := 128) C 133 dX6_figures_128 (by decide) ?_
                        exact v_iret (pc := 133) C hr (rfl) dX6_figures_133 (⟨_, rfl, by unfold figV; (repeat' split) <;> omega, congrArg (fun x => mT σ x u r f) (by unfold figP; (repeat' split) <;> omega)⟩)
                    · refine v_iconst (pc := 96) C dX6_figures_96 ?_
                      exact v_iret (pc := 97) C hr (rfl) dX6_figures_97 (⟨_, rfl, by unfold figV; (repeat' split) <;> omega, congrArg (fun x => mT σ x u r f) (by unfold figP; (repeat' split) <;> omega)⟩)
                · refine v_if_eq (pc := 75) C 96 (by first | omega | assumption) dX6_figures_75 (by decide) (fun _ => ?_) (fun h => absurd h (by decide))
                  refine v_iconst (pc := 96) C dX6_figures_96 ?_
                  exact v_iret (pc := 97) C hr (rfl) dX6_figures_97 (⟨_, rfl, by unfold figV; (repeat' split) <;> omega, congrArg (fun x => mT σ x u r f) (by unfold figP; (repeat' split) <;> omega)⟩)
              · refine v_aload_n (pc := 37) C 4 rfl dX6_figures_37 ?_
                refine v_getr (pc := 38) C inX6 goX6 (ci := 4) rfl 1 (by decide) (wF_X6_7 G) rfl sh_255 (256) rfl dX6_figures_38 ?_
                refine v_aload_n (pc := 41) C 4 rfl dX6_figures_41 ?_
                refine v_geti (pc := 42) C inX6 goX6 (ci := 4) rfl 10 (by decide) (wF_X6_127 G) rfl sh_255 10 rfl dX6_figures_42 (fun z42_2 ez42_2 rz42_2 => ?_)
                simp only [mT_10, mT_11, mT_2, mT_256, mT_258, mT_259] at ez42_2
                refine v_iald (pc := 45) C sh_256 (by decide) (by first | omega | assumption) dX6_figures_45 (fun z45_2 ez45_2 rz45_2 => ?_)
                simp only [mT_10, mT_11, mT_2, mT_256, mT_258, mT_259] at ez45_2
                have wz45_2 : z45_2 = σ 256 (p + 1) := by rw [ez45_2]; congr 1 <;> omega
                have ht9 := ht (p + 1) (by omega) (by omega)
                refine v_bipush (pc := 46) C (by decide +kernel) dX6_figures_46 ?_
                refine v_isub (pc := 48) C dX6_figures_48 ?_
                refine v_goto (pc := 49) C 53 dX6_figures_49 (by decide) ?_
                refine v_nm (fun d_5 ed_5 => ?_)
                refine v_istore (pc := 53) C [(7, .int (iI d_5)), (6, .int (iI 1)), (5, .int (iI (0 + (d_3 * 10)))), (8, .int (iI (0 + (d_3 * 10)))), (0, .ref (bs γ + 255)), (1, .int (iI a)), (2, .int (iI 2)), (3, .int (iI lo)), (4, .int (iI hi))] dX6_figures_53 (by decide) rfl ?_
                have xd_5 : d_5 = dg (σ 256) (σ 255 2) (p + 1) := by unfold dg; split <;> omega
                refine v_iload (pc := 55) C 2 rfl dX6_figures_55 ?_
                refine v_iload (pc := 57) C 0 rfl dX6_figures_57 ?_
                refine v_iload (pc := 59) C 1 rfl dX6_figures_59 ?_
                refine v_imul (pc := 61) C dX6_figures_61 ?_
                refine v_iadd (pc := 62) C dX6_figures_62 ?_
                refine v_istore (pc := 63) C [(8, .int (iI ((0 + (d_3 * 10)) + (d_5 * 1)))), (7, .int (iI d_5)), (6, .int (iI 1)), (5, .int (iI (0 + (d_3 * 10)))), (0, .ref (bs γ + 255)), (1, .int (iI a)), (2, .int (iI 2)), (3, .int (iI lo)), (4, .int (iI hi))] dX6_figures_63 (by decide) rfl ?_
                refine v_iload (pc := 65) C 1 rfl dX6_figures_65 ?_
                refine v_i2l (pc := 67) C (by first | omega | assumption) dX6_figures_67 ?_
                refine v_lconst (pc := 68) C (z := 0) rfl dX6_figures_68 ?_
                refine v_ldc2 (pc := 69) C (wCL_X6_52 G) dX6_figures_69 ?_
                refine v_cs (pc := 72) (as := [.long (lI d_5), .long (lI 0), .long (lI 9)]) C (cy_X6_in G) (wM_X6_40 G) (k_X6_in G (by first | omega | assumption) (by first | omega | assumption) (by first | omega | assumption)) dX6_figures_72 rfl rfl (by decide) (by decide) (Nat.le_of_ble_eq_true rfl) zc (k_I (fun z72_5 s72_5 q72_5 => ?_))
                rcases q72_5 with ⟨⟨rfl, q72_5⟩ | ⟨rfl, q72_5⟩, rfl⟩
                · refine v_if_eq (pc := 75) C 96 (by first | omega | assumption) dX6_figures_75 (by decide) (fun h => absurd h (by decide)) (fun _ => ?_)
                  refine v_iload (pc := 78) C 0 rfl dX6_figures_78 ?_
                  refine v_iload (pc := 80) C 8 rfl dX6_figures_80 ?_
                  refine v_icmp_gt (pc := 82) C 96 (by first | omega | assumption) (by first | omega | assumption) dX6_figures_82 (by decide) (fun h82_5 => ?_) (fun h82_5 => ?_)
                  · refine v_iconst (pc := 96) C dX6_figures_96 ?_
                    exact v_iret (pc := 97) C hr (rfl) dX6_figures_97 (⟨_, rfl, by unfold figV; (repeat' split) <;> omega, congrArg (fun x => mT σ x u r f) (by unfold figP; (repeat' split) <;> omega)⟩)
                  · refine v_iload (pc := 85) C 0 rfl dX6_figures_85 ?_
                    refine v_iload (pc := 87) C 2 rfl dX6_figures_87 ?_
                    refine v_iadd (pc := 89) C dX6_figures_89 ?_
                    refine v_iconst (pc := 90) C dX6_figures_90 ?_
                    refine v_isub (pc := 91) C dX6_figures_91 ?_
                    refine v_iload_n (pc := 92) C 7 rfl dX6_figures_92 ?_
                    refine v_icmp_ge (pc := 93) C 98 (by first | omega | assumption) (by first | omega | assumption) dX6_figures_93 (by decide) (fun h93_5 => ?_) (fun h93_5 => ?_)
                    · refine v_iload (pc := 98) C 0 rfl dX6_figures_98 ?_
                      refine v_istore (pc := 100) C [(5, .int (iI ((0 + (d_3 * 10)) + (d_5 * 1)))), (8, .int (iI ((0 + (d_3 * 10)) + (d_5 * 1)))), (7, .int (iI d_5)), (6, .int (iI 1)), (0, .ref (bs γ + 255)), (1, .int (iI a)), (2, .int (iI 2)), (3, .int (iI lo)), (4, .int (iI hi))] dX6_figures_100 (by decide) rfl ?_
                      refine v_aload_n (pc := 102) C 4 rfl dX6_figures_102 ?_
                      refine v_dup (pc := 103) C rfl dX6_figures_103 ?_
                      refine v_geti (pc := 104) C inX6 goX6 (ci := 4) rfl 10 (by decide) (wF_X6_127 G) rfl sh_255 10 rfl dX6_figures_104 (fun z104_5 ez104_5 rz104_5 => ?_)
                      simp only [mT_10, mT_11, mT_2, mT_256, mT_258, mT_259] at ez104_5
                      refine v_iconst (pc := 107) C dX6_figures_107 ?_
                      refine v_iadd (pc := 108) C dX6_figures_108 ?_
                      refine v_puti (pc := 109) C inX6 goX6 (ci := 4) rfl 10 (by decide) (wF_X6_127 G) rfl sh_255 tyX6 tyX6_ok nmX6 rfl rfl (fun _ => Nat.le_of_ble_eq_true rfl) (fun _ _ => ob_set_X6_10) (by first | omega | assumption) dX6_figures_109 ?_
                      first | rw [mT_p10] | rw [mT_p11]
                      refine v_iload (pc := 112) C 3 rfl dX6_figures_112 ?_
                      refine v_bipush (pc := 114) C (by decide +kernel) dX6_figures_114 ?_
                      refine v_idiv (pc := 116) C (by first | omega | assumption) (by first | omega | assumption) dX6_figures_116 ?_
                      refine v_ti (x2 := 0) (by decide) ?_
                      refine v_istore (pc := 117) C [(6, .int (iI 0)), (5, .int (iI ((0 + (d_3 * 10)) + (d_5 * 1)))), (8, .int (iI ((0 + (d_3 * 10)) + (d_5 * 1)))), (7, .int (iI d_5)), (0, .ref (bs γ + 255)), (1, .int (iI a)), (2, .int (iI 2)), (3, .int (iI lo)), (4, .int (iI hi))] dX6_figures_117 (by decide) rfl ?_
                      refine v_goto (pc := 119) C 16 dX6_figures_119 (by decide) ?_
                      refine v_iload (pc := 16) C 0 rfl dX6_figures_16 ?_
                      refine v_if_le (pc := 18) C 122 (by first | omega | assumption) dX6_figures_18 (by decide) (fun _ => ?_) (fun h => absurd h (by decide))
                      refine v_iload_n (pc := 122) C 5 rfl dX6_figures_122 ?_
                      refine v_iconst (pc := 123) C dX6_figures_123 ?_
                      refine v_icmp_ne (pc := 124) C 131 (by first | omega | assumption) (by first | omega | assumption) dX6_figures_124 (by decide) (fun h124_6 => ?_) (fun h124_6 => ?_)
                      · refine v_iload (pc := 131) C 1 rfl dX6_figures_131 ?_
                        exact v_iret (pc := 133) C hr (rfl) dX6_figures_133 (⟨_, rfl, by unfold figV; (repeat' split) <;> omega, congrArg (fun x => mT σ x u r f) (by unfold figP; (repeat' split) <;> omega)⟩)
                      · refine v_iconst (pc := 127) C dX6_figures_127 ?_
                        refine v_goto (pc := 128) C 133 dX6_figures_128 (by decide) ?_
                        exact v_iret (pc := 133) C hr (rfl) dX6_figures_133 (⟨_, rfl, by unfold figV; (repeat' split) <;> omega, congrArg (fun x => mT σ x u r f) (by unfold figP; (repeat' split) <;> omega)⟩)
                    · refine v_iconst (pc := 96) C dX6_figures_96 ?_
                      exact v_iret (pc := 97) C hr (rfl) dX6_figures_97 (⟨_, rfl, by unfold figV; (repeat' split) <;> omega, congrArg (fun x => mT σ x u r f) (by unfold figP; (repeat' split) <;> omega)⟩)
                · refine v_if_eq (pc := 75) C 96 (by first | omega | assumption) dX6_figures_75 (by decide) (fun _ => ?_) (fun h => absurd h (by decide))
                  refine v_iconst (pc := 96) C dX6_figures_96 ?_
                  exact v_iret (pc := 97) C hr (rfl) dX6_figures_97 (⟨_, rfl, by unfold figV; (repeat' split) <;> omega, congrArg (fun x => mT σ x u r f) (by unfold figP; (repeat' split) <;> omega)⟩)
          · refine v_iconst (pc := 96) C dX6_figures_96 ?_
            exact v_iret (pc := 97) C hr (rfl) dX6_figures_97 (⟨_, rfl, by unfold figV; (repeat' split) <;> omega, congrArg (fun x => mT σ x u r f) (by unfold figP; (repeat' split) <;> omega)⟩)
      · refine v_if_eq (pc := 75) C 96 (by first | omega | assumption) dX6_figures_75 (by decide) (fun _ => ?_) (fun h => absurd h (by decide))
        refine v_iconst (pc := 96) C dX6_figures_96 ?_
        exact v_iret (pc := 97) C hr (rfl) dX6_figures_97 (⟨_, rfl, by unfold figV; (repeat' split) <;> omega, congrArg (fun x => mT σ x u r f) (by unfold figP; (repeat' split) <;> omega)⟩)

set_option maxHeartbeats 4000000 in
set_option maxRecDepth 100000 in
theorem k_X6_who {γ : Gm} (G : Glo γ) {σ : St} {p u : Int} {r f : Int → Int} {a : Int} (hn : 0 ≤ σ 255 2 ∧ σ 255 2 ≤ 120) (hp : 0 ≤ p ∧ p ≤ 200) (ht : ∀ i, 0 ≤ i → i < σ 255 2 → 0 ≤ σ 256 i ∧ σ 256 i ≤ 255) (ha : R3 a) : Ct γ yX6_who cX6_who 2 (some .int) 3 [.ref (bs γ + 255), .int (iI a)] (mT σ p u r f) (pI (fun z σ2 => z = figV (σ 256) (σ 255 2) p a 1 0 9 ∧ σ2 = mT σ (figP (σ 256) (σ 255 2) p a 1 0 9) u r f)) := by
  refine Ct.of G (by decide +kernel) (Nat.le_of_ble_eq_true rfl) (fun φ C hr => ?_)
  have C : Cx γ φ RX6 cX6_who 2 3 := C
  refine v_lv [(0, .ref (bs γ + 255)), (1, .int (iI a))] [0, 1] rfl ?_
  refine v_aload_n (pc := 0) C 0 rfl dX6_who_0 ?_
  refine v_iload_n (pc := 1) C 1 rfl dX6_who_1 ?_
  refine v_iconst (pc := 2) C dX6_who_2 ?_
  refine v_iconst (pc := 3) C dX6_who_3 ?_
  refine v_bipush (pc := 4) C (by decide +kernel) dX6_who_4 ?_
  refine v_cv (pc := 6) (as := [.int (iI a), .int (iI 1), .int (iI 0), .int (iI 9)]) C (cy_X6_figures G) (wM_X6_133 G) sh_255 (ci := 4) rfl rfl (k_X6_figures1 G hn hp ht ha (by omega)) dX6_who_6 rfl rfl (by decide) (by decide) (Nat.le_of_ble_eq_true rfl) zc (k_I (fun z6 s6 q6 => ?_))
  obtain ⟨ez6, rfl⟩ := q6
  exact v_iret (pc := 9) C hr (rfl) dX6_who_9 (⟨_, rfl, by assumption, rfl⟩)

set_option maxHeartbeats 4000000 in
set_option maxRecDepth 100000 in
theorem k_X6_done {γ : Gm} (G : Glo γ) {σ : St} {p u : Int} {r f : Int → Int} {b : Int} (hu : 0 ≤ u ∧ u ≤ 1000) (hb : b = 0 ∨ b = 1) : Ct γ yX6_done cX6_done 2 (some .boolean) 1 [.ref (bs γ + 255), .int (iI b)] (mT σ p u r f) (pI (fun z σ2 => z = 1 ∧ σ2 = mT σ p (u + (1 - b)) r f)) := by
  refine Ct.of G (by decide +kernel) (Nat.le_of_ble_eq_true rfl) (fun φ C hr => ?_)
  have C : Cx γ φ RX6 cX6_done 2 1 := C
  refine v_lv [(0, .ref (bs γ + 255)), (1, .int (iI b))] [0, 1] rfl ?_
  refine v_aload_n (pc := 0) C 0 rfl dX6_done_0 ?_
  refine v_dup (pc := 1) C rfl dX6_done_1 ?_
  refine v_geti (pc := 2) C inX6 goX6 (ci := 4) rfl 11 (by decide) (wF_X6_130 G) rfl sh_255 11 rfl dX6_done_2 (fun z2 ez2 rz2 => ?_)
  simp only [mT_10, mT_11, mT_2, mT_256, mT_258, mT_259] at ez2
  refine v_iload_n (pc := 5) C 1 rfl dX6_done_5 ?_
  refine v_if_eq (pc := 6) C 13 (by first | omega | assumption) dX6_done_6 (by decide) (fun h6 => ?_) (fun h6 => ?_)
  · refine v_iconst (pc := 13) C dX6_done_13 ?_
    refine v_iadd (pc := 14) C dX6_done_14 ?_
    refine v_puti (pc := 15) C inX6 goX6 (ci := 4) rfl 11 (by decide) (wF_X6_130 G) rfl sh_255 tyX6 tyX6_ok nmX6 rfl rfl (fun _ => Nat.le_of_ble_eq_true rfl) (fun _ _ => ob_set_X6_11) (by first | omega | assumption) dX6_done_15 ?_
    first | rw [mT_p10] | rw [mT_p11]
    refine v_iconst (pc := 18) C dX6_done_18 ?_
    exact v_iret (pc := 19) C hr (rfl) dX6_done_19 (⟨_, rfl, rfl, congrArg (fun x => mT σ p x r f) (by omega)⟩)
  · refine v_iconst (pc := 9) C dX6_done_9 ?_
    refine v_goto (pc := 10) C 14 dX6_done_10 (by decide) ?_
    refine v_iadd (pc := 14) C dX6_done_14 ?_
    refine v_puti (pc := 15) C inX6 goX6 (ci := 4) rfl 11 (by decide) (wF_X6_130 G) rfl sh_255 tyX6 tyX6_ok nmX6 rfl rfl (fun _ => Nat.le_of_ble_eq_true rfl) (fun _ _ => ob_set_X6_11) (by first | omega | assumption) dX6_done_15 ?_
    first | rw [mT_p10] | rw [mT_p11]
    refine v_iconst (pc := 18) C dX6_done_18 ?_
    exact v_iret (pc := 19) C hr (rfl) dX6_done_19 (⟨_, rfl, rfl, congrArg (fun x => mT σ p x r f) (by omega)⟩)

set_option maxHeartbeats 4000000 in
set_option maxRecDepth 100000 in
theorem k_X6_refused {γ : Gm} (G : Glo γ) {σ : St} {w : Int} (hw : 0 ≤ w ∧ w ≤ 10) : Ct γ yX6_refused cX6_refused 2 (some .boolean) 1 [.ref (bs γ + 255), .int (iI w)] σ (pI (fun z σ2 => (z = 1 ∧ (w ≠ 0) ∨ z = 0 ∧ ¬ (w ≠ 0)) ∧ σ2 = setc σ 255 (upr (σ 255) 0 w))) := by
  refine Ct.of G (by decide +kernel) (Nat.le_of_ble_eq_true rfl) (fun φ C hr => ?_)
  have C : Cx γ φ RX6 cX6_refused 2 1 := C
  refine v_lv [(0, .ref (bs γ + 255)), (1, .int (iI w))] [0, 1] rfl ?_
  refine v_aload_n (pc := 0) C 0 rfl dX6_refused_0 ?_
  refine v_iload_n (pc := 1) C 1 rfl dX6_refused_1 ?_
  refine v_puti (pc := 2) C inX6 goX6 (ci := 4) rfl 0 (by decide) (wF_X6_36 G) rfl sh_255 tyX6 tyX6_ok nmX6 rfl rfl (fun _ => Nat.le_of_ble_eq_true rfl) (fun _ _ => ob_set_X6_0) (by first | omega | assumption) dX6_refused_2 ?_
  refine v_iload_n (pc := 5) C 1 rfl dX6_refused_5 ?_
  refine v_if_le (pc := 6) C 13 (by first | omega | assumption) dX6_refused_6 (by decide) (fun h6 => ?_) (fun h6 => ?_)
  · refine v_iconst (pc := 13) C dX6_refused_13 ?_
    exact v_iret (pc := 14) C hr (rfl) dX6_refused_14 (⟨_, rfl, Or.inr ⟨rfl, by omega⟩, rfl⟩)
  · refine v_iconst (pc := 9) C dX6_refused_9 ?_
    refine v_goto (pc := 10) C 14 dX6_refused_10 (by decide) ?_
    exact v_iret (pc := 14) C hr (rfl) dX6_refused_14 (⟨_, rfl, Or.inl ⟨rfl, by omega⟩, rfl⟩)

set_option maxHeartbeats 4000000 in
set_option maxRecDepth 100000 in
theorem k_X6_thrown {γ : Gm} (G : Glo γ) {σ : St}  : Ct γ yX6_thrown cX6_thrown 1 (some .int) 1 [.ref (bs γ + 255)] σ (pI (fun z σ2 => z = σ 255 0 ∧ σ2 = σ)) := by
  refine Ct.of G (by decide +kernel) (Nat.le_of_ble_eq_true rfl) (fun φ C hr => ?_)
  have C : Cx γ φ RX6 cX6_thrown 1 1 := C
  refine v_lv [(0, .ref (bs γ + 255))] [0] rfl ?_
  refine v_aload_n (pc := 0) C 0 rfl dX6_thrown_0 ?_
  refine v_geti (pc := 1) C inX6 goX6 (ci := 4) rfl 0 (by decide) (wF_X6_36 G) rfl sh_255 0 rfl dX6_thrown_1 (fun z1 ez1 rz1 => ?_)
  exact v_iret (pc := 4) C hr (rfl) dX6_thrown_4 (⟨_, rfl, by assumption, rfl⟩)

theorem setc_comm (σ : St) {c d : Nat} (x y : Int → Int) (h : c ≠ d) : setc (setc σ c x) d y = setc (setc σ d y) c x := by
  funext k
  unfold setc
  by_cases h1 : k = d
  · rw [if_pos h1, if_neg (by omega), if_pos h1]
  · rw [if_neg h1]
    by_cases h2 : k = c
    · rw [if_pos h2, if_pos h2]
    · rw [if_neg h2, if_neg h2, if_neg h1]
def diffR (x y : Int → Int) : Nat → Int
  | 0 => 0
  | n + 1 => diffR x y n + (if x (6 + 7 * (n : Int) + 3) = y (6 + 7 * (n : Int) + 3) then 0 else 1) + (if x (6 + 7 * (n : Int) + 4) = y (6 + 7 * (n : Int) + 4) then 0 else 1)
theorem diffR_b (x y : Int → Int) : ∀ n : Nat, 0 ≤ diffR x y n ∧ diffR x y n ≤ 2 * n
  | 0 => by simp [diffR]
  | n + 1 => by
    have := diffR_b x y n
    rw [diffR]
    split <;> split <;> omega

set_option maxHeartbeats 4000000 in
set_option maxRecDepth 100000 in
theorem k_X6_runOn {γ : Gm} (G : Glo γ) {σ : St} {c : Nat} {m : Int} (hcc : c = 257 ∨ c = 258) (h : Wf (σ c)) (hm : R3 m) (hz : Ok σ) : Ct γ yX6_runOn cX6_runOn 5 (some .int) 7 [.ref (bs γ + 255), .ref (bs γ + c), .int (iI m)] σ (pI (fun z σ2 => (z = diffR (runR (σ c) m.toNat) (σ c) (σ c 0).toNat ∧ 0 ≤ z ∧ z ≤ 20) ∧ σ2 = setc (setc σ 259 (σ c)) c (runR (σ c) m.toNat))) := by
  refine Ct.of G (by decide +kernel) (Nat.le_of_ble_eq_true rfl) (fun φ C hr => ?_)
  have C : Cx γ φ RX6 cX6_runOn 5 7 := C
  have hc : sh c = (0, 268) ∧ 268 ≤ 4000 := hcc.elim (fun e => e ▸ ⟨sh_257, by decide⟩) (fun e => e ▸ ⟨sh_258, by decide⟩)
  have hne : c ≠ 259 := by omega
  have hn0 := h.1
  obtain ⟨hw1, hw2, hw3⟩ := runR_Wf h m.toNat
  refine v_lv [(0, .ref (bs γ + 255)), (1, .ref (bs γ + c)), (2, .int (iI m))] [0, 1, 2] rfl ?_
  refine v_aload_n (pc := 0) C 1 rfl dX6_runOn_0 ?_
  refine v_iconst (pc := 1) C dX6_runOn_1 ?_
  refine v_aload_n (pc := 2) C 0 rfl dX6_runOn_2 ?_
  refine v_getr (pc := 3) C inX6 goX6 (ci := 4) rfl 5 (by decide) (wF_X6_19 G) rfl sh_255 (259) rfl dX6_runOn_3 ?_
  refine v_iconst (pc := 6) C dX6_runOn_6 ?_
  refine v_cs (pc := 7) (as := [.ref (bs γ + c), .int (iI 0), .ref (bs γ + 259), .int (iI 0)]) C (cy_X6_copyState G) (wM_X6_93 G) (copyR G hc ⟨sh_259, by decide⟩ hne (by omega) hz) dX6_runOn_7 rfl rfl (by decide) (by decide) (Nat.le_of_ble_eq_true rfl) zc (k_V (fun s7 q7 => ?_))
  subst q7
  rw [blk0 hz hc.1]
  refine v_aload_n (pc := 10) C 1 rfl dX6_runOn_10 ?_
  refine v_iload_n (pc := 11) C 2 rfl dX6_runOn_11 ?_
  refine v_st (show setc σ 259 (σ c) = setc (setc σ 259 (σ c)) c (σ c) from by rw [setc_comm _ _ _ hne.symm, setc_eta]) ?_
  refine v_cs (pc := 12) (as := [.ref (bs γ + c), .int (iI m)]) C (cy_X6_run G) (wM_X6_97 G) (k_X6_run G hc h hm) dX6_runOn_12 rfl rfl (by decide) (by decide) (Nat.le_of_ble_eq_true rfl) zc (k_V (fun s12 q12 => ?_))
  subst q12
  refine v_iconst (pc := 15) C dX6_runOn_15 ?_
  refine v_istore_n (pc := 16) C [(3, .int (iI 0)), (0, .ref (bs γ + 255)), (1, .ref (bs γ + c)), (2, .int (iI m))] dX6_runOn_16 rfl (by decide) rfl ?_
  refine v_iconst (pc := 17) C dX6_runOn_17 ?_
  refine v_istore (pc := 18) C [(4, .int (iI 0)), (3, .int (iI 0)), (0, .ref (bs γ + 255)), (1, .ref (bs γ + c)), (2, .int (iI m))] dX6_runOn_18 (by decide) rfl ?_
  have L20 : ∀ (fu : Nat) (i : Nat), (hi : (i : Int) ≤ σ c 0) → (σ c 0).toNat - i < fu → Vw γ φ 5 0 0 (QE γ φ (pI (fun z σ2 => (z = diffR (runR (σ c) m.toNat) (σ c) (σ c 0).toNat ∧ 0 ≤ z ∧ z ≤ 20) ∧ σ2 = setc (setc σ 259 (σ c)) c (runR (σ c) m.toNat)))) (setc (setc σ 259 (σ c)) c (runR (σ c) m.toNat)) 20 [(4, .int (iI (i : Int))), (3, .int (iI (diffR (runR (σ c) m.toNat) (σ c) i))), (2, .int (iI m)), (1, .ref (bs γ + c)), (0, .ref (bs γ + 255))] [] := by
    intro fu
    induction fu with
    | zero => intro i hi hz; exact absurd hz (Nat.not_lt_zero _)
    | succ fu ih =>
      intro i hi hz
      have hb := diffR_b (runR (σ c) m.toNat) (σ c) i
      refine v_iload (pc := 20) C 0 rfl dX6_runOn_20 ?_
      refine v_aload_n (pc := 22) C 3 rfl dX6_runOn_22 ?_
      refine v_iconst (pc := 23) C dX6_runOn_23 ?_
      refine v_ialdR (pc := 24) C hc (by first | omega | assumption) dX6_runOn_24 (fun z24 ez24 rz24 => ?_)
      refine v_icmp_ge (pc := 25) C 90 (by first | omega | assumption) (by first | omega | assumption) dX6_runOn_25 (by decide) (fun h25 => ?_) (fun h25 => ?_)
      · refine v_iload_n (pc := 90) C 1 rfl dX6_runOn_90 ?_
        exact v_iret (pc := 91) C hr (rfl) dX6_runOn_91 (⟨_, rfl, ⟨by rw [show i = (σ c 0).toNat by omega], by omega⟩, rfl⟩)
      · refine v_iload_n (pc := 28) C 1 rfl dX6_runOn_28 ?_
        refine v_aload_n (pc := 29) C 3 rfl dX6_runOn_29 ?_
        refine v_iload (pc := 30) C 0 rfl dX6_runOn_30 ?_
        refine v_iconst (pc := 32) C dX6_runOn_32 ?_
        refine v_cs (pc := 33) (as := [.ref (bs γ + c), .int (iI (i : Int)), .int (iI 3)]) C (cy_X6_of G) (wM_X6_48 G) (k_X6_of G hc (by omega)) dX6_runOn_33 rfl rfl (by decide) (by decide) (Nat.le_of_ble_eq_true rfl) zc (k_I (fun z33 s33 q33 => ?_))
        obtain ⟨⟨ez33, rz33⟩, rfl⟩ := q33
        refine v_aload_n (pc := 36) C 4 rfl dX6_runOn_36 ?_
        refine v_getr (pc := 37) C inX6 goX6 (ci := 4) rfl 5 (by decide) (wF_X6_19 G) rfl sh_255 (259) rfl dX6_runOn_37 ?_
        refine v_iload (pc := 40) C 0 rfl dX6_runOn_40 ?_
        refine v_iconst (pc := 42) C dX6_runOn_42 ?_
        rw [setc_comm _ _ _ hne.symm]
        refine v_cs (pc := 43) (as := [.ref (bs γ + 259), .int (iI (i : Int)), .int (iI 3)]) C (cy_X6_of G) (wM_X6_48 G) (k_X6_of G ⟨sh_259, by decide⟩ (by omega)) dX6_runOn_43 rfl rfl (by decide) (by decide) (Nat.le_of_ble_eq_true rfl) zc (k_I (fun z43 s43 q43 => ?_))
        obtain ⟨⟨ez43, rz43⟩, rfl⟩ := q43
        rw [setc_comm _ _ _ hne]
        refine v_icmp_ne (pc := 46) C 53 (by first | omega | assumption) (by first | omega | assumption) dX6_runOn_46 (by decide) (fun h46 => ?_) (fun h46 => ?_)
        · refine v_iconst (pc := 53) C dX6_runOn_53 ?_
          refine v_iadd (pc := 54) C dX6_runOn_54 ?_
          refine v_istore_n (pc := 55) C [(3, .int (iI ((diffR (runR (σ c) m.toNat) (σ c) i) + 1))), (4, .int (iI (i : Int))), (2, .int (iI m)), (1, .ref (bs γ + c)), (0, .ref (bs γ + 255))] dX6_runOn_55 rfl (by decide) rfl ?_
          refine v_iload_n (pc := 56) C 0 rfl dX6_runOn_56 ?_
          refine v_aload_n (pc := 57) C 3 rfl dX6_runOn_57 ?_
          refine v_iload (pc := 58) C 1 rfl dX6_runOn_58 ?_
          refine v_iconst (pc := 60) C dX6_runOn_60 ?_
          refine v_cs (pc := 61) (as := [.ref (bs γ + c), .int (iI (i : Int)), .int (iI 4)]) C (cy_X6_of G) (wM_X6_48 G) (k_X6_of G hc (by omega)) dX6_runOn_61 rfl rfl (by decide) (by decide) (Nat.le_of_ble_eq_true rfl) zc (k_I (fun z61 s61 q61 => ?_))
          obtain ⟨⟨ez61, rz61⟩, rfl⟩ := q61
          refine v_aload_n (pc := 64) C 4 rfl dX6_runOn_64 ?_
          refine v_getr (pc := 65) C inX6 goX6 (ci := 4) rfl 5 (by decide) (wF_X6_19 G) rfl sh_255 (259) rfl dX6_runOn_65 ?_
          refine v_iload (pc := 68) C 1 rfl dX6_runOn_68 ?_
          refine v_iconst (pc := 70) C dX6_runOn_70 ?_
          rw [setc_comm _ _ _ hne.symm]
          refine v_cs (pc := 71) (as := [.ref (bs γ + 259), .int (iI (i : Int)), .int (iI 4)]) C (cy_X6_of G) (wM_X6_48 G) (k_X6_of G ⟨sh_259, by decide⟩ (by omega)) dX6_runOn_71 rfl rfl (by decide) (by decide) (Nat.le_of_ble_eq_true rfl) zc (k_I (fun z71 s71 q71 => ?_))
          obtain ⟨⟨ez71, rz71⟩, rfl⟩ := q71
          rw [setc_comm _ _ _ hne]
          refine v_icmp_ne (pc := 74) C 81 (by first | omega | assumption) (by first | omega | assumption) dX6_runOn_74 (by decide) (fun h74 => ?_) (fun h74 => ?_)
          · refine v_iconst (pc := 81) C dX6_runOn_81 ?_
            refine v_iadd (pc := 82) C dX6_runOn_82 ?_
            refine v_istore_n (pc := 83) C [(3, .int (iI (((diffR (runR (σ c) m.toNat) (σ c) i) + 1) + 1))), (4, .int (iI (i : Int))), (2, .int (iI m)), (1, .ref (bs γ + c)), (0, .ref (bs γ + 255))] dX6_runOn_83 rfl (by decide) rfl ?_
            refine v_iinc (pc := 84) C 1 [(4, .int (iI ((i : Int) + 1))), (3, .int (iI (((diffR (runR (σ c) m.toNat) (σ c) i) + 1) + 1))), (2, .int (iI m)), (1, .ref (bs γ + c)), (0, .ref (bs γ + 255))] dX6_runOn_84 rfl (by decide) rfl ?_
            refine v_goto (pc := 87) C 20 dX6_runOn_87 (by decide) ?_
            exact v_lv _ [0, 1, 2, 3, 4] (by rw [show diffR (runR (σ c) m.toNat) (σ c) (i + 1) = ((diffR (runR (σ c) m.toNat) (σ c) i) + 1) + 1 from by rw [diffR]; split <;> split <;> omega]; rfl) (ih (i + 1) (by omega) (by omega))
          · refine v_iconst (pc := 77) C dX6_runOn_77 ?_
            refine v_goto (pc := 78) C 82 dX6_runOn_78 (by decide) ?_
            refine v_iadd (pc := 82) C dX6_runOn_82 ?_
            refine v_istore_n (pc := 83) C [(3, .int (iI (((diffR (runR (σ c) m.toNat) (σ c) i) + 1) + 0))), (4, .int (iI (i : Int))), (2, .int (iI m)), (1, .ref (bs γ + c)), (0, .ref (bs γ + 255))] dX6_runOn_83 rfl (by decide) rfl ?_
            refine v_iinc (pc := 84) C 1 [(4, .int (iI ((i : Int) + 1))), (3, .int (iI (((diffR (runR (σ c) m.toNat) (σ c) i) + 1) + 0))), (2, .int (iI m)), (1, .ref (bs γ + c)), (0, .ref (bs γ + 255))] dX6_runOn_84 rfl (by decide) rfl ?_
            refine v_goto (pc := 87) C 20 dX6_runOn_87 (by decide) ?_
            exact v_lv _ [0, 1, 2, 3, 4] (by rw [show diffR (runR (σ c) m.toNat) (σ c) (i + 1) = ((diffR (runR (σ c) m.toNat) (σ c) i) + 1) + 0 from by rw [diffR]; split <;> split <;> omega]; rfl) (ih (i + 1) (by omega) (by omega))
        · refine v_iconst (pc := 49) C dX6_runOn_49 ?_
          refine v_goto (pc := 50) C 54 dX6_runOn_50 (by decide) ?_
          refine v_iadd (pc := 54) C dX6_runOn_54 ?_
          refine v_istore_n (pc := 55) C [(3, .int (iI ((diffR (runR (σ c) m.toNat) (σ c) i) + 0))), (4, .int (iI (i : Int))), (2, .int (iI m)), (1, .ref (bs γ + c)), (0, .ref (bs γ + 255))] dX6_runOn_55 rfl (by decide) rfl ?_
          refine v_iload_n (pc := 56) C 0 rfl dX6_runOn_56 ?_
          refine v_aload_n (pc := 57) C 3 rfl dX6_runOn_57 ?_
          refine v_iload (pc := 58) C 1 rfl dX6_runOn_58 ?_
          refine v_iconst (pc := 60) C dX6_runOn_60 ?_
          refine v_cs (pc := 61) (as := [.ref (bs γ + c), .int (iI (i : Int)), .int (iI 4)]) C (cy_X6_of G) (wM_X6_48 G) (k_X6_of G hc (by omega)) dX6_runOn_61 rfl rfl (by decide) (by decide) (Nat.le_of_ble_eq_true rfl) zc (k_I (fun z61_1 s61_1 q61_1 => ?_))
          obtain ⟨⟨ez61_1, rz61_1⟩, rfl⟩ := q61_1
          refine v_aload_n (pc := 64) C 4 rfl dX6_runOn_64 ?_
          refine v_getr (pc := 65) C inX6 goX6 (ci := 4) rfl 5 (by decide) (wF_X6_19 G) rfl sh_255 (259) rfl dX6_runOn_65 ?_
          refine v_iload (pc := 68) C 1 rfl dX6_runOn_68 ?_
          refine v_iconst (pc := 70) C dX6_runOn_70 ?_
          rw [setc_comm _ _ _ hne.symm]
          refine v_cs (pc := 71) (as := [.ref (bs γ + 259), .int (iI (i : Int)), .int (iI 4)]) C (cy_X6_of G) (wM_X6_48 G) (k_X6_of G ⟨sh_259, by decide⟩ (by omega)) dX6_runOn_71 rfl rfl (by decide) (by decide) (Nat.le_of_ble_eq_true rfl) zc (k_I (fun z71_1 s71_1 q71_1 => ?_))
          obtain ⟨⟨ez71_1, rz71_1⟩, rfl⟩ := q71_1
          rw [setc_comm _ _ _ hne]
          refine v_icmp_ne (pc := 74) C 81 (by first | omega | assumption) (by first | omega | assumption) dX6_runOn_74 (by decide) (fun h74_1 => ?_) (fun h74_1 => ?_)
          · refine v_iconst (pc := 81) C dX6_runOn_81 ?_
            refine v_iadd (pc := 82) C dX6_runOn_82 ?_
            refine v_istore_n (pc := 83) C [(3, .int (iI (((diffR (runR (σ c) m.toNat) (σ c) i) + 0) + 1))), (4, .int (iI (i : Int))), (2, .int (iI m)), (1, .ref (bs γ + c)), (0, .ref (bs γ + 255))] dX6_runOn_83 rfl (by decide) rfl ?_
            refine v_iinc (pc := 84) C 1 [(4, .int (iI ((i : Int) + 1))), (3, .int (iI (((diffR (runR (σ c) m.toNat) (σ c) i) + 0) + 1))), (2, .int (iI m)), (1, .ref (bs γ + c)), (0, .ref (bs γ + 255))] dX6_runOn_84 rfl (by decide) rfl ?_
            refine v_goto (pc := 87) C 20 dX6_runOn_87 (by decide) ?_
            exact v_lv _ [0, 1, 2, 3, 4] (by rw [show diffR (runR (σ c) m.toNat) (σ c) (i + 1) = ((diffR (runR (σ c) m.toNat) (σ c) i) + 0) + 1 from by rw [diffR]; split <;> split <;> omega]; rfl) (ih (i + 1) (by omega) (by omega))
          · refine v_iconst (pc := 77) C dX6_runOn_77 ?_
            refine v_goto (pc := 78) C 82 dX6_runOn_78 (by decide) ?_
            refine v_iadd (pc := 82) C dX6_runOn_82 ?_
            refine v_istore_n (pc := 83) C [(3, .int (iI (((diffR (runR (σ c) m.toNat) (σ c) i) + 0) + 0))), (4, .int (iI (i : Int))), (2, .int (iI m)), (1, .ref (bs γ + c)), (0, .ref (bs γ + 255))] dX6_runOn_83 rfl (by decide) rfl ?_
            refine v_iinc (pc := 84) C 1 [(4, .int (iI ((i : Int) + 1))), (3, .int (iI (((diffR (runR (σ c) m.toNat) (σ c) i) + 0) + 0))), (2, .int (iI m)), (1, .ref (bs γ + c)), (0, .ref (bs γ + 255))] dX6_runOn_84 rfl (by decide) rfl ?_
            refine v_goto (pc := 87) C 20 dX6_runOn_87 (by decide) ?_
            exact v_lv _ [0, 1, 2, 3, 4] (by rw [show diffR (runR (σ c) m.toNat) (σ c) (i + 1) = ((diffR (runR (σ c) m.toNat) (σ c) i) + 0) + 0 from by rw [diffR]; split <;> split <;> omega]; rfl) (ih (i + 1) (by omega) (by omega))
  exact v_lv _ [0, 1, 4, 3, 2] rfl (L20 ((σ c 0).toNat + 1) 0 (by omega) (by omega))
