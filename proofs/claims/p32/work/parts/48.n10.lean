set_option maxHeartbeats 4000000 in
set_option maxRecDepth 100000 in
theorem k_X4_boundsOf {γ : Gm} (G : Glo γ) {σ : St} {l : Int} (hl : R3 l) : Ct γ yX4_boundsOf cX4_boundsOf 1 (some (.array .int)) 1 [.int (iI l)] σ (pR (fun z σ2 => z = γ.2.2.2.2.2 (tabS l) ∧ σ2 = σ)) := by
  refine Ct.of G (by decide +kernel) (Nat.le_of_ble_eq_true rfl) (fun φ C hr => ?_)
  have C : Cx γ φ RX4 cX4_boundsOf 1 1 := C
  refine v_lv [(0, .int (iI l))] [0] rfl ?_
  refine v_iload_n (pc := 0) C 0 rfl dX4_boundsOf_0 ?_
  by_cases hs1 : 100 ≤ l ∧ l ≤ 118
  · have hs1 : l = 100 ∨ l = 101 ∨ l = 102 ∨ l = 103 ∨ l = 104 ∨ l = 105 ∨ l = 106 ∨ l = 107 ∨ l = 108 ∨ l = 109 ∨ l = 110 ∨ l = 111 ∨ l = 112 ∨ l = 113 ∨ l = 114 ∨ l = 115 ∨ l = 116 ∨ l = 117 ∨ l = 118 := by omega
    rcases hs1 with hs1 | hs1 | hs1 | hs1 | hs1 | hs1 | hs1 | hs1 | hs1 | hs1 | hs1 | hs1 | hs1 | hs1 | hs1 | hs1 | hs1 | hs1 | hs1
    · refine v_tabIn (pc := 1) C 96 (by first | omega | assumption) dX4_boundsOf_1 (by omega) (by rw [hs1]; rfl) (by decide) ?_
      have hk : tabS l = 1 := by rw [hs1]; rfl
      refine v_gets (pc := 96) C 1 (by decide) (wF_X4_50 G) dX4_boundsOf_96 ?_
      exact v_aret (pc := 99) C hr dX4_boundsOf_99 ⟨_, rfl, by rw [hk], rfl⟩
    · refine v_tabIn (pc := 1) C 112 (by first | omega | assumption) dX4_boundsOf_1 (by omega) (by rw [hs1]; rfl) (by decide) ?_
      have hk : tabS l = 5 := by rw [hs1]; rfl
      refine v_gets (pc := 112) C 5 (by decide) (wF_X4_62 G) dX4_boundsOf_112 ?_
      exact v_aret (pc := 115) C hr dX4_boundsOf_115 ⟨_, rfl, by rw [hk], rfl⟩
    · refine v_tabIn (pc := 1) C 112 (by first | omega | assumption) dX4_boundsOf_1 (by omega) (by rw [hs1]; rfl) (by decide) ?_
      have hk : tabS l = 5 := by rw [hs1]; rfl
      refine v_gets (pc := 112) C 5 (by decide) (wF_X4_62 G) dX4_boundsOf_112 ?_
      exact v_aret (pc := 115) C hr dX4_boundsOf_115 ⟨_, rfl, by rw [hk], rfl⟩
    · refine v_tabIn (pc := 1) C 112 (by first | omega | assumption) dX4_boundsOf_1 (by omega) (by rw [hs1]; rfl) (by decide) ?_
      have hk : tabS l = 5 := by rw [hs1]; rfl
      refine v_gets (pc := 112) C 5 (by decide) (wF_X4_62 G) dX4_boundsOf_112 ?_
      exact v_aret (pc := 115) C hr dX4_boundsOf_115 ⟨_, rfl, by rw [hk], rfl⟩
    · refine v_tabIn (pc := 1) C 112 (by first | omega | assumption) dX4_boundsOf_1 (by omega) (by rw [hs1]; rfl) (by decide) ?_
      have hk : tabS l = 5 := by rw [hs1]; rfl
      refine v_gets (pc := 112) C 5 (by decide) (wF_X4_62 G) dX4_boundsOf_112 ?_
      exact v_aret (pc := 115) C hr dX4_boundsOf_115 ⟨_, rfl, by rw [hk], rfl⟩
    · refine v_tabIn (pc := 1) C 112 (by first | omega | assumption) dX4_boundsOf_1 (by omega) (by rw [hs1]; rfl) (by decide) ?_
      have hk : tabS l = 5 := by rw [hs1]; rfl
      refine v_gets (pc := 112) C 5 (by decide) (wF_X4_62 G) dX4_boundsOf_112 ?_
      exact v_aret (pc := 115) C hr dX4_boundsOf_115 ⟨_, rfl, by rw [hk], rfl⟩
    · refine v_tabIn (pc := 1) C 112 (by first | omega | assumption) dX4_boundsOf_1 (by omega) (by rw [hs1]; rfl) (by decide) ?_
      have hk : tabS l = 5 := by rw [hs1]; rfl
      refine v_gets (pc := 112) C 5 (by decide) (wF_X4_62 G) dX4_boundsOf_112 ?_
      exact v_aret (pc := 115) C hr dX4_boundsOf_115 ⟨_, rfl, by rw [hk], rfl⟩
    · refine v_tabIn (pc := 1) C 100 (by first | omega | assumption) dX4_boundsOf_1 (by omega) (by rw [hs1]; rfl) (by decide) ?_
      have hk : tabS l = 2 := by rw [hs1]; rfl
      refine v_gets (pc := 100) C 2 (by decide) (wF_X4_53 G) dX4_boundsOf_100 ?_
      exact v_aret (pc := 103) C hr dX4_boundsOf_103 ⟨_, rfl, by rw [hk], rfl⟩
    · refine v_tabIn (pc := 1) C 104 (by first | omega | assumption) dX4_boundsOf_1 (by omega) (by rw [hs1]; rfl) (by decide) ?_
      have hk : tabS l = 3 := by rw [hs1]; rfl
      refine v_gets (pc := 104) C 3 (by decide) (wF_X4_56 G) dX4_boundsOf_104 ?_
      exact v_aret (pc := 107) C hr dX4_boundsOf_107 ⟨_, rfl, by rw [hk], rfl⟩
    · refine v_tabIn (pc := 1) C 112 (by first | omega | assumption) dX4_boundsOf_1 (by omega) (by rw [hs1]; rfl) (by decide) ?_
      have hk : tabS l = 5 := by rw [hs1]; rfl
      refine v_gets (pc := 112) C 5 (by decide) (wF_X4_62 G) dX4_boundsOf_112 ?_
      exact v_aret (pc := 115) C hr dX4_boundsOf_115 ⟨_, rfl, by rw [hk], rfl⟩
    · refine v_tabIn (pc := 1) C 112 (by first | omega | assumption) dX4_boundsOf_1 (by omega) (by rw [hs1]; rfl) (by decide) ?_
      have hk : tabS l = 5 := by rw [hs1]; rfl
      refine v_gets (pc := 112) C 5 (by decide) (wF_X4_62 G) dX4_boundsOf_112 ?_
      exact v_aret (pc := 115) C hr dX4_boundsOf_115 ⟨_, rfl, by rw [hk], rfl⟩
    · refine v_tabIn (pc := 1) C 112 (by first | omega | assumption) dX4_boundsOf_1 (by omega) (by rw [hs1]; rfl) (by decide) ?_
      have hk : tabS l = 5 := by rw [hs1]; rfl
      refine v_gets (pc := 112) C 5 (by decide) (wF_X4_62 G) dX4_boundsOf_112 ?_
      exact v_aret (pc := 115) C hr dX4_boundsOf_115 ⟨_, rfl, by rw [hk], rfl⟩
    · refine v_tabIn (pc := 1) C 112 (by first | omega | assumption) dX4_boundsOf_1 (by omega) (by rw [hs1]; rfl) (by decide) ?_
      have hk : tabS l = 5 := by rw [hs1]; rfl
      refine v_gets (pc := 112) C 5 (by decide) (wF_X4_62 G) dX4_boundsOf_112 ?_
      exact v_aret (pc := 115) C hr dX4_boundsOf_115 ⟨_, rfl, by rw [hk], rfl⟩
    · refine v_tabIn (pc := 1) C 112 (by first | omega | assumption) dX4_boundsOf_1 (by omega) (by rw [hs1]; rfl) (by decide) ?_
      have hk : tabS l = 5 := by rw [hs1]; rfl
      refine v_gets (pc := 112) C 5 (by decide) (wF_X4_62 G) dX4_boundsOf_112 ?_
      exact v_aret (pc := 115) C hr dX4_boundsOf_115 ⟨_, rfl, by rw [hk], rfl⟩
    · refine v_tabIn (pc := 1) C 100 (by first | omega | assumption) dX4_boundsOf_1 (by omega) (by rw [hs1]; rfl) (by decide) ?_
      have hk : tabS l = 2 := by rw [hs1]; rfl
      refine v_gets (pc := 100) C 2 (by decide) (wF_X4_53 G) dX4_boundsOf_100 ?_
      exact v_aret (pc := 103) C hr dX4_boundsOf_103 ⟨_, rfl, by rw [hk], rfl⟩
    · refine v_tabIn (pc := 1) C 112 (by first | omega | assumption) dX4_boundsOf_1 (by omega) (by rw [hs1]; rfl) (by decide) ?_
      have hk : tabS l = 5 := by rw [hs1]; rfl
      refine v_gets (pc := 112) C 5 (by decide) (wF_X4_62 G) dX4_boundsOf_112 ?_
      exact v_aret (pc := 115) C hr dX4_boundsOf_115 ⟨_, rfl, by rw [hk], rfl⟩
    · refine v_tabIn (pc := 1) C 108 (by first | omega | assumption) dX4_boundsOf_1 (by omega) (by rw [hs1]; rfl) (by decide) ?_
      have hk : tabS l = 4 := by rw [hs1]; rfl
      refine v_gets (pc := 108) C 4 (by decide) (wF_X4_59 G) dX4_boundsOf_108 ?_
      exact v_aret (pc := 111) C hr dX4_boundsOf_111 ⟨_, rfl, by rw [hk], rfl⟩
    · refine v_tabIn (pc := 1) C 112 (by first | omega | assumption) dX4_boundsOf_1 (by omega) (by rw [hs1]; rfl) (by decide) ?_
      have hk : tabS l = 5 := by rw [hs1]; rfl
      refine v_gets (pc := 112) C 5 (by decide) (wF_X4_62 G) dX4_boundsOf_112 ?_
      exact v_aret (pc := 115) C hr dX4_boundsOf_115 ⟨_, rfl, by rw [hk], rfl⟩
    · refine v_tabIn (pc := 1) C 92 (by first | omega | assumption) dX4_boundsOf_1 (by omega) (by rw [hs1]; rfl) (by decide) ?_
      have hk : tabS l = 0 := by rw [hs1]; rfl
      refine v_gets (pc := 92) C 0 (by decide) (wF_X4_47 G) dX4_boundsOf_92 ?_
      exact v_aret (pc := 95) C hr dX4_boundsOf_95 ⟨_, rfl, by rw [hk], rfl⟩
  · refine v_tabOut (pc := 1) C 112 (by first | omega | assumption) dX4_boundsOf_1 (by omega) (by decide) ?_
    have hk : tabS l = 5 := by unfold tabS; rw [if_neg (by omega), if_neg (by omega), if_neg (by omega), if_neg (by omega), if_neg (by omega)]
    refine v_gets (pc := 112) C 5 (by decide) (wF_X4_62 G) dX4_boundsOf_112 ?_
    exact v_aret (pc := 115) C hr dX4_boundsOf_115 ⟨_, rfl, by rw [hk], rfl⟩

set_option maxHeartbeats 4000000 in
set_option maxRecDepth 100000 in
theorem k_X4_readCommand {γ : Gm} (G : Glo γ) {σ : St} {s p l : Int} {N t : Int → Int} (hs : 0 ≤ s ∧ s ≤ 120) (h1 : σ 1 1 = s) (ht : ∀ j, 0 ≤ j → j < s → σ 2 j = t j) (htr : ∀ j, 0 ≤ j → j < s → 0 ≤ t j ∧ t j ≤ 255) (hp : 0 ≤ p ∧ p < s) : Ct γ yX4_readCommand cX4_readCommand 3 (some .boolean) 3 [.ref (bs γ + 1)] (tS σ p l N) (pI (fun z σ2 => (z = 1 ∧ cmdOk t s p ∧ ∃ N9, (∀ j : Nat, j < cntB (tabS (t p)) → N9 (j : Int) = argV t s p j) ∧ σ2 = tS σ (cmdP t s p) (t p) N9) ∨ (z = 0 ∧ ¬ cmdOk t s p ∧ ∃ l9 N9, σ2 = tS σ (cmdP t s p) l9 N9))) := by
  refine Ct.of G (by decide +kernel) (Nat.le_of_ble_eq_true rfl) (fun φ C hr => ?_)
  have C : Cx γ φ RX4 cX4_readCommand 3 3 := C
  have htp := htr p hp.1 hp.2
  refine v_lv [(0, .ref (bs γ + 1))] [0] rfl ?_
  refine v_aload_n (pc := 0) C 0 rfl dX4_readCommand_0 ?_
  refine v_cv (pc := 1) (as := []) C (cy_X4_hasMore G) (wM_X4_27 G) sh_1 (ci := 2) rfl rfl (k_X4_hasMore G hs h1 ht htr ) dX4_readCommand_1 rfl rfl (by decide) (by decide) (Nat.le_of_ble_eq_true rfl) zc (k_I (fun z1 s1 q1 => ?_))
  rcases q1 with ⟨⟨rfl, q1⟩ | ⟨rfl, q1⟩, rfl⟩
  · refine v_if_ne (pc := 4) C 9 (by first | omega | assumption) dX4_readCommand_4 (by decide) (fun _ => ?_) (fun h => absurd h (by decide))
    refine v_aload_n (pc := 9) C 0 rfl dX4_readCommand_9 ?_
    refine v_aload_n (pc := 10) C 0 rfl dX4_readCommand_10 ?_
    refine v_getr (pc := 11) C inX4 goX4 (ci := 2) rfl 0 (by decide) (wF_X4_9 G) rfl sh_1 (2) rfl dX4_readCommand_11 ?_
    refine v_aload_n (pc := 14) C 0 rfl dX4_readCommand_14 ?_
    refine v_geti (pc := 15) C inX4 goX4 (ci := 2) rfl 2 (by decide) (wF_X4_23 G) rfl sh_1 2 rfl dX4_readCommand_15 (fun z15 ez15 rz15 => ?_)
    rw [tS_2] at ez15
    refine v_cald (pc := 18) C sh_2 (by decide) (by first | omega | assumption) dX4_readCommand_18 (fun z18 ez18 rz18 => ?_)
    rw [tS_s] at ez18
    have wz18 : z18 = t p := ez18.trans ((congrArg (σ 2) (by omega)).trans (ht p (by omega) (by omega)))
    refine v_puti (pc := 19) C inX4 goX4 (ci := 2) rfl 3 (by decide) (wF_X4_36 G) rfl sh_1 tyX4 tyX4_ok nmX4 rfl rfl (fun _ => Nat.le_of_ble_eq_true rfl) (fun _ _ => ob_set_X4_3) (by first | omega | assumption) dX4_readCommand_19 ?_
    refine v_st (tS_p3 _ _ _ _ _) ?_
    refine v_aload_n (pc := 22) C 0 rfl dX4_readCommand_22 ?_
    refine v_geti (pc := 23) C inX4 goX4 (ci := 2) rfl 3 (by decide) (wF_X4_36 G) rfl sh_1 3 rfl dX4_readCommand_23 (fun z23 ez23 rz23 => ?_)
    rw [tS_3] at ez23
    refine v_cs (pc := 26) (as := [.int (iI z23)]) C (cy_X4_boundsOf G) (wM_X4_39 G) (k_X4_boundsOf G (by omega)) dX4_readCommand_26 rfl rfl (by decide) (by decide) (Nat.le_of_ble_eq_true rfl) zc (k_R (fun z26 s26 q26 => ?_))
    obtain ⟨rfl, rfl⟩ := q26
    obtain ⟨K, hK⟩ : ∃ K, K = tabS z23 := ⟨_, rfl⟩
    rw [← hK]
    have hKt : K = tabS (t p) := by rw [hK]; exact congrArg tabS (by omega)
    have hK6 : K < 6 := by rw [hKt]; exact tabS_6 _
    have hL := tab_len K hK6
    have hL9 : (tbL K).length ≤ 4000 := by omega
    refine v_astore_n (pc := 29) C [(1, .ref (γ.2.2.2.2.2 K)), (0, .ref (bs γ + 1))] dX4_readCommand_29 rfl (by decide) rfl ?_
    refine v_aload_n (pc := 30) C 0 rfl dX4_readCommand_30 ?_
    refine v_tlen (pc := 31) C K (by first | omega | assumption) dX4_readCommand_31 ?_
    refine v_if_ne (pc := 32) C 37 (by first | omega | assumption) dX4_readCommand_32 (by decide) (fun h32 => ?_) (fun h32 => ?_)
    · refine v_aload_n (pc := 37) C 1 rfl dX4_readCommand_37 ?_
      refine v_dup (pc := 38) C rfl dX4_readCommand_38 ?_
      refine v_geti (pc := 39) C inX4 goX4 (ci := 2) rfl 2 (by decide) (wF_X4_23 G) rfl sh_1 2 rfl dX4_readCommand_39 (fun z39 ez39 rz39 => ?_)
      rw [tS_2] at ez39
      refine v_iconst (pc := 42) C dX4_readCommand_42 ?_
      refine v_iadd (pc := 43) C dX4_readCommand_43 ?_
      refine v_puti (pc := 44) C inX4 goX4 (ci := 2) rfl 2 (by decide) (wF_X4_23 G) rfl sh_1 tyX4 tyX4_ok nmX4 rfl rfl (fun _ => Nat.le_of_ble_eq_true rfl) (fun _ _ => ob_set_X4_2) (by first | omega | assumption) dX4_readCommand_44 ?_
      refine v_st (tS_p2 _ _ _ _ _) ?_
      refine v_iconst (pc := 47) C dX4_readCommand_47 ?_
      refine v_istore_n (pc := 48) C [(2, .int (iI 0)), (1, .ref (γ.2.2.2.2.2 K)), (0, .ref (bs γ + 1))] dX4_readCommand_48 rfl (by decide) rfl ?_
      have L49 : ∀ (fu : Nat) (i : Nat) (q : Int) (N1 : Int → Int), (hi : i ≤ cntB K) → (hn1 : (nums t s K (p + 1) i).2 = q) → (hn2 : (nums t s K (p + 1) i).1 ≠ -1) → (hn3 : ∀ j : Nat, j < i → N1 (j : Int) = (nums t s K (p + 1) (j + 1)).1) → (hq : p + 1 ≤ q ∧ q ≤ p + 1 + 2 * i) → cntB K - i < fu → Vw γ φ 3 0 0 (QE γ φ (pI (fun z σ2 => (z = 1 ∧ cmdOk t s p ∧ ∃ N9, (∀ j : Nat, j < cntB (tabS (t p)) → N9 (j : Int) = argV t s p j) ∧ σ2 = tS σ (cmdP t s p) (t p) N9) ∨ (z = 0 ∧ ¬ cmdOk t s p ∧ ∃ l9 N9, σ2 = tS σ (cmdP t s p) l9 N9)))) (tS σ q z18 N1) 49 [(2, .int (iI (i : Int))), (1, .ref (γ.2.2.2.2.2 K)), (0, .ref (bs γ + 1))] [] := by
        intro fu
        induction fu with
        | zero => intro i q N1 hi hn1 hn2 hn3 hq hz; exact absurd hz (Nat.not_lt_zero _)
        | succ fu ih =>
          intro i q N1 hi hn1 hn2 hn3 hq hz
          refine v_iconst (pc := 49) C dX4_readCommand_49 ?_
          refine v_iload_n (pc := 50) C 0 rfl dX4_readCommand_50 ?_
          refine v_imul (pc := 51) C dX4_readCommand_51 ?_
          refine v_iconst (pc := 52) C dX4_readCommand_52 ?_
          refine v_iadd (pc := 53) C dX4_readCommand_53 ?_
          refine v_aload_n (pc := 54) C 1 rfl dX4_readCommand_54 ?_
          refine v_tlen (pc := 55) C K (by first | omega | assumption) dX4_readCommand_55 ?_
          refine v_icmp_ge (pc := 56) C 92 (by first | omega | assumption) (by first | omega | assumption) dX4_readCommand_56 (by decide) (fun h56 => ?_) (fun h56 => ?_)
          · refine v_iconst (pc := 92) C dX4_readCommand_92 ?_
            exact v_iret (pc := 93) C hr (rfl) dX4_readCommand_93 (by have hiK : i = cntB K := (by omega); have h5 : K ≠ 5 := (fun e => by have := (cntB_0 K hK6).mpr e; omega); exact ⟨_, rfl, Or.inl ⟨rfl, ⟨by rw [← hKt]; exact h5, by unfold cmdV; rw [← hKt, ← hiK]; exact hn2⟩, N1, fun j hj => by rw [← hKt, ← hiK] at hj; unfold argV; rw [← hKt]; exact hn3 j hj, by rw [show cmdP t s p = q from by unfold cmdP; rw [if_neg (by rw [← hKt]; exact h5), ← hKt, ← hiK]; exact hn1, show z18 = t p by omega]⟩⟩)
          · refine v_iload_n (pc := 59) C 0 rfl dX4_readCommand_59 ?_
            refine v_iconst (pc := 60) C dX4_readCommand_60 ?_
            refine v_icmp_ge (pc := 61) C 92 (by first | omega | assumption) (by first | omega | assumption) dX4_readCommand_61 (by decide) (fun h61 => absurd h61 (by omega)) (fun h61 => ?_)
            refine v_aload_n (pc := 64) C 2 rfl dX4_readCommand_64 ?_
            refine v_iload_n (pc := 65) C 0 rfl dX4_readCommand_65 ?_
            refine v_aload_n (pc := 66) C 1 rfl dX4_readCommand_66 ?_
            refine v_iconst (pc := 67) C dX4_readCommand_67 ?_
            refine v_iload_n (pc := 68) C 0 rfl dX4_readCommand_68 ?_
            refine v_imul (pc := 69) C dX4_readCommand_69 ?_
            refine v_tald (pc := 70) C K (by first | omega | assumption) (by first | omega | assumption) (by first | omega | assumption) dX4_readCommand_70 ?_
            refine v_aload_n (pc := 71) C 1 rfl dX4_readCommand_71 ?_
            refine v_iconst (pc := 72) C dX4_readCommand_72 ?_
            refine v_iload_n (pc := 73) C 0 rfl dX4_readCommand_73 ?_
            refine v_imul (pc := 74) C dX4_readCommand_74 ?_
            refine v_iconst (pc := 75) C dX4_readCommand_75 ?_
            refine v_iadd (pc := 76) C dX4_readCommand_76 ?_
            refine v_tald (pc := 77) C K (by first | omega | assumption) (by first | omega | assumption) (by first | omega | assumption) dX4_readCommand_77 ?_
            rw [tab_lo (k := K) (i := i) (j := 2 * (i : Int)) rfl, tab_hi (k := K) (i := i) (j := 2 * (i : Int) + 1) rfl]
            obtain ⟨b1, b2, b3⟩ := bnds K (by have := cntB_0 K hK6; omega) i (by omega)
            refine v_cv (pc := 78) (as := [.int (iI (i : Int)), .int (iI (loB K i)), .int (iI (hiB K i))]) C (cy_X4_readNumber G) (wM_X4_43 G) sh_1 (ci := 2) rfl rfl (k_X4_readNumber G hs h1 ht htr (by omega) (by omega) (by omega)) dX4_readCommand_78 rfl rfl (by decide) (by decide) (Nat.le_of_ble_eq_true rfl) zc (k_I (fun z78 s78 q78 => ?_))
            rcases q78 with ⟨rfl, q78, rfl⟩ | ⟨rfl, q78, rfl⟩
            · have hnx : nums t s K (p + 1) (i + 1) = (figV t s q 0 (if hiB K i > 9 then 2 else 1) (loB K i) (hiB K i), figP t s q 0 (if hiB K i > 9 then 2 else 1) (loB K i) (hiB K i)) := by
                rw [nums, hn1]
                exact Prod.ext (figV_a t s q _ _ _ hn2 (show (0 : Int) ≠ -1 by decide)) (figP_a t s q _ _ _ hn2 (show (0 : Int) ≠ -1 by decide))
              refine v_if_ne (pc := 81) C 86 (by first | omega | assumption) dX4_readCommand_81 (by decide) (fun _ => ?_) (fun h => absurd h (by decide))
              refine v_iinc (pc := 86) C 0 [(2, .int (iI ((i : Int) + 1))), (1, .ref (γ.2.2.2.2.2 K)), (0, .ref (bs γ + 1))] dX4_readCommand_86 rfl (by decide) rfl ?_
              refine v_goto (pc := 89) C 49 dX4_readCommand_89 (by decide) ?_
              have hfp := figP_r t s q 0 (if hiB K i > 9 then 2 else 1) (loB K i) (hiB K i)
              have hn3b : ∀ j : Nat, j < i + 1 → upr N1 (i : Int) (figV t s q 0 (if hiB K i > 9 then 2 else 1) (loB K i) (hiB K i)) (j : Int) = (nums t s K (p + 1) (j + 1)).1 := by
                intro j hj
                by_cases e : j = i
                · rw [e, upr_at, hnx]
                · rw [upr_ne _ _ (by omega)]; exact hn3 j (by omega)
              exact v_lv _ [0, 1, 2] rfl (ih (i + 1) _ _ (by omega) (by rw [hnx]) (by rw [hnx]; exact q78) hn3b (by omega) (by omega))
            · have hnx : nums t s K (p + 1) (i + 1) = (figV t s q 0 (if hiB K i > 9 then 2 else 1) (loB K i) (hiB K i), figP t s q 0 (if hiB K i > 9 then 2 else 1) (loB K i) (hiB K i)) := by
                rw [nums, hn1]
                exact Prod.ext (figV_a t s q _ _ _ hn2 (show (0 : Int) ≠ -1 by decide)) (figP_a t s q _ _ _ hn2 (show (0 : Int) ≠ -1 by decide))
              have hstop := nums_stop t s K (p + 1) (i := i + 1) (by rw [hnx]; exact q78) (cntB K - (i + 1))
              rw [show i + 1 + (cntB K - (i + 1)) = cntB K by omega, hnx] at hstop
              have hP : cmdP t s p = figP t s q 0 (if hiB K i > 9 then 2 else 1) (loB K i) (hiB K i) := by unfold cmdP; rw [if_neg (by rw [← hKt]; have := cntB_0 K hK6; omega), ← hKt, hstop]
              have hV : cmdV t s p = -1 := by unfold cmdV; rw [← hKt, hstop]
              refine v_if_ne (pc := 81) C 86 (by first | omega | assumption) dX4_readCommand_81 (by decide) (fun h => absurd h (by decide)) (fun _ => ?_)
              refine v_iconst (pc := 84) C dX4_readCommand_84 ?_
              exact v_iret (pc := 85) C hr (rfl) dX4_readCommand_85 (⟨_, rfl, Or.inr ⟨rfl, fun hh => hh.2 hV, _, _, by rw [hP]⟩⟩)
      have hz1 : z39 + 1 = p + 1 := by omega
      refine v_st (show _ = tS σ (p + 1) z18 N from by rw [hz1]) ?_
      exact v_lv _ [0, 1, 2] rfl (L49 (cntB K + 1) 0 (p + 1) N (Nat.zero_le _) rfl (by show (0 : Int) ≠ -1; decide) (fun j hj => absurd hj (Nat.not_lt_zero _)) (by omega) (by omega))
    · refine v_iconst (pc := 35) C dX4_readCommand_35 ?_
      exact v_iret (pc := 36) C hr (rfl) dX4_readCommand_36 (⟨_, rfl, Or.inr ⟨rfl, fun hh => hh.1 (by rw [← hKt]; exact ((cntB_0 K hK6).mp (by omega))), _, _, by rw [show cmdP t s p = p from if_pos (by rw [← hKt]; exact ((cntB_0 K hK6).mp (by omega)))]⟩⟩)
  · refine v_if_ne (pc := 4) C 9 (by first | omega | assumption) dX4_readCommand_4 (by decide) (fun h => absurd h (by decide)) (fun _ => ?_)
    refine v_iconst (pc := 7) C dX4_readCommand_7 ?_
    exact v_iret (pc := 8) C hr (rfl) dX4_readCommand_8 (absurd (show p < s from by omega) (by assumption))
