set_option maxHeartbeats 1000000 in
set_option maxRecDepth 100000 in
theorem k_holds {γ : Gm} (G : GL γ) (w : Bool) {S : St2} {A : Abs} (hS : gat S w = A) (hO : AOkA A) {fr : Int} (h4 : 4 ≤ nA A 0) (hab0 : ∀ v, 0 ≤ v → v < nA A 0 → AbV (nA A) v) (hfr0 : fr = 0 ∨ (fr = 1 ∧ ∀ v, 0 ≤ v → v < nA A 0 → FrV (nA A) v)) : Cl γ yL_holds (.code yL_holds cL_holds 23 (some .boolean)) 12 310 [.ref (bs (gw γ w)), .int (iI fr)] S 1 S := by
  refine Cl.of G (by decide +kernel) (Nat.le_of_ble_eq_true rfl) (fun φ C hcr hr => ?_)
  have C : Cx γ φ RL cL_holds 23 12 := C
  have h0 := hO.wf.1
  have h1 := hO.wf.2.1
  have hfrR : -2147483648 ≤ fr ∧ fr < 2147483648 := by rcases hfr0 with h | h <;> omega
  refine x_lv [(0, .ref (bs (gw γ w))), (1, .int (iI fr))] [0, 1] rfl ?_
  refine x_aload_n (pc := 0) C 0 rfl dL_holds_0 ?_
  refine x_iconst (pc := 1) C dL_holds_1 ?_
  refine x_iconst (pc := 2) C dL_holds_2 ?_
  refine x_iconst (pc := 3) C dL_holds_3 ?_
  refine x_iconst (pc := 4) C dL_holds_4 ?_
  refine x_cs (pc := 5) (a := 0) (m := 1) (S' := S) (z := nA A 0) (as := [.ref (bs (gw γ w)), .int (iI 2), .int (iI 0), .int (iI 0), .int (iI 0)]) C (cy_L_call G.1) (wM_L_172 G.1) (t_ab0 G w hS hO) dL_holds_5 rfl rfl (by decide) (by decide) (Nat.le_of_ble_eq_true rfl) ⟨by omega, by omega⟩ ?_
  refine x_istore_n (pc := 8) C [(2, .int (iI (nA A 0))), (0, .ref (bs (gw γ w))), (1, .int (iI fr))] dL_holds_8 rfl (by decide) rfl ?_
  refine x_aload_n (pc := 9) C 1 rfl dL_holds_9 ?_
  refine x_iconst (pc := 10) C dL_holds_10 ?_
  refine x_iconst (pc := 11) C dL_holds_11 ?_
  refine x_iconst (pc := 12) C dL_holds_12 ?_
  refine x_iconst (pc := 13) C dL_holds_13 ?_
  refine x_cs (pc := 14) (a := 1) (m := 1) (S' := S) (z := nA A 1) (as := [.ref (bs (gw γ w)), .int (iI 2), .int (iI 1), .int (iI 0), .int (iI 0)]) C (cy_L_call G.1) (wM_L_172 G.1) (t_ab1 G w hS hO) dL_holds_14 rfl rfl (by decide) (by decide) (Nat.le_of_ble_eq_true rfl) ⟨by omega, by omega⟩ ?_
  refine x_istore_n (pc := 17) C [(3, .int (iI (nA A 1))), (2, .int (iI (nA A 0))), (0, .ref (bs (gw γ w))), (1, .int (iI fr))] dL_holds_17 rfl (by decide) rfl ?_
  refine x_iconst (pc := 18) C dL_holds_18 ?_
  refine x_istore (pc := 19) C [(4, .int (iI 0)), (3, .int (iI (nA A 1))), (2, .int (iI (nA A 0))), (0, .ref (bs (gw γ w))), (1, .int (iI fr))] dL_holds_19 (by decide) rfl ?_
  refine x_iconst (pc := 21) C dL_holds_21 ?_
  refine x_istore (pc := 22) C [(5, .int (iI 0)), (4, .int (iI 0)), (3, .int (iI (nA A 1))), (2, .int (iI (nA A 0))), (0, .ref (bs (gw γ w))), (1, .int (iI fr))] dL_holds_22 (by decide) rfl ?_
  refine x_iconst (pc := 24) C dL_holds_24 ?_
  refine x_istore (pc := 25) C [(6, .int (iI 0)), (5, .int (iI 0)), (4, .int (iI 0)), (3, .int (iI (nA A 1))), (2, .int (iI (nA A 0))), (0, .ref (bs (gw γ w))), (1, .int (iI fr))] dL_holds_25 (by decide) rfl ?_
  refine x_iconst (pc := 27) C dL_holds_27 ?_
  refine x_istore (pc := 28) C [(7, .int (iI 0)), (6, .int (iI 0)), (5, .int (iI 0)), (4, .int (iI 0)), (3, .int (iI (nA A 1))), (2, .int (iI (nA A 0))), (0, .ref (bs (gw γ w))), (1, .int (iI fr))] dL_holds_28 (by decide) rfl ?_
  refine x_iconst (pc := 30) C dL_holds_30 ?_
  refine x_istore (pc := 31) C [(8, .int (iI 0)), (7, .int (iI 0)), (6, .int (iI 0)), (5, .int (iI 0)), (4, .int (iI 0)), (3, .int (iI (nA A 1))), (2, .int (iI (nA A 0))), (0, .ref (bs (gw γ w))), (1, .int (iI fr))] dL_holds_31 (by decide) rfl ?_
  refine x_iload_n (pc := 33) C 6 rfl dL_holds_33 ?_
  refine x_bipush (pc := 34) C (by decide +kernel) dL_holds_34 ?_
  refine x_icmp_gt (pc := 36) C 49 (by omega) (by decide) dL_holds_36 (by decide) (fun h => by exfalso; omega) (fun h36 => ?_)
  refine x_iload_n (pc := 39) C 5 rfl dL_holds_39 ?_
  refine x_bipush (pc := 40) C (by decide +kernel) dL_holds_40 ?_
  refine x_icmp_gt (pc := 42) C 49 (by omega) (by decide) dL_holds_42 (by decide) (fun h => by exfalso; omega) (fun h42 => ?_)
  refine x_iconst (pc := 45) C dL_holds_45 ?_
  refine x_goto (pc := 46) C 50 dL_holds_46 (by decide) ?_
  refine x_istore (pc := 50) C [(9, .int (iI 1)), (8, .int (iI 0)), (7, .int (iI 0)), (6, .int (iI 0)), (5, .int (iI 0)), (4, .int (iI 0)), (3, .int (iI (nA A 1))), (2, .int (iI (nA A 0))), (0, .ref (bs (gw γ w))), (1, .int (iI fr))] dL_holds_50 (by decide) rfl ?_
  refine x_iconst (pc := 52) C dL_holds_52 ?_
  refine x_istore (pc := 53) C [(10, .int (iI 0)), (9, .int (iI 1)), (8, .int (iI 0)), (7, .int (iI 0)), (6, .int (iI 0)), (5, .int (iI 0)), (4, .int (iI 0)), (3, .int (iI (nA A 1))), (2, .int (iI (nA A 0))), (0, .ref (bs (gw γ w))), (1, .int (iI fr))] dL_holds_53 (by decide) rfl ?_
  have L55 : ∀ (fu : Nat) (v : Nat) (j g4 g5 g6 g7 g8 : Int), (ej : j = (v : Int)) → (hvn : v ≤ (nA A 0).toNat) → (e4 : g4 = livelyR (nA A) v) → (e5 : g5 = allPR (nA A) v) → (e6 : g6 = keysR (nA A) v) → (e7 : g7 = sumC (nA A) 0 (nA A 1).toNat v) → (e8 : g8 = sumC (nA A) 2 (nA A 1).toNat v) → (nA A 0).toNat - v < fu → Vl γ φ 23 (2 + 14 * v) (QL γ φ 310 1 S) S 55 [(10, .int (iI j)), (4, .int (iI g4)), (5, .int (iI g5)), (6, .int (iI g6)), (7, .int (iI g7)), (8, .int (iI g8)), (9, .int (iI 1)), (0, .ref (bs (gw γ w))), (1, .int (iI fr)), (2, .int (iI (nA A 0))), (3, .int (iI (nA A 1)))] [] := by
    intro fu
    induction fu with
    | zero => intro v j g4 g5 g6 g7 g8 ej hvn e4 e5 e6 e7 e8 hz; exact absurd hz (Nat.not_lt_zero _)
    | succ fu ih =>
      intro v j g4 g5 g6 g7 g8 ej hvn e4 e5 e6 e7 e8 hz
      refine x_iload (pc := 55) C 0 rfl dL_holds_55 ?_
      refine x_iload_n (pc := 57) C 9 rfl dL_holds_57 ?_
      refine x_icmp_ge (pc := 58) C 659 (by omega) (by omega) dL_holds_58 (by decide) (fun h58 => ?_) (fun h58 => ?_)
      · have hve : v = (nA A 0).toNat := by omega
        rw [hve] at e4 e5 e6 e7 e8
        refine x_iconst (pc := 659) C dL_holds_659 ?_
        refine x_istore (pc := 660) C [(10, .int (iI 0)), (4, .int (iI g4)), (5, .int (iI g5)), (6, .int (iI g6)), (7, .int (iI g7)), (8, .int (iI g8)), (9, .int (iI 1)), (0, .ref (bs (gw γ w))), (1, .int (iI fr)), (2, .int (iI (nA A 0))), (3, .int (iI (nA A 1)))] dL_holds_660 (by decide) rfl ?_
        have L662 : ∀ (fu : Nat) (d : Nat) (j2 : Int), (ed : j2 = (d : Int)) → (hd : d ≤ (nA A 1).toNat) → (nA A 1).toNat - d < fu → Vl γ φ 23 (2 + 14 * v + 0 + 9 * d) (QL γ φ 310 1 S) S 662 [(10, .int (iI j2)), (4, .int (iI g4)), (5, .int (iI g5)), (6, .int (iI g6)), (7, .int (iI g7)), (8, .int (iI g8)), (9, .int (iI 1)), (0, .ref (bs (gw γ w))), (1, .int (iI fr)), (2, .int (iI (nA A 0))), (3, .int (iI (nA A 1)))] [] := by
          intro fu
          induction fu with
          | zero => intro d j2 ed hd hz; exact absurd hz (Nat.not_lt_zero _)
          | succ fu ih =>
            intro d j2 ed hd hz
            refine x_iload (pc := 662) C 0 rfl dL_holds_662 ?_
            refine x_iload_n (pc := 664) C 10 rfl dL_holds_664 ?_
            refine x_icmp_ge (pc := 665) C 873 (by omega) (by omega) dL_holds_665 (by decide) (fun h665 => ?_) (fun h665 => ?_)
            · refine x_aload_n (pc := 873) C 7 rfl dL_holds_873 ?_
              refine x_cv (pc := 874) (a := 2 + 14 * v + 0 + 9 * d + 0) (w := w) (as := []) C (cy_X5_tightest G.1) (wM_L_194 G.1) rfl (fun σ hC9 hO9 => k_X5_tightest (G.w w) hC9 hO9) (z := tightL (nA A) (nA A 1).toNat 0 (-1) 0) (fun _ _ _ q => ⟨(by rw [← hS]; exact q.2.1), q.2.2.1⟩) dL_holds_874 rfl rfl (by decide) (by decide) (Nat.le_of_ble_eq_true rfl) ⟨by omega, by omega⟩ ?_
              refine x_nm (fun bt ebt => ?_)
              have hbt : bt = -1 ∨ (0 ≤ bt ∧ bt < nA A 1 ∧ 0 < hasR (nA A) bt) := by
                have := tight_b (nA A) (nA A 1).toNat 0 (-1) 0 (by decide) (Or.inl rfl)
                rw [← ebt] at this
                omega
              have hs0 := sumC_all (n := nA A) 0 (Or.inl rfl) hO.wf (nA A 1).toNat (by omega)
              have hs2 := sumC_all (n := nA A) 2 (Or.inr rfl) hO.wf (nA A 1).toNat (by omega)
              have hlb := livelyR_b (nA A) (nA A 0).toNat
              have hpb := allPR_b hO.wf (nA A 0).toNat (by omega)
              have hkb := keysR_r (nA A) (nA A 0).toNat
              refine x_istore (pc := 877) C [(10, .int (iI bt)), (4, .int (iI g4)), (5, .int (iI g5)), (6, .int (iI g6)), (7, .int (iI g7)), (8, .int (iI g8)), (9, .int (iI 1)), (0, .ref (bs (gw γ w))), (1, .int (iI fr)), (2, .int (iI (nA A 0))), (3, .int (iI (nA A 1)))] dL_holds_877 (by decide) rfl ?_
              refine x_iload (pc := 879) C 6 rfl dL_holds_879 ?_
              refine x_if_eq (pc := 881) C 974 (by decide) dL_holds_881 (by decide) (fun h => absurd h (by decide)) (fun h881 => ?_)
              refine x_iload (pc := 884) C 4 rfl dL_holds_884 ?_
              refine x_iload_n (pc := 886) C 10 rfl dL_holds_886 ?_
              refine x_icmp_ne (pc := 887) C 974 (by omega) (by omega) dL_holds_887 (by decide) (fun h => by exfalso; omega) (fun h887 => ?_)
              refine x_iload (pc := 890) C 5 rfl dL_holds_890 ?_
              refine x_iload_n (pc := 892) C 10 rfl dL_holds_892 ?_
              refine x_icmp_ne (pc := 893) C 974 (by omega) (by omega) dL_holds_893 (by decide) (fun h => by exfalso; omega) (fun h893 => ?_)
              refine x_aload_n (pc := 896) C 7 rfl dL_holds_896 ?_
              refine x_iconst (pc := 897) C dL_holds_897 ?_
              refine x_iconst (pc := 898) C dL_holds_898 ?_
              refine x_iconst (pc := 899) C dL_holds_899 ?_
              refine x_iconst (pc := 900) C dL_holds_900 ?_
              refine x_cs (pc := 901) (a := 2 + 14 * v + 0 + 9 * d + 0) (m := 1) (S' := S) (z := livelyR (nA A) (nA A 0).toNat) (as := [.ref (bs (gw γ w)), .int (iI 2), .int (iI 3), .int (iI 0), .int (iI 0)]) C (cy_L_call G.1) (wM_L_172 G.1) (t_ab3 G w hS hO) dL_holds_901 rfl rfl (by decide) (by decide) (Nat.le_of_ble_eq_true rfl) ⟨by omega, by omega⟩ ?_
              refine x_iload (pc := 904) C 1 rfl dL_holds_904 ?_
              refine x_icmp_ne (pc := 906) C 974 (by omega) (by omega) dL_holds_906 (by decide) (fun h => absurd e4 (fun q => h (by first | exact q | exact q.symm))) (fun h906 => ?_)
              refine x_aload_n (pc := 909) C 7 rfl dL_holds_909 ?_
              refine x_iconst (pc := 910) C dL_holds_910 ?_
              refine x_iconst (pc := 911) C dL_holds_911 ?_
              refine x_iconst (pc := 912) C dL_holds_912 ?_
              refine x_iconst (pc := 913) C dL_holds_913 ?_
              refine x_cs (pc := 914) (a := 2 + 14 * v + 0 + 9 * d + 1) (m := 1) (S' := S) (z := allPR (nA A) (nA A 0).toNat) (as := [.ref (bs (gw γ w)), .int (iI 2), .int (iI 4), .int (iI 0), .int (iI 0)]) C (cy_L_call G.1) (wM_L_172 G.1) (t_ab4 G w hS hO) dL_holds_914 rfl rfl (by decide) (by decide) (Nat.le_of_ble_eq_true rfl) ⟨by omega, by omega⟩ ?_
              refine x_iload (pc := 917) C 2 rfl dL_holds_917 ?_
              refine x_icmp_ne (pc := 919) C 974 (by omega) (by omega) dL_holds_919 (by decide) (fun h => absurd e5 (fun q => h (by first | exact q | exact q.symm))) (fun h919 => ?_)
              refine x_aload_n (pc := 922) C 7 rfl dL_holds_922 ?_
              refine x_iconst (pc := 923) C dL_holds_923 ?_
              refine x_iconst (pc := 924) C dL_holds_924 ?_
              refine x_iconst (pc := 925) C dL_holds_925 ?_
              refine x_iconst (pc := 926) C dL_holds_926 ?_
              refine x_cs (pc := 927) (a := 2 + 14 * v + 0 + 9 * d + 2) (m := 1) (S' := S) (z := keysR (nA A) (nA A 0).toNat) (as := [.ref (bs (gw γ w)), .int (iI 2), .int (iI 5), .int (iI 0), .int (iI 0)]) C (cy_L_call G.1) (wM_L_172 G.1) (t_ab5 G w hS hO) dL_holds_927 rfl rfl (by decide) (by decide) (Nat.le_of_ble_eq_true rfl) ⟨by omega, by omega⟩ ?_
              refine x_iload (pc := 930) C 3 rfl dL_holds_930 ?_
              refine x_icmp_ne (pc := 932) C 974 (by omega) (by omega) dL_holds_932 (by decide) (fun h => absurd e6 (fun q => h (by first | exact q | exact q.symm))) (fun h932 => ?_)
              refine x_iload (pc := 935) C 0 rfl dL_holds_935 ?_
              refine x_iconst (pc := 937) C dL_holds_937 ?_
              refine x_icmp_eq (pc := 938) C 970 (by omega) (by decide) dL_holds_938 (by decide) (fun h938 => ?_) (fun h938 => ?_)
              · refine x_iconst (pc := 970) C dL_holds_970 ?_
                refine x_goto (pc := 971) C 975 dL_holds_971 (by decide) ?_
                exact x_ret (pc := 975) C (by omega) hr rfl dL_holds_975 rfl rfl
              · have he : 0 ≤ bt ∧ bt < nA A 1 := by omega
                obtain ⟨d0, d1, -⟩ := hO.wf.2.2.2.2.2 bt he.1 he.2
                have hha : 0 < nA A (6 + 7 * nA A (76 + 12 * bt + 0) + (3 + nA A (76 + 12 * bt + 1))) := (hbt.resolve_left (by omega)).2.2
                refine x_aload_n (pc := 941) C 7 rfl dL_holds_941 ?_
                refine x_iconst (pc := 942) C dL_holds_942 ?_
                refine x_aload_n (pc := 943) C 7 rfl dL_holds_943 ?_
                refine x_bipush (pc := 944) C (by decide +kernel) dL_holds_944 ?_
                refine x_iload (pc := 946) C 0 rfl dL_holds_946 ?_
                refine x_iconst (pc := 948) C dL_holds_948 ?_
                refine x_iconst (pc := 949) C dL_holds_949 ?_
                refine x_cs (pc := 950) (a := 2 + 14 * v + 0 + 9 * d + 3) (m := 1) (S' := S) (z := nA A (76 + 12 * bt + 0)) (as := [.ref (bs (gw γ w)), .int (iI 6), .int (iI bt), .int (iI 0), .int (iI 0)]) C (cy_L_call G.1) (wM_L_172 G.1) (t_pipe0 G w hS hO (e := bt) he) dL_holds_950 rfl rfl (by decide) (by decide) (Nat.le_of_ble_eq_true rfl) ⟨by omega, by omega⟩ ?_
                refine x_aload_n (pc := 953) C 7 rfl dL_holds_953 ?_
                refine x_bipush (pc := 954) C (by decide +kernel) dL_holds_954 ?_
                refine x_iload (pc := 956) C 0 rfl dL_holds_956 ?_
                refine x_iconst (pc := 958) C dL_holds_958 ?_
                refine x_iconst (pc := 959) C dL_holds_959 ?_
                refine x_cs (pc := 960) (a := 2 + 14 * v + 0 + 9 * d + 4) (m := 1) (S' := S) (z := nA A (76 + 12 * bt + 1)) (as := [.ref (bs (gw γ w)), .int (iI 6), .int (iI bt), .int (iI 1), .int (iI 0)]) C (cy_L_call G.1) (wM_L_172 G.1) (t_pipe1 G w hS hO (e := bt) he) dL_holds_960 rfl rfl (by decide) (by decide) (Nat.le_of_ble_eq_true rfl) ⟨by omega, by omega⟩ ?_
                refine x_iconst (pc := 963) C dL_holds_963 ?_
                refine x_cs (pc := 964) (a := 2 + 14 * v + 0 + 9 * d + 5) (m := 1) (S' := S) (z := nA A (6 + 7 * (nA A (76 + 12 * bt + 0)) + (3 + (nA A (76 + 12 * bt + 1))))) (as := [.ref (bs (gw γ w)), .int (iI 4), .int (iI (nA A (76 + 12 * bt + 0))), .int (iI (nA A (76 + 12 * bt + 1))), .int (iI 0)]) C (cy_L_call G.1) (wM_L_172 G.1) (t_leg G w hS hO (v := nA A (76 + 12 * bt + 0)) (g := nA A (76 + 12 * bt + 1)) d0 d1) dL_holds_964 rfl rfl (by decide) (by decide) (Nat.le_of_ble_eq_true rfl) ⟨by omega, by omega⟩ ?_
                refine x_if_le (pc := 967) C 974 (by have := hO.wf.lg d0 d1; omega) dL_holds_967 (by decide) (fun h => by exfalso; omega) (fun h967 => ?_)
                refine x_iconst (pc := 970) C dL_holds_970 ?_
                refine x_goto (pc := 971) C 975 dL_holds_971 (by decide) ?_
                exact x_ret (pc := 975) C (by omega) hr rfl dL_holds_975 rfl rfl
            · have he : 0 ≤ j2 ∧ j2 < nA A 1 := by omega
              obtain ⟨d0, d1, d2, d3, d4, d5, -⟩ := hO.wf.2.2.2.2.2 j2 he.1 he.2
              have hl4 := hO.wf.2.2.1
              have hs5 := hO.wf.2.2.2.1
              have hm1 : 0 ≤ nA A (76 + 12 * j2 + 4) * nA A 4 ∧ nA A (76 + 12 * j2 + 4) * nA A 4 ≤ 6 * 9 := mulb ⟨by omega, by omega⟩ ⟨by omega, by omega⟩
              have hout := outR_r hO.wf he.1 he.2
              refine x_iload (pc := 668) C 6 rfl dL_holds_668 ?_
              refine x_if_eq (pc := 670) C 873 (by decide) dL_holds_670 (by decide) (fun h => absurd h (by decide)) (fun h670 => ?_)
              refine x_aload_n (pc := 673) C 7 rfl dL_holds_673 ?_
              refine x_bipush (pc := 674) C (by decide +kernel) dL_holds_674 ?_
              refine x_iload (pc := 676) C 0 rfl dL_holds_676 ?_
              refine x_bipush (pc := 678) C (by decide +kernel) dL_holds_678 ?_
              refine x_iconst (pc := 680) C dL_holds_680 ?_
              refine x_cs (pc := 681) (a := 2 + 14 * v + 0 + 9 * d + 0) (m := 1) (S' := S) (z := needR (nA A) j2) (as := [.ref (bs (gw γ w)), .int (iI 6), .int (iI j2), .int (iI 7), .int (iI 0)]) C (cy_L_call G.1) (wM_L_172 G.1) (t_pipe7 G w hS hO (e := j2) he) dL_holds_681 rfl rfl (by decide) (by decide) (Nat.le_of_ble_eq_true rfl) ⟨by omega, by omega⟩ ?_
              refine x_nm (fun qd eqd => ?_)
              refine x_istore (pc := 684) C [(11, .int (iI qd)), (10, .int (iI j2)), (4, .int (iI g4)), (5, .int (iI g5)), (6, .int (iI g6)), (7, .int (iI g7)), (8, .int (iI g8)), (9, .int (iI 1)), (0, .ref (bs (gw γ w))), (1, .int (iI fr)), (2, .int (iI (nA A 0))), (3, .int (iI (nA A 1)))] dL_holds_684 (by decide) rfl ?_
              refine x_aload_n (pc := 686) C 8 rfl dL_holds_686 ?_
              refine x_bipush (pc := 687) C (by decide +kernel) dL_holds_687 ?_
              refine x_iload (pc := 689) C 1 rfl dL_holds_689 ?_
              refine x_iconst (pc := 691) C dL_holds_691 ?_
              refine x_iconst (pc := 692) C dL_holds_692 ?_
              refine x_cs (pc := 693) (a := 2 + 14 * v + 0 + 9 * d + 1) (m := 1) (S' := S) (z := nA A (76 + 12 * j2 + 4)) (as := [.ref (bs (gw γ w)), .int (iI 6), .int (iI j2), .int (iI 4), .int (iI 0)]) C (cy_L_call G.1) (wM_L_172 G.1) (t_pipe4 G w hS hO (e := j2) he) dL_holds_693 rfl rfl (by decide) (by decide) (Nat.le_of_ble_eq_true rfl) ⟨by omega, by omega⟩ ?_
              refine x_aload_n (pc := 696) C 8 rfl dL_holds_696 ?_
              refine x_bipush (pc := 697) C (by decide +kernel) dL_holds_697 ?_
              refine x_iconst (pc := 699) C dL_holds_699 ?_
              refine x_iconst (pc := 700) C dL_holds_700 ?_
              refine x_iconst (pc := 701) C dL_holds_701 ?_
              refine x_cs (pc := 702) (a := 2 + 14 * v + 0 + 9 * d + 2) (m := 1) (S' := S) (z := nA A 4) (as := [.ref (bs (gw γ w)), .int (iI 7), .int (iI 0), .int (iI 0), .int (iI 0)]) C (cy_L_call G.1) (wM_L_172 G.1) (t_set0 G w hS hO) dL_holds_702 rfl rfl (by decide) (by decide) (Nat.le_of_ble_eq_true rfl) ⟨by omega, by omega⟩ ?_
              refine x_imul (pc := 705) C dL_holds_705 ?_
              refine x_aload_n (pc := 706) C 8 rfl dL_holds_706 ?_
              refine x_bipush (pc := 707) C (by decide +kernel) dL_holds_707 ?_
              refine x_iload (pc := 709) C 1 rfl dL_holds_709 ?_
              refine x_iconst (pc := 711) C dL_holds_711 ?_
              refine x_iconst (pc := 712) C dL_holds_712 ?_
              refine x_cs (pc := 713) (a := 2 + 14 * v + 0 + 9 * d + 3) (m := 1) (S' := S) (z := nA A (76 + 12 * j2 + 5)) (as := [.ref (bs (gw γ w)), .int (iI 6), .int (iI j2), .int (iI 5), .int (iI 0)]) C (cy_L_call G.1) (wM_L_172 G.1) (t_pipe5 G w hS hO (e := j2) he) dL_holds_713 rfl rfl (by decide) (by decide) (Nat.le_of_ble_eq_true rfl) ⟨by omega, by omega⟩ ?_
              refine x_iadd (pc := 716) C dL_holds_716 ?_
              refine x_nm (fun lo elo => ?_)
              refine x_istore (pc := 717) C [(12, .int (iI lo)), (11, .int (iI qd)), (10, .int (iI j2)), (4, .int (iI g4)), (5, .int (iI g5)), (6, .int (iI g6)), (7, .int (iI g7)), (8, .int (iI g8)), (9, .int (iI 1)), (0, .ref (bs (gw γ w))), (1, .int (iI fr)), (2, .int (iI (nA A 0))), (3, .int (iI (nA A 1)))] dL_holds_717 (by decide) rfl ?_
              refine x_aload_n (pc := 719) C 9 rfl dL_holds_719 ?_
              refine x_bipush (pc := 720) C (by decide +kernel) dL_holds_720 ?_
              refine x_iload (pc := 722) C 2 rfl dL_holds_722 ?_
              refine x_bipush (pc := 724) C (by decide +kernel) dL_holds_724 ?_
              refine x_iconst (pc := 726) C dL_holds_726 ?_
              refine x_cs (pc := 727) (a := 2 + 14 * v + 0 + 9 * d + 4) (m := 1) (S' := S) (z := outR (nA A) j2) (as := [.ref (bs (gw γ w)), .int (iI 6), .int (iI j2), .int (iI 6), .int (iI 0)]) C (cy_L_call G.1) (wM_L_172 G.1) (t_pipe6 G w hS hO (e := j2) he) dL_holds_727 rfl rfl (by decide) (by decide) (Nat.le_of_ble_eq_true rfl) ⟨by omega, by omega⟩ ?_
              refine x_nm (fun ot eot => ?_)
              refine x_istore (pc := 730) C [(13, .int (iI ot)), (12, .int (iI lo)), (11, .int (iI qd)), (10, .int (iI j2)), (4, .int (iI g4)), (5, .int (iI g5)), (6, .int (iI g6)), (7, .int (iI g7)), (8, .int (iI g8)), (9, .int (iI 1)), (0, .ref (bs (gw γ w))), (1, .int (iI fr)), (2, .int (iI (nA A 0))), (3, .int (iI (nA A 1)))] dL_holds_730 (by decide) rfl ?_
              refine x_aload_n (pc := 732) C 10 rfl dL_holds_732 ?_
              refine x_bipush (pc := 733) C (by decide +kernel) dL_holds_733 ?_
              refine x_iload (pc := 735) C 3 rfl dL_holds_735 ?_
              refine x_iconst (pc := 737) C dL_holds_737 ?_
              refine x_iconst (pc := 738) C dL_holds_738 ?_
              refine x_cs (pc := 739) (a := 2 + 14 * v + 0 + 9 * d + 5) (m := 1) (S' := S) (z := nA A (76 + 12 * j2 + 2)) (as := [.ref (bs (gw γ w)), .int (iI 6), .int (iI j2), .int (iI 2), .int (iI 0)]) C (cy_L_call G.1) (wM_L_172 G.1) (t_pipe2 G w hS hO (e := j2) he) dL_holds_739 rfl rfl (by decide) (by decide) (Nat.le_of_ble_eq_true rfl) ⟨by omega, by omega⟩ ?_
              refine x_nm (fun tv etv => ?_)
              have htv : 0 ≤ tv ∧ tv < nA A 0 := by rw [etv]; exact d2
              refine x_istore (pc := 742) C [(14, .int (iI tv)), (13, .int (iI ot)), (12, .int (iI lo)), (11, .int (iI qd)), (10, .int (iI j2)), (4, .int (iI g4)), (5, .int (iI g5)), (6, .int (iI g6)), (7, .int (iI g7)), (8, .int (iI g8)), (9, .int (iI 1)), (0, .ref (bs (gw γ w))), (1, .int (iI fr)), (2, .int (iI (nA A 0))), (3, .int (iI (nA A 1)))] dL_holds_742 (by decide) rfl ?_
              refine x_aload_n (pc := 744) C 11 rfl dL_holds_744 ?_
              refine x_iconst (pc := 745) C dL_holds_745 ?_
              refine x_iload (pc := 746) C 0 rfl dL_holds_746 ?_
              refine x_iconst (pc := 748) C dL_holds_748 ?_
              refine x_iconst (pc := 749) C dL_holds_749 ?_
              refine x_cs (pc := 750) (a := 2 + 14 * v + 0 + 9 * d + 6) (m := 1) (S' := S) (z := nA A (6 + 7 * tv + 1)) (as := [.ref (bs (gw γ w)), .int (iI 3), .int (iI tv), .int (iI 1), .int (iI 0)]) C (cy_L_call G.1) (wM_L_172 G.1) (t_told1 G w hS hO (v := tv) htv) dL_holds_750 rfl rfl (by decide) (by decide) (Nat.le_of_ble_eq_true rfl) ⟨by omega, by omega⟩ ?_
              refine x_aload_n (pc := 753) C 11 rfl dL_holds_753 ?_
              refine x_bipush (pc := 754) C (by decide +kernel) dL_holds_754 ?_
              refine x_iconst (pc := 756) C dL_holds_756 ?_
              refine x_iconst (pc := 757) C dL_holds_757 ?_
              refine x_iconst (pc := 758) C dL_holds_758 ?_
              refine x_cs (pc := 759) (a := 2 + 14 * v + 0 + 9 * d + 7) (m := 1) (S' := S) (z := nA A 5) (as := [.ref (bs (gw γ w)), .int (iI 7), .int (iI 1), .int (iI 0), .int (iI 0)]) C (cy_L_call G.1) (wM_L_172 G.1) (t_set1 G w hS hO) dL_holds_759 rfl rfl (by decide) (by decide) (Nat.le_of_ble_eq_true rfl) ⟨by omega, by omega⟩ ?_
              refine x_imul (pc := 762) C dL_holds_762 ?_
              refine x_nm (fun by9 eby9 => ?_)
              have hsu := (hO.wf.2.2.2.2.1 tv htv.1 htv.2).2.1
              have hby : 50 ≤ by9 ∧ by9 ≤ 8910 := by
                have h1 : 10 * 5 ≤ nA A (6 + 7 * tv + 1) * nA A 5 := Int.mul_le_mul hsu.1 hs5.1 (by decide) (by omega)
                have h2 := (mulb (x := nA A (6 + 7 * tv + 1)) (y := nA A 5) (A := 99) (B := 90) ⟨by omega, by omega⟩ ⟨by omega, by omega⟩).2
                rw [eby9]
                omega
              have hlo : 0 ≤ lo ∧ lo ≤ 84 := by rw [elo]; omega
              have hnd : (qd = (by9 + 99) / 100 + lo ∧ (by9 + 99) / 100 + lo ≤ 99) ∨ (qd = -1 ∧ 99 < (by9 + 99) / 100 + lo) := by
                have e : needP (nA A) j2 = (by9 + 99) / 100 + lo := by unfold needP; rw [eby9, elo, etv]
                rw [eqd]
                unfold needR
                rw [e]
                split
                · exact Or.inl ⟨rfl, by omega⟩
                · exact Or.inr ⟨rfl, by omega⟩
              rw [← eot] at hout
              refine x_istore (pc := 763) C [(15, .int (iI by9)), (14, .int (iI tv)), (13, .int (iI ot)), (12, .int (iI lo)), (11, .int (iI qd)), (10, .int (iI j2)), (4, .int (iI g4)), (5, .int (iI g5)), (6, .int (iI g6)), (7, .int (iI g7)), (8, .int (iI g8)), (9, .int (iI 1)), (0, .ref (bs (gw γ w))), (1, .int (iI fr)), (2, .int (iI (nA A 0))), (3, .int (iI (nA A 1)))] dL_holds_763 (by decide) rfl ?_
              refine holds_d G C hout hby hlo hnd ?_
              refine x_iconst (pc := 860) C dL_holds_860 ?_
              refine x_goto (pc := 861) C 865 dL_holds_861 (by decide) ?_
              refine x_istore (pc := 865) C [(9, .int (iI 1)), (15, .int (iI by9)), (14, .int (iI tv)), (13, .int (iI ot)), (12, .int (iI lo)), (11, .int (iI qd)), (10, .int (iI j2)), (4, .int (iI g4)), (5, .int (iI g5)), (6, .int (iI g6)), (7, .int (iI g7)), (8, .int (iI g8)), (0, .ref (bs (gw γ w))), (1, .int (iI fr)), (2, .int (iI (nA A 0))), (3, .int (iI (nA A 1)))] dL_holds_865 (by decide) rfl ?_
              refine x_iinc (pc := 867) C 6 [(10, .int (iI (j2 + 1))), (9, .int (iI 1)), (15, .int (iI by9)), (14, .int (iI tv)), (13, .int (iI ot)), (12, .int (iI lo)), (11, .int (iI qd)), (4, .int (iI g4)), (5, .int (iI g5)), (6, .int (iI g6)), (7, .int (iI g7)), (8, .int (iI g8)), (0, .ref (bs (gw γ w))), (1, .int (iI fr)), (2, .int (iI (nA A 0))), (3, .int (iI (nA A 1)))] dL_holds_867 rfl (by decide) rfl ?_
              refine x_goto (pc := 870) C 662 dL_holds_870 (by decide) ?_
              exact x_lv _ [0, 7, 8, 9, 10, 11, 1, 12, 13, 14, 15] rfl (x_wide (by omega) (ih (d + 1) (j2 + 1) (by omega) (by omega) (by omega)))
        exact x_lv _ [0, 1, 2, 3, 4, 5, 6, 7, 8, 9, 10] rfl (x_wide (by omega) (L662 ((nA A 1).toNat + 1) 0 0 rfl (by omega) (by omega)))
      · have hv : 0 ≤ j ∧ j < nA A 0 := by omega
        refine x_iload (pc := 61) C 6 rfl dL_holds_61 ?_
        refine x_if_eq (pc := 63) C 659 (by decide) dL_holds_63 (by decide) (fun h => absurd h (by decide)) (fun h63 => ?_)
        refine x_aload_n (pc := 66) C 7 rfl dL_holds_66 ?_
        refine x_iconst (pc := 67) C dL_holds_67 ?_
        refine x_iload (pc := 68) C 0 rfl dL_holds_68 ?_
        refine x_iconst (pc := 70) C dL_holds_70 ?_
        refine x_iconst (pc := 71) C dL_holds_71 ?_
        refine x_cs (pc := 72) (a := 2 + 14 * v + 0) (m := 1) (S' := S) (z := nA A (6 + 7 * j + 0)) (as := [.ref (bs (gw γ w)), .int (iI 3), .int (iI j), .int (iI 0), .int (iI 0)]) C (cy_L_call G.1) (wM_L_172 G.1) (t_told0 G w hS hO (v := j) hv) dL_holds_72 rfl rfl (by decide) (by decide) (Nat.le_of_ble_eq_true rfl) ⟨by omega, by omega⟩ ?_
        refine x_nm (fun kd ekd => ?_)
        refine x_istore (pc := 75) C [(11, .int (iI kd)), (10, .int (iI j)), (4, .int (iI g4)), (5, .int (iI g5)), (6, .int (iI g6)), (7, .int (iI g7)), (8, .int (iI g8)), (9, .int (iI 1)), (0, .ref (bs (gw γ w))), (1, .int (iI fr)), (2, .int (iI (nA A 0))), (3, .int (iI (nA A 1)))] dL_holds_75 (by decide) rfl ?_
        refine x_aload_n (pc := 77) C 8 rfl dL_holds_77 ?_
        refine x_iconst (pc := 78) C dL_holds_78 ?_
        refine x_iload (pc := 79) C 1 rfl dL_holds_79 ?_
        refine x_iconst (pc := 81) C dL_holds_81 ?_
        refine x_iconst (pc := 82) C dL_holds_82 ?_
        refine x_cs (pc := 83) (a := 2 + 14 * v + 1) (m := 1) (S' := S) (z := nA A (6 + 7 * j + 1)) (as := [.ref (bs (gw γ w)), .int (iI 3), .int (iI j), .int (iI 1), .int (iI 0)]) C (cy_L_call G.1) (wM_L_172 G.1) (t_told1 G w hS hO (v := j) hv) dL_holds_83 rfl rfl (by decide) (by decide) (Nat.le_of_ble_eq_true rfl) ⟨by omega, by omega⟩ ?_
        refine x_nm (fun su esu => ?_)
        refine x_istore (pc := 86) C [(12, .int (iI su)), (11, .int (iI kd)), (10, .int (iI j)), (4, .int (iI g4)), (5, .int (iI g5)), (6, .int (iI g6)), (7, .int (iI g7)), (8, .int (iI g8)), (9, .int (iI 1)), (0, .ref (bs (gw γ w))), (1, .int (iI fr)), (2, .int (iI (nA A 0))), (3, .int (iI (nA A 1)))] dL_holds_86 (by decide) rfl ?_
        refine x_aload_n (pc := 88) C 9 rfl dL_holds_88 ?_
        refine x_iconst (pc := 89) C dL_holds_89 ?_
        refine x_iload (pc := 90) C 2 rfl dL_holds_90 ?_
        refine x_iconst (pc := 92) C dL_holds_92 ?_
        refine x_iconst (pc := 93) C dL_holds_93 ?_
        refine x_cs (pc := 94) (a := 2 + 14 * v + 2) (m := 1) (S' := S) (z := nA A (6 + 7 * j + 2)) (as := [.ref (bs (gw γ w)), .int (iI 3), .int (iI j), .int (iI 2), .int (iI 0)]) C (cy_L_call G.1) (wM_L_172 G.1) (t_told2 G w hS hO (v := j) hv) dL_holds_94 rfl rfl (by decide) (by decide) (Nat.le_of_ble_eq_true rfl) ⟨by omega, by omega⟩ ?_
        refine x_nm (fun hw ehw => ?_)
        refine x_istore (pc := 97) C [(13, .int (iI hw)), (12, .int (iI su)), (11, .int (iI kd)), (10, .int (iI j)), (4, .int (iI g4)), (5, .int (iI g5)), (6, .int (iI g6)), (7, .int (iI g7)), (8, .int (iI g8)), (9, .int (iI 1)), (0, .ref (bs (gw γ w))), (1, .int (iI fr)), (2, .int (iI (nA A 0))), (3, .int (iI (nA A 1)))] dL_holds_97 (by decide) rfl ?_
        refine x_aload_n (pc := 99) C 10 rfl dL_holds_99 ?_
        refine x_iconst (pc := 100) C dL_holds_100 ?_
        refine x_iload (pc := 101) C 3 rfl dL_holds_101 ?_
        refine x_iconst (pc := 103) C dL_holds_103 ?_
        refine x_iconst (pc := 104) C dL_holds_104 ?_
        refine x_cs (pc := 105) (a := 2 + 14 * v + 3) (m := 1) (S' := S) (z := nA A (6 + 7 * j + 3)) (as := [.ref (bs (gw γ w)), .int (iI 4), .int (iI j), .int (iI 0), .int (iI 0)]) C (cy_L_call G.1) (wM_L_172 G.1) (t_leg0 G w hS hO (v := j) hv) dL_holds_105 rfl rfl (by decide) (by decide) (Nat.le_of_ble_eq_true rfl) ⟨by omega, by omega⟩ ?_
        refine x_nm (fun la ela => ?_)
        refine x_istore (pc := 108) C [(14, .int (iI la)), (13, .int (iI hw)), (12, .int (iI su)), (11, .int (iI kd)), (10, .int (iI j)), (4, .int (iI g4)), (5, .int (iI g5)), (6, .int (iI g6)), (7, .int (iI g7)), (8, .int (iI g8)), (9, .int (iI 1)), (0, .ref (bs (gw γ w))), (1, .int (iI fr)), (2, .int (iI (nA A 0))), (3, .int (iI (nA A 1)))] dL_holds_108 (by decide) rfl ?_
        refine x_aload_n (pc := 110) C 11 rfl dL_holds_110 ?_
        refine x_iconst (pc := 111) C dL_holds_111 ?_
        refine x_iload (pc := 112) C 4 rfl dL_holds_112 ?_
        refine x_iconst (pc := 114) C dL_holds_114 ?_
        refine x_iconst (pc := 115) C dL_holds_115 ?_
        refine x_cs (pc := 116) (a := 2 + 14 * v + 4) (m := 1) (S' := S) (z := nA A (6 + 7 * j + 4)) (as := [.ref (bs (gw γ w)), .int (iI 4), .int (iI j), .int (iI 1), .int (iI 0)]) C (cy_L_call G.1) (wM_L_172 G.1) (t_leg1 G w hS hO (v := j) hv) dL_holds_116 rfl rfl (by decide) (by decide) (Nat.le_of_ble_eq_true rfl) ⟨by omega, by omega⟩ ?_
        refine x_nm (fun lb elb => ?_)
        refine x_istore (pc := 119) C [(15, .int (iI lb)), (14, .int (iI la)), (13, .int (iI hw)), (12, .int (iI su)), (11, .int (iI kd)), (10, .int (iI j)), (4, .int (iI g4)), (5, .int (iI g5)), (6, .int (iI g6)), (7, .int (iI g7)), (8, .int (iI g8)), (9, .int (iI 1)), (0, .ref (bs (gw γ w))), (1, .int (iI fr)), (2, .int (iI (nA A 0))), (3, .int (iI (nA A 1)))] dL_holds_119 (by decide) rfl ?_
        refine x_aload_n (pc := 121) C 12 rfl dL_holds_121 ?_
        refine x_iconst (pc := 122) C dL_holds_122 ?_
        refine x_iload (pc := 123) C 5 rfl dL_holds_123 ?_
        refine x_iconst (pc := 125) C dL_holds_125 ?_
        refine x_iconst (pc := 126) C dL_holds_126 ?_
        refine x_cs (pc := 127) (a := 2 + 14 * v + 5) (m := 1) (S' := S) (z := nA A (6 + 7 * j + 5)) (as := [.ref (bs (gw γ w)), .int (iI 5), .int (iI j), .int (iI 0), .int (iI 0)]) C (cy_L_call G.1) (wM_L_172 G.1) (t_psh0 G w hS hO (v := j) hv) dL_holds_127 rfl rfl (by decide) (by decide) (Nat.le_of_ble_eq_true rfl) ⟨by omega, by omega⟩ ?_
        refine x_nm (fun pa epa => ?_)
        refine x_istore (pc := 130) C [(16, .int (iI pa)), (15, .int (iI lb)), (14, .int (iI la)), (13, .int (iI hw)), (12, .int (iI su)), (11, .int (iI kd)), (10, .int (iI j)), (4, .int (iI g4)), (5, .int (iI g5)), (6, .int (iI g6)), (7, .int (iI g7)), (8, .int (iI g8)), (9, .int (iI 1)), (0, .ref (bs (gw γ w))), (1, .int (iI fr)), (2, .int (iI (nA A 0))), (3, .int (iI (nA A 1)))] dL_holds_130 (by decide) rfl ?_
        refine x_aload_n (pc := 132) C 13 rfl dL_holds_132 ?_
        refine x_iconst (pc := 133) C dL_holds_133 ?_
        refine x_iload (pc := 134) C 6 rfl dL_holds_134 ?_
        refine x_iconst (pc := 136) C dL_holds_136 ?_
        refine x_iconst (pc := 137) C dL_holds_137 ?_
        refine x_cs (pc := 138) (a := 2 + 14 * v + 6) (m := 1) (S' := S) (z := nA A (6 + 7 * j + 6)) (as := [.ref (bs (gw γ w)), .int (iI 5), .int (iI j), .int (iI 1), .int (iI 0)]) C (cy_L_call G.1) (wM_L_172 G.1) (t_psh1 G w hS hO (v := j) hv) dL_holds_138 rfl rfl (by decide) (by decide) (Nat.le_of_ble_eq_true rfl) ⟨by omega, by omega⟩ ?_
        refine x_nm (fun pb epb => ?_)
        refine x_istore (pc := 141) C [(17, .int (iI pb)), (16, .int (iI pa)), (15, .int (iI lb)), (14, .int (iI la)), (13, .int (iI hw)), (12, .int (iI su)), (11, .int (iI kd)), (10, .int (iI j)), (4, .int (iI g4)), (5, .int (iI g5)), (6, .int (iI g6)), (7, .int (iI g7)), (8, .int (iI g8)), (9, .int (iI 1)), (0, .ref (bs (gw γ w))), (1, .int (iI fr)), (2, .int (iI (nA A 0))), (3, .int (iI (nA A 1)))] dL_holds_141 (by decide) rfl ?_
        refine x_aload_n (pc := 143) C 14 rfl dL_holds_143 ?_
        refine x_iconst (pc := 144) C dL_holds_144 ?_
        refine x_iload (pc := 145) C 7 rfl dL_holds_145 ?_
        refine x_iconst (pc := 147) C dL_holds_147 ?_
        refine x_iconst (pc := 148) C dL_holds_148 ?_
        refine x_cs (pc := 149) (a := 2 + 14 * v + 7) (m := 1) (S' := S) (z := (if worksR (nA A) j 5 then (1 : Int) else 0)) (as := [.ref (bs (gw γ w)), .int (iI 5), .int (iI j), .int (iI 0), .int (iI 1)]) C (cy_L_call G.1) (wM_L_172 G.1) (t_wrk0 G w hS hO (v := j) hv) dL_holds_149 rfl rfl (by decide) (by decide) (Nat.le_of_ble_eq_true rfl) ⟨by omega, by omega⟩ ?_
        refine x_nm (fun o1 eo1 => ?_)
        have ho1 : (o1 = 1 ∧ worksR (nA A) j 5) ∨ (o1 = 0 ∧ ¬ worksR (nA A) j 5) := by
          rw [eo1]
          by_cases c : worksR (nA A) j 5
          · rw [if_pos c]; exact Or.inl ⟨rfl, c⟩
          · rw [if_neg c]; exact Or.inr ⟨rfl, c⟩
        refine x_iconst (pc := 152) C dL_holds_152 ?_
        suffices K153 : Vl γ φ 23 (2 + 14 * v + 8) (QL γ φ 310 1 S) S 161 [(17, .int (iI pb)), (16, .int (iI pa)), (15, .int (iI lb)), (14, .int (iI la)), (13, .int (iI hw)), (12, .int (iI su)), (11, .int (iI kd)), (10, .int (iI j)), (4, .int (iI g4)), (5, .int (iI g5)), (6, .int (iI g6)), (7, .int (iI g7)), (8, .int (iI g8)), (9, .int (iI 1)), (0, .ref (bs (gw γ w))), (1, .int (iI fr)), (2, .int (iI (nA A 0))), (3, .int (iI (nA A 1)))] [.int (iI o1)] by
          refine x_icmp_ne (pc := 153) C 160 (by omega) (by decide) dL_holds_153 (by decide) (fun h153 => ?_) (fun h153 => ?_)
          · refine x_iconst (pc := 160) C dL_holds_160 ?_
            exact x_ti (x2 := o1) (by omega) K153
          · refine x_iconst (pc := 156) C dL_holds_156 ?_
            refine x_goto (pc := 157) C 161 dL_holds_157 (by decide) ?_
            exact x_ti (x2 := o1) (by omega) K153
        refine x_istore (pc := 161) C [(18, .int (iI o1)), (17, .int (iI pb)), (16, .int (iI pa)), (15, .int (iI lb)), (14, .int (iI la)), (13, .int (iI hw)), (12, .int (iI su)), (11, .int (iI kd)), (10, .int (iI j)), (4, .int (iI g4)), (5, .int (iI g5)), (6, .int (iI g6)), (7, .int (iI g7)), (8, .int (iI g8)), (9, .int (iI 1)), (0, .ref (bs (gw γ w))), (1, .int (iI fr)), (2, .int (iI (nA A 0))), (3, .int (iI (nA A 1)))] dL_holds_161 (by decide) rfl ?_
        refine x_aload_n (pc := 163) C 15 rfl dL_holds_163 ?_
        refine x_iconst (pc := 164) C dL_holds_164 ?_
        refine x_iload (pc := 165) C 8 rfl dL_holds_165 ?_
        refine x_iconst (pc := 167) C dL_holds_167 ?_
        refine x_iconst (pc := 168) C dL_holds_168 ?_
        refine x_cs (pc := 169) (a := 2 + 14 * v + 8) (m := 1) (S' := S) (z := (if worksR (nA A) j 6 then (1 : Int) else 0)) (as := [.ref (bs (gw γ w)), .int (iI 5), .int (iI j), .int (iI 1), .int (iI 1)]) C (cy_L_call G.1) (wM_L_172 G.1) (t_wrk1 G w hS hO (v := j) hv) dL_holds_169 rfl rfl (by decide) (by decide) (Nat.le_of_ble_eq_true rfl) ⟨by omega, by omega⟩ ?_
        refine x_nm (fun o2 eo2 => ?_)
        have ho2 : (o2 = 1 ∧ worksR (nA A) j 6) ∨ (o2 = 0 ∧ ¬ worksR (nA A) j 6) := by
          rw [eo2]
          by_cases c : worksR (nA A) j 6
          · rw [if_pos c]; exact Or.inl ⟨rfl, c⟩
          · rw [if_neg c]; exact Or.inr ⟨rfl, c⟩
        refine x_iconst (pc := 172) C dL_holds_172 ?_
        suffices K173 : Vl γ φ 23 (2 + 14 * v + 9) (QL γ φ 310 1 S) S 181 [(18, .int (iI o1)), (17, .int (iI pb)), (16, .int (iI pa)), (15, .int (iI lb)), (14, .int (iI la)), (13, .int (iI hw)), (12, .int (iI su)), (11, .int (iI kd)), (10, .int (iI j)), (4, .int (iI g4)), (5, .int (iI g5)), (6, .int (iI g6)), (7, .int (iI g7)), (8, .int (iI g8)), (9, .int (iI 1)), (0, .ref (bs (gw γ w))), (1, .int (iI fr)), (2, .int (iI (nA A 0))), (3, .int (iI (nA A 1)))] [.int (iI o2)] by
          refine x_icmp_ne (pc := 173) C 180 (by omega) (by decide) dL_holds_173 (by decide) (fun h173 => ?_) (fun h173 => ?_)
          · refine x_iconst (pc := 180) C dL_holds_180 ?_
            exact x_ti (x2 := o2) (by omega) K173
          · refine x_iconst (pc := 176) C dL_holds_176 ?_
            refine x_goto (pc := 177) C 181 dL_holds_177 (by decide) ?_
            exact x_ti (x2 := o2) (by omega) K173
        refine x_istore (pc := 181) C [(19, .int (iI o2)), (18, .int (iI o1)), (17, .int (iI pb)), (16, .int (iI pa)), (15, .int (iI lb)), (14, .int (iI la)), (13, .int (iI hw)), (12, .int (iI su)), (11, .int (iI kd)), (10, .int (iI j)), (4, .int (iI g4)), (5, .int (iI g5)), (6, .int (iI g6)), (7, .int (iI g7)), (8, .int (iI g8)), (9, .int (iI 1)), (0, .ref (bs (gw γ w))), (1, .int (iI fr)), (2, .int (iI (nA A 0))), (3, .int (iI (nA A 1)))] dL_holds_181 (by decide) rfl ?_
        refine x_aload_n (pc := 183) C 16 rfl dL_holds_183 ?_
        refine x_bipush (pc := 184) C (by decide +kernel) dL_holds_184 ?_
        refine x_iconst (pc := 186) C dL_holds_186 ?_
        refine x_iconst (pc := 187) C dL_holds_187 ?_
        refine x_iconst (pc := 188) C dL_holds_188 ?_
        refine x_cs (pc := 189) (a := 2 + 14 * v + 9) (m := 1) (S' := S) (z := nA A 5) (as := [.ref (bs (gw γ w)), .int (iI 7), .int (iI 1), .int (iI 0), .int (iI 0)]) C (cy_L_call G.1) (wM_L_172 G.1) (t_set1 G w hS hO) dL_holds_189 rfl rfl (by decide) (by decide) (Nat.le_of_ble_eq_true rfl) ⟨by omega, by omega⟩ ?_
        refine x_nm (fun sg esg => ?_)
        refine x_istore (pc := 192) C [(20, .int (iI sg)), (19, .int (iI o2)), (18, .int (iI o1)), (17, .int (iI pb)), (16, .int (iI pa)), (15, .int (iI lb)), (14, .int (iI la)), (13, .int (iI hw)), (12, .int (iI su)), (11, .int (iI kd)), (10, .int (iI j)), (4, .int (iI g4)), (5, .int (iI g5)), (6, .int (iI g6)), (7, .int (iI g7)), (8, .int (iI g8)), (9, .int (iI 1)), (0, .ref (bs (gw γ w))), (1, .int (iI fr)), (2, .int (iI (nA A 0))), (3, .int (iI (nA A 1)))] dL_holds_192 (by decide) rfl ?_
        obtain ⟨⟨k0, k4⟩, ⟨u0, u9⟩, ⟨w0, w1⟩, ⟨a0, a9⟩, ⟨b0, b9⟩, ⟨p0, p9⟩, ⟨q0, q9⟩, -⟩ := hO.wf.2.2.2.2.1 j hv.1 hv.2
        rw [← ekd] at k0 k4
        rw [← esu] at u0 u9
        rw [← ehw] at w0 w1
        rw [← ela] at a0 a9
        rw [← elb] at b0 b9
        rw [← epa] at p0 p9
        rw [← epb] at q0 q9
        refine x_iload (pc := 194) C 11 rfl dL_holds_194 ?_
        refine x_iload (pc := 196) C 6 rfl dL_holds_196 ?_
        suffices K198 : Vl γ φ 23 (2 + 14 * v + 10) (QL γ φ 310 1 S) S 206 [(20, .int (iI sg)), (19, .int (iI o2)), (18, .int (iI o1)), (17, .int (iI pb)), (16, .int (iI pa)), (15, .int (iI lb)), (14, .int (iI la)), (13, .int (iI hw)), (12, .int (iI su)), (11, .int (iI kd)), (10, .int (iI j)), (4, .int (iI g4)), (5, .int (iI g5)), (6, .int (iI g6)), (7, .int (iI g7)), (8, .int (iI g8)), (9, .int (iI 1)), (0, .ref (bs (gw γ w))), (1, .int (iI fr)), (2, .int (iI (nA A 0))), (3, .int (iI (nA A 1)))] [.int (iI (if 0 < la then 1 else 0)), .int (iI g4)] by
          refine x_if_le (pc := 198) C 205 (by omega) dL_holds_198 (by decide) (fun h198 => ?_) (fun h198 => ?_)
          · refine x_iconst (pc := 205) C dL_holds_205 ?_
            exact x_ti (x2 := (if 0 < la then 1 else 0)) (by split <;> first | rfl | omega) K198
          · refine x_iconst (pc := 201) C dL_holds_201 ?_
            refine x_goto (pc := 202) C 206 dL_holds_202 (by decide) ?_
            exact x_ti (x2 := (if 0 < la then 1 else 0)) (by split <;> first | rfl | omega) K198
        refine x_iload (pc := 206) C 5 rfl dL_holds_206 ?_
        suffices K208 : Vl γ φ 23 (2 + 14 * v + 10) (QL γ φ 310 1 S) S 216 [(20, .int (iI sg)), (19, .int (iI o2)), (18, .int (iI o1)), (17, .int (iI pb)), (16, .int (iI pa)), (15, .int (iI lb)), (14, .int (iI la)), (13, .int (iI hw)), (12, .int (iI su)), (11, .int (iI kd)), (10, .int (iI j)), (4, .int (iI g4)), (5, .int (iI g5)), (6, .int (iI g6)), (7, .int (iI g7)), (8, .int (iI g8)), (9, .int (iI 1)), (0, .ref (bs (gw γ w))), (1, .int (iI fr)), (2, .int (iI (nA A 0))), (3, .int (iI (nA A 1)))] [.int (iI (if 0 < lb then 1 else 0)), .int (iI (if 0 < la then 1 else 0)), .int (iI g4)] by
          refine x_if_le (pc := 208) C 215 (by omega) dL_holds_208 (by decide) (fun h208 => ?_) (fun h208 => ?_)
          · refine x_iconst (pc := 215) C dL_holds_215 ?_
            exact x_ti (x2 := (if 0 < lb then 1 else 0)) (by split <;> first | rfl | omega) K208
          · refine x_iconst (pc := 211) C dL_holds_211 ?_
            refine x_goto (pc := 212) C 216 dL_holds_212 (by decide) ?_
            exact x_ti (x2 := (if 0 < lb then 1 else 0)) (by split <;> first | rfl | omega) K208
        refine x_iadd (pc := 216) C dL_holds_216 ?_
        refine x_iadd (pc := 217) C dL_holds_217 ?_
        refine x_istore (pc := 218) C [(4, .int (iI (g4 + ((if 0 < la then 1 else 0) + (if 0 < lb then 1 else 0))))), (20, .int (iI sg)), (19, .int (iI o2)), (18, .int (iI o1)), (17, .int (iI pb)), (16, .int (iI pa)), (15, .int (iI lb)), (14, .int (iI la)), (13, .int (iI hw)), (12, .int (iI su)), (11, .int (iI kd)), (10, .int (iI j)), (5, .int (iI g5)), (6, .int (iI g6)), (7, .int (iI g7)), (8, .int (iI g8)), (9, .int (iI 1)), (0, .ref (bs (gw γ w))), (1, .int (iI fr)), (2, .int (iI (nA A 0))), (3, .int (iI (nA A 1)))] dL_holds_218 (by decide) rfl ?_
        refine x_iload (pc := 220) C 12 rfl dL_holds_220 ?_
        refine x_iload (pc := 222) C 7 rfl dL_holds_222 ?_
        refine x_iload (pc := 224) C 6 rfl dL_holds_224 ?_
        refine x_iadd (pc := 226) C dL_holds_226 ?_
        refine x_iadd (pc := 227) C dL_holds_227 ?_
        refine x_istore (pc := 228) C [(5, .int (iI (g5 + (la + lb)))), (4, .int (iI (g4 + ((if 0 < la then 1 else 0) + (if 0 < lb then 1 else 0))))), (20, .int (iI sg)), (19, .int (iI o2)), (18, .int (iI o1)), (17, .int (iI pb)), (16, .int (iI pa)), (15, .int (iI lb)), (14, .int (iI la)), (13, .int (iI hw)), (12, .int (iI su)), (11, .int (iI kd)), (10, .int (iI j)), (6, .int (iI g6)), (7, .int (iI g7)), (8, .int (iI g8)), (9, .int (iI 1)), (0, .ref (bs (gw γ w))), (1, .int (iI fr)), (2, .int (iI (nA A 0))), (3, .int (iI (nA A 1)))] dL_holds_228 (by decide) rfl ?_
        refine x_iload (pc := 230) C 13 rfl dL_holds_230 ?_
        refine x_iload (pc := 232) C 11 rfl dL_holds_232 ?_
        suffices K234 : Vl γ φ 23 (2 + 14 * v + 10) (QL γ φ 310 1 S) S 251 [(5, .int (iI (g5 + (la + lb)))), (4, .int (iI (g4 + ((if 0 < la then 1 else 0) + (if 0 < lb then 1 else 0))))), (20, .int (iI sg)), (19, .int (iI o2)), (18, .int (iI o1)), (17, .int (iI pb)), (16, .int (iI pa)), (15, .int (iI lb)), (14, .int (iI la)), (13, .int (iI hw)), (12, .int (iI su)), (11, .int (iI kd)), (10, .int (iI j)), (6, .int (iI g6)), (7, .int (iI g7)), (8, .int (iI g8)), (9, .int (iI 1)), (0, .ref (bs (gw γ w))), (1, .int (iI fr)), (2, .int (iI (nA A 0))), (3, .int (iI (nA A 1)))] [.int (iI (if kd = 0 ∧ hw = 1 then iShl 1 j else 0)), .int (iI g6)] by
          refine x_if_ne (pc := 234) C 250 (by omega) dL_holds_234 (by decide) (fun h234 => ?_) (fun h234 => ?_)
          · refine x_iconst (pc := 250) C dL_holds_250 ?_
            exact x_ti (x2 := (if kd = 0 ∧ hw = 1 then iShl 1 j else 0)) (by split <;> first | rfl | omega | (exfalso; omega)) K234
          · refine x_iload (pc := 237) C 9 rfl dL_holds_237 ?_
            refine x_iconst (pc := 239) C dL_holds_239 ?_
            refine x_icmp_ne (pc := 240) C 250 (by omega) (by decide) dL_holds_240 (by decide) (fun h240 => ?_) (fun h240 => ?_)
            · refine x_iconst (pc := 250) C dL_holds_250 ?_
              exact x_ti (x2 := (if kd = 0 ∧ hw = 1 then iShl 1 j else 0)) (by split <;> first | rfl | omega | (exfalso; omega)) K234
            · refine x_iconst (pc := 243) C dL_holds_243 ?_
              refine x_iload (pc := 244) C 12 rfl dL_holds_244 ?_
              refine x_ishl (pc := 246) C dL_holds_246 ?_
              refine x_goto (pc := 247) C 251 dL_holds_247 (by decide) ?_
              exact x_ti (x2 := (if kd = 0 ∧ hw = 1 then iShl 1 j else 0)) (by split <;> first | rfl | omega | (exfalso; omega)) K234
        refine x_ior (pc := 251) C dL_holds_251 ?_
        refine x_istore (pc := 252) C [(6, .int (iI (iOr g6 (if kd = 0 ∧ hw = 1 then iShl 1 j else 0)))), (5, .int (iI (g5 + (la + lb)))), (4, .int (iI (g4 + ((if 0 < la then 1 else 0) + (if 0 < lb then 1 else 0))))), (20, .int (iI sg)), (19, .int (iI o2)), (18, .int (iI o1)), (17, .int (iI pb)), (16, .int (iI pa)), (15, .int (iI lb)), (14, .int (iI la)), (13, .int (iI hw)), (12, .int (iI su)), (11, .int (iI kd)), (10, .int (iI j)), (7, .int (iI g7)), (8, .int (iI g8)), (9, .int (iI 1)), (0, .ref (bs (gw γ w))), (1, .int (iI fr)), (2, .int (iI (nA A 0))), (3, .int (iI (nA A 1)))] dL_holds_252 (by decide) rfl ?_
        refine x_iload (pc := 254) C 14 rfl dL_holds_254 ?_
        refine x_aload_n (pc := 256) C 17 rfl dL_holds_256 ?_
        refine x_iconst (pc := 257) C dL_holds_257 ?_
        refine x_iload (pc := 258) C 13 rfl dL_holds_258 ?_
        refine x_iconst (pc := 260) C dL_holds_260 ?_
        refine x_iconst (pc := 261) C dL_holds_261 ?_
        refine x_cs (pc := 262) (a := 2 + 14 * v + 10) (m := 1) (S' := S) (z := cntR (nA A) j 0 (nA A 1).toNat) (as := [.ref (bs (gw γ w)), .int (iI 3), .int (iI j), .int (iI 3), .int (iI 0)]) C (cy_L_call G.1) (wM_L_172 G.1) (t_told3 G w hS hO (v := j) hv) dL_holds_262 rfl rfl (by decide) (by decide) (Nat.le_of_ble_eq_true rfl) ⟨by omega, by omega⟩ ?_
        refine x_iadd (pc := 265) C dL_holds_265 ?_
        refine x_istore (pc := 266) C [(7, .int (iI (g7 + (cntR (nA A) j 0 (nA A 1).toNat)))), (6, .int (iI (iOr g6 (if kd = 0 ∧ hw = 1 then iShl 1 j else 0)))), (5, .int (iI (g5 + (la + lb)))), (4, .int (iI (g4 + ((if 0 < la then 1 else 0) + (if 0 < lb then 1 else 0))))), (20, .int (iI sg)), (19, .int (iI o2)), (18, .int (iI o1)), (17, .int (iI pb)), (16, .int (iI pa)), (15, .int (iI lb)), (14, .int (iI la)), (13, .int (iI hw)), (12, .int (iI su)), (11, .int (iI kd)), (10, .int (iI j)), (8, .int (iI g8)), (9, .int (iI 1)), (0, .ref (bs (gw γ w))), (1, .int (iI fr)), (2, .int (iI (nA A 0))), (3, .int (iI (nA A 1)))] dL_holds_266 (by decide) rfl ?_
        refine x_iload (pc := 268) C 15 rfl dL_holds_268 ?_
        refine x_aload_n (pc := 270) C 17 rfl dL_holds_270 ?_
        refine x_iconst (pc := 271) C dL_holds_271 ?_
        refine x_iload (pc := 272) C 14 rfl dL_holds_272 ?_
        refine x_iconst (pc := 274) C dL_holds_274 ?_
        refine x_iconst (pc := 275) C dL_holds_275 ?_
        refine x_cs (pc := 276) (a := 2 + 14 * v + 11) (m := 1) (S' := S) (z := cntR (nA A) j 2 (nA A 1).toNat) (as := [.ref (bs (gw γ w)), .int (iI 3), .int (iI j), .int (iI 4), .int (iI 0)]) C (cy_L_call G.1) (wM_L_172 G.1) (t_told4 G w hS hO (v := j) hv) dL_holds_276 rfl rfl (by decide) (by decide) (Nat.le_of_ble_eq_true rfl) ⟨by omega, by omega⟩ ?_
        refine x_iadd (pc := 279) C dL_holds_279 ?_
        refine x_istore (pc := 280) C [(8, .int (iI (g8 + (cntR (nA A) j 2 (nA A 1).toNat)))), (7, .int (iI (g7 + (cntR (nA A) j 0 (nA A 1).toNat)))), (6, .int (iI (iOr g6 (if kd = 0 ∧ hw = 1 then iShl 1 j else 0)))), (5, .int (iI (g5 + (la + lb)))), (4, .int (iI (g4 + ((if 0 < la then 1 else 0) + (if 0 < lb then 1 else 0))))), (20, .int (iI sg)), (19, .int (iI o2)), (18, .int (iI o1)), (17, .int (iI pb)), (16, .int (iI pa)), (15, .int (iI lb)), (14, .int (iI la)), (13, .int (iI hw)), (12, .int (iI su)), (11, .int (iI kd)), (10, .int (iI j)), (9, .int (iI 1)), (0, .ref (bs (gw γ w))), (1, .int (iI fr)), (2, .int (iI (nA A 0))), (3, .int (iI (nA A 1)))] dL_holds_280 (by decide) rfl ?_
        have hx1 : worksR (nA A) j 5 ↔ o1 = 1 := ⟨fun c => ho1.elim (fun x => x.1) (fun x => absurd c x.2), fun c => ho1.elim (fun x => x.2) (fun x => by rw [x.1] at c; exact absurd c (by decide))⟩
        have hx2 : worksR (nA A) j 6 ↔ o2 = 1 := ⟨fun c => ho2.elim (fun x => x.1) (fun x => absurd c x.2), fun c => ho2.elim (fun x => x.2) (fun x => by rw [x.1] at c; exact absurd c (by decide))⟩
        have hz1 : o1 = 0 ∨ o1 = 1 := ho1.elim (fun x => Or.inr x.1) (fun x => Or.inl x.1)
        have hz2 : o2 = 0 ∨ o2 = 1 := ho2.elim (fun x => Or.inr x.1) (fun x => Or.inl x.1)
        have hkk : kd = 0 ∨ kd = 1 ∨ kd = 2 ∨ kd = 3 ∨ kd = 4 := by clear ho1 ho2 hz1 hz2 hx1 hx2; omega
        have hsg : 5 ≤ sg ∧ sg ≤ 90 := by rw [esg]; exact hO.wf.2.2.2.1
        have hus : 0 ≤ su * sg ∧ su * sg ≤ 99 * 90 := mulb ⟨Int.le_trans (by decide) u0, u9⟩ ⟨Int.le_trans (by decide) hsg.1, hsg.2⟩
        obtain ⟨-, -, -, -, -, -, -, g1, g2, g3⟩ := hO.wf.2.2.2.2.1 j hv.1 hv.2
        have hab := hab0 j hv.1 hv.2
        unfold AbV at hab
        rw [← ekd, ← ehw] at g3
        rw [← ela, ← elb] at hab
        have hw1 : worksR (nA A) j 5 ↔ 0 < pa ∧ su * sg ≤ 100 * pa := by unfold worksR strongR; rw [epa, esu, esg]
        have hw2 : worksR (nA A) j 6 ↔ 0 < pb ∧ su * sg ≤ 100 * pb := by unfold worksR strongR; rw [epb, esu, esg]
        rw [hw1] at ho1
        rw [hw2] at ho2
        refine holds_c1 G C ⟨k0, k4⟩ ⟨u0, u9⟩ ⟨w0, w1⟩ (fun x y => g3 x y) ⟨a0, a9⟩ ⟨b0, b9⟩ hab ⟨p0, p9⟩ ⟨q0, q9⟩ ?_
        refine holds_c2 G C ⟨p0, p9⟩ hus ho1 ?_
        refine holds_c3 G C ⟨q0, q9⟩ hus ho2 ?_
        refine x_iconst (pc := 448) C dL_holds_448 ?_
        refine x_goto (pc := 449) C 453 dL_holds_449 (by decide) ?_
        refine x_istore (pc := 453) C [(9, .int (iI 1)), (8, .int (iI (g8 + (cntR (nA A) j 2 (nA A 1).toNat)))), (7, .int (iI (g7 + (cntR (nA A) j 0 (nA A 1).toNat)))), (6, .int (iI (iOr g6 (if kd = 0 ∧ hw = 1 then iShl 1 j else 0)))), (5, .int (iI (g5 + (la + lb)))), (4, .int (iI (g4 + ((if 0 < la then 1 else 0) + (if 0 < lb then 1 else 0))))), (20, .int (iI sg)), (19, .int (iI o2)), (18, .int (iI o1)), (17, .int (iI pb)), (16, .int (iI pa)), (15, .int (iI lb)), (14, .int (iI la)), (13, .int (iI hw)), (12, .int (iI su)), (11, .int (iI kd)), (10, .int (iI j)), (0, .ref (bs (gw γ w))), (1, .int (iI fr)), (2, .int (iI (nA A 0))), (3, .int (iI (nA A 1)))] dL_holds_453 (by decide) rfl ?_
        refine x_iload_n (pc := 455) C 18 rfl dL_holds_455 ?_
        suffices K456 : Vl γ φ 23 (2 + 14 * v + 12) (QL γ φ 310 1 S) S 653 [(9, .int (iI 1)), (8, .int (iI (g8 + (cntR (nA A) j 2 (nA A 1).toNat)))), (7, .int (iI (g7 + (cntR (nA A) j 0 (nA A 1).toNat)))), (6, .int (iI (iOr g6 (if kd = 0 ∧ hw = 1 then iShl 1 j else 0)))), (5, .int (iI (g5 + (la + lb)))), (4, .int (iI (g4 + ((if 0 < la then 1 else 0) + (if 0 < lb then 1 else 0))))), (10, .int (iI j)), (0, .ref (bs (gw γ w))), (1, .int (iI fr)), (2, .int (iI (nA A 0))), (3, .int (iI (nA A 1)))] [] by
          refine x_if_eq (pc := 456) C 653 hfrR dL_holds_456 (by decide) (fun h456 => ?_) (fun h456 => ?_)
          · exact x_lv _ [0, 1, 2, 3, 4, 5, 16, 17, 18, 19, 20] rfl K456
          · refine x_iload (pc := 459) C 0 rfl dL_holds_459 ?_
            refine x_if_eq (pc := 461) C 653 (by decide) dL_holds_461 (by decide) (fun h => absurd h (by decide)) (fun h461 => ?_)
            obtain ⟨f0, f1, f2, f3, f4⟩ := (hfr0.resolve_left h456).2 j hv.1 hv.2
            rw [hx1, hx2] at f1 f2
            rw [← ekd] at f0 f1 f2 f3 f4
            rw [← ehw] at f0 f2
            rw [← esu, ← ela, ← elb] at f0 f1 f2 f4
            rw [← ela, ← elb] at f3
            rw [← epa, ← epb] at f3 f4
            rcases hkk with e | e | e | e | e
            · exact holds_k0 G C e ⟨u0, u9⟩ ⟨w0, w1⟩ ⟨a0, a9⟩ ⟨b0, b9⟩ ⟨p0, p9⟩ ⟨q0, q9⟩ hz1 hz2 (f0 e) K456
            · exact holds_k1 G C e ⟨u0, u9⟩ ⟨w0, w1⟩ ⟨a0, a9⟩ ⟨b0, b9⟩ ⟨p0, p9⟩ ⟨q0, q9⟩ hz1 hz2 (f1 e) K456
            · exact holds_k2 G C e ⟨u0, u9⟩ ⟨w0, w1⟩ ⟨a0, a9⟩ ⟨b0, b9⟩ ⟨p0, p9⟩ ⟨q0, q9⟩ hz1 hz2 (f2 e) K456
            · exact holds_k3 G C e ⟨u0, u9⟩ ⟨w0, w1⟩ ⟨a0, a9⟩ ⟨b0, b9⟩ ⟨p0, p9⟩ ⟨q0, q9⟩ hz1 hz2 (f3 e) K456
            · exact holds_k4 G C e ⟨u0, u9⟩ ⟨w0, w1⟩ ⟨a0, a9⟩ ⟨b0, b9⟩ ⟨p0, p9⟩ ⟨q0, q9⟩ hz1 hz2 (f4 e) K456
        clear ho1 ho2 hx1 hx2 hz1 hz2 hkk hab g1 g2 g3 hw1 hw2 hus
        refine x_iinc (pc := 653) C 6 [(10, .int (iI (j + 1))), (9, .int (iI 1)), (8, .int (iI (g8 + (cntR (nA A) j 2 (nA A 1).toNat)))), (7, .int (iI (g7 + (cntR (nA A) j 0 (nA A 1).toNat)))), (6, .int (iI (iOr g6 (if kd = 0 ∧ hw = 1 then iShl 1 j else 0)))), (5, .int (iI (g5 + (la + lb)))), (4, .int (iI (g4 + ((if 0 < la then 1 else 0) + (if 0 < lb then 1 else 0))))), (0, .ref (bs (gw γ w))), (1, .int (iI fr)), (2, .int (iI (nA A 0))), (3, .int (iI (nA A 1)))] dL_holds_653 rfl (by decide) rfl ?_
        refine x_goto (pc := 656) C 55 dL_holds_656 (by decide) ?_
        exact x_lv _ [0, 6, 5, 4, 3, 2, 1, 7, 8, 9, 10] rfl (x_wide (by omega) (ih (v + 1) (j + 1) (g4 + ((if 0 < la then 1 else 0) + (if 0 < lb then 1 else 0))) (g5 + (la + lb)) (iOr g6 (if kd = 0 ∧ hw = 1 then iShl 1 j else 0)) (g7 + (cntR (nA A) j 0 (nA A 1).toNat)) (g8 + (cntR (nA A) j 2 (nA A 1).toNat)) (by omega) (by omega) (by rw [livelyR, ← e4, ← ej, ← ela, ← elb]) (by rw [allPR, ← e5, ← ej, ← ela, ← elb]) (by rw [keysR, ← e6, ← ej, ← ekd, ← ehw]) (by rw [sumC, ← e7, ← ej]) (by rw [sumC, ← e8, ← ej]) (by omega)))
  exact x_lv _ [0, 6, 5, 4, 3, 2, 1, 9, 10, 8, 7] rfl (x_wide (by omega) (L55 ((nA A 0).toNat + 1) 0 0 0 0 0 0 0 rfl (by omega) rfl rfl rfl rfl rfl (by omega)))
