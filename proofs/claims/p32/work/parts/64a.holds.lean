set_option maxHeartbeats 4000000 in
set_option maxRecDepth 100000 in
theorem holds_d {γ : Gm} {φ : Fx} {a : Nat} {Q : State → Prop} {S : St2} {w : Bool} {by9 tv ot lo qd j2 g4 g5 g6 g7 g8 fr y2 y3 : Int} (G : GL γ) (C : Cx γ φ RL cL_holds 23 12) (hO : 0 ≤ ot ∧ ot ≤ 99) (hB : 50 ≤ by9 ∧ by9 ≤ 8910) (hL : 0 ≤ lo ∧ lo ≤ 84) (hN : (qd = (by9 + 99) / 100 + lo ∧ (by9 + 99) / 100 + lo ≤ 99) ∨ (qd = -1 ∧ 99 < (by9 + 99) / 100 + lo)) (K : Vl γ φ 23 (a) Q S 860 [(15, .int (iI by9)), (14, .int (iI tv)), (13, .int (iI ot)), (12, .int (iI lo)), (11, .int (iI qd)), (10, .int (iI j2)), (4, .int (iI g4)), (5, .int (iI g5)), (6, .int (iI g6)), (7, .int (iI g7)), (8, .int (iI g8)), (9, .int (iI 1)), (0, .ref (bs (gw γ w))), (1, .int (iI fr)), (2, .int (iI y2)), (3, .int (iI y3))] []) : Vl γ φ 23 (a) Q S 765 [(15, .int (iI by9)), (14, .int (iI tv)), (13, .int (iI ot)), (12, .int (iI lo)), (11, .int (iI qd)), (10, .int (iI j2)), (4, .int (iI g4)), (5, .int (iI g5)), (6, .int (iI g6)), (7, .int (iI g7)), (8, .int (iI g8)), (9, .int (iI 1)), (0, .ref (bs (gw γ w))), (1, .int (iI fr)), (2, .int (iI y2)), (3, .int (iI y3))] [] := by
  refine x_iload (pc := 765) C 2 rfl dL_holds_765 ?_
  refine x_if_lt (pc := 767) C 864 (by omega) dL_holds_767 (by decide) (fun h => by exfalso; omega) (fun h767 => ?_)
  refine x_iload (pc := 770) C 2 rfl dL_holds_770 ?_
  refine x_iload (pc := 772) C 3 rfl dL_holds_772 ?_
  refine x_iadd (pc := 774) C dL_holds_774 ?_
  refine x_bipush (pc := 775) C (by decide +kernel) dL_holds_775 ?_
  refine x_iload (pc := 777) C 3 rfl dL_holds_777 ?_
  refine x_iadd (pc := 779) C dL_holds_779 ?_
  refine x_icmp_ge (pc := 780) C 864 (by omega) (by omega) dL_holds_780 (by decide) (fun h => by exfalso; omega) (fun h780 => ?_)
  refine x_iload (pc := 783) C 4 rfl dL_holds_783 ?_
  refine x_iconst (pc := 785) C dL_holds_785 ?_
  suffices K786 : Vl γ φ 23 (a + 0) Q S 834 [(15, .int (iI by9)), (14, .int (iI tv)), (13, .int (iI ot)), (12, .int (iI lo)), (11, .int (iI qd)), (10, .int (iI j2)), (4, .int (iI g4)), (5, .int (iI g5)), (6, .int (iI g6)), (7, .int (iI g7)), (8, .int (iI g8)), (9, .int (iI 1)), (0, .ref (bs (gw γ w))), (1, .int (iI fr)), (2, .int (iI y2)), (3, .int (iI y3))] [] by
    refine x_icmp_eq (pc := 786) C 834 (by omega) (by decide) dL_holds_786 (by decide) (fun h786 => ?_) (fun h786 => ?_)
    · exact K786
    · refine x_iload (pc := 789) C 4 rfl dL_holds_789 ?_
      refine x_iload (pc := 791) C 3 rfl dL_holds_791 ?_
      refine x_isub (pc := 793) C dL_holds_793 ?_
      refine x_if_le (pc := 794) C 864 (by omega) dL_holds_794 (by decide) (fun h => by exfalso; omega) (fun h794 => ?_)
      refine x_bipush (pc := 797) C (by decide +kernel) dL_holds_797 ?_
      refine x_iload (pc := 799) C 4 rfl dL_holds_799 ?_
      refine x_iload (pc := 801) C 3 rfl dL_holds_801 ?_
      refine x_isub (pc := 803) C dL_holds_803 ?_
      refine x_imul (pc := 804) C dL_holds_804 ?_
      refine x_iload (pc := 805) C 0 rfl dL_holds_805 ?_
      refine x_icmp_lt (pc := 807) C 864 (by omega) (by omega) dL_holds_807 (by decide) (fun h => by exfalso; omega) (fun h807 => ?_)
      refine x_iload (pc := 810) C 4 rfl dL_holds_810 ?_
      refine x_iload (pc := 812) C 3 rfl dL_holds_812 ?_
      refine x_isub (pc := 814) C dL_holds_814 ?_
      refine x_iconst (pc := 815) C dL_holds_815 ?_
      refine x_icmp_eq (pc := 816) C 834 (by omega) (by decide) dL_holds_816 (by decide) (fun h816 => ?_) (fun h816 => ?_)
      · exact K786
      · refine x_bipush (pc := 819) C (by decide +kernel) dL_holds_819 ?_
        refine x_iload (pc := 821) C 4 rfl dL_holds_821 ?_
        refine x_iload (pc := 823) C 3 rfl dL_holds_823 ?_
        refine x_isub (pc := 825) C dL_holds_825 ?_
        refine x_iconst (pc := 826) C dL_holds_826 ?_
        refine x_isub (pc := 827) C dL_holds_827 ?_
        refine x_imul (pc := 828) C dL_holds_828 ?_
        refine x_iload (pc := 829) C 0 rfl dL_holds_829 ?_
        refine x_icmp_ge (pc := 831) C 864 (by omega) (by omega) dL_holds_831 (by decide) (fun h => by exfalso; omega) (fun h831 => ?_)
        exact K786
  refine x_iload (pc := 834) C 4 rfl dL_holds_834 ?_
  refine x_iconst (pc := 836) C dL_holds_836 ?_
  refine x_icmp_ne (pc := 837) C 860 (by omega) (by decide) dL_holds_837 (by decide) (fun h837 => ?_) (fun h837 => ?_)
  · exact K
  · refine x_bipush (pc := 840) C (by decide +kernel) dL_holds_840 ?_
    refine x_bipush (pc := 842) C (by decide +kernel) dL_holds_842 ?_
    refine x_iload (pc := 844) C 3 rfl dL_holds_844 ?_
    refine x_isub (pc := 846) C dL_holds_846 ?_
    refine x_imul (pc := 847) C dL_holds_847 ?_
    refine x_iload (pc := 848) C 0 rfl dL_holds_848 ?_
    refine x_icmp_lt (pc := 850) C 860 (by omega) (by omega) dL_holds_850 (by decide) (fun h850 => ?_) (fun h => by exfalso; omega)
    exact K
set_option maxHeartbeats 4000000 in
set_option maxRecDepth 100000 in
theorem holds_c1 {γ : Gm} {φ : Fx} {a : Nat} {Q : State → Prop} {S : St2} {w : Bool} {y8 y7 y6 y5 y4 sg o2 o1 pb pa lb la hw su kd j fr y2 y3 : Int} (G : GL γ) (C : Cx γ φ RL cL_holds 23 12) (hk : 0 ≤ kd ∧ kd ≤ 4) (hu : 10 ≤ su ∧ su ≤ 99) (hh : 0 ≤ hw ∧ hw ≤ 1) (h2 : ¬ kd = 0 → ¬ kd = 2 → hw = 0) (hA : 0 ≤ la ∧ la ≤ 99) (hB : 0 ≤ lb ∧ lb ≤ 99) (hab : la = 0 ∨ lb = 0) (hP : 0 ≤ pa ∧ pa ≤ 99) (hQ : 0 ≤ pb ∧ pb ≤ 99) (K : Vl γ φ 23 (a) Q S 392 [(8, .int (iI y8)), (7, .int (iI y7)), (6, .int (iI y6)), (5, .int (iI y5)), (4, .int (iI y4)), (20, .int (iI sg)), (19, .int (iI o2)), (18, .int (iI o1)), (17, .int (iI pb)), (16, .int (iI pa)), (15, .int (iI lb)), (14, .int (iI la)), (13, .int (iI hw)), (12, .int (iI su)), (11, .int (iI kd)), (10, .int (iI j)), (9, .int (iI 1)), (0, .ref (bs (gw γ w))), (1, .int (iI fr)), (2, .int (iI y2)), (3, .int (iI y3))] []) : Vl γ φ 23 (a) Q S 282 [(8, .int (iI y8)), (7, .int (iI y7)), (6, .int (iI y6)), (5, .int (iI y5)), (4, .int (iI y4)), (20, .int (iI sg)), (19, .int (iI o2)), (18, .int (iI o1)), (17, .int (iI pb)), (16, .int (iI pa)), (15, .int (iI lb)), (14, .int (iI la)), (13, .int (iI hw)), (12, .int (iI su)), (11, .int (iI kd)), (10, .int (iI j)), (9, .int (iI 1)), (0, .ref (bs (gw γ w))), (1, .int (iI fr)), (2, .int (iI y2)), (3, .int (iI y3))] [] := by
  refine x_iload (pc := 282) C 14 rfl dL_holds_282 ?_
  refine x_if_lt (pc := 284) C 452 (by omega) dL_holds_284 (by decide) (fun h => by exfalso; omega) (fun h284 => ?_)
  refine x_iload (pc := 287) C 14 rfl dL_holds_287 ?_
  refine x_iconst (pc := 289) C dL_holds_289 ?_
  refine x_icmp_ge (pc := 290) C 452 (by omega) (by decide) dL_holds_290 (by decide) (fun h => by exfalso; omega) (fun h290 => ?_)
  refine x_iload (pc := 293) C 13 rfl dL_holds_293 ?_
  refine x_bipush (pc := 295) C (by decide +kernel) dL_holds_295 ?_
  refine x_icmp_le (pc := 297) C 452 (by omega) (by decide) dL_holds_297 (by decide) (fun h => by exfalso; omega) (fun h297 => ?_)
  refine x_iload (pc := 300) C 13 rfl dL_holds_300 ?_
  refine x_bipush (pc := 302) C (by decide +kernel) dL_holds_302 ?_
  refine x_icmp_ge (pc := 304) C 452 (by omega) (by decide) dL_holds_304 (by decide) (fun h => by exfalso; omega) (fun h304 => ?_)
  refine x_iload (pc := 307) C 12 rfl dL_holds_307 ?_
  refine x_if_lt (pc := 309) C 452 (by omega) dL_holds_309 (by decide) (fun h => by exfalso; omega) (fun h309 => ?_)
  refine x_iload (pc := 312) C 12 rfl dL_holds_312 ?_
  refine x_iconst (pc := 314) C dL_holds_314 ?_
  refine x_icmp_ge (pc := 315) C 452 (by omega) (by decide) dL_holds_315 (by decide) (fun h => by exfalso; omega) (fun h315 => ?_)
  refine x_iload (pc := 318) C 14 rfl dL_holds_318 ?_
  suffices K320 : Vl γ φ 23 (a + 0) Q S 334 [(8, .int (iI y8)), (7, .int (iI y7)), (6, .int (iI y6)), (5, .int (iI y5)), (4, .int (iI y4)), (20, .int (iI sg)), (19, .int (iI o2)), (18, .int (iI o1)), (17, .int (iI pb)), (16, .int (iI pa)), (15, .int (iI lb)), (14, .int (iI la)), (13, .int (iI hw)), (12, .int (iI su)), (11, .int (iI kd)), (10, .int (iI j)), (9, .int (iI 1)), (0, .ref (bs (gw γ w))), (1, .int (iI fr)), (2, .int (iI y2)), (3, .int (iI y3))] [] by
    refine x_if_eq (pc := 320) C 334 (by omega) dL_holds_320 (by decide) (fun h320 => ?_) (fun h320 => ?_)
    · exact K320
    · refine x_iload (pc := 323) C 14 rfl dL_holds_323 ?_
      refine x_iconst (pc := 325) C dL_holds_325 ?_
      refine x_icmp_eq (pc := 326) C 334 (by omega) (by decide) dL_holds_326 (by decide) (fun h326 => ?_) (fun h326 => ?_)
      · exact K320
      · refine x_iload (pc := 329) C 12 rfl dL_holds_329 ?_
        refine x_if_ne (pc := 331) C 452 (by omega) dL_holds_331 (by decide) (fun h => by exfalso; omega) (fun h331 => ?_)
        exact K320
  refine x_iload (pc := 334) C 11 rfl dL_holds_334 ?_
  refine x_if_lt (pc := 336) C 452 (by omega) dL_holds_336 (by decide) (fun h => by exfalso; omega) (fun h336 => ?_)
  refine x_iload (pc := 339) C 11 rfl dL_holds_339 ?_
  refine x_bipush (pc := 341) C (by decide +kernel) dL_holds_341 ?_
  refine x_icmp_ge (pc := 343) C 452 (by omega) (by decide) dL_holds_343 (by decide) (fun h => by exfalso; omega) (fun h343 => ?_)
  refine x_iload (pc := 346) C 10 rfl dL_holds_346 ?_
  refine x_if_lt (pc := 348) C 452 (by omega) dL_holds_348 (by decide) (fun h => by exfalso; omega) (fun h348 => ?_)
  refine x_iload (pc := 351) C 10 rfl dL_holds_351 ?_
  refine x_bipush (pc := 353) C (by decide +kernel) dL_holds_353 ?_
  refine x_icmp_ge (pc := 355) C 452 (by omega) (by decide) dL_holds_355 (by decide) (fun h => by exfalso; omega) (fun h355 => ?_)
  refine x_iload (pc := 358) C 11 rfl dL_holds_358 ?_
  suffices K360 : Vl γ φ 23 (a + 0) Q S 368 [(8, .int (iI y8)), (7, .int (iI y7)), (6, .int (iI y6)), (5, .int (iI y5)), (4, .int (iI y4)), (20, .int (iI sg)), (19, .int (iI o2)), (18, .int (iI o1)), (17, .int (iI pb)), (16, .int (iI pa)), (15, .int (iI lb)), (14, .int (iI la)), (13, .int (iI hw)), (12, .int (iI su)), (11, .int (iI kd)), (10, .int (iI j)), (9, .int (iI 1)), (0, .ref (bs (gw γ w))), (1, .int (iI fr)), (2, .int (iI y2)), (3, .int (iI y3))] [] by
    refine x_if_eq (pc := 360) C 368 (by omega) dL_holds_360 (by decide) (fun h360 => ?_) (fun h360 => ?_)
    · exact K360
    · refine x_iload (pc := 363) C 10 rfl dL_holds_363 ?_
      refine x_if_ne (pc := 365) C 452 (by omega) dL_holds_365 (by decide) (fun h => by exfalso; omega) (fun h365 => ?_)
      exact K360
  refine x_iload (pc := 368) C 9 rfl dL_holds_368 ?_
  refine x_if_lt (pc := 370) C 452 (by omega) dL_holds_370 (by decide) (fun h => by exfalso; omega) (fun h370 => ?_)
  refine x_iload (pc := 373) C 9 rfl dL_holds_373 ?_
  refine x_bipush (pc := 375) C (by decide +kernel) dL_holds_375 ?_
  refine x_icmp_ge (pc := 377) C 452 (by omega) (by decide) dL_holds_377 (by decide) (fun h => by exfalso; omega) (fun h377 => ?_)
  refine x_iload (pc := 380) C 8 rfl dL_holds_380 ?_
  refine x_if_lt (pc := 382) C 452 (by omega) dL_holds_382 (by decide) (fun h => by exfalso; omega) (fun h382 => ?_)
  refine x_iload (pc := 385) C 8 rfl dL_holds_385 ?_
  refine x_bipush (pc := 387) C (by decide +kernel) dL_holds_387 ?_
  refine x_icmp_ge (pc := 389) C 452 (by omega) (by decide) dL_holds_389 (by decide) (fun h => by exfalso; omega) (fun h389 => ?_)
  exact K
set_option maxHeartbeats 4000000 in
set_option maxRecDepth 100000 in
theorem holds_c2 {γ : Gm} {φ : Fx} {a : Nat} {Q : State → Prop} {S : St2} {w : Bool} {y8 y7 y6 y5 y4 sg o2 o1 pb pa lb la hw su kd j fr y2 y3 : Int} (G : GL γ) (C : Cx γ φ RL cL_holds 23 12) (hP : 0 ≤ pa ∧ pa ≤ 99) (hus : 0 ≤ su * sg ∧ su * sg ≤ 99 * 90) (ho : (o1 = 1 ∧ 0 < pa ∧ su * sg ≤ 100 * pa) ∨ (o1 = 0 ∧ ¬ (0 < pa ∧ su * sg ≤ 100 * pa))) (K : Vl γ φ 23 (a) Q S 420 [(8, .int (iI y8)), (7, .int (iI y7)), (6, .int (iI y6)), (5, .int (iI y5)), (4, .int (iI y4)), (20, .int (iI sg)), (19, .int (iI o2)), (18, .int (iI o1)), (17, .int (iI pb)), (16, .int (iI pa)), (15, .int (iI lb)), (14, .int (iI la)), (13, .int (iI hw)), (12, .int (iI su)), (11, .int (iI kd)), (10, .int (iI j)), (9, .int (iI 1)), (0, .ref (bs (gw γ w))), (1, .int (iI fr)), (2, .int (iI y2)), (3, .int (iI y3))] []) : Vl γ φ 23 (a) Q S 392 [(8, .int (iI y8)), (7, .int (iI y7)), (6, .int (iI y6)), (5, .int (iI y5)), (4, .int (iI y4)), (20, .int (iI sg)), (19, .int (iI o2)), (18, .int (iI o1)), (17, .int (iI pb)), (16, .int (iI pa)), (15, .int (iI lb)), (14, .int (iI la)), (13, .int (iI hw)), (12, .int (iI su)), (11, .int (iI kd)), (10, .int (iI j)), (9, .int (iI 1)), (0, .ref (bs (gw γ w))), (1, .int (iI fr)), (2, .int (iI y2)), (3, .int (iI y3))] [] := by
  refine x_iload (pc := 392) C 7 rfl dL_holds_392 ?_
  refine x_iload (pc := 394) C 9 rfl dL_holds_394 ?_
  suffices K396 : Vl γ φ 23 (a + 0) Q S 417 [(8, .int (iI y8)), (7, .int (iI y7)), (6, .int (iI y6)), (5, .int (iI y5)), (4, .int (iI y4)), (20, .int (iI sg)), (19, .int (iI o2)), (18, .int (iI o1)), (17, .int (iI pb)), (16, .int (iI pa)), (15, .int (iI lb)), (14, .int (iI la)), (13, .int (iI hw)), (12, .int (iI su)), (11, .int (iI kd)), (10, .int (iI j)), (9, .int (iI 1)), (0, .ref (bs (gw γ w))), (1, .int (iI fr)), (2, .int (iI y2)), (3, .int (iI y3))] [.int (iI o1), .int (iI o1)] by
    refine x_if_le (pc := 396) C 416 (by omega) dL_holds_396 (by decide) (fun h396 => ?_) (fun h396 => ?_)
    · refine x_iconst (pc := 416) C dL_holds_416 ?_
      exact x_ti (x2 := o1) (by omega) K396
    · refine x_bipush (pc := 399) C (by decide +kernel) dL_holds_399 ?_
      refine x_iload (pc := 401) C 9 rfl dL_holds_401 ?_
      refine x_imul (pc := 403) C dL_holds_403 ?_
      refine x_iload (pc := 404) C 13 rfl dL_holds_404 ?_
      refine x_iload (pc := 406) C 5 rfl dL_holds_406 ?_
      refine x_imul (pc := 408) C dL_holds_408 ?_
      refine x_icmp_lt (pc := 409) C 416 (by omega) (by omega) dL_holds_409 (by decide) (fun h409 => ?_) (fun h409 => ?_)
      · refine x_iconst (pc := 416) C dL_holds_416 ?_
        exact x_ti (x2 := o1) (by omega) K396
      · refine x_iconst (pc := 412) C dL_holds_412 ?_
        refine x_goto (pc := 413) C 417 dL_holds_413 (by decide) ?_
        exact x_ti (x2 := o1) (by omega) K396
  refine x_icmp_ne (pc := 417) C 452 (by omega) (by omega) dL_holds_417 (by decide) (fun h => absurd rfl h) (fun h417 => ?_)
  exact K
set_option maxHeartbeats 4000000 in
set_option maxRecDepth 100000 in
theorem holds_c3 {γ : Gm} {φ : Fx} {a : Nat} {Q : State → Prop} {S : St2} {w : Bool} {y8 y7 y6 y5 y4 sg o2 o1 pb pa lb la hw su kd j fr y2 y3 : Int} (G : GL γ) (C : Cx γ φ RL cL_holds 23 12) (hP : 0 ≤ pb ∧ pb ≤ 99) (hus : 0 ≤ su * sg ∧ su * sg ≤ 99 * 90) (ho : (o2 = 1 ∧ 0 < pb ∧ su * sg ≤ 100 * pb) ∨ (o2 = 0 ∧ ¬ (0 < pb ∧ su * sg ≤ 100 * pb))) (K : Vl γ φ 23 (a) Q S 448 [(8, .int (iI y8)), (7, .int (iI y7)), (6, .int (iI y6)), (5, .int (iI y5)), (4, .int (iI y4)), (20, .int (iI sg)), (19, .int (iI o2)), (18, .int (iI o1)), (17, .int (iI pb)), (16, .int (iI pa)), (15, .int (iI lb)), (14, .int (iI la)), (13, .int (iI hw)), (12, .int (iI su)), (11, .int (iI kd)), (10, .int (iI j)), (9, .int (iI 1)), (0, .ref (bs (gw γ w))), (1, .int (iI fr)), (2, .int (iI y2)), (3, .int (iI y3))] []) : Vl γ φ 23 (a) Q S 420 [(8, .int (iI y8)), (7, .int (iI y7)), (6, .int (iI y6)), (5, .int (iI y5)), (4, .int (iI y4)), (20, .int (iI sg)), (19, .int (iI o2)), (18, .int (iI o1)), (17, .int (iI pb)), (16, .int (iI pa)), (15, .int (iI lb)), (14, .int (iI la)), (13, .int (iI hw)), (12, .int (iI su)), (11, .int (iI kd)), (10, .int (iI j)), (9, .int (iI 1)), (0, .ref (bs (gw γ w))), (1, .int (iI fr)), (2, .int (iI y2)), (3, .int (iI y3))] [] := by
  refine x_iload (pc := 420) C 6 rfl dL_holds_420 ?_
  refine x_iload (pc := 422) C 8 rfl dL_holds_422 ?_
  suffices K424 : Vl γ φ 23 (a + 0) Q S 445 [(8, .int (iI y8)), (7, .int (iI y7)), (6, .int (iI y6)), (5, .int (iI y5)), (4, .int (iI y4)), (20, .int (iI sg)), (19, .int (iI o2)), (18, .int (iI o1)), (17, .int (iI pb)), (16, .int (iI pa)), (15, .int (iI lb)), (14, .int (iI la)), (13, .int (iI hw)), (12, .int (iI su)), (11, .int (iI kd)), (10, .int (iI j)), (9, .int (iI 1)), (0, .ref (bs (gw γ w))), (1, .int (iI fr)), (2, .int (iI y2)), (3, .int (iI y3))] [.int (iI o2), .int (iI o2)] by
    refine x_if_le (pc := 424) C 444 (by omega) dL_holds_424 (by decide) (fun h424 => ?_) (fun h424 => ?_)
    · refine x_iconst (pc := 444) C dL_holds_444 ?_
      exact x_ti (x2 := o2) (by omega) K424
    · refine x_bipush (pc := 427) C (by decide +kernel) dL_holds_427 ?_
      refine x_iload (pc := 429) C 8 rfl dL_holds_429 ?_
      refine x_imul (pc := 431) C dL_holds_431 ?_
      refine x_iload (pc := 432) C 13 rfl dL_holds_432 ?_
      refine x_iload (pc := 434) C 5 rfl dL_holds_434 ?_
      refine x_imul (pc := 436) C dL_holds_436 ?_
      refine x_icmp_lt (pc := 437) C 444 (by omega) (by omega) dL_holds_437 (by decide) (fun h437 => ?_) (fun h437 => ?_)
      · refine x_iconst (pc := 444) C dL_holds_444 ?_
        exact x_ti (x2 := o2) (by omega) K424
      · refine x_iconst (pc := 440) C dL_holds_440 ?_
        refine x_goto (pc := 441) C 445 dL_holds_441 (by decide) ?_
        exact x_ti (x2 := o2) (by omega) K424
  refine x_icmp_ne (pc := 445) C 452 (by omega) (by omega) dL_holds_445 (by decide) (fun h => absurd rfl h) (fun h445 => ?_)
  exact K
set_option maxHeartbeats 4000000 in
set_option maxRecDepth 100000 in
theorem holds_k0 {γ : Gm} {φ : Fx} {a : Nat} {Q : State → Prop} {S : St2} {w : Bool} {y8 y7 y6 y5 y4 sg o2 o1 pb pa lb la hw su kd j fr y2 y3 : Int} (G : GL γ) (C : Cx γ φ RL cL_holds 23 12) (hk : kd = 0) (hu : 10 ≤ su ∧ su ≤ 99) (hh : 0 ≤ hw ∧ hw ≤ 1) (hA : 0 ≤ la ∧ la ≤ 99) (hB : 0 ≤ lb ∧ lb ≤ 99) (hP : 0 ≤ pa ∧ pa ≤ 99) (hQ : 0 ≤ pb ∧ pb ≤ 99) (h1 : o1 = 0 ∨ o1 = 1) (h2 : o2 = 0 ∨ o2 = 1) (f : (hw = 1 → la = su ∧ lb = 0) ∧ (hw = 0 → lb = su ∧ la = 0)) (K : Vl γ φ 23 (a) Q S 653 [(9, .int (iI 1)), (8, .int (iI y8)), (7, .int (iI y7)), (6, .int (iI y6)), (5, .int (iI y5)), (4, .int (iI y4)), (10, .int (iI j)), (0, .ref (bs (gw γ w))), (1, .int (iI fr)), (2, .int (iI y2)), (3, .int (iI y3))] []) : Vl γ φ 23 (a) Q S 464 [(9, .int (iI 1)), (8, .int (iI y8)), (7, .int (iI y7)), (6, .int (iI y6)), (5, .int (iI y5)), (4, .int (iI y4)), (20, .int (iI sg)), (19, .int (iI o2)), (18, .int (iI o1)), (17, .int (iI pb)), (16, .int (iI pa)), (15, .int (iI lb)), (14, .int (iI la)), (13, .int (iI hw)), (12, .int (iI su)), (11, .int (iI kd)), (10, .int (iI j)), (0, .ref (bs (gw γ w))), (1, .int (iI fr)), (2, .int (iI y2)), (3, .int (iI y3))] [] := by
  refine x_iload (pc := 464) C 15 rfl dL_holds_464 ?_
  refine x_if_ne (pc := 466) C 476 (by omega) dL_holds_466 (by decide) (fun h => by exfalso; omega) (fun h466 => ?_)
  refine x_iconst (pc := 469) C dL_holds_469 ?_
  refine x_iload (pc := 470) C 13 rfl dL_holds_470 ?_
  refine x_isub (pc := 472) C dL_holds_472 ?_
  refine x_goto (pc := 473) C 528 dL_holds_473 (by decide) ?_
  refine x_istore (pc := 528) C [(21, .int (iI (1 - hw))), (9, .int (iI 1)), (8, .int (iI y8)), (7, .int (iI y7)), (6, .int (iI y6)), (5, .int (iI y5)), (4, .int (iI y4)), (20, .int (iI sg)), (19, .int (iI o2)), (18, .int (iI o1)), (17, .int (iI pb)), (16, .int (iI pa)), (15, .int (iI lb)), (14, .int (iI la)), (13, .int (iI hw)), (12, .int (iI su)), (11, .int (iI kd)), (10, .int (iI j)), (0, .ref (bs (gw γ w))), (1, .int (iI fr)), (2, .int (iI y2)), (3, .int (iI y3))] dL_holds_528 (by decide) rfl ?_
  refine x_iload (pc := 530) C 11 rfl dL_holds_530 ?_
  refine x_iload (pc := 532) C 10 rfl dL_holds_532 ?_
  suffices K534 : Vl γ φ 23 (a + 0) Q S 544 [(21, .int (iI (1 - hw))), (9, .int (iI 1)), (8, .int (iI y8)), (7, .int (iI y7)), (6, .int (iI y6)), (5, .int (iI y5)), (4, .int (iI y4)), (20, .int (iI sg)), (19, .int (iI o2)), (18, .int (iI o1)), (17, .int (iI pb)), (16, .int (iI pa)), (15, .int (iI lb)), (14, .int (iI la)), (13, .int (iI hw)), (12, .int (iI su)), (11, .int (iI kd)), (10, .int (iI j)), (0, .ref (bs (gw γ w))), (1, .int (iI fr)), (2, .int (iI y2)), (3, .int (iI y3))] [.int (iI (if pa < pb then pa else pb))] by
    refine x_icmp_ge (pc := 534) C 542 (by omega) (by omega) dL_holds_534 (by decide) (fun h534 => ?_) (fun h534 => ?_)
    · refine x_iload (pc := 542) C 10 rfl dL_holds_542 ?_
      exact x_ti (x2 := (if pa < pb then pa else pb)) (by split <;> first | rfl | omega) K534
    · refine x_iload (pc := 537) C 11 rfl dL_holds_537 ?_
      refine x_goto (pc := 539) C 544 dL_holds_539 (by decide) ?_
      exact x_ti (x2 := (if pa < pb then pa else pb)) (by split <;> first | rfl | omega) K534
  refine x_nm (fun ls els => ?_)
  have hls : 0 ≤ ls ∧ ls ≤ 99 ∧ (ls = 0 ↔ (pa = 0 ∨ pb = 0)) := by rw [els]; split <;> omega
  refine x_istore (pc := 544) C [(22, .int (iI ls)), (21, .int (iI (1 - hw))), (9, .int (iI 1)), (8, .int (iI y8)), (7, .int (iI y7)), (6, .int (iI y6)), (5, .int (iI y5)), (4, .int (iI y4)), (20, .int (iI sg)), (19, .int (iI o2)), (18, .int (iI o1)), (17, .int (iI pb)), (16, .int (iI pa)), (15, .int (iI lb)), (14, .int (iI la)), (13, .int (iI hw)), (12, .int (iI su)), (11, .int (iI kd)), (10, .int (iI j)), (0, .ref (bs (gw γ w))), (1, .int (iI fr)), (2, .int (iI y2)), (3, .int (iI y3))] dL_holds_544 (by decide) rfl ?_
  refine x_iload (pc := 546) C 17 rfl dL_holds_546 ?_
  refine x_iconst (pc := 548) C dL_holds_548 ?_
  refine x_icmp_ne (pc := 549) C 586 (by omega) (by decide) dL_holds_549 (by decide) (fun h549 => ?_) (fun h => by exfalso; omega)
  refine x_iload (pc := 586) C 1 rfl dL_holds_586 ?_
  refine x_if_ne (pc := 588) C 596 (by omega) dL_holds_588 (by decide) (fun h588 => ?_) (fun h588 => ?_)
  · refine x_iload (pc := 596) C 13 rfl dL_holds_596 ?_
    refine x_iload (pc := 598) C 16 rfl dL_holds_598 ?_
    refine x_icmp_ne (pc := 600) C 650 (by omega) (by omega) dL_holds_600 (by decide) (fun h => by exfalso; omega) (fun h600 => ?_)
    refine x_iload (pc := 603) C 1 rfl dL_holds_603 ?_
    refine x_if_ne (pc := 605) C 613 (by omega) dL_holds_605 (by decide) (fun h605 => ?_) (fun h605 => ?_)
    · refine x_iload (pc := 613) C 14 rfl dL_holds_613 ?_
      refine x_if_ne (pc := 615) C 650 (by omega) dL_holds_615 (by decide) (fun h => by exfalso; omega) (fun h615 => ?_)
      refine x_iload (pc := 618) C 17 rfl dL_holds_618 ?_
      refine x_iconst (pc := 620) C dL_holds_620 ?_
      refine x_icmp_ne (pc := 621) C 646 (by omega) (by decide) dL_holds_621 (by decide) (fun h621 => ?_) (fun h => by exfalso; omega)
      refine x_iconst (pc := 646) C dL_holds_646 ?_
      refine x_goto (pc := 647) C 651 dL_holds_647 (by decide) ?_
      refine x_istore (pc := 651) C [(9, .int (iI 1)), (22, .int (iI ls)), (21, .int (iI (1 - hw))), (8, .int (iI y8)), (7, .int (iI y7)), (6, .int (iI y6)), (5, .int (iI y5)), (4, .int (iI y4)), (20, .int (iI sg)), (19, .int (iI o2)), (18, .int (iI o1)), (17, .int (iI pb)), (16, .int (iI pa)), (15, .int (iI lb)), (14, .int (iI la)), (13, .int (iI hw)), (12, .int (iI su)), (11, .int (iI kd)), (10, .int (iI j)), (0, .ref (bs (gw γ w))), (1, .int (iI fr)), (2, .int (iI y2)), (3, .int (iI y3))] dL_holds_651 (by decide) rfl ?_
      exact x_lv _ [0, 3, 4, 5, 6, 7, 18, 19, 20, 21, 22] rfl K
    · refine x_iload (pc := 608) C 13 rfl dL_holds_608 ?_
      refine x_goto (pc := 610) C 615 dL_holds_610 (by decide) ?_
      refine x_if_ne (pc := 615) C 650 (by omega) dL_holds_615 (by decide) (fun h => by exfalso; omega) (fun h615 => ?_)
      refine x_iload (pc := 618) C 17 rfl dL_holds_618 ?_
      refine x_iconst (pc := 620) C dL_holds_620 ?_
      refine x_icmp_ne (pc := 621) C 646 (by omega) (by decide) dL_holds_621 (by decide) (fun h621 => ?_) (fun h => by exfalso; omega)
      refine x_iconst (pc := 646) C dL_holds_646 ?_
      refine x_goto (pc := 647) C 651 dL_holds_647 (by decide) ?_
      refine x_istore (pc := 651) C [(9, .int (iI 1)), (22, .int (iI ls)), (21, .int (iI (1 - hw))), (8, .int (iI y8)), (7, .int (iI y7)), (6, .int (iI y6)), (5, .int (iI y5)), (4, .int (iI y4)), (20, .int (iI sg)), (19, .int (iI o2)), (18, .int (iI o1)), (17, .int (iI pb)), (16, .int (iI pa)), (15, .int (iI lb)), (14, .int (iI la)), (13, .int (iI hw)), (12, .int (iI su)), (11, .int (iI kd)), (10, .int (iI j)), (0, .ref (bs (gw γ w))), (1, .int (iI fr)), (2, .int (iI y2)), (3, .int (iI y3))] dL_holds_651 (by decide) rfl ?_
      exact x_lv _ [0, 3, 4, 5, 6, 7, 18, 19, 20, 21, 22] rfl K
  · refine x_iload (pc := 591) C 14 rfl dL_holds_591 ?_
    refine x_goto (pc := 593) C 598 dL_holds_593 (by decide) ?_
    refine x_iload (pc := 598) C 16 rfl dL_holds_598 ?_
    refine x_icmp_ne (pc := 600) C 650 (by omega) (by omega) dL_holds_600 (by decide) (fun h => by exfalso; omega) (fun h600 => ?_)
    refine x_iload (pc := 603) C 1 rfl dL_holds_603 ?_
    refine x_if_ne (pc := 605) C 613 (by omega) dL_holds_605 (by decide) (fun h605 => ?_) (fun h605 => ?_)
    · refine x_iload (pc := 613) C 14 rfl dL_holds_613 ?_
      refine x_if_ne (pc := 615) C 650 (by omega) dL_holds_615 (by decide) (fun h => by exfalso; omega) (fun h615 => ?_)
      refine x_iload (pc := 618) C 17 rfl dL_holds_618 ?_
      refine x_iconst (pc := 620) C dL_holds_620 ?_
      refine x_icmp_ne (pc := 621) C 646 (by omega) (by decide) dL_holds_621 (by decide) (fun h621 => ?_) (fun h => by exfalso; omega)
      refine x_iconst (pc := 646) C dL_holds_646 ?_
      refine x_goto (pc := 647) C 651 dL_holds_647 (by decide) ?_
      refine x_istore (pc := 651) C [(9, .int (iI 1)), (22, .int (iI ls)), (21, .int (iI (1 - hw))), (8, .int (iI y8)), (7, .int (iI y7)), (6, .int (iI y6)), (5, .int (iI y5)), (4, .int (iI y4)), (20, .int (iI sg)), (19, .int (iI o2)), (18, .int (iI o1)), (17, .int (iI pb)), (16, .int (iI pa)), (15, .int (iI lb)), (14, .int (iI la)), (13, .int (iI hw)), (12, .int (iI su)), (11, .int (iI kd)), (10, .int (iI j)), (0, .ref (bs (gw γ w))), (1, .int (iI fr)), (2, .int (iI y2)), (3, .int (iI y3))] dL_holds_651 (by decide) rfl ?_
      exact x_lv _ [0, 3, 4, 5, 6, 7, 18, 19, 20, 21, 22] rfl K
    · refine x_iload (pc := 608) C 13 rfl dL_holds_608 ?_
      refine x_goto (pc := 610) C 615 dL_holds_610 (by decide) ?_
      refine x_if_ne (pc := 615) C 650 (by omega) dL_holds_615 (by decide) (fun h => by exfalso; omega) (fun h615 => ?_)
      refine x_iload (pc := 618) C 17 rfl dL_holds_618 ?_
      refine x_iconst (pc := 620) C dL_holds_620 ?_
      refine x_icmp_ne (pc := 621) C 646 (by omega) (by decide) dL_holds_621 (by decide) (fun h621 => ?_) (fun h => by exfalso; omega)
      refine x_iconst (pc := 646) C dL_holds_646 ?_
      refine x_goto (pc := 647) C 651 dL_holds_647 (by decide) ?_
      refine x_istore (pc := 651) C [(9, .int (iI 1)), (22, .int (iI ls)), (21, .int (iI (1 - hw))), (8, .int (iI y8)), (7, .int (iI y7)), (6, .int (iI y6)), (5, .int (iI y5)), (4, .int (iI y4)), (20, .int (iI sg)), (19, .int (iI o2)), (18, .int (iI o1)), (17, .int (iI pb)), (16, .int (iI pa)), (15, .int (iI lb)), (14, .int (iI la)), (13, .int (iI hw)), (12, .int (iI su)), (11, .int (iI kd)), (10, .int (iI j)), (0, .ref (bs (gw γ w))), (1, .int (iI fr)), (2, .int (iI y2)), (3, .int (iI y3))] dL_holds_651 (by decide) rfl ?_
      exact x_lv _ [0, 3, 4, 5, 6, 7, 18, 19, 20, 21, 22] rfl K
set_option maxHeartbeats 4000000 in
set_option maxRecDepth 100000 in
theorem holds_k1 {γ : Gm} {φ : Fx} {a : Nat} {Q : State → Prop} {S : St2} {w : Bool} {y8 y7 y6 y5 y4 sg o2 o1 pb pa lb la hw su kd j fr y2 y3 : Int} (G : GL γ) (C : Cx γ φ RL cL_holds 23 12) (hk : kd = 1) (hu : 10 ≤ su ∧ su ≤ 99) (hh : 0 ≤ hw ∧ hw ≤ 1) (hA : 0 ≤ la ∧ la ≤ 99) (hB : 0 ≤ lb ∧ lb ≤ 99) (hP : 0 ≤ pa ∧ pa ≤ 99) (hQ : 0 ≤ pb ∧ pb ≤ 99) (h1 : o1 = 0 ∨ o1 = 1) (h2 : o2 = 0 ∨ o2 = 1) (f : (o1 = 1 ∨ o2 = 1 → lb = su ∧ la = 0) ∧ (¬ (o1 = 1 ∨ o2 = 1) → la = su ∧ lb = 0)) (K : Vl γ φ 23 (a) Q S 653 [(9, .int (iI 1)), (8, .int (iI y8)), (7, .int (iI y7)), (6, .int (iI y6)), (5, .int (iI y5)), (4, .int (iI y4)), (10, .int (iI j)), (0, .ref (bs (gw γ w))), (1, .int (iI fr)), (2, .int (iI y2)), (3, .int (iI y3))] []) : Vl γ φ 23 (a) Q S 464 [(9, .int (iI 1)), (8, .int (iI y8)), (7, .int (iI y7)), (6, .int (iI y6)), (5, .int (iI y5)), (4, .int (iI y4)), (20, .int (iI sg)), (19, .int (iI o2)), (18, .int (iI o1)), (17, .int (iI pb)), (16, .int (iI pa)), (15, .int (iI lb)), (14, .int (iI la)), (13, .int (iI hw)), (12, .int (iI su)), (11, .int (iI kd)), (10, .int (iI j)), (0, .ref (bs (gw γ w))), (1, .int (iI fr)), (2, .int (iI y2)), (3, .int (iI y3))] [] := by
  refine x_iload (pc := 464) C 15 rfl dL_holds_464 ?_
  refine x_if_ne (pc := 466) C 476 (by omega) dL_holds_466 (by decide) (fun h466 => ?_) (fun h => by exfalso; omega)
  refine x_iload (pc := 476) C 15 rfl dL_holds_476 ?_
  refine x_iconst (pc := 478) C dL_holds_478 ?_
  refine x_icmp_ne (pc := 479) C 500 (by omega) (by decide) dL_holds_479 (by decide) (fun h => by exfalso; omega) (fun h479 => ?_)
  refine x_iload (pc := 482) C 8 rfl dL_holds_482 ?_
  refine x_if_ne (pc := 484) C 492 (by omega) dL_holds_484 (by decide) (fun h484 => ?_) (fun h484 => ?_)
  · refine x_iconst (pc := 492) C dL_holds_492 ?_
    refine x_goto (pc := 493) C 528 dL_holds_493 (by decide) ?_
    refine x_istore (pc := 528) C [(21, .int (iI 1)), (9, .int (iI 1)), (8, .int (iI y8)), (7, .int (iI y7)), (6, .int (iI y6)), (5, .int (iI y5)), (4, .int (iI y4)), (20, .int (iI sg)), (19, .int (iI o2)), (18, .int (iI o1)), (17, .int (iI pb)), (16, .int (iI pa)), (15, .int (iI lb)), (14, .int (iI la)), (13, .int (iI hw)), (12, .int (iI su)), (11, .int (iI kd)), (10, .int (iI j)), (0, .ref (bs (gw γ w))), (1, .int (iI fr)), (2, .int (iI y2)), (3, .int (iI y3))] dL_holds_528 (by decide) rfl ?_
    refine x_iload (pc := 530) C 11 rfl dL_holds_530 ?_
    refine x_iload (pc := 532) C 10 rfl dL_holds_532 ?_
    suffices K534 : Vl γ φ 23 (a + 0) Q S 544 [(21, .int (iI 1)), (9, .int (iI 1)), (8, .int (iI y8)), (7, .int (iI y7)), (6, .int (iI y6)), (5, .int (iI y5)), (4, .int (iI y4)), (20, .int (iI sg)), (19, .int (iI o2)), (18, .int (iI o1)), (17, .int (iI pb)), (16, .int (iI pa)), (15, .int (iI lb)), (14, .int (iI la)), (13, .int (iI hw)), (12, .int (iI su)), (11, .int (iI kd)), (10, .int (iI j)), (0, .ref (bs (gw γ w))), (1, .int (iI fr)), (2, .int (iI y2)), (3, .int (iI y3))] [.int (iI (if pa < pb then pa else pb))] by
      refine x_icmp_ge (pc := 534) C 542 (by omega) (by omega) dL_holds_534 (by decide) (fun h534 => ?_) (fun h534 => ?_)
      · refine x_iload (pc := 542) C 10 rfl dL_holds_542 ?_
        exact x_ti (x2 := (if pa < pb then pa else pb)) (by split <;> first | rfl | omega) K534
      · refine x_iload (pc := 537) C 11 rfl dL_holds_537 ?_
        refine x_goto (pc := 539) C 544 dL_holds_539 (by decide) ?_
        exact x_ti (x2 := (if pa < pb then pa else pb)) (by split <;> first | rfl | omega) K534
    refine x_nm (fun ls els => ?_)
    have hls : 0 ≤ ls ∧ ls ≤ 99 ∧ (ls = 0 ↔ (pa = 0 ∨ pb = 0)) := by rw [els]; split <;> omega
    refine x_istore (pc := 544) C [(22, .int (iI ls)), (21, .int (iI 1)), (9, .int (iI 1)), (8, .int (iI y8)), (7, .int (iI y7)), (6, .int (iI y6)), (5, .int (iI y5)), (4, .int (iI y4)), (20, .int (iI sg)), (19, .int (iI o2)), (18, .int (iI o1)), (17, .int (iI pb)), (16, .int (iI pa)), (15, .int (iI lb)), (14, .int (iI la)), (13, .int (iI hw)), (12, .int (iI su)), (11, .int (iI kd)), (10, .int (iI j)), (0, .ref (bs (gw γ w))), (1, .int (iI fr)), (2, .int (iI y2)), (3, .int (iI y3))] dL_holds_544 (by decide) rfl ?_
    refine x_iload (pc := 546) C 17 rfl dL_holds_546 ?_
    refine x_iconst (pc := 548) C dL_holds_548 ?_
    refine x_icmp_ne (pc := 549) C 586 (by omega) (by decide) dL_holds_549 (by decide) (fun h549 => ?_) (fun h => by exfalso; omega)
    refine x_iload (pc := 586) C 1 rfl dL_holds_586 ?_
    refine x_if_ne (pc := 588) C 596 (by decide) dL_holds_588 (by decide) (fun h588 => ?_) (fun h588 => ?_)
    · refine x_iload (pc := 596) C 13 rfl dL_holds_596 ?_
      refine x_iload (pc := 598) C 16 rfl dL_holds_598 ?_
      refine x_icmp_ne (pc := 600) C 650 (by omega) (by omega) dL_holds_600 (by decide) (fun h => by exfalso; omega) (fun h600 => ?_)
      refine x_iload (pc := 603) C 1 rfl dL_holds_603 ?_
      refine x_if_ne (pc := 605) C 613 (by decide) dL_holds_605 (by decide) (fun h605 => ?_) (fun h605 => ?_)
      · refine x_iload (pc := 613) C 14 rfl dL_holds_613 ?_
        refine x_if_ne (pc := 615) C 650 (by omega) dL_holds_615 (by decide) (fun h => by exfalso; omega) (fun h615 => ?_)
        refine x_iload (pc := 618) C 17 rfl dL_holds_618 ?_
        refine x_iconst (pc := 620) C dL_holds_620 ?_
        refine x_icmp_ne (pc := 621) C 646 (by omega) (by decide) dL_holds_621 (by decide) (fun h621 => ?_) (fun h => by exfalso; omega)
        refine x_iconst (pc := 646) C dL_holds_646 ?_
        refine x_goto (pc := 647) C 651 dL_holds_647 (by decide) ?_
        refine x_istore (pc := 651) C [(9, .int (iI 1)), (22, .int (iI ls)), (21, .int (iI 1)), (8, .int (iI y8)), (7, .int (iI y7)), (6, .int (iI y6)), (5, .int (iI y5)), (4, .int (iI y4)), (20, .int (iI sg)), (19, .int (iI o2)), (18, .int (iI o1)), (17, .int (iI pb)), (16, .int (iI pa)), (15, .int (iI lb)), (14, .int (iI la)), (13, .int (iI hw)), (12, .int (iI su)), (11, .int (iI kd)), (10, .int (iI j)), (0, .ref (bs (gw γ w))), (1, .int (iI fr)), (2, .int (iI y2)), (3, .int (iI y3))] dL_holds_651 (by decide) rfl ?_
        exact x_lv _ [0, 3, 4, 5, 6, 7, 18, 19, 20, 21, 22] rfl K
      · refine x_iload (pc := 608) C 13 rfl dL_holds_608 ?_
        refine x_goto (pc := 610) C 615 dL_holds_610 (by decide) ?_
        refine x_if_ne (pc := 615) C 650 (by omega) dL_holds_615 (by decide) (fun h => by exfalso; omega) (fun h615 => ?_)
        refine x_iload (pc := 618) C 17 rfl dL_holds_618 ?_
        refine x_iconst (pc := 620) C dL_holds_620 ?_
        refine x_icmp_ne (pc := 621) C 646 (by omega) (by decide) dL_holds_621 (by decide) (fun h621 => ?_) (fun h => by exfalso; omega)
        refine x_iconst (pc := 646) C dL_holds_646 ?_
        refine x_goto (pc := 647) C 651 dL_holds_647 (by decide) ?_
        refine x_istore (pc := 651) C [(9, .int (iI 1)), (22, .int (iI ls)), (21, .int (iI 1)), (8, .int (iI y8)), (7, .int (iI y7)), (6, .int (iI y6)), (5, .int (iI y5)), (4, .int (iI y4)), (20, .int (iI sg)), (19, .int (iI o2)), (18, .int (iI o1)), (17, .int (iI pb)), (16, .int (iI pa)), (15, .int (iI lb)), (14, .int (iI la)), (13, .int (iI hw)), (12, .int (iI su)), (11, .int (iI kd)), (10, .int (iI j)), (0, .ref (bs (gw γ w))), (1, .int (iI fr)), (2, .int (iI y2)), (3, .int (iI y3))] dL_holds_651 (by decide) rfl ?_
        exact x_lv _ [0, 3, 4, 5, 6, 7, 18, 19, 20, 21, 22] rfl K
    · refine x_iload (pc := 591) C 14 rfl dL_holds_591 ?_
      refine x_goto (pc := 593) C 598 dL_holds_593 (by decide) ?_
      refine x_iload (pc := 598) C 16 rfl dL_holds_598 ?_
      refine x_icmp_ne (pc := 600) C 650 (by omega) (by omega) dL_holds_600 (by decide) (fun h => by exfalso; omega) (fun h600 => ?_)
      refine x_iload (pc := 603) C 1 rfl dL_holds_603 ?_
      refine x_if_ne (pc := 605) C 613 (by decide) dL_holds_605 (by decide) (fun h605 => ?_) (fun h605 => ?_)
      · refine x_iload (pc := 613) C 14 rfl dL_holds_613 ?_
        refine x_if_ne (pc := 615) C 650 (by omega) dL_holds_615 (by decide) (fun h => by exfalso; omega) (fun h615 => ?_)
        refine x_iload (pc := 618) C 17 rfl dL_holds_618 ?_
        refine x_iconst (pc := 620) C dL_holds_620 ?_
        refine x_icmp_ne (pc := 621) C 646 (by omega) (by decide) dL_holds_621 (by decide) (fun h621 => ?_) (fun h => by exfalso; omega)
        refine x_iconst (pc := 646) C dL_holds_646 ?_
        refine x_goto (pc := 647) C 651 dL_holds_647 (by decide) ?_
        refine x_istore (pc := 651) C [(9, .int (iI 1)), (22, .int (iI ls)), (21, .int (iI 1)), (8, .int (iI y8)), (7, .int (iI y7)), (6, .int (iI y6)), (5, .int (iI y5)), (4, .int (iI y4)), (20, .int (iI sg)), (19, .int (iI o2)), (18, .int (iI o1)), (17, .int (iI pb)), (16, .int (iI pa)), (15, .int (iI lb)), (14, .int (iI la)), (13, .int (iI hw)), (12, .int (iI su)), (11, .int (iI kd)), (10, .int (iI j)), (0, .ref (bs (gw γ w))), (1, .int (iI fr)), (2, .int (iI y2)), (3, .int (iI y3))] dL_holds_651 (by decide) rfl ?_
        exact x_lv _ [0, 3, 4, 5, 6, 7, 18, 19, 20, 21, 22] rfl K
      · refine x_iload (pc := 608) C 13 rfl dL_holds_608 ?_
        refine x_goto (pc := 610) C 615 dL_holds_610 (by decide) ?_
        refine x_if_ne (pc := 615) C 650 (by omega) dL_holds_615 (by decide) (fun h => by exfalso; omega) (fun h615 => ?_)
        refine x_iload (pc := 618) C 17 rfl dL_holds_618 ?_
        refine x_iconst (pc := 620) C dL_holds_620 ?_
        refine x_icmp_ne (pc := 621) C 646 (by omega) (by decide) dL_holds_621 (by decide) (fun h621 => ?_) (fun h => by exfalso; omega)
        refine x_iconst (pc := 646) C dL_holds_646 ?_
        refine x_goto (pc := 647) C 651 dL_holds_647 (by decide) ?_
        refine x_istore (pc := 651) C [(9, .int (iI 1)), (22, .int (iI ls)), (21, .int (iI 1)), (8, .int (iI y8)), (7, .int (iI y7)), (6, .int (iI y6)), (5, .int (iI y5)), (4, .int (iI y4)), (20, .int (iI sg)), (19, .int (iI o2)), (18, .int (iI o1)), (17, .int (iI pb)), (16, .int (iI pa)), (15, .int (iI lb)), (14, .int (iI la)), (13, .int (iI hw)), (12, .int (iI su)), (11, .int (iI kd)), (10, .int (iI j)), (0, .ref (bs (gw γ w))), (1, .int (iI fr)), (2, .int (iI y2)), (3, .int (iI y3))] dL_holds_651 (by decide) rfl ?_
        exact x_lv _ [0, 3, 4, 5, 6, 7, 18, 19, 20, 21, 22] rfl K
  · refine x_iload (pc := 487) C 7 rfl dL_holds_487 ?_
    refine x_if_eq (pc := 489) C 496 (by omega) dL_holds_489 (by decide) (fun h489 => ?_) (fun h489 => ?_)
    · refine x_iconst (pc := 496) C dL_holds_496 ?_
      refine x_goto (pc := 497) C 528 dL_holds_497 (by decide) ?_
      refine x_istore (pc := 528) C [(21, .int (iI 0)), (9, .int (iI 1)), (8, .int (iI y8)), (7, .int (iI y7)), (6, .int (iI y6)), (5, .int (iI y5)), (4, .int (iI y4)), (20, .int (iI sg)), (19, .int (iI o2)), (18, .int (iI o1)), (17, .int (iI pb)), (16, .int (iI pa)), (15, .int (iI lb)), (14, .int (iI la)), (13, .int (iI hw)), (12, .int (iI su)), (11, .int (iI kd)), (10, .int (iI j)), (0, .ref (bs (gw γ w))), (1, .int (iI fr)), (2, .int (iI y2)), (3, .int (iI y3))] dL_holds_528 (by decide) rfl ?_
      refine x_iload (pc := 530) C 11 rfl dL_holds_530 ?_
      refine x_iload (pc := 532) C 10 rfl dL_holds_532 ?_
      suffices K534 : Vl γ φ 23 (a + 0) Q S 544 [(21, .int (iI 0)), (9, .int (iI 1)), (8, .int (iI y8)), (7, .int (iI y7)), (6, .int (iI y6)), (5, .int (iI y5)), (4, .int (iI y4)), (20, .int (iI sg)), (19, .int (iI o2)), (18, .int (iI o1)), (17, .int (iI pb)), (16, .int (iI pa)), (15, .int (iI lb)), (14, .int (iI la)), (13, .int (iI hw)), (12, .int (iI su)), (11, .int (iI kd)), (10, .int (iI j)), (0, .ref (bs (gw γ w))), (1, .int (iI fr)), (2, .int (iI y2)), (3, .int (iI y3))] [.int (iI (if pa < pb then pa else pb))] by
        refine x_icmp_ge (pc := 534) C 542 (by omega) (by omega) dL_holds_534 (by decide) (fun h534 => ?_) (fun h534 => ?_)
        · refine x_iload (pc := 542) C 10 rfl dL_holds_542 ?_
          exact x_ti (x2 := (if pa < pb then pa else pb)) (by split <;> first | rfl | omega) K534
        · refine x_iload (pc := 537) C 11 rfl dL_holds_537 ?_
          refine x_goto (pc := 539) C 544 dL_holds_539 (by decide) ?_
          exact x_ti (x2 := (if pa < pb then pa else pb)) (by split <;> first | rfl | omega) K534
      refine x_nm (fun ls els => ?_)
      have hls : 0 ≤ ls ∧ ls ≤ 99 ∧ (ls = 0 ↔ (pa = 0 ∨ pb = 0)) := by rw [els]; split <;> omega
      refine x_istore (pc := 544) C [(22, .int (iI ls)), (21, .int (iI 0)), (9, .int (iI 1)), (8, .int (iI y8)), (7, .int (iI y7)), (6, .int (iI y6)), (5, .int (iI y5)), (4, .int (iI y4)), (20, .int (iI sg)), (19, .int (iI o2)), (18, .int (iI o1)), (17, .int (iI pb)), (16, .int (iI pa)), (15, .int (iI lb)), (14, .int (iI la)), (13, .int (iI hw)), (12, .int (iI su)), (11, .int (iI kd)), (10, .int (iI j)), (0, .ref (bs (gw γ w))), (1, .int (iI fr)), (2, .int (iI y2)), (3, .int (iI y3))] dL_holds_544 (by decide) rfl ?_
      refine x_iload (pc := 546) C 17 rfl dL_holds_546 ?_
      refine x_iconst (pc := 548) C dL_holds_548 ?_
      refine x_icmp_ne (pc := 549) C 586 (by omega) (by decide) dL_holds_549 (by decide) (fun h549 => ?_) (fun h => by exfalso; omega)
      refine x_iload (pc := 586) C 1 rfl dL_holds_586 ?_
      refine x_if_ne (pc := 588) C 596 (by decide) dL_holds_588 (by decide) (fun h588 => ?_) (fun h588 => ?_)
      · refine x_iload (pc := 596) C 13 rfl dL_holds_596 ?_
        refine x_iload (pc := 598) C 16 rfl dL_holds_598 ?_
        refine x_icmp_ne (pc := 600) C 650 (by omega) (by omega) dL_holds_600 (by decide) (fun h => by exfalso; omega) (fun h600 => ?_)
        refine x_iload (pc := 603) C 1 rfl dL_holds_603 ?_
        refine x_if_ne (pc := 605) C 613 (by decide) dL_holds_605 (by decide) (fun h605 => ?_) (fun h605 => ?_)
        · refine x_iload (pc := 613) C 14 rfl dL_holds_613 ?_
          refine x_if_ne (pc := 615) C 650 (by omega) dL_holds_615 (by decide) (fun h => by exfalso; omega) (fun h615 => ?_)
          refine x_iload (pc := 618) C 17 rfl dL_holds_618 ?_
          refine x_iconst (pc := 620) C dL_holds_620 ?_
          refine x_icmp_ne (pc := 621) C 646 (by omega) (by decide) dL_holds_621 (by decide) (fun h621 => ?_) (fun h => by exfalso; omega)
          refine x_iconst (pc := 646) C dL_holds_646 ?_
          refine x_goto (pc := 647) C 651 dL_holds_647 (by decide) ?_
          refine x_istore (pc := 651) C [(9, .int (iI 1)), (22, .int (iI ls)), (21, .int (iI 0)), (8, .int (iI y8)), (7, .int (iI y7)), (6, .int (iI y6)), (5, .int (iI y5)), (4, .int (iI y4)), (20, .int (iI sg)), (19, .int (iI o2)), (18, .int (iI o1)), (17, .int (iI pb)), (16, .int (iI pa)), (15, .int (iI lb)), (14, .int (iI la)), (13, .int (iI hw)), (12, .int (iI su)), (11, .int (iI kd)), (10, .int (iI j)), (0, .ref (bs (gw γ w))), (1, .int (iI fr)), (2, .int (iI y2)), (3, .int (iI y3))] dL_holds_651 (by decide) rfl ?_
          exact x_lv _ [0, 3, 4, 5, 6, 7, 18, 19, 20, 21, 22] rfl K
        · refine x_iload (pc := 608) C 13 rfl dL_holds_608 ?_
          refine x_goto (pc := 610) C 615 dL_holds_610 (by decide) ?_
          refine x_if_ne (pc := 615) C 650 (by omega) dL_holds_615 (by decide) (fun h => by exfalso; omega) (fun h615 => ?_)
          refine x_iload (pc := 618) C 17 rfl dL_holds_618 ?_
          refine x_iconst (pc := 620) C dL_holds_620 ?_
          refine x_icmp_ne (pc := 621) C 646 (by omega) (by decide) dL_holds_621 (by decide) (fun h621 => ?_) (fun h => by exfalso; omega)
          refine x_iconst (pc := 646) C dL_holds_646 ?_
          refine x_goto (pc := 647) C 651 dL_holds_647 (by decide) ?_
          refine x_istore (pc := 651) C [(9, .int (iI 1)), (22, .int (iI ls)), (21, .int (iI 0)), (8, .int (iI y8)), (7, .int (iI y7)), (6, .int (iI y6)), (5, .int (iI y5)), (4, .int (iI y4)), (20, .int (iI sg)), (19, .int (iI o2)), (18, .int (iI o1)), (17, .int (iI pb)), (16, .int (iI pa)), (15, .int (iI lb)), (14, .int (iI la)), (13, .int (iI hw)), (12, .int (iI su)), (11, .int (iI kd)), (10, .int (iI j)), (0, .ref (bs (gw γ w))), (1, .int (iI fr)), (2, .int (iI y2)), (3, .int (iI y3))] dL_holds_651 (by decide) rfl ?_
          exact x_lv _ [0, 3, 4, 5, 6, 7, 18, 19, 20, 21, 22] rfl K
      · refine x_iload (pc := 591) C 14 rfl dL_holds_591 ?_
        refine x_goto (pc := 593) C 598 dL_holds_593 (by decide) ?_
        refine x_iload (pc := 598) C 16 rfl dL_holds_598 ?_
        refine x_icmp_ne (pc := 600) C 650 (by omega) (by omega) dL_holds_600 (by decide) (fun h => by exfalso; omega) (fun h600 => ?_)
        refine x_iload (pc := 603) C 1 rfl dL_holds_603 ?_
        refine x_if_ne (pc := 605) C 613 (by decide) dL_holds_605 (by decide) (fun h605 => ?_) (fun h605 => ?_)
        · refine x_iload (pc := 613) C 14 rfl dL_holds_613 ?_
          refine x_if_ne (pc := 615) C 650 (by omega) dL_holds_615 (by decide) (fun h => by exfalso; omega) (fun h615 => ?_)
          refine x_iload (pc := 618) C 17 rfl dL_holds_618 ?_
          refine x_iconst (pc := 620) C dL_holds_620 ?_
          refine x_icmp_ne (pc := 621) C 646 (by omega) (by decide) dL_holds_621 (by decide) (fun h621 => ?_) (fun h => by exfalso; omega)
          refine x_iconst (pc := 646) C dL_holds_646 ?_
          refine x_goto (pc := 647) C 651 dL_holds_647 (by decide) ?_
          refine x_istore (pc := 651) C [(9, .int (iI 1)), (22, .int (iI ls)), (21, .int (iI 0)), (8, .int (iI y8)), (7, .int (iI y7)), (6, .int (iI y6)), (5, .int (iI y5)), (4, .int (iI y4)), (20, .int (iI sg)), (19, .int (iI o2)), (18, .int (iI o1)), (17, .int (iI pb)), (16, .int (iI pa)), (15, .int (iI lb)), (14, .int (iI la)), (13, .int (iI hw)), (12, .int (iI su)), (11, .int (iI kd)), (10, .int (iI j)), (0, .ref (bs (gw γ w))), (1, .int (iI fr)), (2, .int (iI y2)), (3, .int (iI y3))] dL_holds_651 (by decide) rfl ?_
          exact x_lv _ [0, 3, 4, 5, 6, 7, 18, 19, 20, 21, 22] rfl K
        · refine x_iload (pc := 608) C 13 rfl dL_holds_608 ?_
          refine x_goto (pc := 610) C 615 dL_holds_610 (by decide) ?_
          refine x_if_ne (pc := 615) C 650 (by omega) dL_holds_615 (by decide) (fun h => by exfalso; omega) (fun h615 => ?_)
          refine x_iload (pc := 618) C 17 rfl dL_holds_618 ?_
          refine x_iconst (pc := 620) C dL_holds_620 ?_
          refine x_icmp_ne (pc := 621) C 646 (by omega) (by decide) dL_holds_621 (by decide) (fun h621 => ?_) (fun h => by exfalso; omega)
          refine x_iconst (pc := 646) C dL_holds_646 ?_
          refine x_goto (pc := 647) C 651 dL_holds_647 (by decide) ?_
          refine x_istore (pc := 651) C [(9, .int (iI 1)), (22, .int (iI ls)), (21, .int (iI 0)), (8, .int (iI y8)), (7, .int (iI y7)), (6, .int (iI y6)), (5, .int (iI y5)), (4, .int (iI y4)), (20, .int (iI sg)), (19, .int (iI o2)), (18, .int (iI o1)), (17, .int (iI pb)), (16, .int (iI pa)), (15, .int (iI lb)), (14, .int (iI la)), (13, .int (iI hw)), (12, .int (iI su)), (11, .int (iI kd)), (10, .int (iI j)), (0, .ref (bs (gw γ w))), (1, .int (iI fr)), (2, .int (iI y2)), (3, .int (iI y3))] dL_holds_651 (by decide) rfl ?_
          exact x_lv _ [0, 3, 4, 5, 6, 7, 18, 19, 20, 21, 22] rfl K
    · refine x_iconst (pc := 492) C dL_holds_492 ?_
      refine x_goto (pc := 493) C 528 dL_holds_493 (by decide) ?_
      refine x_istore (pc := 528) C [(21, .int (iI 1)), (9, .int (iI 1)), (8, .int (iI y8)), (7, .int (iI y7)), (6, .int (iI y6)), (5, .int (iI y5)), (4, .int (iI y4)), (20, .int (iI sg)), (19, .int (iI o2)), (18, .int (iI o1)), (17, .int (iI pb)), (16, .int (iI pa)), (15, .int (iI lb)), (14, .int (iI la)), (13, .int (iI hw)), (12, .int (iI su)), (11, .int (iI kd)), (10, .int (iI j)), (0, .ref (bs (gw γ w))), (1, .int (iI fr)), (2, .int (iI y2)), (3, .int (iI y3))] dL_holds_528 (by decide) rfl ?_
      refine x_iload (pc := 530) C 11 rfl dL_holds_530 ?_
      refine x_iload (pc := 532) C 10 rfl dL_holds_532 ?_
      suffices K534 : Vl γ φ 23 (a + 0) Q S 544 [(21, .int (iI 1)), (9, .int (iI 1)), (8, .int (iI y8)), (7, .int (iI y7)), (6, .int (iI y6)), (5, .int (iI y5)), (4, .int (iI y4)), (20, .int (iI sg)), (19, .int (iI o2)), (18, .int (iI o1)), (17, .int (iI pb)), (16, .int (iI pa)), (15, .int (iI lb)), (14, .int (iI la)), (13, .int (iI hw)), (12, .int (iI su)), (11, .int (iI kd)), (10, .int (iI j)), (0, .ref (bs (gw γ w))), (1, .int (iI fr)), (2, .int (iI y2)), (3, .int (iI y3))] [.int (iI (if pa < pb then pa else pb))] by
        refine x_icmp_ge (pc := 534) C 542 (by omega) (by omega) dL_holds_534 (by decide) (fun h534 => ?_) (fun h534 => ?_)
        · refine x_iload (pc := 542) C 10 rfl dL_holds_542 ?_
          exact x_ti (x2 := (if pa < pb then pa else pb)) (by split <;> first | rfl | omega) K534
        · refine x_iload (pc := 537) C 11 rfl dL_holds_537 ?_
          refine x_goto (pc := 539) C 544 dL_holds_539 (by decide) ?_
          exact x_ti (x2 := (if pa < pb then pa else pb)) (by split <;> first | rfl | omega) K534
      refine x_nm (fun ls els => ?_)
      have hls : 0 ≤ ls ∧ ls ≤ 99 ∧ (ls = 0 ↔ (pa = 0 ∨ pb = 0)) := by rw [els]; split <;> omega
      refine x_istore (pc := 544) C [(22, .int (iI ls)), (21, .int (iI 1)), (9, .int (iI 1)), (8, .int (iI y8)), (7, .int (iI y7)), (6, .int (iI y6)), (5, .int (iI y5)), (4, .int (iI y4)), (20, .int (iI sg)), (19, .int (iI o2)), (18, .int (iI o1)), (17, .int (iI pb)), (16, .int (iI pa)), (15, .int (iI lb)), (14, .int (iI la)), (13, .int (iI hw)), (12, .int (iI su)), (11, .int (iI kd)), (10, .int (iI j)), (0, .ref (bs (gw γ w))), (1, .int (iI fr)), (2, .int (iI y2)), (3, .int (iI y3))] dL_holds_544 (by decide) rfl ?_
      refine x_iload (pc := 546) C 17 rfl dL_holds_546 ?_
      refine x_iconst (pc := 548) C dL_holds_548 ?_
      refine x_icmp_ne (pc := 549) C 586 (by omega) (by decide) dL_holds_549 (by decide) (fun h549 => ?_) (fun h => by exfalso; omega)
      refine x_iload (pc := 586) C 1 rfl dL_holds_586 ?_
      refine x_if_ne (pc := 588) C 596 (by decide) dL_holds_588 (by decide) (fun h588 => ?_) (fun h588 => ?_)
      · refine x_iload (pc := 596) C 13 rfl dL_holds_596 ?_
        refine x_iload (pc := 598) C 16 rfl dL_holds_598 ?_
        refine x_icmp_ne (pc := 600) C 650 (by omega) (by omega) dL_holds_600 (by decide) (fun h => by exfalso; omega) (fun h600 => ?_)
        refine x_iload (pc := 603) C 1 rfl dL_holds_603 ?_
        refine x_if_ne (pc := 605) C 613 (by decide) dL_holds_605 (by decide) (fun h605 => ?_) (fun h605 => ?_)
        · refine x_iload (pc := 613) C 14 rfl dL_holds_613 ?_
          refine x_if_ne (pc := 615) C 650 (by omega) dL_holds_615 (by decide) (fun h => by exfalso; omega) (fun h615 => ?_)
          refine x_iload (pc := 618) C 17 rfl dL_holds_618 ?_
          refine x_iconst (pc := 620) C dL_holds_620 ?_
          refine x_icmp_ne (pc := 621) C 646 (by omega) (by decide) dL_holds_621 (by decide) (fun h621 => ?_) (fun h => by exfalso; omega)
          refine x_iconst (pc := 646) C dL_holds_646 ?_
          refine x_goto (pc := 647) C 651 dL_holds_647 (by decide) ?_
          refine x_istore (pc := 651) C [(9, .int (iI 1)), (22, .int (iI ls)), (21, .int (iI 1)), (8, .int (iI y8)), (7, .int (iI y7)), (6, .int (iI y6)), (5, .int (iI y5)), (4, .int (iI y4)), (20, .int (iI sg)), (19, .int (iI o2)), (18, .int (iI o1)), (17, .int (iI pb)), (16, .int (iI pa)), (15, .int (iI lb)), (14, .int (iI la)), (13, .int (iI hw)), (12, .int (iI su)), (11, .int (iI kd)), (10, .int (iI j)), (0, .ref (bs (gw γ w))), (1, .int (iI fr)), (2, .int (iI y2)), (3, .int (iI y3))] dL_holds_651 (by decide) rfl ?_
          exact x_lv _ [0, 3, 4, 5, 6, 7, 18, 19, 20, 21, 22] rfl K
        · refine x_iload (pc := 608) C 13 rfl dL_holds_608 ?_
          refine x_goto (pc := 610) C 615 dL_holds_610 (by decide) ?_
          refine x_if_ne (pc := 615) C 650 (by omega) dL_holds_615 (by decide) (fun h => by exfalso; omega) (fun h615 => ?_)
          refine x_iload (pc := 618) C 17 rfl dL_holds_618 ?_
          refine x_iconst (pc := 620) C dL_holds_620 ?_
          refine x_icmp_ne (pc := 621) C 646 (by omega) (by decide) dL_holds_621 (by decide) (fun h621 => ?_) (fun h => by exfalso; omega)
          refine x_iconst (pc := 646) C dL_holds_646 ?_
          refine x_goto (pc := 647) C 651 dL_holds_647 (by decide) ?_
          refine x_istore (pc := 651) C [(9, .int (iI 1)), (22, .int (iI ls)), (21, .int (iI 1)), (8, .int (iI y8)), (7, .int (iI y7)), (6, .int (iI y6)), (5, .int (iI y5)), (4, .int (iI y4)), (20, .int (iI sg)), (19, .int (iI o2)), (18, .int (iI o1)), (17, .int (iI pb)), (16, .int (iI pa)), (15, .int (iI lb)), (14, .int (iI la)), (13, .int (iI hw)), (12, .int (iI su)), (11, .int (iI kd)), (10, .int (iI j)), (0, .ref (bs (gw γ w))), (1, .int (iI fr)), (2, .int (iI y2)), (3, .int (iI y3))] dL_holds_651 (by decide) rfl ?_
          exact x_lv _ [0, 3, 4, 5, 6, 7, 18, 19, 20, 21, 22] rfl K
      · refine x_iload (pc := 591) C 14 rfl dL_holds_591 ?_
        refine x_goto (pc := 593) C 598 dL_holds_593 (by decide) ?_
        refine x_iload (pc := 598) C 16 rfl dL_holds_598 ?_
        refine x_icmp_ne (pc := 600) C 650 (by omega) (by omega) dL_holds_600 (by decide) (fun h => by exfalso; omega) (fun h600 => ?_)
        refine x_iload (pc := 603) C 1 rfl dL_holds_603 ?_
        refine x_if_ne (pc := 605) C 613 (by decide) dL_holds_605 (by decide) (fun h605 => ?_) (fun h605 => ?_)
        · refine x_iload (pc := 613) C 14 rfl dL_holds_613 ?_
          refine x_if_ne (pc := 615) C 650 (by omega) dL_holds_615 (by decide) (fun h => by exfalso; omega) (fun h615 => ?_)
          refine x_iload (pc := 618) C 17 rfl dL_holds_618 ?_
          refine x_iconst (pc := 620) C dL_holds_620 ?_
          refine x_icmp_ne (pc := 621) C 646 (by omega) (by decide) dL_holds_621 (by decide) (fun h621 => ?_) (fun h => by exfalso; omega)
          refine x_iconst (pc := 646) C dL_holds_646 ?_
          refine x_goto (pc := 647) C 651 dL_holds_647 (by decide) ?_
          refine x_istore (pc := 651) C [(9, .int (iI 1)), (22, .int (iI ls)), (21, .int (iI 1)), (8, .int (iI y8)), (7, .int (iI y7)), (6, .int (iI y6)), (5, .int (iI y5)), (4, .int (iI y4)), (20, .int (iI sg)), (19, .int (iI o2)), (18, .int (iI o1)), (17, .int (iI pb)), (16, .int (iI pa)), (15, .int (iI lb)), (14, .int (iI la)), (13, .int (iI hw)), (12, .int (iI su)), (11, .int (iI kd)), (10, .int (iI j)), (0, .ref (bs (gw γ w))), (1, .int (iI fr)), (2, .int (iI y2)), (3, .int (iI y3))] dL_holds_651 (by decide) rfl ?_
          exact x_lv _ [0, 3, 4, 5, 6, 7, 18, 19, 20, 21, 22] rfl K
        · refine x_iload (pc := 608) C 13 rfl dL_holds_608 ?_
          refine x_goto (pc := 610) C 615 dL_holds_610 (by decide) ?_
          refine x_if_ne (pc := 615) C 650 (by omega) dL_holds_615 (by decide) (fun h => by exfalso; omega) (fun h615 => ?_)
          refine x_iload (pc := 618) C 17 rfl dL_holds_618 ?_
          refine x_iconst (pc := 620) C dL_holds_620 ?_
          refine x_icmp_ne (pc := 621) C 646 (by omega) (by decide) dL_holds_621 (by decide) (fun h621 => ?_) (fun h => by exfalso; omega)
          refine x_iconst (pc := 646) C dL_holds_646 ?_
          refine x_goto (pc := 647) C 651 dL_holds_647 (by decide) ?_
          refine x_istore (pc := 651) C [(9, .int (iI 1)), (22, .int (iI ls)), (21, .int (iI 1)), (8, .int (iI y8)), (7, .int (iI y7)), (6, .int (iI y6)), (5, .int (iI y5)), (4, .int (iI y4)), (20, .int (iI sg)), (19, .int (iI o2)), (18, .int (iI o1)), (17, .int (iI pb)), (16, .int (iI pa)), (15, .int (iI lb)), (14, .int (iI la)), (13, .int (iI hw)), (12, .int (iI su)), (11, .int (iI kd)), (10, .int (iI j)), (0, .ref (bs (gw γ w))), (1, .int (iI fr)), (2, .int (iI y2)), (3, .int (iI y3))] dL_holds_651 (by decide) rfl ?_
          exact x_lv _ [0, 3, 4, 5, 6, 7, 18, 19, 20, 21, 22] rfl K
set_option maxHeartbeats 4000000 in
set_option maxRecDepth 100000 in
theorem holds_k2 {γ : Gm} {φ : Fx} {a : Nat} {Q : State → Prop} {S : St2} {w : Bool} {y8 y7 y6 y5 y4 sg o2 o1 pb pa lb la hw su kd j fr y2 y3 : Int} (G : GL γ) (C : Cx γ φ RL cL_holds 23 12) (hk : kd = 2) (hu : 10 ≤ su ∧ su ≤ 99) (hh : 0 ≤ hw ∧ hw ≤ 1) (hA : 0 ≤ la ∧ la ≤ 99) (hB : 0 ≤ lb ∧ lb ≤ 99) (hP : 0 ≤ pa ∧ pa ≤ 99) (hQ : 0 ≤ pb ∧ pb ≤ 99) (h1 : o1 = 0 ∨ o1 = 1) (h2 : o2 = 0 ∨ o2 = 1) (f : (hw = 0 → la = su ∧ lb = 0) ∧ (hw = 1 → lb = su ∧ la = 0) ∧ (o1 = 1 → ¬ o2 = 1 → hw = 1) ∧ (¬ o1 = 1 → o2 = 1 → hw = 0)) (K : Vl γ φ 23 (a) Q S 653 [(9, .int (iI 1)), (8, .int (iI y8)), (7, .int (iI y7)), (6, .int (iI y6)), (5, .int (iI y5)), (4, .int (iI y4)), (10, .int (iI j)), (0, .ref (bs (gw γ w))), (1, .int (iI fr)), (2, .int (iI y2)), (3, .int (iI y3))] []) : Vl γ φ 23 (a) Q S 464 [(9, .int (iI 1)), (8, .int (iI y8)), (7, .int (iI y7)), (6, .int (iI y6)), (5, .int (iI y5)), (4, .int (iI y4)), (20, .int (iI sg)), (19, .int (iI o2)), (18, .int (iI o1)), (17, .int (iI pb)), (16, .int (iI pa)), (15, .int (iI lb)), (14, .int (iI la)), (13, .int (iI hw)), (12, .int (iI su)), (11, .int (iI kd)), (10, .int (iI j)), (0, .ref (bs (gw γ w))), (1, .int (iI fr)), (2, .int (iI y2)), (3, .int (iI y3))] [] := by
  refine x_iload (pc := 464) C 15 rfl dL_holds_464 ?_
  refine x_if_ne (pc := 466) C 476 (by omega) dL_holds_466 (by decide) (fun h466 => ?_) (fun h => by exfalso; omega)
  refine x_iload (pc := 476) C 15 rfl dL_holds_476 ?_
  refine x_iconst (pc := 478) C dL_holds_478 ?_
  refine x_icmp_ne (pc := 479) C 500 (by omega) (by decide) dL_holds_479 (by decide) (fun h479 => ?_) (fun h => by exfalso; omega)
  refine x_iload (pc := 500) C 15 rfl dL_holds_500 ?_
  refine x_iconst (pc := 502) C dL_holds_502 ?_
  refine x_icmp_ne (pc := 503) C 511 (by omega) (by decide) dL_holds_503 (by decide) (fun h => by exfalso; omega) (fun h503 => ?_)
  refine x_iload (pc := 506) C 13 rfl dL_holds_506 ?_
  refine x_goto (pc := 508) C 528 dL_holds_508 (by decide) ?_
  refine x_istore (pc := 528) C [(21, .int (iI hw)), (9, .int (iI 1)), (8, .int (iI y8)), (7, .int (iI y7)), (6, .int (iI y6)), (5, .int (iI y5)), (4, .int (iI y4)), (20, .int (iI sg)), (19, .int (iI o2)), (18, .int (iI o1)), (17, .int (iI pb)), (16, .int (iI pa)), (15, .int (iI lb)), (14, .int (iI la)), (13, .int (iI hw)), (12, .int (iI su)), (11, .int (iI kd)), (10, .int (iI j)), (0, .ref (bs (gw γ w))), (1, .int (iI fr)), (2, .int (iI y2)), (3, .int (iI y3))] dL_holds_528 (by decide) rfl ?_
  refine x_iload (pc := 530) C 11 rfl dL_holds_530 ?_
  refine x_iload (pc := 532) C 10 rfl dL_holds_532 ?_
  suffices K534 : Vl γ φ 23 (a + 0) Q S 544 [(21, .int (iI hw)), (9, .int (iI 1)), (8, .int (iI y8)), (7, .int (iI y7)), (6, .int (iI y6)), (5, .int (iI y5)), (4, .int (iI y4)), (20, .int (iI sg)), (19, .int (iI o2)), (18, .int (iI o1)), (17, .int (iI pb)), (16, .int (iI pa)), (15, .int (iI lb)), (14, .int (iI la)), (13, .int (iI hw)), (12, .int (iI su)), (11, .int (iI kd)), (10, .int (iI j)), (0, .ref (bs (gw γ w))), (1, .int (iI fr)), (2, .int (iI y2)), (3, .int (iI y3))] [.int (iI (if pa < pb then pa else pb))] by
    refine x_icmp_ge (pc := 534) C 542 (by omega) (by omega) dL_holds_534 (by decide) (fun h534 => ?_) (fun h534 => ?_)
    · refine x_iload (pc := 542) C 10 rfl dL_holds_542 ?_
      exact x_ti (x2 := (if pa < pb then pa else pb)) (by split <;> first | rfl | omega) K534
    · refine x_iload (pc := 537) C 11 rfl dL_holds_537 ?_
      refine x_goto (pc := 539) C 544 dL_holds_539 (by decide) ?_
      exact x_ti (x2 := (if pa < pb then pa else pb)) (by split <;> first | rfl | omega) K534
  refine x_nm (fun ls els => ?_)
  have hls : 0 ≤ ls ∧ ls ≤ 99 ∧ (ls = 0 ↔ (pa = 0 ∨ pb = 0)) := by rw [els]; split <;> omega
  refine x_istore (pc := 544) C [(22, .int (iI ls)), (21, .int (iI hw)), (9, .int (iI 1)), (8, .int (iI y8)), (7, .int (iI y7)), (6, .int (iI y6)), (5, .int (iI y5)), (4, .int (iI y4)), (20, .int (iI sg)), (19, .int (iI o2)), (18, .int (iI o1)), (17, .int (iI pb)), (16, .int (iI pa)), (15, .int (iI lb)), (14, .int (iI la)), (13, .int (iI hw)), (12, .int (iI su)), (11, .int (iI kd)), (10, .int (iI j)), (0, .ref (bs (gw γ w))), (1, .int (iI fr)), (2, .int (iI y2)), (3, .int (iI y3))] dL_holds_544 (by decide) rfl ?_
  refine x_iload (pc := 546) C 17 rfl dL_holds_546 ?_
  refine x_iconst (pc := 548) C dL_holds_548 ?_
  refine x_icmp_ne (pc := 549) C 586 (by omega) (by decide) dL_holds_549 (by decide) (fun h549 => ?_) (fun h => by exfalso; omega)
  refine x_iload (pc := 586) C 1 rfl dL_holds_586 ?_
  refine x_if_ne (pc := 588) C 596 (by omega) dL_holds_588 (by decide) (fun h588 => ?_) (fun h588 => ?_)
  · refine x_iload (pc := 596) C 13 rfl dL_holds_596 ?_
    refine x_iload (pc := 598) C 16 rfl dL_holds_598 ?_
    refine x_icmp_ne (pc := 600) C 650 (by omega) (by omega) dL_holds_600 (by decide) (fun h => by exfalso; omega) (fun h600 => ?_)
    refine x_iload (pc := 603) C 1 rfl dL_holds_603 ?_
    refine x_if_ne (pc := 605) C 613 (by omega) dL_holds_605 (by decide) (fun h605 => ?_) (fun h605 => ?_)
    · refine x_iload (pc := 613) C 14 rfl dL_holds_613 ?_
      refine x_if_ne (pc := 615) C 650 (by omega) dL_holds_615 (by decide) (fun h => by exfalso; omega) (fun h615 => ?_)
      refine x_iload (pc := 618) C 17 rfl dL_holds_618 ?_
      refine x_iconst (pc := 620) C dL_holds_620 ?_
      refine x_icmp_ne (pc := 621) C 646 (by omega) (by decide) dL_holds_621 (by decide) (fun h => by exfalso; omega) (fun h621 => ?_)
      refine x_iload (pc := 624) C 10 rfl dL_holds_624 ?_
      refine x_iload (pc := 626) C 9 rfl dL_holds_626 ?_
      refine x_icmp_eq (pc := 628) C 646 (by omega) (by omega) dL_holds_628 (by decide) (fun h628 => ?_) (fun h628 => ?_)
      · refine x_iconst (pc := 646) C dL_holds_646 ?_
        refine x_goto (pc := 647) C 651 dL_holds_647 (by decide) ?_
        refine x_istore (pc := 651) C [(9, .int (iI 1)), (22, .int (iI ls)), (21, .int (iI hw)), (8, .int (iI y8)), (7, .int (iI y7)), (6, .int (iI y6)), (5, .int (iI y5)), (4, .int (iI y4)), (20, .int (iI sg)), (19, .int (iI o2)), (18, .int (iI o1)), (17, .int (iI pb)), (16, .int (iI pa)), (15, .int (iI lb)), (14, .int (iI la)), (13, .int (iI hw)), (12, .int (iI su)), (11, .int (iI kd)), (10, .int (iI j)), (0, .ref (bs (gw γ w))), (1, .int (iI fr)), (2, .int (iI y2)), (3, .int (iI y3))] dL_holds_651 (by decide) rfl ?_
        exact x_lv _ [0, 3, 4, 5, 6, 7, 18, 19, 20, 21, 22] rfl K
      · refine x_iload (pc := 631) C 15 rfl dL_holds_631 ?_
        refine x_iload (pc := 633) C 10 rfl dL_holds_633 ?_
        refine x_if_eq (pc := 635) C 642 (by omega) dL_holds_635 (by decide) (fun h635 => ?_) (fun h635 => ?_)
        · refine x_iconst (pc := 642) C dL_holds_642 ?_
          refine x_icmp_ne (pc := 643) C 650 (by omega) (by decide) dL_holds_643 (by decide) (fun h => by exfalso; omega) (fun h643 => ?_)
          refine x_iconst (pc := 646) C dL_holds_646 ?_
          refine x_goto (pc := 647) C 651 dL_holds_647 (by decide) ?_
          refine x_istore (pc := 651) C [(9, .int (iI 1)), (22, .int (iI ls)), (21, .int (iI hw)), (8, .int (iI y8)), (7, .int (iI y7)), (6, .int (iI y6)), (5, .int (iI y5)), (4, .int (iI y4)), (20, .int (iI sg)), (19, .int (iI o2)), (18, .int (iI o1)), (17, .int (iI pb)), (16, .int (iI pa)), (15, .int (iI lb)), (14, .int (iI la)), (13, .int (iI hw)), (12, .int (iI su)), (11, .int (iI kd)), (10, .int (iI j)), (0, .ref (bs (gw γ w))), (1, .int (iI fr)), (2, .int (iI y2)), (3, .int (iI y3))] dL_holds_651 (by decide) rfl ?_
          exact x_lv _ [0, 3, 4, 5, 6, 7, 18, 19, 20, 21, 22] rfl K
        · refine x_iconst (pc := 638) C dL_holds_638 ?_
          refine x_goto (pc := 639) C 643 dL_holds_639 (by decide) ?_
          refine x_icmp_ne (pc := 643) C 650 (by omega) (by decide) dL_holds_643 (by decide) (fun h => by exfalso; omega) (fun h643 => ?_)
          refine x_iconst (pc := 646) C dL_holds_646 ?_
          refine x_goto (pc := 647) C 651 dL_holds_647 (by decide) ?_
          refine x_istore (pc := 651) C [(9, .int (iI 1)), (22, .int (iI ls)), (21, .int (iI hw)), (8, .int (iI y8)), (7, .int (iI y7)), (6, .int (iI y6)), (5, .int (iI y5)), (4, .int (iI y4)), (20, .int (iI sg)), (19, .int (iI o2)), (18, .int (iI o1)), (17, .int (iI pb)), (16, .int (iI pa)), (15, .int (iI lb)), (14, .int (iI la)), (13, .int (iI hw)), (12, .int (iI su)), (11, .int (iI kd)), (10, .int (iI j)), (0, .ref (bs (gw γ w))), (1, .int (iI fr)), (2, .int (iI y2)), (3, .int (iI y3))] dL_holds_651 (by decide) rfl ?_
          exact x_lv _ [0, 3, 4, 5, 6, 7, 18, 19, 20, 21, 22] rfl K
    · refine x_iload (pc := 608) C 13 rfl dL_holds_608 ?_
      refine x_goto (pc := 610) C 615 dL_holds_610 (by decide) ?_
      refine x_if_ne (pc := 615) C 650 (by omega) dL_holds_615 (by decide) (fun h => by exfalso; omega) (fun h615 => ?_)
      refine x_iload (pc := 618) C 17 rfl dL_holds_618 ?_
      refine x_iconst (pc := 620) C dL_holds_620 ?_
      refine x_icmp_ne (pc := 621) C 646 (by omega) (by decide) dL_holds_621 (by decide) (fun h => by exfalso; omega) (fun h621 => ?_)
      refine x_iload (pc := 624) C 10 rfl dL_holds_624 ?_
      refine x_iload (pc := 626) C 9 rfl dL_holds_626 ?_
      refine x_icmp_eq (pc := 628) C 646 (by omega) (by omega) dL_holds_628 (by decide) (fun h628 => ?_) (fun h628 => ?_)
      · refine x_iconst (pc := 646) C dL_holds_646 ?_
        refine x_goto (pc := 647) C 651 dL_holds_647 (by decide) ?_
        refine x_istore (pc := 651) C [(9, .int (iI 1)), (22, .int (iI ls)), (21, .int (iI hw)), (8, .int (iI y8)), (7, .int (iI y7)), (6, .int (iI y6)), (5, .int (iI y5)), (4, .int (iI y4)), (20, .int (iI sg)), (19, .int (iI o2)), (18, .int (iI o1)), (17, .int (iI pb)), (16, .int (iI pa)), (15, .int (iI lb)), (14, .int (iI la)), (13, .int (iI hw)), (12, .int (iI su)), (11, .int (iI kd)), (10, .int (iI j)), (0, .ref (bs (gw γ w))), (1, .int (iI fr)), (2, .int (iI y2)), (3, .int (iI y3))] dL_holds_651 (by decide) rfl ?_
        exact x_lv _ [0, 3, 4, 5, 6, 7, 18, 19, 20, 21, 22] rfl K
      · refine x_iload (pc := 631) C 15 rfl dL_holds_631 ?_
        refine x_iload (pc := 633) C 10 rfl dL_holds_633 ?_
        refine x_if_eq (pc := 635) C 642 (by omega) dL_holds_635 (by decide) (fun h635 => ?_) (fun h635 => ?_)
        · refine x_iconst (pc := 642) C dL_holds_642 ?_
          refine x_icmp_ne (pc := 643) C 650 (by omega) (by decide) dL_holds_643 (by decide) (fun h => by exfalso; omega) (fun h643 => ?_)
          refine x_iconst (pc := 646) C dL_holds_646 ?_
          refine x_goto (pc := 647) C 651 dL_holds_647 (by decide) ?_
          refine x_istore (pc := 651) C [(9, .int (iI 1)), (22, .int (iI ls)), (21, .int (iI hw)), (8, .int (iI y8)), (7, .int (iI y7)), (6, .int (iI y6)), (5, .int (iI y5)), (4, .int (iI y4)), (20, .int (iI sg)), (19, .int (iI o2)), (18, .int (iI o1)), (17, .int (iI pb)), (16, .int (iI pa)), (15, .int (iI lb)), (14, .int (iI la)), (13, .int (iI hw)), (12, .int (iI su)), (11, .int (iI kd)), (10, .int (iI j)), (0, .ref (bs (gw γ w))), (1, .int (iI fr)), (2, .int (iI y2)), (3, .int (iI y3))] dL_holds_651 (by decide) rfl ?_
          exact x_lv _ [0, 3, 4, 5, 6, 7, 18, 19, 20, 21, 22] rfl K
        · refine x_iconst (pc := 638) C dL_holds_638 ?_
          refine x_goto (pc := 639) C 643 dL_holds_639 (by decide) ?_
          refine x_icmp_ne (pc := 643) C 650 (by omega) (by decide) dL_holds_643 (by decide) (fun h => by exfalso; omega) (fun h643 => ?_)
          refine x_iconst (pc := 646) C dL_holds_646 ?_
          refine x_goto (pc := 647) C 651 dL_holds_647 (by decide) ?_
          refine x_istore (pc := 651) C [(9, .int (iI 1)), (22, .int (iI ls)), (21, .int (iI hw)), (8, .int (iI y8)), (7, .int (iI y7)), (6, .int (iI y6)), (5, .int (iI y5)), (4, .int (iI y4)), (20, .int (iI sg)), (19, .int (iI o2)), (18, .int (iI o1)), (17, .int (iI pb)), (16, .int (iI pa)), (15, .int (iI lb)), (14, .int (iI la)), (13, .int (iI hw)), (12, .int (iI su)), (11, .int (iI kd)), (10, .int (iI j)), (0, .ref (bs (gw γ w))), (1, .int (iI fr)), (2, .int (iI y2)), (3, .int (iI y3))] dL_holds_651 (by decide) rfl ?_
          exact x_lv _ [0, 3, 4, 5, 6, 7, 18, 19, 20, 21, 22] rfl K
  · refine x_iload (pc := 591) C 14 rfl dL_holds_591 ?_
    refine x_goto (pc := 593) C 598 dL_holds_593 (by decide) ?_
    refine x_iload (pc := 598) C 16 rfl dL_holds_598 ?_
    refine x_icmp_ne (pc := 600) C 650 (by omega) (by omega) dL_holds_600 (by decide) (fun h => by exfalso; omega) (fun h600 => ?_)
    refine x_iload (pc := 603) C 1 rfl dL_holds_603 ?_
    refine x_if_ne (pc := 605) C 613 (by omega) dL_holds_605 (by decide) (fun h605 => ?_) (fun h605 => ?_)
    · refine x_iload (pc := 613) C 14 rfl dL_holds_613 ?_
      refine x_if_ne (pc := 615) C 650 (by omega) dL_holds_615 (by decide) (fun h => by exfalso; omega) (fun h615 => ?_)
      refine x_iload (pc := 618) C 17 rfl dL_holds_618 ?_
      refine x_iconst (pc := 620) C dL_holds_620 ?_
      refine x_icmp_ne (pc := 621) C 646 (by omega) (by decide) dL_holds_621 (by decide) (fun h => by exfalso; omega) (fun h621 => ?_)
      refine x_iload (pc := 624) C 10 rfl dL_holds_624 ?_
      refine x_iload (pc := 626) C 9 rfl dL_holds_626 ?_
      refine x_icmp_eq (pc := 628) C 646 (by omega) (by omega) dL_holds_628 (by decide) (fun h628 => ?_) (fun h628 => ?_)
      · refine x_iconst (pc := 646) C dL_holds_646 ?_
        refine x_goto (pc := 647) C 651 dL_holds_647 (by decide) ?_
        refine x_istore (pc := 651) C [(9, .int (iI 1)), (22, .int (iI ls)), (21, .int (iI hw)), (8, .int (iI y8)), (7, .int (iI y7)), (6, .int (iI y6)), (5, .int (iI y5)), (4, .int (iI y4)), (20, .int (iI sg)), (19, .int (iI o2)), (18, .int (iI o1)), (17, .int (iI pb)), (16, .int (iI pa)), (15, .int (iI lb)), (14, .int (iI la)), (13, .int (iI hw)), (12, .int (iI su)), (11, .int (iI kd)), (10, .int (iI j)), (0, .ref (bs (gw γ w))), (1, .int (iI fr)), (2, .int (iI y2)), (3, .int (iI y3))] dL_holds_651 (by decide) rfl ?_
        exact x_lv _ [0, 3, 4, 5, 6, 7, 18, 19, 20, 21, 22] rfl K
      · refine x_iload (pc := 631) C 15 rfl dL_holds_631 ?_
        refine x_iload (pc := 633) C 10 rfl dL_holds_633 ?_
        refine x_if_eq (pc := 635) C 642 (by omega) dL_holds_635 (by decide) (fun h635 => ?_) (fun h635 => ?_)
        · refine x_iconst (pc := 642) C dL_holds_642 ?_
          refine x_icmp_ne (pc := 643) C 650 (by omega) (by decide) dL_holds_643 (by decide) (fun h => by exfalso; omega) (fun h643 => ?_)
          refine x_iconst (pc := 646) C dL_holds_646 ?_
          refine x_goto (pc := 647) C 651 dL_holds_647 (by decide) ?_
          refine x_istore (pc := 651) C [(9, .int (iI 1)), (22, .int (iI ls)), (21, .int (iI hw)), (8, .int (iI y8)), (7, .int (iI y7)), (6, .int (iI y6)), (5, .int (iI y5)), (4, .int (iI y4)), (20, .int (iI sg)), (19, .int (iI o2)), (18, .int (iI o1)), (17, .int (iI pb)), (16, .int (iI pa)), (15, .int (iI lb)), (14, .int (iI la)), (13, .int (iI hw)), (12, .int (iI su)), (11, .int (iI kd)), (10, .int (iI j)), (0, .ref (bs (gw γ w))), (1, .int (iI fr)), (2, .int (iI y2)), (3, .int (iI y3))] dL_holds_651 (by decide) rfl ?_
          exact x_lv _ [0, 3, 4, 5, 6, 7, 18, 19, 20, 21, 22] rfl K
        · refine x_iconst (pc := 638) C dL_holds_638 ?_
          refine x_goto (pc := 639) C 643 dL_holds_639 (by decide) ?_
          refine x_icmp_ne (pc := 643) C 650 (by omega) (by decide) dL_holds_643 (by decide) (fun h => by exfalso; omega) (fun h643 => ?_)
          refine x_iconst (pc := 646) C dL_holds_646 ?_
          refine x_goto (pc := 647) C 651 dL_holds_647 (by decide) ?_
          refine x_istore (pc := 651) C [(9, .int (iI 1)), (22, .int (iI ls)), (21, .int (iI hw)), (8, .int (iI y8)), (7, .int (iI y7)), (6, .int (iI y6)), (5, .int (iI y5)), (4, .int (iI y4)), (20, .int (iI sg)), (19, .int (iI o2)), (18, .int (iI o1)), (17, .int (iI pb)), (16, .int (iI pa)), (15, .int (iI lb)), (14, .int (iI la)), (13, .int (iI hw)), (12, .int (iI su)), (11, .int (iI kd)), (10, .int (iI j)), (0, .ref (bs (gw γ w))), (1, .int (iI fr)), (2, .int (iI y2)), (3, .int (iI y3))] dL_holds_651 (by decide) rfl ?_
          exact x_lv _ [0, 3, 4, 5, 6, 7, 18, 19, 20, 21, 22] rfl K
    · refine x_iload (pc := 608) C 13 rfl dL_holds_608 ?_
      refine x_goto (pc := 610) C 615 dL_holds_610 (by decide) ?_
      refine x_if_ne (pc := 615) C 650 (by omega) dL_holds_615 (by decide) (fun h => by exfalso; omega) (fun h615 => ?_)
      refine x_iload (pc := 618) C 17 rfl dL_holds_618 ?_
      refine x_iconst (pc := 620) C dL_holds_620 ?_
      refine x_icmp_ne (pc := 621) C 646 (by omega) (by decide) dL_holds_621 (by decide) (fun h => by exfalso; omega) (fun h621 => ?_)
      refine x_iload (pc := 624) C 10 rfl dL_holds_624 ?_
      refine x_iload (pc := 626) C 9 rfl dL_holds_626 ?_
      refine x_icmp_eq (pc := 628) C 646 (by omega) (by omega) dL_holds_628 (by decide) (fun h628 => ?_) (fun h628 => ?_)
      · refine x_iconst (pc := 646) C dL_holds_646 ?_
        refine x_goto (pc := 647) C 651 dL_holds_647 (by decide) ?_
        refine x_istore (pc := 651) C [(9, .int (iI 1)), (22, .int (iI ls)), (21, .int (iI hw)), (8, .int (iI y8)), (7, .int (iI y7)), (6, .int (iI y6)), (5, .int (iI y5)), (4, .int (iI y4)), (20, .int (iI sg)), (19, .int (iI o2)), (18, .int (iI o1)), (17, .int (iI pb)), (16, .int (iI pa)), (15, .int (iI lb)), (14, .int (iI la)), (13, .int (iI hw)), (12, .int (iI su)), (11, .int (iI kd)), (10, .int (iI j)), (0, .ref (bs (gw γ w))), (1, .int (iI fr)), (2, .int (iI y2)), (3, .int (iI y3))] dL_holds_651 (by decide) rfl ?_
        exact x_lv _ [0, 3, 4, 5, 6, 7, 18, 19, 20, 21, 22] rfl K
      · refine x_iload (pc := 631) C 15 rfl dL_holds_631 ?_
        refine x_iload (pc := 633) C 10 rfl dL_holds_633 ?_
        refine x_if_eq (pc := 635) C 642 (by omega) dL_holds_635 (by decide) (fun h635 => ?_) (fun h635 => ?_)
        · refine x_iconst (pc := 642) C dL_holds_642 ?_
          refine x_icmp_ne (pc := 643) C 650 (by omega) (by decide) dL_holds_643 (by decide) (fun h => by exfalso; omega) (fun h643 => ?_)
          refine x_iconst (pc := 646) C dL_holds_646 ?_
          refine x_goto (pc := 647) C 651 dL_holds_647 (by decide) ?_
          refine x_istore (pc := 651) C [(9, .int (iI 1)), (22, .int (iI ls)), (21, .int (iI hw)), (8, .int (iI y8)), (7, .int (iI y7)), (6, .int (iI y6)), (5, .int (iI y5)), (4, .int (iI y4)), (20, .int (iI sg)), (19, .int (iI o2)), (18, .int (iI o1)), (17, .int (iI pb)), (16, .int (iI pa)), (15, .int (iI lb)), (14, .int (iI la)), (13, .int (iI hw)), (12, .int (iI su)), (11, .int (iI kd)), (10, .int (iI j)), (0, .ref (bs (gw γ w))), (1, .int (iI fr)), (2, .int (iI y2)), (3, .int (iI y3))] dL_holds_651 (by decide) rfl ?_
          exact x_lv _ [0, 3, 4, 5, 6, 7, 18, 19, 20, 21, 22] rfl K
        · refine x_iconst (pc := 638) C dL_holds_638 ?_
          refine x_goto (pc := 639) C 643 dL_holds_639 (by decide) ?_
          refine x_icmp_ne (pc := 643) C 650 (by omega) (by decide) dL_holds_643 (by decide) (fun h => by exfalso; omega) (fun h643 => ?_)
          refine x_iconst (pc := 646) C dL_holds_646 ?_
          refine x_goto (pc := 647) C 651 dL_holds_647 (by decide) ?_
          refine x_istore (pc := 651) C [(9, .int (iI 1)), (22, .int (iI ls)), (21, .int (iI hw)), (8, .int (iI y8)), (7, .int (iI y7)), (6, .int (iI y6)), (5, .int (iI y5)), (4, .int (iI y4)), (20, .int (iI sg)), (19, .int (iI o2)), (18, .int (iI o1)), (17, .int (iI pb)), (16, .int (iI pa)), (15, .int (iI lb)), (14, .int (iI la)), (13, .int (iI hw)), (12, .int (iI su)), (11, .int (iI kd)), (10, .int (iI j)), (0, .ref (bs (gw γ w))), (1, .int (iI fr)), (2, .int (iI y2)), (3, .int (iI y3))] dL_holds_651 (by decide) rfl ?_
          exact x_lv _ [0, 3, 4, 5, 6, 7, 18, 19, 20, 21, 22] rfl K
set_option maxHeartbeats 4000000 in
set_option maxRecDepth 100000 in
theorem holds_k3 {γ : Gm} {φ : Fx} {a : Nat} {Q : State → Prop} {S : St2} {w : Bool} {y8 y7 y6 y5 y4 sg o2 o1 pb pa lb la hw su kd j fr y2 y3 : Int} (G : GL γ) (C : Cx γ φ RL cL_holds 23 12) (hk : kd = 3) (hu : 10 ≤ su ∧ su ≤ 99) (hh : 0 ≤ hw ∧ hw ≤ 1) (hA : 0 ≤ la ∧ la ≤ 99) (hB : 0 ≤ lb ∧ lb ≤ 99) (hP : 0 ≤ pa ∧ pa ≤ 99) (hQ : 0 ≤ pb ∧ pb ≤ 99) (h1 : o1 = 0 ∨ o1 = 1) (h2 : o2 = 0 ∨ o2 = 1) (f : la = (if pa < pb then pa else pb) ∧ lb = (if pa = 0 ∨ pb = 0 then pa + pb else 0)) (K : Vl γ φ 23 (a) Q S 653 [(9, .int (iI 1)), (8, .int (iI y8)), (7, .int (iI y7)), (6, .int (iI y6)), (5, .int (iI y5)), (4, .int (iI y4)), (10, .int (iI j)), (0, .ref (bs (gw γ w))), (1, .int (iI fr)), (2, .int (iI y2)), (3, .int (iI y3))] []) : Vl γ φ 23 (a) Q S 464 [(9, .int (iI 1)), (8, .int (iI y8)), (7, .int (iI y7)), (6, .int (iI y6)), (5, .int (iI y5)), (4, .int (iI y4)), (20, .int (iI sg)), (19, .int (iI o2)), (18, .int (iI o1)), (17, .int (iI pb)), (16, .int (iI pa)), (15, .int (iI lb)), (14, .int (iI la)), (13, .int (iI hw)), (12, .int (iI su)), (11, .int (iI kd)), (10, .int (iI j)), (0, .ref (bs (gw γ w))), (1, .int (iI fr)), (2, .int (iI y2)), (3, .int (iI y3))] [] := by
  refine x_iload (pc := 464) C 15 rfl dL_holds_464 ?_
  refine x_if_ne (pc := 466) C 476 (by omega) dL_holds_466 (by decide) (fun h466 => ?_) (fun h => by exfalso; omega)
  refine x_iload (pc := 476) C 15 rfl dL_holds_476 ?_
  refine x_iconst (pc := 478) C dL_holds_478 ?_
  refine x_icmp_ne (pc := 479) C 500 (by omega) (by decide) dL_holds_479 (by decide) (fun h479 => ?_) (fun h => by exfalso; omega)
  refine x_iload (pc := 500) C 15 rfl dL_holds_500 ?_
  refine x_iconst (pc := 502) C dL_holds_502 ?_
  refine x_icmp_ne (pc := 503) C 511 (by omega) (by decide) dL_holds_503 (by decide) (fun h503 => ?_) (fun h => by exfalso; omega)
  refine x_iload (pc := 511) C 10 rfl dL_holds_511 ?_
  refine x_iconst (pc := 513) C dL_holds_513 ?_
  refine x_icmp_ge (pc := 514) C 523 (by omega) (by decide) dL_holds_514 (by decide) (fun h514 => ?_) (fun h514 => ?_)
  · refine x_iconst (pc := 523) C dL_holds_523 ?_
    refine x_goto (pc := 524) C 528 dL_holds_524 (by decide) ?_
    refine x_istore (pc := 528) C [(21, .int (iI 0)), (9, .int (iI 1)), (8, .int (iI y8)), (7, .int (iI y7)), (6, .int (iI y6)), (5, .int (iI y5)), (4, .int (iI y4)), (20, .int (iI sg)), (19, .int (iI o2)), (18, .int (iI o1)), (17, .int (iI pb)), (16, .int (iI pa)), (15, .int (iI lb)), (14, .int (iI la)), (13, .int (iI hw)), (12, .int (iI su)), (11, .int (iI kd)), (10, .int (iI j)), (0, .ref (bs (gw γ w))), (1, .int (iI fr)), (2, .int (iI y2)), (3, .int (iI y3))] dL_holds_528 (by decide) rfl ?_
    refine x_iload (pc := 530) C 11 rfl dL_holds_530 ?_
    refine x_iload (pc := 532) C 10 rfl dL_holds_532 ?_
    suffices K534 : Vl γ φ 23 (a + 0) Q S 544 [(21, .int (iI 0)), (9, .int (iI 1)), (8, .int (iI y8)), (7, .int (iI y7)), (6, .int (iI y6)), (5, .int (iI y5)), (4, .int (iI y4)), (20, .int (iI sg)), (19, .int (iI o2)), (18, .int (iI o1)), (17, .int (iI pb)), (16, .int (iI pa)), (15, .int (iI lb)), (14, .int (iI la)), (13, .int (iI hw)), (12, .int (iI su)), (11, .int (iI kd)), (10, .int (iI j)), (0, .ref (bs (gw γ w))), (1, .int (iI fr)), (2, .int (iI y2)), (3, .int (iI y3))] [.int (iI (if pa < pb then pa else pb))] by
      refine x_icmp_ge (pc := 534) C 542 (by omega) (by omega) dL_holds_534 (by decide) (fun h534 => ?_) (fun h534 => ?_)
      · refine x_iload (pc := 542) C 10 rfl dL_holds_542 ?_
        exact x_ti (x2 := (if pa < pb then pa else pb)) (by split <;> first | rfl | omega) K534
      · refine x_iload (pc := 537) C 11 rfl dL_holds_537 ?_
        refine x_goto (pc := 539) C 544 dL_holds_539 (by decide) ?_
        exact x_ti (x2 := (if pa < pb then pa else pb)) (by split <;> first | rfl | omega) K534
    refine x_nm (fun ls els => ?_)
    have hls : 0 ≤ ls ∧ ls ≤ 99 ∧ (ls = 0 ↔ (pa = 0 ∨ pb = 0)) := by rw [els]; split <;> omega
    refine x_istore (pc := 544) C [(22, .int (iI ls)), (21, .int (iI 0)), (9, .int (iI 1)), (8, .int (iI y8)), (7, .int (iI y7)), (6, .int (iI y6)), (5, .int (iI y5)), (4, .int (iI y4)), (20, .int (iI sg)), (19, .int (iI o2)), (18, .int (iI o1)), (17, .int (iI pb)), (16, .int (iI pa)), (15, .int (iI lb)), (14, .int (iI la)), (13, .int (iI hw)), (12, .int (iI su)), (11, .int (iI kd)), (10, .int (iI j)), (0, .ref (bs (gw γ w))), (1, .int (iI fr)), (2, .int (iI y2)), (3, .int (iI y3))] dL_holds_544 (by decide) rfl ?_
    refine x_iload (pc := 546) C 17 rfl dL_holds_546 ?_
    refine x_iconst (pc := 548) C dL_holds_548 ?_
    refine x_icmp_ne (pc := 549) C 586 (by omega) (by decide) dL_holds_549 (by decide) (fun h => by exfalso; omega) (fun h549 => ?_)
    refine x_iload (pc := 552) C 14 rfl dL_holds_552 ?_
    refine x_iload (pc := 554) C 0 rfl dL_holds_554 ?_
    refine x_icmp_ne (pc := 556) C 582 (by omega) (by omega) dL_holds_556 (by decide) (fun h => by exfalso; rw [els] at h; omega) (fun h556 => ?_)
    refine x_iload (pc := 559) C 13 rfl dL_holds_559 ?_
    refine x_iload (pc := 561) C 0 rfl dL_holds_561 ?_
    refine x_if_ne (pc := 563) C 574 (by omega) dL_holds_563 (by decide) (fun h563 => ?_) (fun h563 => ?_)
    · refine x_iconst (pc := 574) C dL_holds_574 ?_
      refine x_icmp_ne (pc := 575) C 582 (by omega) (by decide) dL_holds_575 (by decide) (fun h => by exfalso; obtain ⟨u1, u2⟩ := f; first | (rw [if_pos (by omega)] at u2; omega) | (rw [if_neg (by omega)] at u2; omega)) (fun h575 => ?_)
      refine x_iconst (pc := 578) C dL_holds_578 ?_
      refine x_goto (pc := 579) C 651 dL_holds_579 (by decide) ?_
      refine x_istore (pc := 651) C [(9, .int (iI 1)), (22, .int (iI ls)), (21, .int (iI 0)), (8, .int (iI y8)), (7, .int (iI y7)), (6, .int (iI y6)), (5, .int (iI y5)), (4, .int (iI y4)), (20, .int (iI sg)), (19, .int (iI o2)), (18, .int (iI o1)), (17, .int (iI pb)), (16, .int (iI pa)), (15, .int (iI lb)), (14, .int (iI la)), (13, .int (iI hw)), (12, .int (iI su)), (11, .int (iI kd)), (10, .int (iI j)), (0, .ref (bs (gw γ w))), (1, .int (iI fr)), (2, .int (iI y2)), (3, .int (iI y3))] dL_holds_651 (by decide) rfl ?_
      exact x_lv _ [0, 3, 4, 5, 6, 7, 18, 19, 20, 21, 22] rfl K
    · refine x_iload (pc := 566) C 12 rfl dL_holds_566 ?_
      refine x_iload (pc := 568) C 11 rfl dL_holds_568 ?_
      refine x_iadd (pc := 570) C dL_holds_570 ?_
      refine x_goto (pc := 571) C 575 dL_holds_571 (by decide) ?_
      refine x_icmp_ne (pc := 575) C 582 (by omega) (by omega) dL_holds_575 (by decide) (fun h => by exfalso; obtain ⟨u1, u2⟩ := f; first | (rw [if_pos (by omega)] at u2; omega) | (rw [if_neg (by omega)] at u2; omega)) (fun h575 => ?_)
      refine x_iconst (pc := 578) C dL_holds_578 ?_
      refine x_goto (pc := 579) C 651 dL_holds_579 (by decide) ?_
      refine x_istore (pc := 651) C [(9, .int (iI 1)), (22, .int (iI ls)), (21, .int (iI 0)), (8, .int (iI y8)), (7, .int (iI y7)), (6, .int (iI y6)), (5, .int (iI y5)), (4, .int (iI y4)), (20, .int (iI sg)), (19, .int (iI o2)), (18, .int (iI o1)), (17, .int (iI pb)), (16, .int (iI pa)), (15, .int (iI lb)), (14, .int (iI la)), (13, .int (iI hw)), (12, .int (iI su)), (11, .int (iI kd)), (10, .int (iI j)), (0, .ref (bs (gw γ w))), (1, .int (iI fr)), (2, .int (iI y2)), (3, .int (iI y3))] dL_holds_651 (by decide) rfl ?_
      exact x_lv _ [0, 3, 4, 5, 6, 7, 18, 19, 20, 21, 22] rfl K
  · refine x_iload (pc := 517) C 9 rfl dL_holds_517 ?_
    refine x_iconst (pc := 519) C dL_holds_519 ?_
    refine x_icmp_lt (pc := 520) C 527 (by omega) (by decide) dL_holds_520 (by decide) (fun h520 => ?_) (fun h520 => ?_)
    · refine x_iconst (pc := 527) C dL_holds_527 ?_
      refine x_istore (pc := 528) C [(21, .int (iI 1)), (9, .int (iI 1)), (8, .int (iI y8)), (7, .int (iI y7)), (6, .int (iI y6)), (5, .int (iI y5)), (4, .int (iI y4)), (20, .int (iI sg)), (19, .int (iI o2)), (18, .int (iI o1)), (17, .int (iI pb)), (16, .int (iI pa)), (15, .int (iI lb)), (14, .int (iI la)), (13, .int (iI hw)), (12, .int (iI su)), (11, .int (iI kd)), (10, .int (iI j)), (0, .ref (bs (gw γ w))), (1, .int (iI fr)), (2, .int (iI y2)), (3, .int (iI y3))] dL_holds_528 (by decide) rfl ?_
      refine x_iload (pc := 530) C 11 rfl dL_holds_530 ?_
      refine x_iload (pc := 532) C 10 rfl dL_holds_532 ?_
      suffices K534 : Vl γ φ 23 (a + 0) Q S 544 [(21, .int (iI 1)), (9, .int (iI 1)), (8, .int (iI y8)), (7, .int (iI y7)), (6, .int (iI y6)), (5, .int (iI y5)), (4, .int (iI y4)), (20, .int (iI sg)), (19, .int (iI o2)), (18, .int (iI o1)), (17, .int (iI pb)), (16, .int (iI pa)), (15, .int (iI lb)), (14, .int (iI la)), (13, .int (iI hw)), (12, .int (iI su)), (11, .int (iI kd)), (10, .int (iI j)), (0, .ref (bs (gw γ w))), (1, .int (iI fr)), (2, .int (iI y2)), (3, .int (iI y3))] [.int (iI (if pa < pb then pa else pb))] by
        refine x_icmp_ge (pc := 534) C 542 (by omega) (by omega) dL_holds_534 (by decide) (fun h534 => ?_) (fun h534 => ?_)
        · refine x_iload (pc := 542) C 10 rfl dL_holds_542 ?_
          exact x_ti (x2 := (if pa < pb then pa else pb)) (by split <;> first | rfl | omega) K534
        · refine x_iload (pc := 537) C 11 rfl dL_holds_537 ?_
          refine x_goto (pc := 539) C 544 dL_holds_539 (by decide) ?_
          exact x_ti (x2 := (if pa < pb then pa else pb)) (by split <;> first | rfl | omega) K534
      refine x_nm (fun ls els => ?_)
      have hls : 0 ≤ ls ∧ ls ≤ 99 ∧ (ls = 0 ↔ (pa = 0 ∨ pb = 0)) := by rw [els]; split <;> omega
      refine x_istore (pc := 544) C [(22, .int (iI ls)), (21, .int (iI 1)), (9, .int (iI 1)), (8, .int (iI y8)), (7, .int (iI y7)), (6, .int (iI y6)), (5, .int (iI y5)), (4, .int (iI y4)), (20, .int (iI sg)), (19, .int (iI o2)), (18, .int (iI o1)), (17, .int (iI pb)), (16, .int (iI pa)), (15, .int (iI lb)), (14, .int (iI la)), (13, .int (iI hw)), (12, .int (iI su)), (11, .int (iI kd)), (10, .int (iI j)), (0, .ref (bs (gw γ w))), (1, .int (iI fr)), (2, .int (iI y2)), (3, .int (iI y3))] dL_holds_544 (by decide) rfl ?_
      refine x_iload (pc := 546) C 17 rfl dL_holds_546 ?_
      refine x_iconst (pc := 548) C dL_holds_548 ?_
      refine x_icmp_ne (pc := 549) C 586 (by omega) (by decide) dL_holds_549 (by decide) (fun h => by exfalso; omega) (fun h549 => ?_)
      refine x_iload (pc := 552) C 14 rfl dL_holds_552 ?_
      refine x_iload (pc := 554) C 0 rfl dL_holds_554 ?_
      refine x_icmp_ne (pc := 556) C 582 (by omega) (by omega) dL_holds_556 (by decide) (fun h => by exfalso; rw [els] at h; omega) (fun h556 => ?_)
      refine x_iload (pc := 559) C 13 rfl dL_holds_559 ?_
      refine x_iload (pc := 561) C 0 rfl dL_holds_561 ?_
      refine x_if_ne (pc := 563) C 574 (by omega) dL_holds_563 (by decide) (fun h563 => ?_) (fun h563 => ?_)
      · refine x_iconst (pc := 574) C dL_holds_574 ?_
        refine x_icmp_ne (pc := 575) C 582 (by omega) (by decide) dL_holds_575 (by decide) (fun h => by exfalso; obtain ⟨u1, u2⟩ := f; first | (rw [if_pos (by omega)] at u2; omega) | (rw [if_neg (by omega)] at u2; omega)) (fun h575 => ?_)
        refine x_iconst (pc := 578) C dL_holds_578 ?_
        refine x_goto (pc := 579) C 651 dL_holds_579 (by decide) ?_
        refine x_istore (pc := 651) C [(9, .int (iI 1)), (22, .int (iI ls)), (21, .int (iI 1)), (8, .int (iI y8)), (7, .int (iI y7)), (6, .int (iI y6)), (5, .int (iI y5)), (4, .int (iI y4)), (20, .int (iI sg)), (19, .int (iI o2)), (18, .int (iI o1)), (17, .int (iI pb)), (16, .int (iI pa)), (15, .int (iI lb)), (14, .int (iI la)), (13, .int (iI hw)), (12, .int (iI su)), (11, .int (iI kd)), (10, .int (iI j)), (0, .ref (bs (gw γ w))), (1, .int (iI fr)), (2, .int (iI y2)), (3, .int (iI y3))] dL_holds_651 (by decide) rfl ?_
        exact x_lv _ [0, 3, 4, 5, 6, 7, 18, 19, 20, 21, 22] rfl K
      · refine x_iload (pc := 566) C 12 rfl dL_holds_566 ?_
        refine x_iload (pc := 568) C 11 rfl dL_holds_568 ?_
        refine x_iadd (pc := 570) C dL_holds_570 ?_
        refine x_goto (pc := 571) C 575 dL_holds_571 (by decide) ?_
        refine x_icmp_ne (pc := 575) C 582 (by omega) (by omega) dL_holds_575 (by decide) (fun h => by exfalso; obtain ⟨u1, u2⟩ := f; first | (rw [if_pos (by omega)] at u2; omega) | (rw [if_neg (by omega)] at u2; omega)) (fun h575 => ?_)
        refine x_iconst (pc := 578) C dL_holds_578 ?_
        refine x_goto (pc := 579) C 651 dL_holds_579 (by decide) ?_
        refine x_istore (pc := 651) C [(9, .int (iI 1)), (22, .int (iI ls)), (21, .int (iI 1)), (8, .int (iI y8)), (7, .int (iI y7)), (6, .int (iI y6)), (5, .int (iI y5)), (4, .int (iI y4)), (20, .int (iI sg)), (19, .int (iI o2)), (18, .int (iI o1)), (17, .int (iI pb)), (16, .int (iI pa)), (15, .int (iI lb)), (14, .int (iI la)), (13, .int (iI hw)), (12, .int (iI su)), (11, .int (iI kd)), (10, .int (iI j)), (0, .ref (bs (gw γ w))), (1, .int (iI fr)), (2, .int (iI y2)), (3, .int (iI y3))] dL_holds_651 (by decide) rfl ?_
        exact x_lv _ [0, 3, 4, 5, 6, 7, 18, 19, 20, 21, 22] rfl K
    · refine x_iconst (pc := 523) C dL_holds_523 ?_
      refine x_goto (pc := 524) C 528 dL_holds_524 (by decide) ?_
      refine x_istore (pc := 528) C [(21, .int (iI 0)), (9, .int (iI 1)), (8, .int (iI y8)), (7, .int (iI y7)), (6, .int (iI y6)), (5, .int (iI y5)), (4, .int (iI y4)), (20, .int (iI sg)), (19, .int (iI o2)), (18, .int (iI o1)), (17, .int (iI pb)), (16, .int (iI pa)), (15, .int (iI lb)), (14, .int (iI la)), (13, .int (iI hw)), (12, .int (iI su)), (11, .int (iI kd)), (10, .int (iI j)), (0, .ref (bs (gw γ w))), (1, .int (iI fr)), (2, .int (iI y2)), (3, .int (iI y3))] dL_holds_528 (by decide) rfl ?_
      refine x_iload (pc := 530) C 11 rfl dL_holds_530 ?_
      refine x_iload (pc := 532) C 10 rfl dL_holds_532 ?_
      suffices K534 : Vl γ φ 23 (a + 0) Q S 544 [(21, .int (iI 0)), (9, .int (iI 1)), (8, .int (iI y8)), (7, .int (iI y7)), (6, .int (iI y6)), (5, .int (iI y5)), (4, .int (iI y4)), (20, .int (iI sg)), (19, .int (iI o2)), (18, .int (iI o1)), (17, .int (iI pb)), (16, .int (iI pa)), (15, .int (iI lb)), (14, .int (iI la)), (13, .int (iI hw)), (12, .int (iI su)), (11, .int (iI kd)), (10, .int (iI j)), (0, .ref (bs (gw γ w))), (1, .int (iI fr)), (2, .int (iI y2)), (3, .int (iI y3))] [.int (iI (if pa < pb then pa else pb))] by
        refine x_icmp_ge (pc := 534) C 542 (by omega) (by omega) dL_holds_534 (by decide) (fun h534 => ?_) (fun h534 => ?_)
        · refine x_iload (pc := 542) C 10 rfl dL_holds_542 ?_
          exact x_ti (x2 := (if pa < pb then pa else pb)) (by split <;> first | rfl | omega) K534
        · refine x_iload (pc := 537) C 11 rfl dL_holds_537 ?_
          refine x_goto (pc := 539) C 544 dL_holds_539 (by decide) ?_
          exact x_ti (x2 := (if pa < pb then pa else pb)) (by split <;> first | rfl | omega) K534
      refine x_nm (fun ls els => ?_)
      have hls : 0 ≤ ls ∧ ls ≤ 99 ∧ (ls = 0 ↔ (pa = 0 ∨ pb = 0)) := by rw [els]; split <;> omega
      refine x_istore (pc := 544) C [(22, .int (iI ls)), (21, .int (iI 0)), (9, .int (iI 1)), (8, .int (iI y8)), (7, .int (iI y7)), (6, .int (iI y6)), (5, .int (iI y5)), (4, .int (iI y4)), (20, .int (iI sg)), (19, .int (iI o2)), (18, .int (iI o1)), (17, .int (iI pb)), (16, .int (iI pa)), (15, .int (iI lb)), (14, .int (iI la)), (13, .int (iI hw)), (12, .int (iI su)), (11, .int (iI kd)), (10, .int (iI j)), (0, .ref (bs (gw γ w))), (1, .int (iI fr)), (2, .int (iI y2)), (3, .int (iI y3))] dL_holds_544 (by decide) rfl ?_
      refine x_iload (pc := 546) C 17 rfl dL_holds_546 ?_
      refine x_iconst (pc := 548) C dL_holds_548 ?_
      refine x_icmp_ne (pc := 549) C 586 (by omega) (by decide) dL_holds_549 (by decide) (fun h => by exfalso; omega) (fun h549 => ?_)
      refine x_iload (pc := 552) C 14 rfl dL_holds_552 ?_
      refine x_iload (pc := 554) C 0 rfl dL_holds_554 ?_
      refine x_icmp_ne (pc := 556) C 582 (by omega) (by omega) dL_holds_556 (by decide) (fun h => by exfalso; rw [els] at h; omega) (fun h556 => ?_)
      refine x_iload (pc := 559) C 13 rfl dL_holds_559 ?_
      refine x_iload (pc := 561) C 0 rfl dL_holds_561 ?_
      refine x_if_ne (pc := 563) C 574 (by omega) dL_holds_563 (by decide) (fun h563 => ?_) (fun h563 => ?_)
      · refine x_iconst (pc := 574) C dL_holds_574 ?_
        refine x_icmp_ne (pc := 575) C 582 (by omega) (by decide) dL_holds_575 (by decide) (fun h => by exfalso; obtain ⟨u1, u2⟩ := f; first | (rw [if_pos (by omega)] at u2; omega) | (rw [if_neg (by omega)] at u2; omega)) (fun h575 => ?_)
        refine x_iconst (pc := 578) C dL_holds_578 ?_
        refine x_goto (pc := 579) C 651 dL_holds_579 (by decide) ?_
        refine x_istore (pc := 651) C [(9, .int (iI 1)), (22, .int (iI ls)), (21, .int (iI 0)), (8, .int (iI y8)), (7, .int (iI y7)), (6, .int (iI y6)), (5, .int (iI y5)), (4, .int (iI y4)), (20, .int (iI sg)), (19, .int (iI o2)), (18, .int (iI o1)), (17, .int (iI pb)), (16, .int (iI pa)), (15, .int (iI lb)), (14, .int (iI la)), (13, .int (iI hw)), (12, .int (iI su)), (11, .int (iI kd)), (10, .int (iI j)), (0, .ref (bs (gw γ w))), (1, .int (iI fr)), (2, .int (iI y2)), (3, .int (iI y3))] dL_holds_651 (by decide) rfl ?_
        exact x_lv _ [0, 3, 4, 5, 6, 7, 18, 19, 20, 21, 22] rfl K
      · refine x_iload (pc := 566) C 12 rfl dL_holds_566 ?_
        refine x_iload (pc := 568) C 11 rfl dL_holds_568 ?_
        refine x_iadd (pc := 570) C dL_holds_570 ?_
        refine x_goto (pc := 571) C 575 dL_holds_571 (by decide) ?_
        refine x_icmp_ne (pc := 575) C 582 (by omega) (by omega) dL_holds_575 (by decide) (fun h => by exfalso; obtain ⟨u1, u2⟩ := f; first | (rw [if_pos (by omega)] at u2; omega) | (rw [if_neg (by omega)] at u2; omega)) (fun h575 => ?_)
        refine x_iconst (pc := 578) C dL_holds_578 ?_
        refine x_goto (pc := 579) C 651 dL_holds_579 (by decide) ?_
        refine x_istore (pc := 651) C [(9, .int (iI 1)), (22, .int (iI ls)), (21, .int (iI 0)), (8, .int (iI y8)), (7, .int (iI y7)), (6, .int (iI y6)), (5, .int (iI y5)), (4, .int (iI y4)), (20, .int (iI sg)), (19, .int (iI o2)), (18, .int (iI o1)), (17, .int (iI pb)), (16, .int (iI pa)), (15, .int (iI lb)), (14, .int (iI la)), (13, .int (iI hw)), (12, .int (iI su)), (11, .int (iI kd)), (10, .int (iI j)), (0, .ref (bs (gw γ w))), (1, .int (iI fr)), (2, .int (iI y2)), (3, .int (iI y3))] dL_holds_651 (by decide) rfl ?_
        exact x_lv _ [0, 3, 4, 5, 6, 7, 18, 19, 20, 21, 22] rfl K
set_option maxHeartbeats 4000000 in
set_option maxRecDepth 100000 in
theorem holds_k4 {γ : Gm} {φ : Fx} {a : Nat} {Q : State → Prop} {S : St2} {w : Bool} {y8 y7 y6 y5 y4 sg o2 o1 pb pa lb la hw su kd j fr y2 y3 : Int} (G : GL γ) (C : Cx γ φ RL cL_holds 23 12) (hk : kd = 4) (hu : 10 ≤ su ∧ su ≤ 99) (hh : 0 ≤ hw ∧ hw ≤ 1) (hA : 0 ≤ la ∧ la ≤ 99) (hB : 0 ≤ lb ∧ lb ≤ 99) (hP : 0 ≤ pa ∧ pa ≤ 99) (hQ : 0 ≤ pb ∧ pb ≤ 99) (h1 : o1 = 0 ∨ o1 = 1) (h2 : o2 = 0 ∨ o2 = 1) (f : ((5 ≤ pa ∨ 5 ≤ pb) → la = su ∧ lb = 0) ∧ (¬ (5 ≤ pa ∨ 5 ≤ pb) → lb = su ∧ la = 0)) (K : Vl γ φ 23 (a) Q S 653 [(9, .int (iI 1)), (8, .int (iI y8)), (7, .int (iI y7)), (6, .int (iI y6)), (5, .int (iI y5)), (4, .int (iI y4)), (10, .int (iI j)), (0, .ref (bs (gw γ w))), (1, .int (iI fr)), (2, .int (iI y2)), (3, .int (iI y3))] []) : Vl γ φ 23 (a) Q S 464 [(9, .int (iI 1)), (8, .int (iI y8)), (7, .int (iI y7)), (6, .int (iI y6)), (5, .int (iI y5)), (4, .int (iI y4)), (20, .int (iI sg)), (19, .int (iI o2)), (18, .int (iI o1)), (17, .int (iI pb)), (16, .int (iI pa)), (15, .int (iI lb)), (14, .int (iI la)), (13, .int (iI hw)), (12, .int (iI su)), (11, .int (iI kd)), (10, .int (iI j)), (0, .ref (bs (gw γ w))), (1, .int (iI fr)), (2, .int (iI y2)), (3, .int (iI y3))] [] := by
  refine x_iload (pc := 464) C 15 rfl dL_holds_464 ?_
  refine x_if_ne (pc := 466) C 476 (by omega) dL_holds_466 (by decide) (fun h466 => ?_) (fun h => by exfalso; omega)
  refine x_iload (pc := 476) C 15 rfl dL_holds_476 ?_
  refine x_iconst (pc := 478) C dL_holds_478 ?_
  refine x_icmp_ne (pc := 479) C 500 (by omega) (by decide) dL_holds_479 (by decide) (fun h479 => ?_) (fun h => by exfalso; omega)
  refine x_iload (pc := 500) C 15 rfl dL_holds_500 ?_
  refine x_iconst (pc := 502) C dL_holds_502 ?_
  refine x_icmp_ne (pc := 503) C 511 (by omega) (by decide) dL_holds_503 (by decide) (fun h503 => ?_) (fun h => by exfalso; omega)
  refine x_iload (pc := 511) C 10 rfl dL_holds_511 ?_
  refine x_iconst (pc := 513) C dL_holds_513 ?_
  refine x_icmp_ge (pc := 514) C 523 (by omega) (by decide) dL_holds_514 (by decide) (fun h514 => ?_) (fun h514 => ?_)
  · refine x_iconst (pc := 523) C dL_holds_523 ?_
    refine x_goto (pc := 524) C 528 dL_holds_524 (by decide) ?_
    refine x_istore (pc := 528) C [(21, .int (iI 0)), (9, .int (iI 1)), (8, .int (iI y8)), (7, .int (iI y7)), (6, .int (iI y6)), (5, .int (iI y5)), (4, .int (iI y4)), (20, .int (iI sg)), (19, .int (iI o2)), (18, .int (iI o1)), (17, .int (iI pb)), (16, .int (iI pa)), (15, .int (iI lb)), (14, .int (iI la)), (13, .int (iI hw)), (12, .int (iI su)), (11, .int (iI kd)), (10, .int (iI j)), (0, .ref (bs (gw γ w))), (1, .int (iI fr)), (2, .int (iI y2)), (3, .int (iI y3))] dL_holds_528 (by decide) rfl ?_
    refine x_iload (pc := 530) C 11 rfl dL_holds_530 ?_
    refine x_iload (pc := 532) C 10 rfl dL_holds_532 ?_
    suffices K534 : Vl γ φ 23 (a + 0) Q S 544 [(21, .int (iI 0)), (9, .int (iI 1)), (8, .int (iI y8)), (7, .int (iI y7)), (6, .int (iI y6)), (5, .int (iI y5)), (4, .int (iI y4)), (20, .int (iI sg)), (19, .int (iI o2)), (18, .int (iI o1)), (17, .int (iI pb)), (16, .int (iI pa)), (15, .int (iI lb)), (14, .int (iI la)), (13, .int (iI hw)), (12, .int (iI su)), (11, .int (iI kd)), (10, .int (iI j)), (0, .ref (bs (gw γ w))), (1, .int (iI fr)), (2, .int (iI y2)), (3, .int (iI y3))] [.int (iI (if pa < pb then pa else pb))] by
      refine x_icmp_ge (pc := 534) C 542 (by omega) (by omega) dL_holds_534 (by decide) (fun h534 => ?_) (fun h534 => ?_)
      · refine x_iload (pc := 542) C 10 rfl dL_holds_542 ?_
        exact x_ti (x2 := (if pa < pb then pa else pb)) (by split <;> first | rfl | omega) K534
      · refine x_iload (pc := 537) C 11 rfl dL_holds_537 ?_
        refine x_goto (pc := 539) C 544 dL_holds_539 (by decide) ?_
        exact x_ti (x2 := (if pa < pb then pa else pb)) (by split <;> first | rfl | omega) K534
    refine x_nm (fun ls els => ?_)
    have hls : 0 ≤ ls ∧ ls ≤ 99 ∧ (ls = 0 ↔ (pa = 0 ∨ pb = 0)) := by rw [els]; split <;> omega
    refine x_istore (pc := 544) C [(22, .int (iI ls)), (21, .int (iI 0)), (9, .int (iI 1)), (8, .int (iI y8)), (7, .int (iI y7)), (6, .int (iI y6)), (5, .int (iI y5)), (4, .int (iI y4)), (20, .int (iI sg)), (19, .int (iI o2)), (18, .int (iI o1)), (17, .int (iI pb)), (16, .int (iI pa)), (15, .int (iI lb)), (14, .int (iI la)), (13, .int (iI hw)), (12, .int (iI su)), (11, .int (iI kd)), (10, .int (iI j)), (0, .ref (bs (gw γ w))), (1, .int (iI fr)), (2, .int (iI y2)), (3, .int (iI y3))] dL_holds_544 (by decide) rfl ?_
    refine x_iload (pc := 546) C 17 rfl dL_holds_546 ?_
    refine x_iconst (pc := 548) C dL_holds_548 ?_
    refine x_icmp_ne (pc := 549) C 586 (by omega) (by decide) dL_holds_549 (by decide) (fun h549 => ?_) (fun h => by exfalso; omega)
    refine x_iload (pc := 586) C 1 rfl dL_holds_586 ?_
    refine x_if_ne (pc := 588) C 596 (by decide) dL_holds_588 (by decide) (fun h588 => ?_) (fun h588 => ?_)
    · refine x_iload (pc := 596) C 13 rfl dL_holds_596 ?_
      refine x_iload (pc := 598) C 16 rfl dL_holds_598 ?_
      refine x_icmp_ne (pc := 600) C 650 (by omega) (by omega) dL_holds_600 (by decide) (fun h => by exfalso; omega) (fun h600 => ?_)
      refine x_iload (pc := 603) C 1 rfl dL_holds_603 ?_
      refine x_if_ne (pc := 605) C 613 (by decide) dL_holds_605 (by decide) (fun h605 => ?_) (fun h605 => ?_)
      · refine x_iload (pc := 613) C 14 rfl dL_holds_613 ?_
        refine x_if_ne (pc := 615) C 650 (by omega) dL_holds_615 (by decide) (fun h => by exfalso; omega) (fun h615 => ?_)
        refine x_iload (pc := 618) C 17 rfl dL_holds_618 ?_
        refine x_iconst (pc := 620) C dL_holds_620 ?_
        refine x_icmp_ne (pc := 621) C 646 (by omega) (by decide) dL_holds_621 (by decide) (fun h621 => ?_) (fun h => by exfalso; omega)
        refine x_iconst (pc := 646) C dL_holds_646 ?_
        refine x_goto (pc := 647) C 651 dL_holds_647 (by decide) ?_
        refine x_istore (pc := 651) C [(9, .int (iI 1)), (22, .int (iI ls)), (21, .int (iI 0)), (8, .int (iI y8)), (7, .int (iI y7)), (6, .int (iI y6)), (5, .int (iI y5)), (4, .int (iI y4)), (20, .int (iI sg)), (19, .int (iI o2)), (18, .int (iI o1)), (17, .int (iI pb)), (16, .int (iI pa)), (15, .int (iI lb)), (14, .int (iI la)), (13, .int (iI hw)), (12, .int (iI su)), (11, .int (iI kd)), (10, .int (iI j)), (0, .ref (bs (gw γ w))), (1, .int (iI fr)), (2, .int (iI y2)), (3, .int (iI y3))] dL_holds_651 (by decide) rfl ?_
        exact x_lv _ [0, 3, 4, 5, 6, 7, 18, 19, 20, 21, 22] rfl K
      · refine x_iload (pc := 608) C 13 rfl dL_holds_608 ?_
        refine x_goto (pc := 610) C 615 dL_holds_610 (by decide) ?_
        refine x_if_ne (pc := 615) C 650 (by omega) dL_holds_615 (by decide) (fun h => by exfalso; omega) (fun h615 => ?_)
        refine x_iload (pc := 618) C 17 rfl dL_holds_618 ?_
        refine x_iconst (pc := 620) C dL_holds_620 ?_
        refine x_icmp_ne (pc := 621) C 646 (by omega) (by decide) dL_holds_621 (by decide) (fun h621 => ?_) (fun h => by exfalso; omega)
        refine x_iconst (pc := 646) C dL_holds_646 ?_
        refine x_goto (pc := 647) C 651 dL_holds_647 (by decide) ?_
        refine x_istore (pc := 651) C [(9, .int (iI 1)), (22, .int (iI ls)), (21, .int (iI 0)), (8, .int (iI y8)), (7, .int (iI y7)), (6, .int (iI y6)), (5, .int (iI y5)), (4, .int (iI y4)), (20, .int (iI sg)), (19, .int (iI o2)), (18, .int (iI o1)), (17, .int (iI pb)), (16, .int (iI pa)), (15, .int (iI lb)), (14, .int (iI la)), (13, .int (iI hw)), (12, .int (iI su)), (11, .int (iI kd)), (10, .int (iI j)), (0, .ref (bs (gw γ w))), (1, .int (iI fr)), (2, .int (iI y2)), (3, .int (iI y3))] dL_holds_651 (by decide) rfl ?_
        exact x_lv _ [0, 3, 4, 5, 6, 7, 18, 19, 20, 21, 22] rfl K
    · refine x_iload (pc := 591) C 14 rfl dL_holds_591 ?_
      refine x_goto (pc := 593) C 598 dL_holds_593 (by decide) ?_
      refine x_iload (pc := 598) C 16 rfl dL_holds_598 ?_
      refine x_icmp_ne (pc := 600) C 650 (by omega) (by omega) dL_holds_600 (by decide) (fun h => by exfalso; omega) (fun h600 => ?_)
      refine x_iload (pc := 603) C 1 rfl dL_holds_603 ?_
      refine x_if_ne (pc := 605) C 613 (by decide) dL_holds_605 (by decide) (fun h605 => ?_) (fun h605 => ?_)
      · refine x_iload (pc := 613) C 14 rfl dL_holds_613 ?_
        refine x_if_ne (pc := 615) C 650 (by omega) dL_holds_615 (by decide) (fun h => by exfalso; omega) (fun h615 => ?_)
        refine x_iload (pc := 618) C 17 rfl dL_holds_618 ?_
        refine x_iconst (pc := 620) C dL_holds_620 ?_
        refine x_icmp_ne (pc := 621) C 646 (by omega) (by decide) dL_holds_621 (by decide) (fun h621 => ?_) (fun h => by exfalso; omega)
        refine x_iconst (pc := 646) C dL_holds_646 ?_
        refine x_goto (pc := 647) C 651 dL_holds_647 (by decide) ?_
        refine x_istore (pc := 651) C [(9, .int (iI 1)), (22, .int (iI ls)), (21, .int (iI 0)), (8, .int (iI y8)), (7, .int (iI y7)), (6, .int (iI y6)), (5, .int (iI y5)), (4, .int (iI y4)), (20, .int (iI sg)), (19, .int (iI o2)), (18, .int (iI o1)), (17, .int (iI pb)), (16, .int (iI pa)), (15, .int (iI lb)), (14, .int (iI la)), (13, .int (iI hw)), (12, .int (iI su)), (11, .int (iI kd)), (10, .int (iI j)), (0, .ref (bs (gw γ w))), (1, .int (iI fr)), (2, .int (iI y2)), (3, .int (iI y3))] dL_holds_651 (by decide) rfl ?_
        exact x_lv _ [0, 3, 4, 5, 6, 7, 18, 19, 20, 21, 22] rfl K
      · refine x_iload (pc := 608) C 13 rfl dL_holds_608 ?_
        refine x_goto (pc := 610) C 615 dL_holds_610 (by decide) ?_
        refine x_if_ne (pc := 615) C 650 (by omega) dL_holds_615 (by decide) (fun h => by exfalso; omega) (fun h615 => ?_)
        refine x_iload (pc := 618) C 17 rfl dL_holds_618 ?_
        refine x_iconst (pc := 620) C dL_holds_620 ?_
        refine x_icmp_ne (pc := 621) C 646 (by omega) (by decide) dL_holds_621 (by decide) (fun h621 => ?_) (fun h => by exfalso; omega)
        refine x_iconst (pc := 646) C dL_holds_646 ?_
        refine x_goto (pc := 647) C 651 dL_holds_647 (by decide) ?_
        refine x_istore (pc := 651) C [(9, .int (iI 1)), (22, .int (iI ls)), (21, .int (iI 0)), (8, .int (iI y8)), (7, .int (iI y7)), (6, .int (iI y6)), (5, .int (iI y5)), (4, .int (iI y4)), (20, .int (iI sg)), (19, .int (iI o2)), (18, .int (iI o1)), (17, .int (iI pb)), (16, .int (iI pa)), (15, .int (iI lb)), (14, .int (iI la)), (13, .int (iI hw)), (12, .int (iI su)), (11, .int (iI kd)), (10, .int (iI j)), (0, .ref (bs (gw γ w))), (1, .int (iI fr)), (2, .int (iI y2)), (3, .int (iI y3))] dL_holds_651 (by decide) rfl ?_
        exact x_lv _ [0, 3, 4, 5, 6, 7, 18, 19, 20, 21, 22] rfl K
  · refine x_iload (pc := 517) C 9 rfl dL_holds_517 ?_
    refine x_iconst (pc := 519) C dL_holds_519 ?_
    refine x_icmp_lt (pc := 520) C 527 (by omega) (by decide) dL_holds_520 (by decide) (fun h520 => ?_) (fun h520 => ?_)
    · refine x_iconst (pc := 527) C dL_holds_527 ?_
      refine x_istore (pc := 528) C [(21, .int (iI 1)), (9, .int (iI 1)), (8, .int (iI y8)), (7, .int (iI y7)), (6, .int (iI y6)), (5, .int (iI y5)), (4, .int (iI y4)), (20, .int (iI sg)), (19, .int (iI o2)), (18, .int (iI o1)), (17, .int (iI pb)), (16, .int (iI pa)), (15, .int (iI lb)), (14, .int (iI la)), (13, .int (iI hw)), (12, .int (iI su)), (11, .int (iI kd)), (10, .int (iI j)), (0, .ref (bs (gw γ w))), (1, .int (iI fr)), (2, .int (iI y2)), (3, .int (iI y3))] dL_holds_528 (by decide) rfl ?_
      refine x_iload (pc := 530) C 11 rfl dL_holds_530 ?_
      refine x_iload (pc := 532) C 10 rfl dL_holds_532 ?_
      suffices K534 : Vl γ φ 23 (a + 0) Q S 544 [(21, .int (iI 1)), (9, .int (iI 1)), (8, .int (iI y8)), (7, .int (iI y7)), (6, .int (iI y6)), (5, .int (iI y5)), (4, .int (iI y4)), (20, .int (iI sg)), (19, .int (iI o2)), (18, .int (iI o1)), (17, .int (iI pb)), (16, .int (iI pa)), (15, .int (iI lb)), (14, .int (iI la)), (13, .int (iI hw)), (12, .int (iI su)), (11, .int (iI kd)), (10, .int (iI j)), (0, .ref (bs (gw γ w))), (1, .int (iI fr)), (2, .int (iI y2)), (3, .int (iI y3))] [.int (iI (if pa < pb then pa else pb))] by
        refine x_icmp_ge (pc := 534) C 542 (by omega) (by omega) dL_holds_534 (by decide) (fun h534 => ?_) (fun h534 => ?_)
        · refine x_iload (pc := 542) C 10 rfl dL_holds_542 ?_
          exact x_ti (x2 := (if pa < pb then pa else pb)) (by split <;> first | rfl | omega) K534
        · refine x_iload (pc := 537) C 11 rfl dL_holds_537 ?_
          refine x_goto (pc := 539) C 544 dL_holds_539 (by decide) ?_
          exact x_ti (x2 := (if pa < pb then pa else pb)) (by split <;> first | rfl | omega) K534
      refine x_nm (fun ls els => ?_)
      have hls : 0 ≤ ls ∧ ls ≤ 99 ∧ (ls = 0 ↔ (pa = 0 ∨ pb = 0)) := by rw [els]; split <;> omega
      refine x_istore (pc := 544) C [(22, .int (iI ls)), (21, .int (iI 1)), (9, .int (iI 1)), (8, .int (iI y8)), (7, .int (iI y7)), (6, .int (iI y6)), (5, .int (iI y5)), (4, .int (iI y4)), (20, .int (iI sg)), (19, .int (iI o2)), (18, .int (iI o1)), (17, .int (iI pb)), (16, .int (iI pa)), (15, .int (iI lb)), (14, .int (iI la)), (13, .int (iI hw)), (12, .int (iI su)), (11, .int (iI kd)), (10, .int (iI j)), (0, .ref (bs (gw γ w))), (1, .int (iI fr)), (2, .int (iI y2)), (3, .int (iI y3))] dL_holds_544 (by decide) rfl ?_
      refine x_iload (pc := 546) C 17 rfl dL_holds_546 ?_
      refine x_iconst (pc := 548) C dL_holds_548 ?_
      refine x_icmp_ne (pc := 549) C 586 (by omega) (by decide) dL_holds_549 (by decide) (fun h549 => ?_) (fun h => by exfalso; omega)
      refine x_iload (pc := 586) C 1 rfl dL_holds_586 ?_
      refine x_if_ne (pc := 588) C 596 (by decide) dL_holds_588 (by decide) (fun h588 => ?_) (fun h588 => ?_)
      · refine x_iload (pc := 596) C 13 rfl dL_holds_596 ?_
        refine x_iload (pc := 598) C 16 rfl dL_holds_598 ?_
        refine x_icmp_ne (pc := 600) C 650 (by omega) (by omega) dL_holds_600 (by decide) (fun h => by exfalso; omega) (fun h600 => ?_)
        refine x_iload (pc := 603) C 1 rfl dL_holds_603 ?_
        refine x_if_ne (pc := 605) C 613 (by decide) dL_holds_605 (by decide) (fun h605 => ?_) (fun h605 => ?_)
        · refine x_iload (pc := 613) C 14 rfl dL_holds_613 ?_
          refine x_if_ne (pc := 615) C 650 (by omega) dL_holds_615 (by decide) (fun h => by exfalso; omega) (fun h615 => ?_)
          refine x_iload (pc := 618) C 17 rfl dL_holds_618 ?_
          refine x_iconst (pc := 620) C dL_holds_620 ?_
          refine x_icmp_ne (pc := 621) C 646 (by omega) (by decide) dL_holds_621 (by decide) (fun h621 => ?_) (fun h => by exfalso; omega)
          refine x_iconst (pc := 646) C dL_holds_646 ?_
          refine x_goto (pc := 647) C 651 dL_holds_647 (by decide) ?_
          refine x_istore (pc := 651) C [(9, .int (iI 1)), (22, .int (iI ls)), (21, .int (iI 1)), (8, .int (iI y8)), (7, .int (iI y7)), (6, .int (iI y6)), (5, .int (iI y5)), (4, .int (iI y4)), (20, .int (iI sg)), (19, .int (iI o2)), (18, .int (iI o1)), (17, .int (iI pb)), (16, .int (iI pa)), (15, .int (iI lb)), (14, .int (iI la)), (13, .int (iI hw)), (12, .int (iI su)), (11, .int (iI kd)), (10, .int (iI j)), (0, .ref (bs (gw γ w))), (1, .int (iI fr)), (2, .int (iI y2)), (3, .int (iI y3))] dL_holds_651 (by decide) rfl ?_
          exact x_lv _ [0, 3, 4, 5, 6, 7, 18, 19, 20, 21, 22] rfl K
        · refine x_iload (pc := 608) C 13 rfl dL_holds_608 ?_
          refine x_goto (pc := 610) C 615 dL_holds_610 (by decide) ?_
          refine x_if_ne (pc := 615) C 650 (by omega) dL_holds_615 (by decide) (fun h => by exfalso; omega) (fun h615 => ?_)
          refine x_iload (pc := 618) C 17 rfl dL_holds_618 ?_
          refine x_iconst (pc := 620) C dL_holds_620 ?_
          refine x_icmp_ne (pc := 621) C 646 (by omega) (by decide) dL_holds_621 (by decide) (fun h621 => ?_) (fun h => by exfalso; omega)
          refine x_iconst (pc := 646) C dL_holds_646 ?_
          refine x_goto (pc := 647) C 651 dL_holds_647 (by decide) ?_
          refine x_istore (pc := 651) C [(9, .int (iI 1)), (22, .int (iI ls)), (21, .int (iI 1)), (8, .int (iI y8)), (7, .int (iI y7)), (6, .int (iI y6)), (5, .int (iI y5)), (4, .int (iI y4)), (20, .int (iI sg)), (19, .int (iI o2)), (18, .int (iI o1)), (17, .int (iI pb)), (16, .int (iI pa)), (15, .int (iI lb)), (14, .int (iI la)), (13, .int (iI hw)), (12, .int (iI su)), (11, .int (iI kd)), (10, .int (iI j)), (0, .ref (bs (gw γ w))), (1, .int (iI fr)), (2, .int (iI y2)), (3, .int (iI y3))] dL_holds_651 (by decide) rfl ?_
          exact x_lv _ [0, 3, 4, 5, 6, 7, 18, 19, 20, 21, 22] rfl K
      · refine x_iload (pc := 591) C 14 rfl dL_holds_591 ?_
        refine x_goto (pc := 593) C 598 dL_holds_593 (by decide) ?_
        refine x_iload (pc := 598) C 16 rfl dL_holds_598 ?_
        refine x_icmp_ne (pc := 600) C 650 (by omega) (by omega) dL_holds_600 (by decide) (fun h => by exfalso; omega) (fun h600 => ?_)
        refine x_iload (pc := 603) C 1 rfl dL_holds_603 ?_
        refine x_if_ne (pc := 605) C 613 (by decide) dL_holds_605 (by decide) (fun h605 => ?_) (fun h605 => ?_)
        · refine x_iload (pc := 613) C 14 rfl dL_holds_613 ?_
          refine x_if_ne (pc := 615) C 650 (by omega) dL_holds_615 (by decide) (fun h => by exfalso; omega) (fun h615 => ?_)
          refine x_iload (pc := 618) C 17 rfl dL_holds_618 ?_
          refine x_iconst (pc := 620) C dL_holds_620 ?_
          refine x_icmp_ne (pc := 621) C 646 (by omega) (by decide) dL_holds_621 (by decide) (fun h621 => ?_) (fun h => by exfalso; omega)
          refine x_iconst (pc := 646) C dL_holds_646 ?_
          refine x_goto (pc := 647) C 651 dL_holds_647 (by decide) ?_
          refine x_istore (pc := 651) C [(9, .int (iI 1)), (22, .int (iI ls)), (21, .int (iI 1)), (8, .int (iI y8)), (7, .int (iI y7)), (6, .int (iI y6)), (5, .int (iI y5)), (4, .int (iI y4)), (20, .int (iI sg)), (19, .int (iI o2)), (18, .int (iI o1)), (17, .int (iI pb)), (16, .int (iI pa)), (15, .int (iI lb)), (14, .int (iI la)), (13, .int (iI hw)), (12, .int (iI su)), (11, .int (iI kd)), (10, .int (iI j)), (0, .ref (bs (gw γ w))), (1, .int (iI fr)), (2, .int (iI y2)), (3, .int (iI y3))] dL_holds_651 (by decide) rfl ?_
          exact x_lv _ [0, 3, 4, 5, 6, 7, 18, 19, 20, 21, 22] rfl K
        · refine x_iload (pc := 608) C 13 rfl dL_holds_608 ?_
          refine x_goto (pc := 610) C 615 dL_holds_610 (by decide) ?_
          refine x_if_ne (pc := 615) C 650 (by omega) dL_holds_615 (by decide) (fun h => by exfalso; omega) (fun h615 => ?_)
          refine x_iload (pc := 618) C 17 rfl dL_holds_618 ?_
          refine x_iconst (pc := 620) C dL_holds_620 ?_
          refine x_icmp_ne (pc := 621) C 646 (by omega) (by decide) dL_holds_621 (by decide) (fun h621 => ?_) (fun h => by exfalso; omega)
          refine x_iconst (pc := 646) C dL_holds_646 ?_
          refine x_goto (pc := 647) C 651 dL_holds_647 (by decide) ?_
          refine x_istore (pc := 651) C [(9, .int (iI 1)), (22, .int (iI ls)), (21, .int (iI 1)), (8, .int (iI y8)), (7, .int (iI y7)), (6, .int (iI y6)), (5, .int (iI y5)), (4, .int (iI y4)), (20, .int (iI sg)), (19, .int (iI o2)), (18, .int (iI o1)), (17, .int (iI pb)), (16, .int (iI pa)), (15, .int (iI lb)), (14, .int (iI la)), (13, .int (iI hw)), (12, .int (iI su)), (11, .int (iI kd)), (10, .int (iI j)), (0, .ref (bs (gw γ w))), (1, .int (iI fr)), (2, .int (iI y2)), (3, .int (iI y3))] dL_holds_651 (by decide) rfl ?_
          exact x_lv _ [0, 3, 4, 5, 6, 7, 18, 19, 20, 21, 22] rfl K
    · refine x_iconst (pc := 523) C dL_holds_523 ?_
      refine x_goto (pc := 524) C 528 dL_holds_524 (by decide) ?_
      refine x_istore (pc := 528) C [(21, .int (iI 0)), (9, .int (iI 1)), (8, .int (iI y8)), (7, .int (iI y7)), (6, .int (iI y6)), (5, .int (iI y5)), (4, .int (iI y4)), (20, .int (iI sg)), (19, .int (iI o2)), (18, .int (iI o1)), (17, .int (iI pb)), (16, .int (iI pa)), (15, .int (iI lb)), (14, .int (iI la)), (13, .int (iI hw)), (12, .int (iI su)), (11, .int (iI kd)), (10, .int (iI j)), (0, .ref (bs (gw γ w))), (1, .int (iI fr)), (2, .int (iI y2)), (3, .int (iI y3))] dL_holds_528 (by decide) rfl ?_
      refine x_iload (pc := 530) C 11 rfl dL_holds_530 ?_
      refine x_iload (pc := 532) C 10 rfl dL_holds_532 ?_
      suffices K534 : Vl γ φ 23 (a + 0) Q S 544 [(21, .int (iI 0)), (9, .int (iI 1)), (8, .int (iI y8)), (7, .int (iI y7)), (6, .int (iI y6)), (5, .int (iI y5)), (4, .int (iI y4)), (20, .int (iI sg)), (19, .int (iI o2)), (18, .int (iI o1)), (17, .int (iI pb)), (16, .int (iI pa)), (15, .int (iI lb)), (14, .int (iI la)), (13, .int (iI hw)), (12, .int (iI su)), (11, .int (iI kd)), (10, .int (iI j)), (0, .ref (bs (gw γ w))), (1, .int (iI fr)), (2, .int (iI y2)), (3, .int (iI y3))] [.int (iI (if pa < pb then pa else pb))] by
        refine x_icmp_ge (pc := 534) C 542 (by omega) (by omega) dL_holds_534 (by decide) (fun h534 => ?_) (fun h534 => ?_)
        · refine x_iload (pc := 542) C 10 rfl dL_holds_542 ?_
          exact x_ti (x2 := (if pa < pb then pa else pb)) (by split <;> first | rfl | omega) K534
        · refine x_iload (pc := 537) C 11 rfl dL_holds_537 ?_
          refine x_goto (pc := 539) C 544 dL_holds_539 (by decide) ?_
          exact x_ti (x2 := (if pa < pb then pa else pb)) (by split <;> first | rfl | omega) K534
      refine x_nm (fun ls els => ?_)
      have hls : 0 ≤ ls ∧ ls ≤ 99 ∧ (ls = 0 ↔ (pa = 0 ∨ pb = 0)) := by rw [els]; split <;> omega
      refine x_istore (pc := 544) C [(22, .int (iI ls)), (21, .int (iI 0)), (9, .int (iI 1)), (8, .int (iI y8)), (7, .int (iI y7)), (6, .int (iI y6)), (5, .int (iI y5)), (4, .int (iI y4)), (20, .int (iI sg)), (19, .int (iI o2)), (18, .int (iI o1)), (17, .int (iI pb)), (16, .int (iI pa)), (15, .int (iI lb)), (14, .int (iI la)), (13, .int (iI hw)), (12, .int (iI su)), (11, .int (iI kd)), (10, .int (iI j)), (0, .ref (bs (gw γ w))), (1, .int (iI fr)), (2, .int (iI y2)), (3, .int (iI y3))] dL_holds_544 (by decide) rfl ?_
      refine x_iload (pc := 546) C 17 rfl dL_holds_546 ?_
      refine x_iconst (pc := 548) C dL_holds_548 ?_
      refine x_icmp_ne (pc := 549) C 586 (by omega) (by decide) dL_holds_549 (by decide) (fun h549 => ?_) (fun h => by exfalso; omega)
      refine x_iload (pc := 586) C 1 rfl dL_holds_586 ?_
      refine x_if_ne (pc := 588) C 596 (by decide) dL_holds_588 (by decide) (fun h588 => ?_) (fun h588 => ?_)
      · refine x_iload (pc := 596) C 13 rfl dL_holds_596 ?_
        refine x_iload (pc := 598) C 16 rfl dL_holds_598 ?_
        refine x_icmp_ne (pc := 600) C 650 (by omega) (by omega) dL_holds_600 (by decide) (fun h => by exfalso; omega) (fun h600 => ?_)
        refine x_iload (pc := 603) C 1 rfl dL_holds_603 ?_
        refine x_if_ne (pc := 605) C 613 (by decide) dL_holds_605 (by decide) (fun h605 => ?_) (fun h605 => ?_)
        · refine x_iload (pc := 613) C 14 rfl dL_holds_613 ?_
          refine x_if_ne (pc := 615) C 650 (by omega) dL_holds_615 (by decide) (fun h => by exfalso; omega) (fun h615 => ?_)
          refine x_iload (pc := 618) C 17 rfl dL_holds_618 ?_
          refine x_iconst (pc := 620) C dL_holds_620 ?_
          refine x_icmp_ne (pc := 621) C 646 (by omega) (by decide) dL_holds_621 (by decide) (fun h621 => ?_) (fun h => by exfalso; omega)
          refine x_iconst (pc := 646) C dL_holds_646 ?_
          refine x_goto (pc := 647) C 651 dL_holds_647 (by decide) ?_
          refine x_istore (pc := 651) C [(9, .int (iI 1)), (22, .int (iI ls)), (21, .int (iI 0)), (8, .int (iI y8)), (7, .int (iI y7)), (6, .int (iI y6)), (5, .int (iI y5)), (4, .int (iI y4)), (20, .int (iI sg)), (19, .int (iI o2)), (18, .int (iI o1)), (17, .int (iI pb)), (16, .int (iI pa)), (15, .int (iI lb)), (14, .int (iI la)), (13, .int (iI hw)), (12, .int (iI su)), (11, .int (iI kd)), (10, .int (iI j)), (0, .ref (bs (gw γ w))), (1, .int (iI fr)), (2, .int (iI y2)), (3, .int (iI y3))] dL_holds_651 (by decide) rfl ?_
          exact x_lv _ [0, 3, 4, 5, 6, 7, 18, 19, 20, 21, 22] rfl K
        · refine x_iload (pc := 608) C 13 rfl dL_holds_608 ?_
          refine x_goto (pc := 610) C 615 dL_holds_610 (by decide) ?_
          refine x_if_ne (pc := 615) C 650 (by omega) dL_holds_615 (by decide) (fun h => by exfalso; omega) (fun h615 => ?_)
          refine x_iload (pc := 618) C 17 rfl dL_holds_618 ?_
          refine x_iconst (pc := 620) C dL_holds_620 ?_
          refine x_icmp_ne (pc := 621) C 646 (by omega) (by decide) dL_holds_621 (by decide) (fun h621 => ?_) (fun h => by exfalso; omega)
          refine x_iconst (pc := 646) C dL_holds_646 ?_
          refine x_goto (pc := 647) C 651 dL_holds_647 (by decide) ?_
          refine x_istore (pc := 651) C [(9, .int (iI 1)), (22, .int (iI ls)), (21, .int (iI 0)), (8, .int (iI y8)), (7, .int (iI y7)), (6, .int (iI y6)), (5, .int (iI y5)), (4, .int (iI y4)), (20, .int (iI sg)), (19, .int (iI o2)), (18, .int (iI o1)), (17, .int (iI pb)), (16, .int (iI pa)), (15, .int (iI lb)), (14, .int (iI la)), (13, .int (iI hw)), (12, .int (iI su)), (11, .int (iI kd)), (10, .int (iI j)), (0, .ref (bs (gw γ w))), (1, .int (iI fr)), (2, .int (iI y2)), (3, .int (iI y3))] dL_holds_651 (by decide) rfl ?_
          exact x_lv _ [0, 3, 4, 5, 6, 7, 18, 19, 20, 21, 22] rfl K
      · refine x_iload (pc := 591) C 14 rfl dL_holds_591 ?_
        refine x_goto (pc := 593) C 598 dL_holds_593 (by decide) ?_
        refine x_iload (pc := 598) C 16 rfl dL_holds_598 ?_
        refine x_icmp_ne (pc := 600) C 650 (by omega) (by omega) dL_holds_600 (by decide) (fun h => by exfalso; omega) (fun h600 => ?_)
        refine x_iload (pc := 603) C 1 rfl dL_holds_603 ?_
        refine x_if_ne (pc := 605) C 613 (by decide) dL_holds_605 (by decide) (fun h605 => ?_) (fun h605 => ?_)
        · refine x_iload (pc := 613) C 14 rfl dL_holds_613 ?_
          refine x_if_ne (pc := 615) C 650 (by omega) dL_holds_615 (by decide) (fun h => by exfalso; omega) (fun h615 => ?_)
          refine x_iload (pc := 618) C 17 rfl dL_holds_618 ?_
          refine x_iconst (pc := 620) C dL_holds_620 ?_
          refine x_icmp_ne (pc := 621) C 646 (by omega) (by decide) dL_holds_621 (by decide) (fun h621 => ?_) (fun h => by exfalso; omega)
          refine x_iconst (pc := 646) C dL_holds_646 ?_
          refine x_goto (pc := 647) C 651 dL_holds_647 (by decide) ?_
          refine x_istore (pc := 651) C [(9, .int (iI 1)), (22, .int (iI ls)), (21, .int (iI 0)), (8, .int (iI y8)), (7, .int (iI y7)), (6, .int (iI y6)), (5, .int (iI y5)), (4, .int (iI y4)), (20, .int (iI sg)), (19, .int (iI o2)), (18, .int (iI o1)), (17, .int (iI pb)), (16, .int (iI pa)), (15, .int (iI lb)), (14, .int (iI la)), (13, .int (iI hw)), (12, .int (iI su)), (11, .int (iI kd)), (10, .int (iI j)), (0, .ref (bs (gw γ w))), (1, .int (iI fr)), (2, .int (iI y2)), (3, .int (iI y3))] dL_holds_651 (by decide) rfl ?_
          exact x_lv _ [0, 3, 4, 5, 6, 7, 18, 19, 20, 21, 22] rfl K
        · refine x_iload (pc := 608) C 13 rfl dL_holds_608 ?_
          refine x_goto (pc := 610) C 615 dL_holds_610 (by decide) ?_
          refine x_if_ne (pc := 615) C 650 (by omega) dL_holds_615 (by decide) (fun h => by exfalso; omega) (fun h615 => ?_)
          refine x_iload (pc := 618) C 17 rfl dL_holds_618 ?_
          refine x_iconst (pc := 620) C dL_holds_620 ?_
          refine x_icmp_ne (pc := 621) C 646 (by omega) (by decide) dL_holds_621 (by decide) (fun h621 => ?_) (fun h => by exfalso; omega)
          refine x_iconst (pc := 646) C dL_holds_646 ?_
          refine x_goto (pc := 647) C 651 dL_holds_647 (by decide) ?_
          refine x_istore (pc := 651) C [(9, .int (iI 1)), (22, .int (iI ls)), (21, .int (iI 0)), (8, .int (iI y8)), (7, .int (iI y7)), (6, .int (iI y6)), (5, .int (iI y5)), (4, .int (iI y4)), (20, .int (iI sg)), (19, .int (iI o2)), (18, .int (iI o1)), (17, .int (iI pb)), (16, .int (iI pa)), (15, .int (iI lb)), (14, .int (iI la)), (13, .int (iI hw)), (12, .int (iI su)), (11, .int (iI kd)), (10, .int (iI j)), (0, .ref (bs (gw γ w))), (1, .int (iI fr)), (2, .int (iI y2)), (3, .int (iI y3))] dL_holds_651 (by decide) rfl ?_
          exact x_lv _ [0, 3, 4, 5, 6, 7, 18, 19, 20, 21, 22] rfl K
