/-! rest, as the law asks for it -/
theorem runR_t (r : Int → Int) (j : Nat) : runR r (j + 1) = runR (tickR r) j := by
  have h := runR_add r 1 j
  rw [Nat.add_comm] at h
  exact h
theorem restL_spec : ∀ (f : Nat) (r : Int → Int) (m : Int), restL f r m = -1 ∨ ∃ j : Nat, j < f ∧ restL f r m = m + (j : Int) ∧ restsR (runR r j)
  | 0, _, _ => Or.inl rfl
  | f + 1, r, m => by
    unfold restL
    by_cases c : restsR r
    · rw [if_pos c]
      exact Or.inr ⟨0, by omega, by omega, c⟩
    · rw [if_neg c]
      rcases restL_spec f (tickR r) (m + 1) with h | ⟨j, h1, h2, h3⟩
      · exact Or.inl h
      · exact Or.inr ⟨j + 1, by omega, by omega, by rw [runR_t]; exact h3⟩
theorem restL_rest {r : Int → Int} (h : restsR r) (f : Nat) (m : Int) : restL (f + 1) r m = m := by
  unfold restL
  rw [if_pos h]
theorem restL_s (f : Nat) (r : Int → Int) (m : Int) : restL (f + 1) r m = if restsR r then m else restL f (tickR r) (m + 1) := rfl
theorem restL_0 (r : Int → Int) : restL 301 r 0 = 0 ↔ restsR r := by
  refine ⟨fun h => ?_, fun h => restL_rest h 300 0⟩
  by_cases c : restsR r
  · exact c
  · exfalso
    have h2 : restL 301 r 0 = _ := restL_s 300 r 0
    rw [if_neg c] at h2
    rcases restL_spec 300 (tickR r) (0 + 1) with g | ⟨j, g1, g2, g3⟩ <;> omega
theorem restL_b (r : Int → Int) : restL 301 r 0 = -1 ∨ (0 ≤ restL 301 r 0 ∧ restL 301 r 0 ≤ 300) := by
  rcases restL_spec 301 r 0 with g | ⟨j, g1, g2, g3⟩ <;> omega
theorem Eq23.tr {a b c : Int → Int} (h : Eq23 a b) (h2 : Eq23 b c) : Eq23 a c := fun i x y => (h i x y).trans (h2 i x y)
theorem rest_E {r : Int → Int} (hw : Wf r) (hr : restsR r) : ∀ k : Nat, Eq23 (runR r k) r
  | 0 => fun _ _ _ => rfl
  | k + 1 => by
    have ih := rest_E hw hr k
    exact Eq23.tr (ih.c_tick (runR_Wf hw k).1) (rests_E hw hr)
theorem rest_R {r : Int → Int} (hw : Wf r) (hr : restsR r) (k : Nat) : restsR (runR r k) := by
  have h := rest_run (i := 0) hw hr k
  rw [Nat.zero_add] at h
  intro j hj
  exact (h (6 + (j : Int)) (by omega) (by omega)).symm
theorem rest_beat0 {r : Int → Int} (hw : Wf r) {v : Int} (hv : 0 ≤ v) (hr : restsR r) : beatR r v = -1 := rest_beat hw hv (i := 0) (by omega) hr
theorem diffR_E {x y : Int → Int} (h : Eq23 x y) : ∀ n : Nat, diffR x y n = 0
  | 0 => rfl
  | n + 1 => by
    rw [diffR, diffR_E h n, h _ (by omega) (by omega), h _ (by omega) (by omega), if_pos rfl, if_pos rfl]
    rfl
theorem allPR_E {x y : Int → Int} (h : Eq23 x y) : ∀ n : Nat, allPR x n = allPR y n
  | 0 => rfl
  | n + 1 => by
    rw [allPR, allPR, allPR_E h n, h _ (by omega) (by omega), h _ (by omega) (by omega)]
theorem bmz_bmz (z : Int) : bmz (bmz z) = bmz z := bmz_e (bmz_r z)
theorem reckonR_3 {q : Int → Int} {v : Int} (hv : 0 ≤ v) (hb : 0 ≤ q (6 + 7 * v + 2) ∧ q (6 + 7 * v + 2) ≤ 1) (h : reckonR q v (6 + 7 * v + 2) = q (6 + 7 * v + 2)) : bmz (reckonR q v 3) = bmz (q 3) := by
  have key : ∀ g, 0 ≤ g ∧ g ≤ 1 → reckonR q v = layR (goesR q v g) v g (q (6 + 7 * v + 1)) → bmz (reckonR q v 3) = bmz (q 3) := by
    intro g hg e
    rw [e] at h ⊢
    rw [layR_out _ hg (by omega) (by omega), goesR_2] at h
    rw [layR_out _ hg (by omega) (by omega), goesR_3 _ hv, if_pos h.symm, Int.add_zero, bmz_bmz]
  unfold reckonR at key h ⊢
  by_cases k0 : q (6 + 7 * v + 0) = 0
  · rw [if_pos k0, layR_out _ (by omega) (by omega) (by omega)]
  rw [if_neg k0] at key h ⊢
  by_cases k1 : q (6 + 7 * v + 0) = 1
  · rw [if_pos k1, layR_out _ (by split <;> decide) (by omega) (by omega)]
  rw [if_neg k1] at key h ⊢
  by_cases k2 : q (6 + 7 * v + 0) = 2
  · rw [if_pos k2] at key h ⊢
    by_cases c : worksR q v 5 ∧ ¬ worksR q v 6
    · exact key 1 (by decide) (if_pos c)
    · rw [if_neg c] at key h ⊢
      by_cases c2 : ¬ worksR q v 5 ∧ worksR q v 6
      · exact key 0 (by decide) (if_pos c2)
      · rw [if_neg c2, layR_out _ hb (by omega) (by omega)]
  rw [if_neg k2]
  by_cases k3 : q (6 + 7 * v + 0) = 3
  · rw [if_pos k3, upr_ne _ _ (by omega), layR_out _ (by decide) (by omega) (by omega)]
  · rw [if_neg k3, layR_out _ (by split <;> decide) (by omega) (by omega)]
theorem reckAll_3 {r : Int → Int} (h : Wf r) : ∀ n : Nat, (n : Int) ≤ r 0 → (∀ v, 0 ≤ v → v < (n : Int) → reckAll r n (6 + 7 * v + 2) = r (6 + 7 * v + 2)) → bmz (reckAll r n 3) = bmz (r 3)
  | 0, _, _ => rfl
  | n + 1, hn, hs => by
    obtain ⟨hw, ho⟩ := reckAll_Wf h n (by omega)
    have e0 : reckAll r n 0 = r 0 := ho 0 (by omega)
    have hb := (hw.2.2.2.2.1 (n : Int) (by omega) (by omega)).2.2.1
    have ih := reckAll_3 h n (by omega) (fun v a b => by
      have := hs v a (by omega)
      rw [← this]
      exact (reckonR_out _ hb (by omega) (by omega) (by omega) (by omega)).symm)
    have hn1 := hs (n : Int) (by omega) (by omega)
    rw [← ih]
    exact reckonR_3 (by omega) hb (hn1.trans (ho _ (by omega)).symm)
theorem tick_3 {r : Int → Int} (h : Wf r) (hr : restsR r) : bmz (tickR r 3) = bmz (r 3) := by
  have h0 := h.1
  have h1 := h.2.1
  have hs := Wf_scal h (i := 2) (bmz (r 2 + 1)) (Or.inl rfl)
  obtain ⟨hp, hpo⟩ := pushAllR_Wf hs
  have e0 : pushAllR (upr r 2 (bmz (r 2 + 1))) 0 = r 0 := (hpo 0 (by unfold isP; omega)).trans (upr_ne _ _ (by decide))
  have e3 : pushAllR (upr r 2 (bmz (r 2 + 1))) 3 = r 3 := (hpo 3 (by unfold isP; omega)).trans (upr_ne _ _ (by decide))
  obtain ⟨ht, hto⟩ := tick2R_Wf h
  have e1' : tick2R r 1 = r 1 := hto 1 (by omega)
  have ho := (enterAll_Wf ht (r 1).toNat (by omega)).2
  have a3 : tickR r 3 = tick2R r 3 := ho 3 (by omega)
  have hk := reckAll_3 hp (r 0).toNat (by omega) (fun v a b => by
    have q1 : tickR r (6 + 7 * v + 2) = tick2R r (6 + 7 * v + 2) := ho _ (by omega)
    have q2 := rests_E h hr (6 + 7 * v + 2) (by omega) (by omega)
    have q3 : pushAllR (upr r 2 (bmz (r 2 + 1))) (6 + 7 * v + 2) = r (6 + 7 * v + 2) := (hpo _ (by unfold isP; omega)).trans (upr_ne _ _ (by omega))
    rw [q3, ← q2, q1]
    rfl)
  rw [a3]
  rw [e3] at hk
  exact hk
theorem run_3 {r : Int → Int} (h : Wf r) (hr : restsR r) : ∀ k : Nat, bmz (runR r k 3) = bmz (r 3)
  | 0 => rfl
  | k + 1 => (tick_3 (runR_Wf h k).1 (rest_R h hr k)).trans (run_3 h hr k)
theorem an_rest {A : Abs} : an_doScript A 1 800000 = if restsR (nA A) then -1 else 0 := by
  have e : scrL 800000 1 (1 : Int).toNat (nA A) 0 = if restsR (nA A) then -1 else 0 := by
    show scrL 800000 1 1 (nA A) 0 = _
    unfold scrL
    rw [show grpZ 800000 1 0 = 800000 from by decide, show (800000 : Int) / 100000 = 8 from by decide, show (800000 : Int) % 100000 = 0 from by decide]
    have ec : cmdS (nA A) 8 0 = if (0 : Int) = 0 ∧ restsR (nA A) then (1, nA A) else (0, nA A) := by
      unfold cmdS
      rw [if_neg (show ¬ (8 : Int) = 1 by decide), if_neg (show ¬ (8 : Int) = 2 by decide), if_neg (show ¬ (8 : Int) = 3 by decide), if_neg (show ¬ (8 : Int) = 4 by decide), if_neg (show ¬ (8 : Int) = 5 by decide), if_neg (show ¬ (8 : Int) = 6 by decide), if_neg (show ¬ (8 : Int) = 7 by decide), if_pos (show (8 : Int) = 8 from rfl)]
    rw [ec]
    by_cases c : restsR (nA A)
    · rw [if_pos (show (0 : Int) = 0 ∧ restsR (nA A) from ⟨rfl, c⟩), if_pos c]
      rfl
    · rw [if_neg (fun q : (0 : Int) = 0 ∧ restsR (nA A) => c q.2), if_neg c]
      rfl
  have h1 : (1 ≤ (1 : Int) ∧ (1 : Int) ≤ 3) ∧ (0 ≤ (800000 : Int) ∧ (800000 : Int) ≤ 1000000 ^ (1 : Int).toNat - 1) := by decide
  unfold an_doScript op_runScript
  rw [if_neg (not_not_intro h1), rv_z, e]
  split
  · rfl
  · rfl
set_option maxHeartbeats 1000000 in
theorem rests_pure {T : Int} {A : Abs} (h : Inv T A) (hT : T < 900000) {n9 : Int} (e9 : n9 = restL 301 (nA A) 0) (h9 : 0 ≤ n9 ∧ n9 ≤ 200) :
    AOkA (wP n9 A (cntN n9)) ∧ AOkA (st_tryTicks (wP n9 A (cntN n9)) 31) ∧ restsR (nA (wP n9 A (cntN n9))) ∧ an_tryTicks (wP n9 A (cntN n9)) 31 = 0 ∧
    allPR (nA (st_tryTicks (wP n9 A (cntN n9)) 31)) (nA (st_tryTicks (wP n9 A (cntN n9)) 31) 0).toNat = allPR (nA (wP n9 A (cntN n9))) (nA (wP n9 A (cntN n9)) 0).toNat ∧ bmz (nA (st_tryTicks (wP n9 A (cntN n9)) 31) 3) = bmz (nA (wP n9 A (cntN n9)) 3) ∧
    restsR (nA (st_tryTicks (wP n9 A (cntN n9)) 31)) ∧ beatR (nA (st_tryTicks (wP n9 A (cntN n9)) 31)) 0 = -1 ∧ nA (st_tryTicks (wP n9 A (cntN n9)) 31) 2 = nA A 2 + n9 + 31 ∧ 0 < nA (st_tryTicks (wP n9 A (cntN n9)) 31) 0 ∧
    (0 ≤ an_tryUndo (st_tryTicks (wP n9 A (cntN n9)) 31) ∧ an_tryUndo (st_tryTicks (wP n9 A (cntN n9)) 31) ≤ 13) ∧
    (∀ c, c < cntN n9 → 0 ≤ an_tryUndo (pS (st_tryUndo (st_tryTicks (wP n9 A (cntN n9)) 31)) c) ∧ an_tryUndo (pS (st_tryUndo (st_tryTicks (wP n9 A (cntN n9)) 31)) c) ≤ 13) ∧
    Inv T (pS (st_tryUndo (st_tryTicks (wP n9 A (cntN n9)) 31)) (cntN n9)) ∧ nA (pS (st_tryUndo (st_tryTicks (wP n9 A (cntN n9)) 31)) (cntN n9)) = nA A := by
  obtain ⟨L, hD, hC⟩ := h.2.2.1
  have hG := h.2.1
  have hw := hG.1
  have hc4 : cntN n9 ≤ 3 := by unfold cntN; omega
  obtain ⟨Q, hQ, hS, hL, hO1⟩ := wP_SK (M := L) h.1 hD hG (n := n9) (by omega) (cntN n9) (by unfold cntN; omega)
  have en : (if 99 * ((cntN n9 : Nat) : Int) < n9 then 99 * ((cntN n9 : Nat) : Int) else n9) = n9 := by rw [if_neg (by unfold cntN; omega)]
  rw [en] at hS hL
  generalize hA1 : wP n9 A (cntN n9) = A1 at *
  have hn1 : nA A1 = runR (nA A) n9.toNat := hS.2.2.2.2.1
  have hg1 := hG.run n9.toNat (by omega)
  have hr1 : restsR (nA A1) := by
    rw [hn1]
    rcases restL_spec 301 (nA A) 0 with g | ⟨j, g1, g2, g3⟩
    · omega
    · rw [show n9.toNat = j by omega]
      exact g3
  have hw1 : Wf (nA A1) := by rw [hn1]; exact hg1.1
  obtain ⟨ev, ea, -, -⟩ := tk_val hO1 (m := 31) (by decide)
  rw [show (31 : Int).toNat = 31 from rfl] at ev ea
  have hO2 : AOkA (st_tryTicks A1 31) := ok_ticks hO1 31
  have hn2 : nA (st_tryTicks A1 31) = runR (nA A1) 31 := by rw [ev]
  have hE := rest_E hw1 hr1 31
  have h20 : runR (nA A1) 31 0 = nA A1 0 := (runR_Wf hw1 31).2.1
  have h10 : nA A1 0 = nA A 0 := by rw [hn1]; exact (runR_Wf hw n9.toNat).2.1
  have hP := hS.push (n1 := runR (nA A) n9.toNat) hg1.2.2.2.2 (runR (nA A1) 31)
  have hP2 : SK A (runR (nA A1) 31) ((runR (nA A) n9.toNat :: Q ++ L).take 14) (st_tryTicks A1 31) := by rw [ev]; exact hP
  have hsp : (runR (nA A) n9.toNat :: Q ++ L).take 14 = runR (nA A) n9.toNat :: (Q ++ L.take (13 - cntN n9)) := by
    rw [List.cons_append, List.take_succ_cons, List.take_append, List.take_of_length_le (by omega), hQ]
  rw [hsp] at hP2
  obtain ⟨hU1, hU2, hU3, hU4⟩ := hP2.pop
  have hO3 : AOkA (st_tryUndo (st_tryTicks A1 31)) := ok_undo hO2
  obtain ⟨k1, k2, k3⟩ := pS_SK Q _ _ _ hU1 hO3 hL
  rw [hQ] at k1 k2 k3
  refine ⟨hO1, hO2, hr1, ?_, ?_, ?_, ?_, ?_, ?_, ?_, ⟨by omega, by omega⟩, k3, SK.inv h hD hC k1 k2, k1.2.2.2.2.1⟩
  · rw [ea]; exact diffR_E hE _
  · rw [hn2, h20]; exact allPR_E hE _
  · rw [hn2]; exact run_3 hw1 hr1 31
  · rw [hn2]; exact rest_R hw1 hr1 31
  · rw [hn2]; exact rest_beat0 (runR_Wf hw1 31).1 (by decide) (rest_R hw1 hr1 31)
  · have e1 := runR_2 hG n9.toNat (by omega)
    have e2 := runR_2 hg1 31 (by omega)
    rw [hn2, hn1, e2, e1]
    omega
  · rw [hn2, h20, h10]
    have := hG.2.1.1
    omega
