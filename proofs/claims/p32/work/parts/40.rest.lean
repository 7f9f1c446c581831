/-! a net at rest stays so: time and crossings are of no account -/
def Eq23 (q q' : Int → Int) : Prop := ∀ i, i ≠ 2 → i ≠ 3 → q i = q' i
theorem Eq23.c_upr {q q' : Int → Int} (h : Eq23 q q') (j z : Int) : Eq23 (upr q j z) (upr q' j z) := fun i h2 h3 => by
  rw [upr_if, upr_if, h i h2 h3]
theorem Eq23.c_u3 {q q' : Int → Int} (h : Eq23 q q') (a b : Int) : Eq23 (upr q 3 a) (upr q' 3 b) := fun i h2 h3 => by
  rw [upr_ne _ _ h3, upr_ne _ _ h3, h i h2 h3]
theorem Eq23.c_u2 {q q' : Int → Int} (h : Eq23 q q') (a b : Int) : Eq23 (upr q 2 a) (upr q' 2 b) := fun i h2 h3 => by
  rw [upr_ne _ _ h2, upr_ne _ _ h2, h i h2 h3]
theorem Eq23.c_zeroP {q q' : Int → Int} (h : Eq23 q q') : ∀ n : Nat, Eq23 (zeroP q n) (zeroP q' n)
  | 0 => h
  | n + 1 => ((Eq23.c_zeroP h n).c_upr _ _).c_upr _ _
theorem Eq23.c_pushR {q q' : Int → Int} (h : Eq23 q q') (hw : Wf q) {d : Int} (hd : 0 ≤ d ∧ d < q 1) : Eq23 (pushR q d) (pushR q' d) := by
  obtain ⟨-, -, q2, q3, -⟩ := hw.2.2.2.2.2 d hd.1 hd.2
  have e2 := h (76 + 12 * d + 2) (by omega) (by omega)
  have e3 := h (76 + 12 * d + 3) (by omega) (by omega)
  have eo : outR q' d = outR q d := outR_cong (h 4 (by omega) (by omega)).symm (h _ (by omega) (by omega)).symm (h _ (by omega) (by omega)).symm (h _ (by omega) (by omega)).symm
  have ep := h (6 + 7 * q (76 + 12 * d + 2) + 5 + q (76 + 12 * d + 3)) (by omega) (by omega)
  unfold pushR
  rw [← e2, ← e3, eo, ← ep]
  exact h.c_upr _ _
theorem Eq23.c_pushD {q q' : Int → Int} (h : Eq23 q q') (hw : Wf q) : ∀ n : Nat, n ≤ q 1 → Eq23 (pushD q n) (pushD q' n)
  | 0, _ => h
  | n + 1, hn => by
    obtain ⟨a, b⟩ := pushD_Wf hw n (by omega)
    have e1 : pushD q n 1 = q 1 := b 1 (by unfold isP; omega)
    exact (Eq23.c_pushD h hw n (by omega)).c_pushR a (by omega)
theorem Eq23.c_pushAll {q q' : Int → Int} (h : Eq23 q q') (hw : Wf q) : Eq23 (pushAllR q) (pushAllR q') := by
  have h0 := hw.1
  have h1 := hw.2.1
  have e1 : zeroP q (q 0).toNat 1 = q 1 := zeroP_out q (by unfold isP; omega) _ (by omega)
  unfold pushAllR
  rw [← h 0 (by omega) (by omega), ← h 1 (by omega) (by omega)]
  exact (h.c_zeroP _).c_pushD (Wf_zeroP hw (by omega)) _ (by omega)
theorem Eq23.c_layR {q q' : Int → Int} (h : Eq23 q q') (v g p : Int) : Eq23 (layR q v g p) (layR q' v g p) := (h.c_upr _ _).c_upr _ _
theorem Eq23.c_goesR {q q' : Int → Int} (h : Eq23 q q') (v g : Int) : Eq23 (goesR q v g) (goesR q' v g) := (h.c_u3 _ _).c_upr _ _
theorem Eq23.c_reckonR {q q' : Int → Int} (h : Eq23 q q') {v : Int} (hv : 0 ≤ v) : Eq23 (reckonR q v) (reckonR q' v) := by
  have e0 := h (6 + 7 * v + 0) (by omega) (by omega)
  have e1 := h (6 + 7 * v + 1) (by omega) (by omega)
  have e2 := h (6 + 7 * v + 2) (by omega) (by omega)
  have e5 := h (6 + 7 * v + 5) (by omega) (by omega)
  have e6 := h (6 + 7 * v + 6) (by omega) (by omega)
  have es := h 5 (by omega) (by omega)
  have w5 : worksR q' v 5 ↔ worksR q v 5 := by unfold worksR strongR; rw [e1, e5, es]
  have w6 : worksR q' v 6 ↔ worksR q v 6 := by unfold worksR strongR; rw [e1, e6, es]
  unfold reckonR
  by_cases k0 : q (6 + 7 * v + 0) = 0
  · rw [if_pos k0, if_pos (e0.symm.trans k0), ← e1, ← e2]
    exact h.c_layR _ _ _
  rw [if_neg k0, if_neg (fun z => k0 (e0.trans z))]
  by_cases k1 : q (6 + 7 * v + 0) = 1
  · rw [if_pos k1, if_pos (e0.symm.trans k1)]
    by_cases c : worksR q v 5 ∨ worksR q v 6
    · rw [if_pos c, if_pos (c := worksR q' v 5 ∨ worksR q' v 6) (by rw [w5, w6]; exact c), ← e1]; exact h.c_layR _ _ _
    · rw [if_neg c, if_neg (c := worksR q' v 5 ∨ worksR q' v 6) (by rw [w5, w6]; exact c), ← e1]; exact h.c_layR _ _ _
  rw [if_neg k1, if_neg (fun z => k1 (e0.trans z))]
  by_cases k2 : q (6 + 7 * v + 0) = 2
  · rw [if_pos k2, if_pos (e0.symm.trans k2)]
    by_cases c : worksR q v 5 ∧ ¬ worksR q v 6
    · rw [if_pos c, if_pos (c := worksR q' v 5 ∧ ¬ worksR q' v 6) (by rw [w5, w6]; exact c), ← e1]; exact (h.c_goesR _ _).c_layR _ _ _
    · rw [if_neg c, if_neg (c := worksR q' v 5 ∧ ¬ worksR q' v 6) (by rw [w5, w6]; exact c)]
      by_cases c2 : ¬ worksR q v 5 ∧ worksR q v 6
      · rw [if_pos c2, if_pos (c := ¬ worksR q' v 5 ∧ worksR q' v 6) (by rw [w5, w6]; exact c2), ← e1]; exact (h.c_goesR _ _).c_layR _ _ _
      · rw [if_neg c2, if_neg (c := ¬ worksR q' v 5 ∧ worksR q' v 6) (by rw [w5, w6]; exact c2), ← e1, ← e2]; exact h.c_layR _ _ _
  rw [if_neg k2, if_neg (fun z => k2 (e0.trans z))]
  by_cases k3 : q (6 + 7 * v + 0) = 3
  · rw [if_pos k3, if_pos (e0.symm.trans k3), ← e5, ← e6]
    exact (h.c_layR _ _ _).c_upr _ _
  · rw [if_neg k3, if_neg (fun z => k3 (e0.trans z)), ← e1, ← e5, ← e6]
    exact h.c_layR _ _ _
theorem Eq23.c_reckAll {q q' : Int → Int} (h : Eq23 q q') : ∀ n : Nat, Eq23 (reckAll q n) (reckAll q' n)
  | 0 => h
  | n + 1 => (Eq23.c_reckAll h n).c_reckonR (by omega)
theorem Eq23.c_shiftR {q q' : Int → Int} (h : Eq23 q q') {a : Int} (ha : 4 ≤ a) : ∀ n : Nat, Eq23 (shiftR q a n) (shiftR q' a n)
  | 0 => h
  | n + 1 => by
    have k := Eq23.c_shiftR h ha n
    unfold shiftR
    rw [← k (a + (n : Int) + 1) (by omega) (by omega)]
    exact k.c_upr _ _
theorem Eq23.c_enterR {q q' : Int → Int} (h : Eq23 q q') (hw : Wf q) {d : Int} (hd : 0 ≤ d ∧ d < q 1) : Eq23 (enterR q d) (enterR q' d) := by
  obtain ⟨q0, q1, -⟩ := hw.2.2.2.2.2 d hd.1 hd.2
  unfold enterR
  rw [← h (76 + 12 * d + 4) (by omega) (by omega), ← h (76 + 12 * d + 0) (by omega) (by omega), ← h (76 + 12 * d + 1) (by omega) (by omega), ← h (6 + 7 * q (76 + 12 * d + 0) + (3 + q (76 + 12 * d + 1))) (by omega) (by omega)]
  exact (h.c_shiftR (by omega) _).c_upr _ _
theorem Eq23.c_enterAll {q q' : Int → Int} (h : Eq23 q q') (hw : Wf q) : ∀ n : Nat, n ≤ q 1 → Eq23 (enterAll q n) (enterAll q' n)
  | 0, _ => h
  | n + 1, hn => by
    obtain ⟨a, b⟩ := enterAll_Wf hw n (by omega)
    have e1 : enterAll q n 1 = q 1 := b 1 (by omega)
    exact (Eq23.c_enterAll h hw n (by omega)).c_enterR a (by omega)
theorem Eq23.c_tick {q q' : Int → Int} (h : Eq23 q q') (hw : Wf q) : Eq23 (tickR q) (tickR q') := by
  obtain ⟨ht, ho⟩ := tick2R_Wf hw
  have e1 := ho 1 (by omega)
  have hs := Wf_scal hw (i := 2) (bmz (q 2 + 1)) (Or.inl rfl)
  unfold tickR
  rw [← h 1 (by omega) (by omega)]
  refine Eq23.c_enterAll ?_ ht _ (by have := hw.2.1; omega)
  unfold tick2R
  rw [← h 0 (by omega) (by omega)]
  exact ((h.c_u2 _ _).c_pushAll hs).c_reckAll _
theorem rests_E {q : Int → Int} (hw : Wf q) (hr : restsR q) : Eq23 (tickR q) q := fun i h2 h3 => by
  have h0 := hw.1
  have h1 := hw.2.1
  by_cases a : 6 ≤ i ∧ i < 268
  · have := hr (i - 6).toNat (by omega)
    rw [show 6 + ((i - 6).toNat : Int) = i by omega] at this
    exact this.symm
  · exact (tickR_Wf hw).2 i (by omega)
theorem rest_run {r : Int → Int} (hw : Wf r) {i : Nat} (hr : restsR (runR r i)) : ∀ k : Nat, Eq23 (tickR (runR r (i + k))) (runR r (i + k))
  | 0 => rests_E (runR_Wf hw i).1 hr
  | k + 1 => by
    have ih := rest_run hw hr k
    show Eq23 (tickR (tickR (runR r (i + k)))) (tickR (runR r (i + k)))
    exact ih.c_tick (tickR_Wf (runR_Wf hw (i + k)).1).1
theorem rest_beatL {v : Int} (hv : 0 ≤ v) : ∀ (f : Nat) (q : Int → Int) (m b : Int), Wf q → Eq23 (tickR q) q → beatL v f q m b = -1
  | 0, _, _, _, _, _ => rfl
  | f + 1, q, m, b, hw, he => by
    unfold beatL
    rw [if_neg (by rw [he (6 + 7 * v + 3) (by omega) (by omega)]; omega)]
    exact rest_beatL hv f _ _ _ (tickR_Wf hw).1 (he.c_tick (tickR_Wf hw).1)
theorem rest_beat {r : Int → Int} (hw : Wf r) {v : Int} (hv : 0 ≤ v) {i : Nat} (hi : i ≤ 100) (hr : restsR (runR r i)) : beatR r v = -1 := by
  have k := rest_run hw hr (100 - i)
  rw [show i + (100 - i) = 100 by omega] at k
  exact rest_beatL hv 200 _ _ _ (runR_Wf hw 100).1 k
