/-! rows: what a tick keeps -/
def isP (i : Int) : Prop := 6 ≤ i ∧ i < 76 ∧ 5 ≤ (i - 6) % 7
theorem zeroP_out (r : Int → Int) {i : Int} (hi : ¬ isP i) : ∀ n : Nat, n ≤ 10 → zeroP r n i = r i
  | 0, _ => rfl
  | n + 1, h => by
    unfold isP at hi
    rw [zeroP, upr_ne _ _ (by omega), upr_ne _ _ (by omega)]
    exact zeroP_out r (by unfold isP; exact hi) n (by omega)
theorem zeroP_in (r : Int → Int) {v k : Int} (hv : 0 ≤ v) (hk : k = 5 ∨ k = 6) : ∀ n : Nat, v < n → zeroP r n (6 + 7 * v + k) = 0
  | 0, h => by omega
  | n + 1, h => by
    rw [zeroP]
    by_cases h1 : 6 + 7 * v + k = 6 + 7 * (n : Int) + 5 + 1
    · rw [h1, upr_at]
    · rw [upr_ne _ _ h1]
      by_cases h2 : 6 + 7 * v + k = 6 + 7 * (n : Int) + 5
      · rw [h2, upr_at]
      · rw [upr_ne _ _ h2]
        exact zeroP_in r hv hk n (by omega)
theorem WfV.cong {r r' : Int → Int} {v : Int} (h : WfV r v) (e : ∀ k, 0 ≤ k → k < 7 → r' (6 + 7 * v + k) = r (6 + 7 * v + k)) : WfV r' v := by
  unfold WfV at h ⊢
  rw [e 0 (by omega) (by omega), e 1 (by omega) (by omega), e 2 (by omega) (by omega), e 3 (by omega) (by omega), e 4 (by omega) (by omega), e 5 (by omega) (by omega), e 6 (by omega) (by omega)]
  exact h
theorem WfD.cong {r r' : Int → Int} {d : Int} (h : WfD r d) (h0 : r' 0 = r 0) (e : ∀ k, 0 ≤ k → k < 12 → r' (76 + 12 * d + k) = r (76 + 12 * d + k)) : WfD r' d := by
  unfold WfD at h ⊢
  rw [e 0 (by omega) (by omega), e 1 (by omega) (by omega), e 2 (by omega) (by omega), e 3 (by omega) (by omega), e 4 (by omega) (by omega), e 5 (by omega) (by omega), h0]
  obtain ⟨q0, q1, q2, q3, q4, q5, q6⟩ := h
  refine ⟨q0, q1, q2, q3, q4, q5, fun k k1 k2 => ?_⟩
  have e6 := e (6 + k) (by omega) (by omega)
  rw [show 76 + 12 * d + (6 + k) = 76 + 12 * d + 6 + k by omega] at e6
  rw [e6]
  exact q6 k k1 k2
/-- only pushes differ, and they are in range -/
theorem Wf.push {r r' : Int → Int} (h : Wf r) (ho : ∀ i, ¬ isP i → r' i = r i) (hp : ∀ v, 0 ≤ v → v < r 0 → (0 ≤ r' (6 + 7 * v + 5) ∧ r' (6 + 7 * v + 5) ≤ 99) ∧ (0 ≤ r' (6 + 7 * v + 6) ∧ r' (6 + 7 * v + 6) ≤ 99)) : Wf r' := by
  obtain ⟨h0, h1, h4, h5, hv, hd⟩ := h
  have e : ∀ i, i < 6 → r' i = r i := fun i hi => ho i (by unfold isP; omega)
  unfold Wf
  rw [e 0 (by omega), e 1 (by omega), e 4 (by omega), e 5 (by omega)]
  refine ⟨h0, h1, h4, h5, fun v g1 g2 => ?_, fun d g1 g2 => ?_⟩
  · obtain ⟨q0, q1, q2, q3, q4, q5, q6, q7⟩ := hv v g1 g2
    obtain ⟨p5, p6⟩ := hp v g1 g2
    unfold WfV
    rw [ho (6 + 7 * v + 0) (by unfold isP; omega), ho (6 + 7 * v + 1) (by unfold isP; omega), ho (6 + 7 * v + 2) (by unfold isP; omega), ho (6 + 7 * v + 3) (by unfold isP; omega), ho (6 + 7 * v + 4) (by unfold isP; omega)]
    exact ⟨q0, q1, q2, q3, q4, p5, p6, q7⟩
  · exact (hd d g1 g2).cong (e 0 (by omega)) (fun k k1 k2 => ho _ (by unfold isP; omega))
theorem outR_r {r : Int → Int} (h : Wf r) {d : Int} (h0 : 0 ≤ d) (h1 : d < r 1) : 0 ≤ outR r d ∧ outR r d ≤ 99 := by
  obtain ⟨-, -, h4, -, -, hd⟩ := h
  obtain ⟨-, -, -, -, q4, q5, q6⟩ := hd d h0 h1
  have q := q6 0 (by omega) (by omega)
  rw [show 76 + 12 * d + 6 + 0 = 76 + 12 * d + 6 by omega] at q
  have hm := mulb (x := r (76 + 12 * d + 4)) (y := r 4) (A := 6) (B := 9) (by omega) (by omega)
  unfold outR
  split <;> omega
theorem outR_cong {r r' : Int → Int} {d : Int} (h4 : r' 4 = r 4) (ha : r' (76 + 12 * d + 4) = r (76 + 12 * d + 4)) (hb : r' (76 + 12 * d + 5) = r (76 + 12 * d + 5)) (hc : r' (76 + 12 * d + 6) = r (76 + 12 * d + 6)) : outR r' d = outR r d := by
  unfold outR
  rw [h4, ha, hb, hc]
theorem Wf_zeroP {r : Int → Int} (h : Wf r) {n : Nat} (hn : n ≤ r 0) : Wf (zeroP r n) := by
  have h0 := h.1
  refine h.push (fun i hi => zeroP_out r hi n (by omega)) (fun v g1 g2 => ?_)
  obtain ⟨-, -, -, -, -, q5, q6, -⟩ := h.2.2.2.2.1 v g1 g2
  have key : ∀ (k : Int), k = 5 ∨ k = 6 → ∀ m : Nat, zeroP r m (6 + 7 * v + k) = 0 ∨ zeroP r m (6 + 7 * v + k) = r (6 + 7 * v + k) := by
    intro k hk m
    induction m with
    | zero => exact Or.inr rfl
    | succ m ih =>
      rw [zeroP]
      by_cases a1 : 6 + 7 * v + k = 6 + 7 * (m : Int) + 5 + 1
      · exact Or.inl (by rw [a1, upr_at])
      · rw [upr_ne _ _ a1]
        by_cases a2 : 6 + 7 * v + k = 6 + 7 * (m : Int) + 5
        · exact Or.inl (by rw [a2, upr_at])
        · rw [upr_ne _ _ a2]
          exact ih
  rcases key 5 (Or.inl rfl) n with a | a <;> rcases key 6 (Or.inr rfl) n with b | b <;> rw [a, b] <;> omega
theorem pushR_out {r : Int → Int} (h : Wf r) {d i : Int} (h0 : 0 ≤ d) (h1 : d < r 1) (hi : ¬ isP i) : pushR r d i = r i := by
  have hn := h.1
  obtain ⟨-, -, q2, q3, -⟩ := h.2.2.2.2.2 d h0 h1
  unfold isP at hi
  exact upr_ne _ _ (by omega)
theorem Wf_pushR {r : Int → Int} (h : Wf r) {d : Int} (h0 : 0 ≤ d) (h1 : d < r 1) : Wf (pushR r d) := by
  refine h.push (fun i hi => pushR_out h h0 h1 hi) (fun v g1 g2 => ?_)
  have ho := outR_r h h0 h1
  obtain ⟨-, -, -, -, -, q5, q6, -⟩ := h.2.2.2.2.1 v g1 g2
  have key : ∀ i, 0 ≤ r i ∧ r i ≤ 99 → 0 ≤ pushR r d i ∧ pushR r d i ≤ 99 := by
    intro i hi
    unfold pushR upr
    split
    · rename_i e
      rw [← e]
      split <;> omega
    · exact hi
  exact ⟨key _ q5, key _ q6⟩
theorem pushD_Wf {r : Int → Int} (h : Wf r) : ∀ n : Nat, n ≤ r 1 → Wf (pushD r n) ∧ ∀ i, ¬ isP i → pushD r n i = r i
  | 0, _ => ⟨h, fun _ _ => rfl⟩
  | n + 1, hn => by
    obtain ⟨a, b⟩ := pushD_Wf h n (by omega)
    have e1 : pushD r n 1 = r 1 := b 1 (by unfold isP; omega)
    refine ⟨Wf_pushR a (by omega) (by omega), fun i hi => ?_⟩
    rw [pushD, pushR_out a (by omega) (by omega) hi, b i hi]
theorem pushAllR_Wf {r : Int → Int} (h : Wf r) : Wf (pushAllR r) ∧ ∀ i, ¬ isP i → pushAllR r i = r i := by
  have h0 := h.1
  have h1 := h.2.1
  have hz := Wf_zeroP h (n := (r 0).toNat) (by omega)
  have e1 : zeroP r (r 0).toNat 1 = r 1 := zeroP_out r (by unfold isP; omega) _ (by omega)
  obtain ⟨a, b⟩ := pushD_Wf hz (r 1).toNat (by omega)
  refine ⟨a, fun i hi => ?_⟩
  unfold pushAllR
  rw [b i hi]
  exact zeroP_out r hi _ (by omega)
-- legs
theorem layR_out (r : Int → Int) {v g p i : Int} (hg : 0 ≤ g ∧ g ≤ 1) (h3 : i ≠ 6 + 7 * v + 3) (h4 : i ≠ 6 + 7 * v + 4) : layR r v g p i = r i := by
  unfold layR
  rw [upr_ne _ _ (by omega), upr_ne _ _ (by omega)]
theorem upr_if (r : Int → Int) (j z i : Int) : upr r j z i = if i = j then z else r i := rfl
theorem layR_3 (r : Int → Int) (v p : Int) {g : Int} (hg : 0 ≤ g ∧ g ≤ 1) : layR r v g p (6 + 7 * v + 3) = if g = 0 then p else 0 := by
  unfold layR
  rw [upr_if, upr_if]
  rcases (show g = 0 ∨ g = 1 by omega) with rfl | rfl
  · rw [if_neg (by omega), if_pos (by omega), if_pos rfl]
  · rw [if_pos (by omega), if_neg (by omega)]
theorem layR_4 (r : Int → Int) (v p : Int) {g : Int} (hg : 0 ≤ g ∧ g ≤ 1) : layR r v g p (6 + 7 * v + 4) = if g = 1 then p else 0 := by
  unfold layR
  rw [upr_if, upr_if]
  rcases (show g = 0 ∨ g = 1 by omega) with rfl | rfl
  · rw [if_pos (by omega), if_neg (by omega)]
  · rw [if_neg (by omega), if_pos (by omega), if_pos rfl]
theorem goesR_out (r : Int → Int) {v g i : Int} (h3 : i ≠ 3) (h2 : i ≠ 6 + 7 * v + 2) : goesR r v g i = r i := by
  unfold goesR
  rw [upr_ne _ _ h2, upr_ne _ _ h3]
theorem goesR_2 (r : Int → Int) (v g : Int) : goesR r v g (6 + 7 * v + 2) = g := upr_at _ _ _
theorem goesR_3 (r : Int → Int) {v : Int} (hv : 0 ≤ v) (g : Int) : goesR r v g 3 = bmz (r 3 + if r (6 + 7 * v + 2) = g then 0 else 1) := by
  unfold goesR
  rw [upr_ne _ _ (by omega), upr_at]
/-- only the counter, and side and legs of the valve v differ -/
theorem Wf.valve {r r' : Int → Int} (h : Wf r) {v : Int} (hv0 : 0 ≤ v) (hv1 : v < r 0) (ho : ∀ i, i ≠ 2 → i ≠ 3 → i ≠ 6 + 7 * v + 2 → i ≠ 6 + 7 * v + 3 → i ≠ 6 + 7 * v + 4 → r' i = r i)
    (hq : (0 ≤ r' (6 + 7 * v + 2) ∧ r' (6 + 7 * v + 2) ≤ 1) ∧ (0 ≤ r' (6 + 7 * v + 3) ∧ r' (6 + 7 * v + 3) ≤ 99) ∧ (0 ≤ r' (6 + 7 * v + 4) ∧ r' (6 + 7 * v + 4) ≤ 99) ∧
      (r (6 + 7 * v + 0) = 2 → r' (6 + 7 * v + 2) = 0 → r' (6 + 7 * v + 4) = 0) ∧ (r (6 + 7 * v + 0) = 2 → r' (6 + 7 * v + 2) = 1 → r' (6 + 7 * v + 3) = 0) ∧ (r (6 + 7 * v + 0) ≠ 0 → r (6 + 7 * v + 0) ≠ 2 → r' (6 + 7 * v + 2) = 0)) : Wf r' := by
  obtain ⟨h0, h1, h4, h5, hv, hd⟩ := h
  unfold Wf
  rw [ho 0 (by omega) (by omega) (by omega) (by omega) (by omega), ho 1 (by omega) (by omega) (by omega) (by omega) (by omega), ho 4 (by omega) (by omega) (by omega) (by omega) (by omega), ho 5 (by omega) (by omega) (by omega) (by omega) (by omega)]
  refine ⟨h0, h1, h4, h5, fun w g1 g2 => ?_, fun d g1 g2 => ?_⟩
  · by_cases hw : w = v
    · subst hw
      obtain ⟨q0, q1, q2, q3, q4, q5, q6, q7, q8, q9⟩ := hv w g1 g2
      unfold WfV
      rw [ho (6 + 7 * w + 0) (by omega) (by omega) (by omega) (by omega) (by omega), ho (6 + 7 * w + 1) (by omega) (by omega) (by omega) (by omega) (by omega), ho (6 + 7 * w + 5) (by omega) (by omega) (by omega) (by omega) (by omega), ho (6 + 7 * w + 6) (by omega) (by omega) (by omega) (by omega) (by omega)]
      exact ⟨q0, q1, hq.1, hq.2.1, hq.2.2.1, q5, q6, hq.2.2.2.1, hq.2.2.2.2.1, hq.2.2.2.2.2⟩
    · exact (hv w g1 g2).cong (fun k k1 k2 => ho _ (by omega) (by omega) (by omega) (by omega) (by omega))
  · exact (hd d g1 g2).cong (ho 0 (by omega) (by omega) (by omega) (by omega) (by omega)) (fun k k1 k2 => ho _ (by omega) (by omega) (by omega) (by omega) (by omega))
