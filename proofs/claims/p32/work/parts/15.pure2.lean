theorem reckonR_out (r : Int → Int) {v i : Int} (hb : 0 ≤ r (6 + 7 * v + 2) ∧ r (6 + 7 * v + 2) ≤ 1) (h3 : i ≠ 3) (g2 : i ≠ 6 + 7 * v + 2) (g3 : i ≠ 6 + 7 * v + 3) (g4 : i ≠ 6 + 7 * v + 4) : reckonR r v i = r i := by
  unfold reckonR
  split
  · exact layR_out _ (by omega) g3 g4
  · split
    · exact layR_out _ (by split <;> omega) g3 g4
    · split
      · split
        · rw [layR_out _ (by omega) g3 g4, goesR_out _ h3 g2]
        · split
          · rw [layR_out _ (by omega) g3 g4, goesR_out _ h3 g2]
          · exact layR_out _ (by omega) g3 g4
      · split
        · rw [upr_ne _ _ (by omega)]
          exact layR_out _ (by omega) g3 g4
        · exact layR_out _ (by split <;> omega) g3 g4
theorem Wf_reckonR {r : Int → Int} (h : Wf r) {v : Int} (h0 : 0 ≤ v) (h1 : v < r 0) : Wf (reckonR r v) := by
  obtain ⟨q0, q1, q2, q3, q4, q5, q6, q7, q8, q9⟩ := h.2.2.2.2.1 v h0 h1
  refine h.valve h0 h1 (fun i _ h3 g2 g3 g4 => reckonR_out r q2 h3 g2 g3 g4) ?_
  have lay : ∀ (f : Int → Int) (g p : Int), 0 ≤ g ∧ g ≤ 1 → 0 ≤ p ∧ p ≤ 99 → f (6 + 7 * v + 2) = g ∨ (r (6 + 7 * v + 0) ≠ 2 ∧ 0 ≤ f (6 + 7 * v + 2) ∧ f (6 + 7 * v + 2) ≤ 1) → (r (6 + 7 * v + 0) ≠ 0 → r (6 + 7 * v + 0) ≠ 2 → f (6 + 7 * v + 2) = 0) →
      (0 ≤ layR f v g p (6 + 7 * v + 2) ∧ layR f v g p (6 + 7 * v + 2) ≤ 1) ∧ (0 ≤ layR f v g p (6 + 7 * v + 3) ∧ layR f v g p (6 + 7 * v + 3) ≤ 99) ∧ (0 ≤ layR f v g p (6 + 7 * v + 4) ∧ layR f v g p (6 + 7 * v + 4) ≤ 99) ∧
      (r (6 + 7 * v + 0) = 2 → layR f v g p (6 + 7 * v + 2) = 0 → layR f v g p (6 + 7 * v + 4) = 0) ∧ (r (6 + 7 * v + 0) = 2 → layR f v g p (6 + 7 * v + 2) = 1 → layR f v g p (6 + 7 * v + 3) = 0) ∧ (r (6 + 7 * v + 0) ≠ 0 → r (6 + 7 * v + 0) ≠ 2 → layR f v g p (6 + 7 * v + 2) = 0) := by
    intro f g p hg hp hf hf2
    rw [layR_3 f v p hg, layR_4 f v p hg, layR_out f hg (by omega) (by omega)]
    rcases (show g = 0 ∨ g = 1 by omega) with rfl | rfl
    · rw [if_pos rfl, if_neg (by omega)]
      omega
    · rw [if_neg (by omega), if_pos rfl]
      omega
  unfold reckonR
  split
  · exact lay r _ _ (by omega) (by omega) (by omega) (by omega)
  · split
    · exact lay r _ _ (by split <;> omega) (by omega) (by omega) (by omega)
    · split
      · split
        · exact lay (goesR r v 1) _ _ (by omega) (by omega) (Or.inl (goesR_2 _ _ _)) (by omega)
        · split
          · exact lay (goesR r v 0) _ _ (by omega) (by omega) (Or.inl (goesR_2 _ _ _)) (by omega)
          · exact lay r _ _ (by omega) (by omega) (by omega) (by omega)
      · split
        · have e := lay r 0 (if r (6 + 7 * v + 5) < r (6 + 7 * v + 6) then r (6 + 7 * v + 5) else r (6 + 7 * v + 6)) (by omega) (by split <;> omega) (by omega) (by omega)
          rw [show 6 + 7 * v + 3 + 1 = 6 + 7 * v + 4 by omega, upr_at, upr_ne _ _ (by omega), upr_ne _ _ (by omega)]
          refine ⟨e.1, e.2.1, ?_, by omega, by omega, e.2.2.2.2.2⟩
          split <;> omega
        · exact lay r _ _ (by split <;> omega) (by omega) (by omega) (by omega)
theorem reckAll_Wf {r : Int → Int} (h : Wf r) : ∀ n : Nat, n ≤ r 0 → Wf (reckAll r n) ∧ (∀ i, i < 3 ∨ 3 < i ∧ i < 6 ∨ 76 ≤ i ∨ 6 + 7 * (n : Int) ≤ i ∨ (6 ≤ i ∧ ((i - 6) % 7 < 2 ∨ 5 ≤ (i - 6) % 7)) → reckAll r n i = r i)
  | 0, _ => ⟨h, fun _ _ => rfl⟩
  | n + 1, hn => by
    obtain ⟨a, b⟩ := reckAll_Wf h n (by omega)
    have h0 := h.1
    have e0 : reckAll r n 0 = r 0 := b 0 (by omega)
    refine ⟨Wf_reckonR a (by omega) (by omega), fun i hi => ?_⟩
    obtain ⟨-, -, q2, -⟩ := a.2.2.2.2.1 (n : Int) (by omega) (by omega)
    rw [reckAll, reckonR_out _ q2 (by omega) (by omega) (by omega) (by omega)]
    exact b i (by omega)
theorem shiftR_out (r : Int → Int) (at0 : Int) {i : Int} : ∀ n : Nat, i < at0 ∨ at0 + (n : Int) ≤ i → shiftR r at0 n i = r i
  | 0, _ => rfl
  | n + 1, h => by
    rw [shiftR, upr_ne _ _ (by omega)]
    exact shiftR_out r at0 n (by omega)
theorem shiftR_in (r : Int → Int) (at0 : Int) {i : Int} : ∀ n : Nat, at0 ≤ i → i < at0 + (n : Int) → shiftR r at0 n i = r (i + 1)
  | 0, h, h2 => by omega
  | n + 1, h, h2 => by
    rw [shiftR]
    by_cases e : i = at0 + (n : Int)
    · rw [e, upr_at]
      exact shiftR_out r at0 n (by omega)
    · rw [upr_ne _ _ e]
      exact shiftR_in r at0 n h (by omega)
theorem enterR_out {r : Int → Int} {d i : Int} (hl : 1 ≤ r (76 + 12 * d + 4)) (h : i < 76 + 12 * d + 6 ∨ 76 + 12 * d + 6 + r (76 + 12 * d + 4) ≤ i) : enterR r d i = r i := by
  unfold enterR
  rw [upr_ne _ _ (by omega)]
  exact shiftR_out r _ _ (by omega)
theorem enterR_mid {r : Int → Int} {d i : Int} (hl : 1 ≤ r (76 + 12 * d + 4)) (h1 : 76 + 12 * d + 6 ≤ i) (h2 : i < 76 + 12 * d + 6 + (r (76 + 12 * d + 4) - 1)) : enterR r d i = r (i + 1) := by
  unfold enterR
  rw [upr_ne _ _ (by omega)]
  exact shiftR_in r _ _ h1 (by omega)
theorem enterR_last {r : Int → Int} {d : Int} : enterR r d (76 + 12 * d + 6 + (r (76 + 12 * d + 4) - 1)) = r (6 + 7 * r (76 + 12 * d + 0) + (3 + r (76 + 12 * d + 1))) := upr_at _ _ _
theorem Wf_enterR {r : Int → Int} (h : Wf r) {d : Int} (h0 : 0 ≤ d) (h1 : d < r 1) : Wf (enterR r d) := by
  have hw := h
  obtain ⟨k0, k1, k4, k5, hv, hd⟩ := h
  obtain ⟨q0, q1, q2, q3, q4, q5, q6⟩ := hd d h0 h1
  have hl : 1 ≤ r (76 + 12 * d + 4) := q4.1
  have e : ∀ i, i < 76 + 12 * d + 6 ∨ 76 + 12 * d + 12 ≤ i → enterR r d i = r i := fun i hi => enterR_out hl (by omega)
  unfold Wf
  rw [e 0 (by omega), e 1 (by omega), e 4 (by omega), e 5 (by omega)]
  refine ⟨k0, k1, k4, k5, fun v g1 g2 => (hv v g1 g2).cong (fun k a1 a2 => e _ (by omega)), fun x g1 g2 => ?_⟩
  by_cases hx : x = d
  · subst hx
    unfold WfD
    rw [e _ (by omega), e (76 + 12 * x + 1) (by omega), e (76 + 12 * x + 2) (by omega), e (76 + 12 * x + 3) (by omega), e (76 + 12 * x + 4) (by omega), e (76 + 12 * x + 5) (by omega), e 0 (by omega)]
    refine ⟨q0, q1, q2, q3, q4, q5, fun k a1 a2 => ?_⟩
    by_cases b1 : k < r (76 + 12 * x + 4) - 1
    · rw [enterR_mid hl (by omega) (by omega)]
      have := q6 (k + 1) (by omega) (by omega)
      rw [show 76 + 12 * x + 6 + (k + 1) = 76 + 12 * x + 6 + k + 1 by omega] at this
      exact this
    · by_cases b2 : k = r (76 + 12 * x + 4) - 1
      · rw [b2, enterR_last]
        obtain ⟨-, -, -, p3, p4, -⟩ := hv _ q0.1 q0.2
        rcases (show r (76 + 12 * x + 1) = 0 ∨ r (76 + 12 * x + 1) = 1 by omega) with g | g
        · rw [g, show 6 + 7 * r (76 + 12 * x + 0) + (3 + 0) = 6 + 7 * r (76 + 12 * x + 0) + 3 by omega]
          exact p3
        · rw [g, show 6 + 7 * r (76 + 12 * x + 0) + (3 + 1) = 6 + 7 * r (76 + 12 * x + 0) + 4 by omega]
          exact p4
      · rw [enterR_out hl (by omega)]
        exact q6 k a1 a2
  · exact (hd x g1 g2).cong (e 0 (by omega)) (fun k a1 a2 => e _ (by omega))
theorem enterAll_Wf {r : Int → Int} (h : Wf r) : ∀ n : Nat, n ≤ r 1 → Wf (enterAll r n) ∧ ∀ i, i < 76 ∨ 76 + 12 * (n : Int) ≤ i ∨ (i - 76) % 12 < 6 → enterAll r n i = r i
  | 0, _ => ⟨h, fun _ _ => rfl⟩
  | n + 1, hn => by
    obtain ⟨a, b⟩ := enterAll_Wf h n (by omega)
    have e1 : enterAll r n 1 = r 1 := b 1 (by omega)
    have q4 := (a.2.2.2.2.2 (n : Int) (by omega) (by omega)).2.2.2.2.1
    refine ⟨Wf_enterR a (by omega) (by omega), fun i hi => ?_⟩
    rw [enterAll, enterR_out q4.1 (by omega)]
    exact b i (by omega)
theorem Wf_scal {r : Int → Int} (h : Wf r) {i : Int} (z : Int) (hi : i = 2 ∨ i = 3) : Wf (upr r i z) := by
  have e : ∀ j, j ≠ 2 → j ≠ 3 → upr r i z j = r j := fun j h2 h3 => upr_ne _ _ (by omega)
  obtain ⟨k0, k1, k4, k5, hv, hd⟩ := h
  unfold Wf
  rw [e 0 (by omega) (by omega), e 1 (by omega) (by omega), e 4 (by omega) (by omega), e 5 (by omega) (by omega)]
  exact ⟨k0, k1, k4, k5, fun v g1 g2 => (hv v g1 g2).cong (fun k a1 a2 => e _ (by omega) (by omega)), fun x g1 g2 => (hd x g1 g2).cong (e 0 (by omega) (by omega)) (fun k a1 a2 => e _ (by omega) (by omega))⟩
theorem tick2R_Wf {r : Int → Int} (h : Wf r) : Wf (tick2R r) ∧ (∀ i, i < 2 ∨ 3 < i ∧ i < 6 ∨ 76 ≤ i ∨ 6 + 7 * r 0 ≤ i ∧ i < 76 ∧ (i - 6) % 7 < 5 ∨ (6 ≤ i ∧ (i - 6) % 7 < 2) → tick2R r i = r i) := by
  have h0 := h.1
  have a := Wf_scal h (i := 2) (bmz (r 2 + 1)) (by omega)
  obtain ⟨b, eb⟩ := pushAllR_Wf a
  have e0 : pushAllR (upr r 2 (bmz (r 2 + 1))) 0 = r 0 := by rw [eb 0 (by unfold isP; omega), upr_ne _ _ (by omega)]
  obtain ⟨c, ec⟩ := reckAll_Wf b (r 0).toNat (by omega)
  refine ⟨c, fun i hi => ?_⟩
  unfold tick2R
  rw [ec i (by omega), eb i (by unfold isP; omega), upr_ne _ _ (by omega)]
theorem tickR_Wf {r : Int → Int} (h : Wf r) : Wf (tickR r) ∧ (∀ i, i < 2 ∨ 3 < i ∧ i < 6 ∨ 6 + 7 * r 0 ≤ i ∧ i < 76 ∧ (i - 6) % 7 < 5 ∨ (6 ≤ i ∧ i < 76 ∧ (i - 6) % 7 < 2) ∨ 76 + 12 * r 1 ≤ i ∨ 76 ≤ i ∧ (i - 76) % 12 < 6 → tickR r i = r i) := by
  have h0 := h.1
  have h1 := h.2.1
  obtain ⟨a, ea⟩ := tick2R_Wf h
  have e1 := ea 1 (by omega)
  obtain ⟨b, eb⟩ := enterAll_Wf a (r 1).toNat (by omega)
  refine ⟨b, fun i hi => ?_⟩
  unfold tickR
  rw [eb i (by omega), ea i (by omega)]
theorem runR_Wf {r : Int → Int} (h : Wf r) : ∀ n : Nat, Wf (runR r n) ∧ runR r n 0 = r 0 ∧ runR r n 1 = r 1
  | 0 => ⟨h, rfl, rfl⟩
  | n + 1 => by
    obtain ⟨a, b, c⟩ := runR_Wf h n
    obtain ⟨d, e⟩ := tickR_Wf a
    exact ⟨d, (e 0 (by omega)).trans b, (e 1 (by omega)).trans c⟩
