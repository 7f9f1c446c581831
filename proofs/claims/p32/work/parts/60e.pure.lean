/-! behind a tick, legs follow from pushes -/
def AbV (r : Int → Int) (v : Int) : Prop := r (6 + 7 * v + 3) = 0 ∨ r (6 + 7 * v + 4) = 0
def FrV (r : Int → Int) (v : Int) : Prop :=
  (r (6 + 7 * v + 0) = 0 → (r (6 + 7 * v + 2) = 1 → r (6 + 7 * v + 3) = r (6 + 7 * v + 1) ∧ r (6 + 7 * v + 4) = 0) ∧ (r (6 + 7 * v + 2) = 0 → r (6 + 7 * v + 4) = r (6 + 7 * v + 1) ∧ r (6 + 7 * v + 3) = 0)) ∧
  (r (6 + 7 * v + 0) = 1 → ((worksR r v 5 ∨ worksR r v 6) → r (6 + 7 * v + 4) = r (6 + 7 * v + 1) ∧ r (6 + 7 * v + 3) = 0) ∧ (¬ (worksR r v 5 ∨ worksR r v 6) → r (6 + 7 * v + 3) = r (6 + 7 * v + 1) ∧ r (6 + 7 * v + 4) = 0)) ∧
  (r (6 + 7 * v + 0) = 2 → (r (6 + 7 * v + 2) = 0 → r (6 + 7 * v + 3) = r (6 + 7 * v + 1) ∧ r (6 + 7 * v + 4) = 0) ∧ (r (6 + 7 * v + 2) = 1 → r (6 + 7 * v + 4) = r (6 + 7 * v + 1) ∧ r (6 + 7 * v + 3) = 0) ∧ (worksR r v 5 → ¬ worksR r v 6 → r (6 + 7 * v + 2) = 1) ∧ (¬ worksR r v 5 → worksR r v 6 → r (6 + 7 * v + 2) = 0)) ∧
  (r (6 + 7 * v + 0) = 3 → r (6 + 7 * v + 3) = (if r (6 + 7 * v + 5) < r (6 + 7 * v + 6) then r (6 + 7 * v + 5) else r (6 + 7 * v + 6)) ∧ r (6 + 7 * v + 4) = (if r (6 + 7 * v + 5) = 0 ∨ r (6 + 7 * v + 6) = 0 then r (6 + 7 * v + 5) + r (6 + 7 * v + 6) else 0)) ∧
  (r (6 + 7 * v + 0) = 4 → ((5 ≤ r (6 + 7 * v + 5) ∨ 5 ≤ r (6 + 7 * v + 6)) → r (6 + 7 * v + 3) = r (6 + 7 * v + 1) ∧ r (6 + 7 * v + 4) = 0) ∧ (¬ (5 ≤ r (6 + 7 * v + 5) ∨ 5 ≤ r (6 + 7 * v + 6)) → r (6 + 7 * v + 4) = r (6 + 7 * v + 1) ∧ r (6 + 7 * v + 3) = 0))
theorem FrV.cong {r r' : Int → Int} {v : Int} (h : FrV r v) (e5 : r' 5 = r 5) (e : ∀ k, 0 ≤ k → k < 7 → r' (6 + 7 * v + k) = r (6 + 7 * v + k)) : FrV r' v := by
  have w5 : worksR r' v 5 ↔ worksR r v 5 := by unfold worksR strongR; rw [e5, e 1 (by decide) (by decide), e 5 (by decide) (by decide)]
  have w6 : worksR r' v 6 ↔ worksR r v 6 := by unfold worksR strongR; rw [e5, e 1 (by decide) (by decide), e 6 (by decide) (by decide)]
  unfold FrV
  rw [w5, w6, e 0 (by decide) (by decide), e 1 (by decide) (by decide), e 2 (by decide) (by decide), e 3 (by decide) (by decide), e 4 (by decide) (by decide), e 5 (by decide) (by decide), e 6 (by decide) (by decide)]
  exact h
theorem reckonR_Fr {r : Int → Int} (h : Wf r) {v : Int} (h0 : 0 ≤ v) (h1 : v < r 0) : FrV (reckonR r v) v := by
  obtain ⟨⟨k0, k4⟩, -, hb, -, -, ⟨p0, -⟩, ⟨q0, -⟩, -⟩ := h.2.2.2.2.1 v h0 h1
  have o := fun i a b c d => reckonR_out r (v := v) (i := i) hb a b c d
  have e0 := o (6 + 7 * v + 0) (by omega) (by omega) (by omega) (by omega)
  have e1 := o (6 + 7 * v + 1) (by omega) (by omega) (by omega) (by omega)
  have e5 := o (6 + 7 * v + 5) (by omega) (by omega) (by omega) (by omega)
  have e6 := o (6 + 7 * v + 6) (by omega) (by omega) (by omega) (by omega)
  have es := o 5 (by omega) (by omega) (by omega) (by omega)
  have w5 : worksR (reckonR r v) v 5 ↔ worksR r v 5 := by unfold worksR strongR; rw [es, e1, e5]
  have w6 : worksR (reckonR r v) v 6 ↔ worksR r v 6 := by unfold worksR strongR; rw [es, e1, e6]
  unfold FrV
  rw [w5, w6, e0, e1, e5, e6]
  refine ⟨fun hk => ?_, fun hk => ?_, fun hk => ?_, fun hk => ?_, fun hk => ?_⟩
  · have er : reckonR r v = layR r v (1 - r (6 + 7 * v + 2)) (r (6 + 7 * v + 1)) := by unfold reckonR; rw [if_pos hk]
    have e2 : layR r v (1 - r (6 + 7 * v + 2)) (r (6 + 7 * v + 1)) (6 + 7 * v + 2) = r (6 + 7 * v + 2) := layR_out r (by omega) (by omega) (by omega)
    rw [er, e2, layR_3 _ _ _ (by omega), layR_4 _ _ _ (by omega)]
    refine ⟨fun a => ?_, fun a => ?_⟩
    · rw [if_pos (by omega), if_neg (by omega)]; exact ⟨rfl, rfl⟩
    · rw [if_pos (by omega), if_neg (by omega)]; exact ⟨rfl, rfl⟩
  · have er : reckonR r v = layR r v (if worksR r v 5 ∨ worksR r v 6 then 1 else 0) (r (6 + 7 * v + 1)) := by unfold reckonR; rw [if_neg (by omega), if_pos hk]
    rw [er]
    refine ⟨fun c => ?_, fun c => ?_⟩
    · rw [if_pos c, layR_3 _ _ _ (by omega), layR_4 _ _ _ (by omega)]; exact ⟨rfl, rfl⟩
    · rw [if_neg c, layR_3 _ _ _ (by omega), layR_4 _ _ _ (by omega)]; exact ⟨rfl, rfl⟩
  · by_cases c : worksR r v 5 ∧ ¬ worksR r v 6
    · have er : reckonR r v = layR (goesR r v 1) v 1 (r (6 + 7 * v + 1)) := by unfold reckonR; rw [if_neg (by omega), if_neg (by omega), if_pos hk, if_pos c]
      have e2 : layR (goesR r v 1) v 1 (r (6 + 7 * v + 1)) (6 + 7 * v + 2) = 1 := by rw [layR_out _ (by decide) (by omega) (by omega), goesR_2]
      rw [er, e2, layR_3 _ _ _ (by decide), layR_4 _ _ _ (by decide)]
      exact ⟨fun a => absurd a (by decide), fun _ => ⟨rfl, rfl⟩, fun _ _ => rfl, fun a => absurd c.1 a⟩
    · by_cases c2 : ¬ worksR r v 5 ∧ worksR r v 6
      · have er : reckonR r v = layR (goesR r v 0) v 0 (r (6 + 7 * v + 1)) := by unfold reckonR; rw [if_neg (by omega), if_neg (by omega), if_pos hk, if_neg c, if_pos c2]
        have e2 : layR (goesR r v 0) v 0 (r (6 + 7 * v + 1)) (6 + 7 * v + 2) = 0 := by rw [layR_out _ (by decide) (by omega) (by omega), goesR_2]
        rw [er, e2, layR_3 _ _ _ (by decide), layR_4 _ _ _ (by decide)]
        exact ⟨fun _ => ⟨rfl, rfl⟩, fun a => absurd a (by decide), fun a => absurd a c2.1, fun _ _ => rfl⟩
      · have er : reckonR r v = layR r v (r (6 + 7 * v + 2)) (r (6 + 7 * v + 1)) := by unfold reckonR; rw [if_neg (by omega), if_neg (by omega), if_pos hk, if_neg c, if_neg c2]
        have e2 : layR r v (r (6 + 7 * v + 2)) (r (6 + 7 * v + 1)) (6 + 7 * v + 2) = r (6 + 7 * v + 2) := layR_out r (by omega) (by omega) (by omega)
        rw [er, e2, layR_3 _ _ _ (by omega), layR_4 _ _ _ (by omega)]
        refine ⟨fun a => ?_, fun a => ?_, fun a b => absurd ⟨a, b⟩ c, fun a b => absurd ⟨a, b⟩ c2⟩
        · rw [if_pos (by omega), if_neg (by omega)]; exact ⟨rfl, rfl⟩
        · rw [if_pos (by omega), if_neg (by omega)]; exact ⟨rfl, rfl⟩
  · have er : reckonR r v = upr (layR r v 0 (if r (6 + 7 * v + 5) < r (6 + 7 * v + 6) then r (6 + 7 * v + 5) else r (6 + 7 * v + 6))) (6 + 7 * v + 3 + 1) (if r (6 + 7 * v + 5) = 0 ∨ r (6 + 7 * v + 6) = 0 then r (6 + 7 * v + 5) + r (6 + 7 * v + 6) else 0) := by
      unfold reckonR; rw [if_neg (by omega), if_neg (by omega), if_neg (by omega), if_pos hk]
    rw [er]
    refine ⟨?_, ?_⟩
    · rw [upr_ne _ _ (by omega), layR_3 _ _ _ (by decide), if_pos rfl]
    · rw [upr_if, if_pos (by omega)]
  · have er : reckonR r v = layR r v (if 5 ≤ r (6 + 7 * v + 5) ∨ 5 ≤ r (6 + 7 * v + 6) then 0 else 1) (r (6 + 7 * v + 1)) := by unfold reckonR; rw [if_neg (by omega), if_neg (by omega), if_neg (by omega), if_neg (by omega)]
    rw [er]
    refine ⟨fun c => ?_, fun c => ?_⟩
    · rw [if_pos c, layR_3 _ _ _ (by omega), layR_4 _ _ _ (by omega)]; exact ⟨rfl, rfl⟩
    · rw [if_neg c, layR_3 _ _ _ (by omega), layR_4 _ _ _ (by omega)]; exact ⟨rfl, rfl⟩
theorem reckAll_Fr {r : Int → Int} (h : Wf r) : ∀ n : Nat, (n : Int) ≤ r 0 → ∀ v, 0 ≤ v → v < (n : Int) → FrV (reckAll r n) v
  | 0, _, v, a, b => absurd b (by omega)
  | n + 1, hn, v, a, b => by
    obtain ⟨hw, ho⟩ := reckAll_Wf h n (by omega)
    have e0 : reckAll r n 0 = r 0 := ho 0 (by omega)
    show FrV (reckonR (reckAll r n) (n : Int)) v
    by_cases e : v = (n : Int)
    · rw [e]
      exact reckonR_Fr hw (by omega) (by omega)
    · have hb := (hw.2.2.2.2.1 (n : Int) (by omega) (by omega)).2.2.1
      refine (reckAll_Fr h n (by omega) v a (by omega)).cong (reckonR_out _ hb (by omega) (by omega) (by omega) (by omega)) (fun k k0 k1 => reckonR_out _ hb (by omega) (by omega) (by omega) (by omega))
theorem tickR_Fr {r : Int → Int} (h : Wf r) : ∀ v, 0 ≤ v → v < r 0 → FrV (tickR r) v := by
  intro v a b
  have h0 := h.1
  have h1 := h.2.1
  have hs := Wf_scal h (i := 2) (bmz (r 2 + 1)) (Or.inl rfl)
  obtain ⟨hp, hpo⟩ := pushAllR_Wf hs
  have e0 : pushAllR (upr r 2 (bmz (r 2 + 1))) 0 = r 0 := (hpo 0 (by unfold isP; omega)).trans (upr_ne _ _ (by decide))
  have e1 : pushAllR (upr r 2 (bmz (r 2 + 1))) 1 = r 1 := (hpo 1 (by unfold isP; omega)).trans (upr_ne _ _ (by decide))
  have hf : FrV (tick2R r) v := reckAll_Fr hp (r 0).toNat (by omega) v a (by omega)
  obtain ⟨ht, hto⟩ := tick2R_Wf h
  have e1' : tick2R r 1 = r 1 := hto 1 (by omega)
  have ho := (enterAll_Wf ht (r 1).toNat (by omega)).2
  exact hf.cong (ho 5 (by omega)) (fun k k0 k1 => ho _ (by omega))
theorem FrV.ab {r : Int → Int} {v : Int} (h : FrV r v) (hw : WfV r v) : AbV r v := by
  obtain ⟨⟨k0, k4⟩, -, hb, -, -, ⟨p0, -⟩, ⟨q0, -⟩, -⟩ := hw
  obtain ⟨f0, f1, f2, f3, f4⟩ := h
  unfold AbV
  rcases (show r (6 + 7 * v + 0) = 0 ∨ r (6 + 7 * v + 0) = 1 ∨ r (6 + 7 * v + 0) = 2 ∨ r (6 + 7 * v + 0) = 3 ∨ r (6 + 7 * v + 0) = 4 by omega) with e | e | e | e | e
  · have := f0 e
    omega
  · obtain ⟨g1, g2⟩ := f1 e
    by_cases c : worksR r v 5 ∨ worksR r v 6
    · exact Or.inl (g1 c).2
    · exact Or.inr (g2 c).2
  · obtain ⟨g1, g2, -, -⟩ := f2 e
    omega
  · obtain ⟨g1, g2⟩ := f3 e
    rw [g1, g2]
    split <;> split <;> omega
  · have := f4 e
    omega
/-! sums over the valves; the duct with least to spare -/
def sumC (n : Int → Int) (e : Int) (m : Nat) : Nat → Int
  | 0 => 0
  | k + 1 => sumC n e m k + cntR n (k : Int) e m
theorem sumC_0 (n : Int → Int) (e : Int) : ∀ k : Nat, sumC n e 0 k = 0
  | 0 => rfl
  | k + 1 => by rw [sumC, sumC_0 n e k]; rfl
theorem sumC_s (n : Int → Int) (e : Int) (m : Nat) : ∀ k : Nat, sumC n e (m + 1) k = sumC n e m k + (if 0 ≤ n (76 + 12 * (m : Int) + e) ∧ n (76 + 12 * (m : Int) + e) < (k : Int) then 1 else 0)
  | 0 => by rw [sumC, sumC, if_neg (by omega)]; rfl
  | k + 1 => by
    rw [sumC, sumC, sumC_s n e m k, cntR]
    by_cases a : n (76 + 12 * (m : Int) + e) = (k : Int)
    · rw [if_neg (by omega), if_pos a, if_pos (by omega)]; omega
    · by_cases b : 0 ≤ n (76 + 12 * (m : Int) + e) ∧ n (76 + 12 * (m : Int) + e) < (k : Int)
      · rw [if_pos b, if_neg a, if_pos (by omega)]; omega
      · rw [if_neg b, if_neg a, if_neg (by omega)]; omega
theorem sumC_all {n : Int → Int} (e : Int) (he : e = 0 ∨ e = 2) (h : Wf n) : ∀ m : Nat, (m : Int) ≤ n 1 → sumC n e m (n 0).toNat = (m : Int)
  | 0, _ => sumC_0 n e _
  | m + 1, hm => by
    have h0 := h.1
    obtain ⟨q0, -, q2, -⟩ := h.2.2.2.2.2 (m : Int) (by omega) (by omega)
    rw [sumC_s, sumC_all e he h m (by omega)]
    rw [if_pos (by rcases he with rfl | rfl <;> omega)]
    omega
theorem tight_b (n : Int → Int) : ∀ (f : Nat) (e b l : Int), 0 ≤ e → (b = -1 ∨ (0 ≤ b ∧ b < e ∧ 0 < hasR n b)) → tightL n f e b l = -1 ∨ (0 ≤ tightL n f e b l ∧ tightL n f e b l < e + (f : Int) ∧ 0 < hasR n (tightL n f e b l))
  | 0, e, b, l, _, h => by
    unfold tightL
    omega
  | f + 1, e, b, l, he, h => by
    unfold tightL
    split
    · rename_i c
      have := tight_b n f (e + 1) e (spareR n e) (by omega) (Or.inr ⟨he, by omega, c.1⟩)
      omega
    · have := tight_b n f (e + 1) b l (by omega) (by omega)
      omega
