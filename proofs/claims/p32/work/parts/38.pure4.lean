/-! moving air, and what arrives at pushes, place by place -/
def airI (α : St) (r : Int → Int) (e : Int) (f : Int → Int) (i : Nat) (ch : Int) : Prop :=
  (∀ k, 0 ≤ k → k < 6 → f (6 * e + k) = if k < (i : Int) then enterR r e (76 + 12 * e + (6 + k)) else r (76 + 12 * e + (6 + k))) ∧ (∀ j, j < 6 * e ∨ 6 * e + 6 ≤ j → f j = α 11 j) ∧
  ((ch = 1 ∧ ∃ k, 0 ≤ k ∧ k < (i : Int) ∧ enterR r e (76 + 12 * e + (6 + k)) ≠ r (76 + 12 * e + (6 + k))) ∨ (ch = 0 ∧ ¬ ∃ k, 0 ≤ k ∧ k < (i : Int) ∧ enterR r e (76 + 12 * e + (6 + k)) ≠ r (76 + 12 * e + (6 + k))))
theorem airI_0 {α : St} {r : Int → Int} (h : Rep α r) {e : Int} (he : 0 ≤ e ∧ e < r 1) : airI α r e (α 11) 0 0 := by
  refine ⟨fun k a b => ?_, fun j _ => rfl, Or.inr ⟨rfl, ?_⟩⟩
  · rw [if_neg (by omega)]; exact h.2.2.2.2 e k he.1 he.2 a b
  · rintro ⟨k, a, b, -⟩; omega
theorem airI_eq {α : St} {r : Int → Int} {e : Int} {f : Int → Int} {i : Nat} {ch : Int} (h : airI α r e f i ch) (hq : enterR r e (76 + 12 * e + (6 + (i : Int))) = r (76 + 12 * e + (6 + (i : Int)))) : airI α r e f (i + 1) ch := by
  obtain ⟨h1, h2, h3⟩ := h
  have key : (∃ k, 0 ≤ k ∧ k < ((i + 1 : Nat) : Int) ∧ enterR r e (76 + 12 * e + (6 + k)) ≠ r (76 + 12 * e + (6 + k))) ↔ ∃ k, 0 ≤ k ∧ k < (i : Int) ∧ enterR r e (76 + 12 * e + (6 + k)) ≠ r (76 + 12 * e + (6 + k)) := by
    constructor
    · rintro ⟨k, a, b, c⟩
      by_cases x : k = (i : Int)
      · subst x; exact absurd hq c
      · exact ⟨k, a, by omega, c⟩
    · rintro ⟨k, a, b, c⟩; exact ⟨k, a, by omega, c⟩
  refine ⟨fun k a b => ?_, h2, ?_⟩
  · rw [h1 k a b]
    by_cases x : k = (i : Int)
    · subst x; rw [if_neg (by omega), if_pos (by omega), hq]
    · by_cases y : k < (i : Int)
      · rw [if_pos y, if_pos (by omega)]
      · rw [if_neg y, if_neg (by omega)]
  · rw [key]; exact h3
theorem airI_ne {α : St} {r : Int → Int} {e : Int} {f : Int → Int} {i : Nat} {ch : Int} (h : airI α r e f i ch) (hi : i < 6) (hq : enterR r e (76 + 12 * e + (6 + (i : Int))) ≠ r (76 + 12 * e + (6 + (i : Int)))) : airI α r e (upr f (6 * e + (i : Int)) (enterR r e (76 + 12 * e + (6 + (i : Int))))) (i + 1) 1 := by
  obtain ⟨h1, h2, -⟩ := h
  refine ⟨fun k a b => ?_, fun j hj => ?_, Or.inl ⟨rfl, i, by omega, by omega, hq⟩⟩
  · by_cases x : k = (i : Int)
    · subst x; rw [upr_at, if_pos (by omega)]
    · rw [upr_ne _ _ (by omega), h1 k a b]
      by_cases y : k < (i : Int)
      · rw [if_pos y, if_pos (by omega)]
      · rw [if_neg y, if_neg (by omega)]
  · rw [upr_ne _ _ (by omega)]; exact h2 j hj
theorem airI_end {α : St} {r : Int → Int} (h : Rep α r) {e : Int} (he : 0 ≤ e ∧ e < r 1) (hn : r 0 ≤ 10) {f : Int → Int} {i : Nat} {ch : Int} (hl : 1 ≤ r (76 + 12 * e + 4)) (hl6 : r (76 + 12 * e + 4) ≤ 6) (hi : (i : Int) = r (76 + 12 * e + 4)) (hI : airI α r e f i ch) : Rep (setc α 11 f) (enterR r e) ∧ (ch = 1 ∧ ADf r (enterR r e) e ∨ ch = 0 ∧ ¬ ADf r (enterR r e) e) := by
  obtain ⟨h1, h2, h3⟩ := hI
  have key : ADf r (enterR r e) e ↔ ∃ k, 0 ≤ k ∧ k < (i : Int) ∧ enterR r e (76 + 12 * e + (6 + k)) ≠ r (76 + 12 * e + (6 + k)) := by
    constructor
    · rintro ⟨k, a, b, c⟩
      by_cases x : k < (i : Int)
      · exact ⟨k, a, x, c⟩
      · exact absurd (enterR_out hl (by omega)) c
    · rintro ⟨k, a, b, c⟩; exact ⟨k, a, by omega, c⟩
  refine ⟨h.air he (fun j hj => enterR_out hl (by omega)) hn (fun k a b => ?_) h2, by rw [key]; exact h3⟩
  rw [h1 k a b]
  by_cases x : k < (i : Int)
  · rw [if_pos x]
  · rw [if_neg x, enterR_out hl (by omega)]
theorem push_step {r w f : Int → Int} {d : Nat} (h : Wf r) (hd : (d : Int) < r 1) (hw : ∀ i, ¬ isP i → w i = r i) (hf : ∀ v g, 0 ≤ v → v < r 0 → 0 ≤ g → g ≤ 1 → f (2 * v + g) = w (6 + 7 * v + (5 + g))) {x : Int} (hx : x = 2 * r (76 + 12 * (d : Int) + 2) + r (76 + 12 * (d : Int) + 3)) :
    ∀ v g, 0 ≤ v → v < r 0 → 0 ≤ g → g ≤ 1 → upr f x (if f x < outR r d then outR r d else f x) (2 * v + g) = pushR w d (6 + 7 * v + (5 + g)) := by
  intro v g a b c e
  have hn := h.1
  obtain ⟨-, -, q2, q3, -⟩ := h.2.2.2.2.2 (d : Int) (by omega) hd
  have e2 : w (76 + 12 * (d : Int) + 2) = r (76 + 12 * (d : Int) + 2) := hw _ (by unfold isP; omega)
  have e3 : w (76 + 12 * (d : Int) + 3) = r (76 + 12 * (d : Int) + 3) := hw _ (by unfold isP; omega)
  have eo : outR w d = outR r d := outR_cong (hw _ (by unfold isP; omega)) (hw _ (by unfold isP; omega)) (hw _ (by unfold isP; omega)) (hw _ (by unfold isP; omega))
  have ef : f x = w (6 + 7 * r (76 + 12 * (d : Int) + 2) + 5 + r (76 + 12 * (d : Int) + 3)) := by
    rw [hx, hf _ _ q2.1 q2.2 q3.1 q3.2]
    exact congrArg w (by omega)
  unfold pushR
  rw [e2, e3, eo, ← ef]
  by_cases z : 2 * v + g = x
  · rw [z, upr_at, show 6 + 7 * v + (5 + g) = 6 + 7 * r (76 + 12 * (d : Int) + 2) + 5 + r (76 + 12 * (d : Int) + 3) by omega, upr_at]
  · rw [upr_ne _ _ z, upr_ne _ _ (by omega)]
    exact hf v g a b c e
def pshI (α : St) (g f : Int → Int) (e : Nat) (ch : Int) : Prop :=
  (∀ j : Int, 0 ≤ j → f j = if j < (e : Int) then g j else α 6 j) ∧ ((ch = 1 ∧ ∃ j : Int, 0 ≤ j ∧ j < (e : Int) ∧ g j ≠ α 6 j) ∨ (ch = 0 ∧ ¬ ∃ j : Int, 0 ≤ j ∧ j < (e : Int) ∧ g j ≠ α 6 j))
theorem pshI_0 (α : St) (g : Int → Int) : pshI α g (α 6) 0 0 := ⟨fun j a => by rw [if_neg (by omega)], Or.inr ⟨rfl, by rintro ⟨j, a, b, -⟩; omega⟩⟩
theorem pshI_eq {α : St} {g f : Int → Int} {e : Nat} {ch : Int} (h : pshI α g f e ch) (hq : α 6 (e : Int) = g (e : Int)) : pshI α g f (e + 1) ch := by
  obtain ⟨h1, h3⟩ := h
  have key : (∃ j : Int, 0 ≤ j ∧ j < ((e + 1 : Nat) : Int) ∧ g j ≠ α 6 j) ↔ ∃ j : Int, 0 ≤ j ∧ j < (e : Int) ∧ g j ≠ α 6 j := by
    constructor
    · rintro ⟨k, a, b, c⟩
      by_cases x : k = (e : Int)
      · subst x; exact absurd hq.symm c
      · exact ⟨k, a, by omega, c⟩
    · rintro ⟨k, a, b, c⟩; exact ⟨k, a, by omega, c⟩
  refine ⟨fun k a => ?_, by rw [key]; exact h3⟩
  rw [h1 k a]
  by_cases x : k = (e : Int)
  · subst x; rw [if_neg (by omega), if_pos (by omega), hq]
  · by_cases y : k < (e : Int)
    · rw [if_pos y, if_pos (by omega)]
    · rw [if_neg y, if_neg (by omega)]
theorem pshI_ne {α : St} {g f : Int → Int} {e : Nat} {ch : Int} (h : pshI α g f e ch) (hq : α 6 (e : Int) ≠ g (e : Int)) : pshI α g (upr f (e : Int) (g (e : Int))) (e + 1) 1 := by
  obtain ⟨h1, -⟩ := h
  refine ⟨fun k a => ?_, Or.inl ⟨rfl, (e : Int), by omega, by omega, fun z => hq z.symm⟩⟩
  by_cases x : k = (e : Int)
  · subst x; rw [upr_at, if_pos (by omega)]
  · rw [upr_ne _ _ x, h1 k a]
    by_cases y : k < (e : Int)
    · rw [if_pos y, if_pos (by omega)]
    · rw [if_neg y, if_neg (by omega)]
theorem pshI_end {α : St} {r g f : Int → Int} (hR : Rep α r) (h : Wf r) {e : Nat} {ch : Int} (he : (e : Int) = 2 * r 0) (hg : ∀ v q, 0 ≤ v → v < r 0 → 0 ≤ q → q ≤ 1 → g (2 * v + q) = pushAllR r (6 + 7 * v + (5 + q))) (hI : pshI α g f e ch) : Rep (setc (setc α 12 g) 6 f) (pushAllR r) ∧ (ch = 1 ∧ PDf r (pushAllR r) ∨ ch = 0 ∧ ¬ PDf r (pushAllR r)) := by
  obtain ⟨h1, h3⟩ := hI
  have key : PDf r (pushAllR r) ↔ ∃ j : Int, 0 ≤ j ∧ j < (e : Int) ∧ g j ≠ α 6 j := by
    constructor
    · rintro ⟨v, q, a, b, c⟩
      refine ⟨2 * v + q, by omega, by omega, ?_⟩
      rw [hg v q a.1 a.2 b.1 b.2, (hR.2.2.1 v q a.1 a.2 b.1 b.2).2]
      exact c
    · rintro ⟨j, a, b, c⟩
      refine ⟨j / 2, j % 2, by omega, by omega, ?_⟩
      rw [← hg (j / 2) (j % 2) (by omega) (by omega) (by omega) (by omega), ← (hR.2.2.1 (j / 2) (j % 2) (by omega) (by omega) (by omega) (by omega)).2, show 2 * (j / 2) + j % 2 = j by omega]
      exact c
  refine ⟨(hR.arr g).psh h.1.2 (pushAllR_Wf h).2 (fun v q a b c d => ?_), by rw [key]; exact h3⟩
  rw [h1 _ (by omega), if_pos (by omega)]
  exact hg v q a b c d
