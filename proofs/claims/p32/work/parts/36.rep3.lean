theorem Rep.l0 {α : St} {r : Int → Int} (h : Rep α r) {v : Int} (hv : 0 ≤ v ∧ v < r 0) : α 5 (2 * v + 0) = r (6 + 7 * v + 3) := (h.2.2.1 v 0 hv.1 hv.2 (by decide) (by decide)).1
theorem Rep.l1 {α : St} {r : Int → Int} (h : Rep α r) {v : Int} (hv : 0 ≤ v ∧ v < r 0) : α 5 (2 * v + 0 + 1) = r (6 + 7 * v + 4) := by
  rw [show 2 * v + 0 + 1 = 2 * v + 1 by omega]
  exact (h.2.2.1 v 1 hv.1 hv.2 (by decide) (by decide)).1
theorem Rep.p0 {α : St} {r : Int → Int} (h : Rep α r) {v : Int} (hv : 0 ≤ v ∧ v < r 0) : α 6 (2 * v + 0) = r (6 + 7 * v + 5) := (h.2.2.1 v 0 hv.1 hv.2 (by decide) (by decide)).2
theorem Rep.p1 {α : St} {r : Int → Int} (h : Rep α r) {v : Int} (hv : 0 ≤ v ∧ v < r 0) : α 6 (2 * v + 1) = r (6 + 7 * v + 6) := (h.2.2.1 v 1 hv.1 hv.2 (by decide) (by decide)).2
theorem LDf_rep {α : St} {r r' : Int → Int} (h : Rep α r) {v x y : Int} (hv : 0 ≤ v ∧ v < r 0) (hx : r' (6 + 7 * v + 3) = x) (hy : r' (6 + 7 * v + 4) = y) : LDf r r' v ↔ ¬ (α 5 (2 * v + 0) = x ∧ α 5 (2 * v + 0 + 1) = y) := by
  unfold LDf
  rw [h.l0 hv, h.l1 hv, hx, hy]
  exact not_congr ⟨fun q => ⟨q.1.symm, q.2.symm⟩, fun q => ⟨q.1.symm, q.2.symm⟩⟩
theorem Rep.lay2 {α : St} {r r' : Int → Int} (h : Rep α r) {v x y : Int} (hv : 0 ≤ v ∧ v < r 0) (hn : r 0 ≤ 10) (hx : r' (6 + 7 * v + 3) = x) (hy : r' (6 + 7 * v + 4) = y) (hr : ∀ i, i ≠ 6 + 7 * v + 3 → i ≠ 6 + 7 * v + 4 → r' i = r i) : Rep (setc α 5 (upr (upr (α 5) (2 * v + 0) x) (2 * v + 0 + 1) y)) r' := by
  refine h.lay (g := 0) (p := 0) hv hn hx hy hr (fun j => ?_)
  rw [upr_if, upr_if]
  by_cases a : j = 2 * v
  · rw [if_neg (by omega), if_pos (by omega), if_pos a]
  · by_cases b : j = 2 * v + 1
    · rw [if_pos (by omega), if_neg a, if_pos b]
    · rw [if_neg (by omega), if_neg (by omega), if_neg a, if_neg b]
theorem Rep.goes {α : St} {r : Int → Int} (h : Rep α r) {v g : Int} (hv : 0 ≤ v ∧ v < r 0) (hn : r 0 ≤ 10) (hs : r (6 + 7 * v + 2) ≠ g) : Rep (setc (setc α 4 (upr (α 4) v g)) 0 (upr (α 0) 1 (bmz (α 0 1 + 1)))) (goesR r v g) := by
  have q := (h.sid (z := g) hv hn).ovr (bmz (α 0 1 + 1))
  have e : goesR r v g = upr (upr r (6 + 7 * v + 2) g) 3 (bmz (α 0 1 + 1)) := by
    funext i
    unfold goesR
    rw [if_neg hs, h.1.2.1, upr_if, upr_if, upr_if, upr_if]
    split
    · split
      · omega
      · rfl
    · rfl
  rw [e]
  exact q
theorem wallR_out (r : Int → Int) {v i : Int} (h3 : i ≠ 3) (h2 : i ≠ 6 + 7 * v + 2) : wallR r v i = r i := by
  unfold wallR
  split
  · exact goesR_out _ h3 h2
  · split
    · exact goesR_out _ h3 h2
    · rfl
theorem wallR_si {r : Int → Int} {v : Int} (hs : 0 ≤ r (6 + 7 * v + 2) ∧ r (6 + 7 * v + 2) ≤ 1) : 0 ≤ wallR r v (6 + 7 * v + 2) ∧ wallR r v (6 + 7 * v + 2) ≤ 1 := by
  unfold wallR
  split
  · rw [goesR_2]; decide
  · split
    · rw [goesR_2]; decide
    · exact hs
theorem LDf_wall {r q : Int → Int} {v : Int} (hv : 0 ≤ v) : LDf (wallR r v) q v ↔ LDf r q v := by
  unfold LDf
  rw [wallR_out r (i := 6 + 7 * v + 3) (by omega) (by omega), wallR_out r (i := 6 + 7 * v + 4) (by omega) (by omega)]
