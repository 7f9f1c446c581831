/-! a net of the class, and the row that it is -/
section VA
variable {γ : Gm} {φ : Fx} {own : String} {cc : ByteArray} {nL lev a b : Nat} {Q : State → Prop} {σ α : St} {pc : Nat} {lv lv2 : List (Nat × Value)} {st : List Value}
theorem v_alen (C : Cx γ φ own cc nL lev) {c0 n : Nat} (hs : sh c0 = (0, n)) (d : decode cc pc = .ok (.arraylength, 1)) (k : Vw γ φ nL a b Q σ (pc + 1) lv (.int (iI (n : Int)) :: st)) : Vw γ φ nL a b Q σ pc lv (.ref (bs γ + c0) :: st) := fun H locs ls hW hS hl => by
  have he := wl_get γ σ (sh_lt (c := c0) (by rw [hs]; simp))
  rw [hs] at he
  exact va_alen C.2.1 C.2.2.1 C.K hW.1 c0 0 he rfl (v := iI (n : Int)) Int32.ofInt_eq_ofNat.symm d (k H locs ls hW hS hl)
end VA
def flr (r : Int → Int) (lo hi z : Int) : Int → Int := fun j => if lo ≤ j ∧ j < hi then z else r j
def Rep (α : St) (r : Int → Int) : Prop :=
  (α 0 0 = r 2 ∧ α 0 1 = r 3 ∧ α 0 2 = r 0 ∧ α 0 3 = r 1 ∧ α 1 0 = r 4 ∧ α 1 1 = r 5) ∧
  (∀ v, 0 ≤ v → v < r 0 → α 2 v = r (6 + 7 * v + 0) ∧ α 3 v = r (6 + 7 * v + 1) ∧ α 4 v = r (6 + 7 * v + 2)) ∧
  (∀ v g, 0 ≤ v → v < r 0 → 0 ≤ g → g ≤ 1 → α 5 (2 * v + g) = r (6 + 7 * v + (3 + g)) ∧ α 6 (2 * v + g) = r (6 + 7 * v + (5 + g))) ∧
  (∀ d, 0 ≤ d → d < r 1 → α 7 d = 2 * r (76 + 12 * d + 0) + r (76 + 12 * d + 1) ∧ α 8 d = 2 * r (76 + 12 * d + 2) + r (76 + 12 * d + 3) ∧ α 9 d = r (76 + 12 * d + 4) ∧ α 10 d = r (76 + 12 * d + 5)) ∧
  (∀ d k, 0 ≤ d → d < r 1 → 0 ≤ k → k < 6 → α 11 (6 * d + k) = r (76 + 12 * d + (6 + k)))
theorem Rep.nv {α : St} {r : Int → Int} (h : Rep α r) : α 0 2 = r 0 := h.1.2.2.1
theorem Rep.nd {α : St} {r : Int → Int} (h : Rep α r) : α 0 3 = r 1 := h.1.2.2.2.1
theorem Rep.nl {α : St} {r : Int → Int} (h : Rep α r) : α 1 0 = r 4 := h.1.2.2.2.2.1
theorem Rep.ns {α : St} {r : Int → Int} (h : Rep α r) : α 1 1 = r 5 := h.1.2.2.2.2.2
/-- what Rep looks at -/
theorem Rep.upd {α α' : St} {r r' : Int → Int} (h : Rep α r) (e0 : r' 0 = r 0) (e1 : r' 1 = r 1)
    (h1 : α' 0 0 = r' 2 ∧ α' 0 1 = r' 3 ∧ α' 0 2 = α 0 2 ∧ α' 0 3 = α 0 3 ∧ α' 1 0 = r' 4 ∧ α' 1 1 = r' 5)
    (h2 : ∀ v, 0 ≤ v → v < r 0 → α' 2 v = r' (6 + 7 * v + 0) ∧ α' 3 v = r' (6 + 7 * v + 1) ∧ α' 4 v = r' (6 + 7 * v + 2))
    (h3 : ∀ v g, 0 ≤ v → v < r 0 → 0 ≤ g → g ≤ 1 → α' 5 (2 * v + g) = r' (6 + 7 * v + (3 + g)) ∧ α' 6 (2 * v + g) = r' (6 + 7 * v + (5 + g)))
    (h4 : ∀ d, 0 ≤ d → d < r 1 → α' 7 d = 2 * r' (76 + 12 * d + 0) + r' (76 + 12 * d + 1) ∧ α' 8 d = 2 * r' (76 + 12 * d + 2) + r' (76 + 12 * d + 3) ∧ α' 9 d = r' (76 + 12 * d + 4) ∧ α' 10 d = r' (76 + 12 * d + 5))
    (h5 : ∀ d k, 0 ≤ d → d < r 1 → 0 ≤ k → k < 6 → α' 11 (6 * d + k) = r' (76 + 12 * d + (6 + k))) : Rep α' r' := by
  unfold Rep
  rw [e0, e1]
  exact ⟨⟨h1.1, h1.2.1, h1.2.2.1.trans h.nv, h1.2.2.2.1.trans h.nd, h1.2.2.2.2.1, h1.2.2.2.2.2⟩, h2, h3, h4, h5⟩
theorem Rep.arr {α : St} {r : Int → Int} (h : Rep α r) (f : Int → Int) : Rep (setc α 12 f) r := h
theorem Rep.tim {α : St} {r : Int → Int} (h : Rep α r) (z : Int) : Rep (setc α 0 (upr (α 0) 0 z)) (upr r 2 z) := by
  obtain ⟨⟨a1, a2, a3, a4, a5, a6⟩, g2, g3, g4, g5⟩ := h
  refine ⟨⟨rfl, a2, a3, a4, a5, a6⟩, fun v b1 b2 => ?_, fun v g b1 b2 b3 b4 => ?_, fun d b1 b2 => ?_, fun d k b1 b2 b3 b4 => ?_⟩
  · rw [upr_ne _ _ (by omega), upr_ne _ _ (by omega), upr_ne _ _ (by omega)]; exact g2 v b1 b2
  · rw [upr_ne _ _ (by omega), upr_ne _ _ (by omega)]; exact g3 v g b1 b2 b3 b4
  · rw [upr_ne _ _ (by omega), upr_ne _ _ (by omega), upr_ne _ _ (by omega), upr_ne _ _ (by omega), upr_ne _ _ (by omega), upr_ne _ _ (by omega)]; exact g4 d b1 b2
  · rw [upr_ne _ _ (by omega)]; exact g5 d k b1 b2 b3 b4
theorem Rep.ovr {α : St} {r : Int → Int} (h : Rep α r) (z : Int) : Rep (setc α 0 (upr (α 0) 1 z)) (upr r 3 z) := by
  obtain ⟨⟨a1, a2, a3, a4, a5, a6⟩, g2, g3, g4, g5⟩ := h
  refine ⟨⟨a1, rfl, a3, a4, a5, a6⟩, fun v b1 b2 => ?_, fun v g b1 b2 b3 b4 => ?_, fun d b1 b2 => ?_, fun d k b1 b2 b3 b4 => ?_⟩
  · rw [upr_ne _ _ (by omega), upr_ne _ _ (by omega), upr_ne _ _ (by omega)]; exact g2 v b1 b2
  · rw [upr_ne _ _ (by omega), upr_ne _ _ (by omega)]; exact g3 v g b1 b2 b3 b4
  · rw [upr_ne _ _ (by omega), upr_ne _ _ (by omega), upr_ne _ _ (by omega), upr_ne _ _ (by omega), upr_ne _ _ (by omega), upr_ne _ _ (by omega)]; exact g4 d b1 b2
  · rw [upr_ne _ _ (by omega)]; exact g5 d k b1 b2 b3 b4
theorem Rep.sid {α : St} {r : Int → Int} (h : Rep α r) {v z : Int} (hv : 0 ≤ v ∧ v < r 0) (hn : r 0 ≤ 10) : Rep (setc α 4 (upr (α 4) v z)) (upr r (6 + 7 * v + 2) z) := by
  obtain ⟨⟨a1, a2, a3, a4, a5, a6⟩, g2, g3, g4, g5⟩ := h
  have q : ∀ i, i ≠ 6 + 7 * v + 2 → upr r (6 + 7 * v + 2) z i = r i := fun i hi => upr_ne _ _ hi
  unfold Rep
  rw [q 0 (by omega), q 1 (by omega), q 2 (by omega), q 3 (by omega), q 4 (by omega), q 5 (by omega)]
  refine ⟨⟨a1, a2, a3, a4, a5, a6⟩, fun w b1 b2 => ?_, fun w g b1 b2 b3 b4 => ?_, fun d b1 b2 => ?_, fun d k b1 b2 b3 b4 => ?_⟩
  · rw [q _ (by omega), q (6 + 7 * w + 1) (by omega)]
    refine ⟨(g2 w b1 b2).1, (g2 w b1 b2).2.1, ?_⟩
    show upr (α 4) v z w = _
    by_cases e : w = v
    · subst e; rw [upr_at, upr_at]
    · rw [upr_ne _ _ e, q _ (by omega)]; exact (g2 w b1 b2).2.2
  · rw [q _ (by omega), q (6 + 7 * w + (5 + g)) (by omega)]; exact g3 w g b1 b2 b3 b4
  · rw [q _ (by omega), q (76 + 12 * d + 1) (by omega), q (76 + 12 * d + 2) (by omega), q (76 + 12 * d + 3) (by omega), q (76 + 12 * d + 4) (by omega), q (76 + 12 * d + 5) (by omega)]; exact g4 d b1 b2
  · rw [q _ (by omega)]; exact g5 d k b1 b2 b3 b4
theorem Rep.sup {α : St} {r : Int → Int} (h : Rep α r) {v z : Int} (hv : 0 ≤ v ∧ v < r 0) (hn : r 0 ≤ 10) : Rep (setc α 3 (upr (α 3) v z)) (upr r (6 + 7 * v + 1) z) := by
  obtain ⟨⟨a1, a2, a3, a4, a5, a6⟩, g2, g3, g4, g5⟩ := h
  have q : ∀ i, i ≠ 6 + 7 * v + 1 → upr r (6 + 7 * v + 1) z i = r i := fun i hi => upr_ne _ _ hi
  unfold Rep
  rw [q 0 (by omega), q 1 (by omega), q 2 (by omega), q 3 (by omega), q 4 (by omega), q 5 (by omega)]
  refine ⟨⟨a1, a2, a3, a4, a5, a6⟩, fun w b1 b2 => ?_, fun w g b1 b2 b3 b4 => ?_, fun d b1 b2 => ?_, fun d k b1 b2 b3 b4 => ?_⟩
  · rw [q _ (by omega), q (6 + 7 * w + 2) (by omega)]
    refine ⟨(g2 w b1 b2).1, ?_, (g2 w b1 b2).2.2⟩
    show upr (α 3) v z w = _
    by_cases e : w = v
    · subst e; rw [upr_at, upr_at]
    · rw [upr_ne _ _ e, q _ (by omega)]; exact (g2 w b1 b2).2.1
  · rw [q _ (by omega), q (6 + 7 * w + (5 + g)) (by omega)]; exact g3 w g b1 b2 b3 b4
  · rw [q _ (by omega), q (76 + 12 * d + 1) (by omega), q (76 + 12 * d + 2) (by omega), q (76 + 12 * d + 3) (by omega), q (76 + 12 * d + 4) (by omega), q (76 + 12 * d + 5) (by omega)]; exact g4 d b1 b2
  · rw [q _ (by omega)]; exact g5 d k b1 b2 b3 b4
theorem Rep.lek {α : St} {r : Int → Int} (h : Rep α r) {e z : Int} (he : 0 ≤ e ∧ e < r 1) (hn : r 0 ≤ 10) : Rep (setc α 10 (upr (α 10) e z)) (upr r (76 + 12 * e + 5) z) := by
  obtain ⟨⟨a1, a2, a3, a4, a5, a6⟩, g2, g3, g4, g5⟩ := h
  have q : ∀ i, i ≠ 76 + 12 * e + 5 → upr r (76 + 12 * e + 5) z i = r i := fun i hi => upr_ne _ _ hi
  unfold Rep
  rw [q 0 (by omega), q 1 (by omega), q 2 (by omega), q 3 (by omega), q 4 (by omega), q 5 (by omega)]
  refine ⟨⟨a1, a2, a3, a4, a5, a6⟩, fun w b1 b2 => ?_, fun w g b1 b2 b3 b4 => ?_, fun d b1 b2 => ?_, fun d k b1 b2 b3 b4 => ?_⟩
  · rw [q _ (by omega), q (6 + 7 * w + 1) (by omega), q (6 + 7 * w + 2) (by omega)]; exact g2 w b1 b2
  · rw [q _ (by omega), q (6 + 7 * w + (5 + g)) (by omega)]; exact g3 w g b1 b2 b3 b4
  · rw [q _ (by omega), q (76 + 12 * d + 1) (by omega), q (76 + 12 * d + 2) (by omega), q (76 + 12 * d + 3) (by omega), q (76 + 12 * d + 4) (by omega)]
    refine ⟨(g4 d b1 b2).1, (g4 d b1 b2).2.1, (g4 d b1 b2).2.2.1, ?_⟩
    show upr (α 10) e z d = _
    by_cases x : d = e
    · subst x; rw [upr_at, upr_at]
    · rw [upr_ne _ _ x, q _ (by omega)]; exact (g4 d b1 b2).2.2.2
  · rw [q _ (by omega)]; exact g5 d k b1 b2 b3 b4
theorem Rep.stg {α : St} {r : Int → Int} (h : Rep α r) {w z : Int} (hw : w = 0 ∨ w = 1) : Rep (setc α 1 (upr (α 1) w z)) (upr r (4 + w) z) := by
  obtain ⟨⟨a1, a2, a3, a4, a5, a6⟩, g2, g3, g4, g5⟩ := h
  have q : ∀ i, i ≠ 4 + w → upr r (4 + w) z i = r i := fun i hi => upr_ne _ _ hi
  unfold Rep
  rw [q 0 (by omega), q 1 (by omega), q 2 (by omega), q 3 (by omega)]
  refine ⟨⟨a1, a2, a3, a4, ?_, ?_⟩, fun w b1 b2 => ?_, fun w g b1 b2 b3 b4 => ?_, fun d b1 b2 => ?_, fun d k b1 b2 b3 b4 => ?_⟩
  · show upr (α 1) w z 0 = _
    rcases hw with rfl | rfl
    · rfl
    · rw [upr_ne _ _ (by omega), q _ (by omega)]; exact a5
  · show upr (α 1) w z 1 = _
    rcases hw with rfl | rfl
    · rw [upr_ne _ _ (by omega), q _ (by omega)]; exact a6
    · rfl
  · rw [q _ (by omega), q (6 + 7 * w + 1) (by omega), q (6 + 7 * w + 2) (by omega)]; exact g2 w b1 b2
  · rw [q _ (by omega), q (6 + 7 * w + (5 + g)) (by omega)]; exact g3 w g b1 b2 b3 b4
  · rw [q _ (by omega), q (76 + 12 * d + 1) (by omega), q (76 + 12 * d + 2) (by omega), q (76 + 12 * d + 3) (by omega), q (76 + 12 * d + 4) (by omega), q (76 + 12 * d + 5) (by omega)]; exact g4 d b1 b2
  · rw [q _ (by omega)]; exact g5 d k b1 b2 b3 b4
/-- both legs of a valve -/
theorem Rep.lay {α : St} {r : Int → Int} (h : Rep α r) {v g p x y : Int} (hv : 0 ≤ v ∧ v < r 0) (hn : r 0 ≤ 10) {r' : Int → Int} (hx : r' (6 + 7 * v + 3) = x) (hy : r' (6 + 7 * v + 4) = y) (hr : ∀ i, i ≠ 6 + 7 * v + 3 → i ≠ 6 + 7 * v + 4 → r' i = r i) {f : Int → Int} (hf : ∀ j, f j = if j = 2 * v then x else if j = 2 * v + 1 then y else α 5 j) : Rep (setc α 5 f) r' := by
  obtain ⟨⟨a1, a2, a3, a4, a5, a6⟩, g2, g3, g4, g5⟩ := h
  unfold Rep
  rw [hr 0 (by omega) (by omega), hr 1 (by omega) (by omega), hr 2 (by omega) (by omega), hr 3 (by omega) (by omega), hr 4 (by omega) (by omega), hr 5 (by omega) (by omega)]
  refine ⟨⟨a1, a2, a3, a4, a5, a6⟩, fun w b1 b2 => ?_, fun w g b1 b2 b3 b4 => ?_, fun d b1 b2 => ?_, fun d k b1 b2 b3 b4 => ?_⟩
  · rw [hr _ (by omega) (by omega), hr (6 + 7 * w + 1) (by omega) (by omega), hr (6 + 7 * w + 2) (by omega) (by omega)]; exact g2 w b1 b2
  · refine ⟨?_, by rw [hr _ (by omega) (by omega)]; exact (g3 w g b1 b2 b3 b4).2⟩
    show f (2 * w + g) = _
    rw [hf]
    by_cases e : w = v
    · subst e
      rcases (show g = 0 ∨ g = 1 by omega) with rfl | rfl
      · rw [if_pos (by omega)]; exact hx.symm
      · rw [if_neg (by omega), if_pos rfl]; exact hy.symm
    · rw [if_neg (by omega), if_neg (by omega), hr _ (by omega) (by omega)]; exact (g3 w g b1 b2 b3 b4).1
  · rw [hr _ (by omega) (by omega), hr (76 + 12 * d + 1) (by omega) (by omega), hr (76 + 12 * d + 2) (by omega) (by omega), hr (76 + 12 * d + 3) (by omega) (by omega), hr (76 + 12 * d + 4) (by omega) (by omega), hr (76 + 12 * d + 5) (by omega) (by omega)]; exact g4 d b1 b2
  · rw [hr _ (by omega) (by omega)]; exact g5 d k b1 b2 b3 b4
/-- all pushes -/
theorem Rep.psh {α : St} {r : Int → Int} (h : Rep α r) (hn : r 0 ≤ 10) {r' : Int → Int} (hr : ∀ i, ¬ isP i → r' i = r i) {f : Int → Int} (hf : ∀ v g, 0 ≤ v → v < r 0 → 0 ≤ g → g ≤ 1 → f (2 * v + g) = r' (6 + 7 * v + (5 + g))) : Rep (setc α 6 f) r' := by
  obtain ⟨⟨a1, a2, a3, a4, a5, a6⟩, g2, g3, g4, g5⟩ := h
  have q : ∀ i, i < 6 ∨ 76 ≤ i → r' i = r i := fun i hi => hr i (by unfold isP; omega)
  unfold Rep
  rw [q 0 (by omega), q 1 (by omega), q 2 (by omega), q 3 (by omega), q 4 (by omega), q 5 (by omega)]
  refine ⟨⟨a1, a2, a3, a4, a5, a6⟩, fun w b1 b2 => ?_, fun w g b1 b2 b3 b4 => ?_, fun d b1 b2 => ?_, fun d k b1 b2 b3 b4 => ?_⟩
  · rw [hr _ (by unfold isP; omega), hr (6 + 7 * w + 1) (by unfold isP; omega), hr (6 + 7 * w + 2) (by unfold isP; omega)]; exact g2 w b1 b2
  · exact ⟨by rw [hr _ (by unfold isP; omega)]; exact (g3 w g b1 b2 b3 b4).1, hf w g b1 b2 b3 b4⟩
  · rw [q _ (by omega), q (76 + 12 * d + 1) (by omega), q (76 + 12 * d + 2) (by omega), q (76 + 12 * d + 3) (by omega), q (76 + 12 * d + 4) (by omega), q (76 + 12 * d + 5) (by omega)]; exact g4 d b1 b2
  · rw [q _ (by omega)]; exact g5 d k b1 b2 b3 b4
/-- the air of a duct -/
theorem Rep.air {α : St} {r : Int → Int} (h : Rep α r) {e : Int} (he : 0 ≤ e ∧ e < r 1) {r' : Int → Int} (hr : ∀ i, i < 76 + 12 * e + 6 ∨ 76 + 12 * e + 12 ≤ i → r' i = r i) (hn : r 0 ≤ 10) {f : Int → Int} (hf : ∀ k, 0 ≤ k → k < 6 → f (6 * e + k) = r' (76 + 12 * e + (6 + k))) (ho : ∀ j, j < 6 * e ∨ 6 * e + 6 ≤ j → f j = α 11 j) : Rep (setc α 11 f) r' := by
  obtain ⟨⟨a1, a2, a3, a4, a5, a6⟩, g2, g3, g4, g5⟩ := h
  unfold Rep
  rw [hr 0 (by omega), hr 1 (by omega), hr 2 (by omega), hr 3 (by omega), hr 4 (by omega), hr 5 (by omega)]
  refine ⟨⟨a1, a2, a3, a4, a5, a6⟩, fun w b1 b2 => ?_, fun w g b1 b2 b3 b4 => ?_, fun d b1 b2 => ?_, fun d k b1 b2 b3 b4 => ?_⟩
  · rw [hr _ (by omega), hr (6 + 7 * w + 1) (by omega), hr (6 + 7 * w + 2) (by omega)]; exact g2 w b1 b2
  · rw [hr _ (by omega), hr (6 + 7 * w + (5 + g)) (by omega)]; exact g3 w g b1 b2 b3 b4
  · rw [hr _ (by omega), hr (76 + 12 * d + 1) (by omega), hr (76 + 12 * d + 2) (by omega), hr (76 + 12 * d + 3) (by omega), hr (76 + 12 * d + 4) (by omega), hr (76 + 12 * d + 5) (by omega)]; exact g4 d b1 b2
  · show f (6 * d + k) = _
    by_cases x : d = e
    · subst x; exact hf k b3 b4
    · rw [ho _ (by omega), hr _ (by omega)]; exact g5 d k b1 b2 b3 b4
theorem Rep.le {α : St} {r : Int → Int} (h : Rep α r) {e : Int} (h0 : 0 ≤ e) (h1 : e < 2 * r 0) : α 5 e = r (6 + 7 * (e / 2) + (3 + e % 2)) ∧ α 6 e = r (6 + 7 * (e / 2) + (5 + e % 2)) := by
  have q := h.2.2.1 (e / 2) (e % 2) (by omega) (by omega) (by omega) (by omega)
  rw [show 2 * (e / 2) + e % 2 = e by omega] at q
  exact q
theorem Rep_new {α : St} (h : α 0 0 = 0 ∧ α 0 1 = 0 ∧ α 0 2 = 0 ∧ α 0 3 = 0 ∧ α 1 0 = 2 ∧ α 1 1 = 30) : Rep α newR := by
  refine ⟨h, fun v a b => ?_, fun v g a b => ?_, fun d a b => ?_, fun d k a b => ?_⟩
  · have : newR 0 = 0 := rfl
    omega
  · have : newR 0 = 0 := rfl
    omega
  · have : newR 1 = 0 := rfl
    omega
  · have : newR 1 = 0 := rfl
    omega
theorem Rep_copy {α β : St} {r : Int → Int} (h : Rep α r) (hn : r 0 ≤ 10) (hd : r 1 ≤ 16) (e0 : ∀ j, 0 ≤ j → j < 4 → β 0 j = α 0 j) (e : ∀ k, 1 ≤ k → k < 12 → ∀ j, 0 ≤ j → j < ((shN.getD k (9, 0)).2 : Int) → β k j = α k j) : Rep β r := by
  refine h.upd rfl rfl ?_ (fun v b1 b2 => ?_) (fun v g b1 b2 b3 b4 => ?_) (fun d b1 b2 => ?_) (fun d k b1 b2 b3 b4 => ?_)
  · rw [e0 0 (by omega) (by omega), e0 1 (by omega) (by omega), e0 2 (by omega) (by omega), e0 3 (by omega) (by omega), e 1 (by omega) (by omega) 0 (by omega) (by decide), e 1 (by omega) (by omega) 1 (by omega) (by decide)]
    exact ⟨h.1.1, h.1.2.1, rfl, rfl, h.1.2.2.2.2.1, h.1.2.2.2.2.2⟩
  · rw [e 2 (by omega) (by omega) v b1 (show v < 10 by omega), e 3 (by omega) (by omega) v b1 (show v < 10 by omega), e 4 (by omega) (by omega) v b1 (show v < 10 by omega)]
    exact h.2.1 v b1 b2
  · rw [e 5 (by omega) (by omega) _ (by omega) (show 2 * v + g < 20 by omega), e 6 (by omega) (by omega) _ (by omega) (show 2 * v + g < 20 by omega)]
    exact h.2.2.1 v g b1 b2 b3 b4
  · rw [e 7 (by omega) (by omega) d b1 (show d < 16 by omega), e 8 (by omega) (by omega) d b1 (show d < 16 by omega), e 9 (by omega) (by omega) d b1 (show d < 16 by omega), e 10 (by omega) (by omega) d b1 (show d < 16 by omega)]
    exact h.2.2.2.1 d b1 b2
  · rw [e 11 (by omega) (by omega) _ (by omega) (show 6 * d + k < 96 by omega)]
    exact h.2.2.2.2 d k b1 b2 b3 b4
