theorem Rep.addV {α β : St} {r : Int → Int} (h : Rep α r) (hn : 0 ≤ r 0 ∧ r 0 < 10) {k s : Int} (b0 : β 0 = upr (α 0) 2 (r 0 + 1)) (b1 : β 1 = α 1) (b2 : β 2 = upr (α 2) (r 0) k) (b3 : β 3 = upr (α 3) (r 0) s) (b4 : β 4 = upr (α 4) (r 0) 0) (b5 : β 5 = flr (α 5) (2 * r 0 + 0) (2 * r 0 + 2) 0) (b6 : β 6 = flr (α 6) (2 * r 0 + 0) (2 * r 0 + 2) 0)
    (b7 : β 7 = α 7) (b8 : β 8 = α 8) (b9 : β 9 = α 9) (b10 : β 10 = α 10) (b11 : β 11 = α 11) : Rep β (valveR r k s) := by
  obtain ⟨⟨a1, a2, a3, a4, a5, a6⟩, g2, g3, g4, g5⟩ := h
  have e : ∀ i, i ≠ 0 → i < 6 + 7 * r 0 ∨ 6 + 7 * r 0 + 7 ≤ i → valveR r k s i = r i := fun i q1 q2 => valveR_old hn.1 q1 q2
  unfold Rep
  rw [valveR_0, e 1 (by omega) (by omega), e 2 (by omega) (by omega), e 3 (by omega) (by omega), e 4 (by omega) (by omega), e 5 (by omega) (by omega)]
  rw [b0, b1, b2, b3, b4, b5, b6, b7, b8, b9, b10, b11]
  refine ⟨⟨a1, a2, rfl, a4, a5, a6⟩, fun v c1 c2 => ?_, fun v g c1 c2 c3 c4 => ?_, fun d c1 c2 => ?_, fun d j c1 c2 c3 c4 => ?_⟩
  · by_cases x : v = r 0
    · subst x
      rw [valveR_new hn.1 (by omega), valveR_new hn.1 (by omega), valveR_new hn.1 (by omega)]
      exact ⟨upr_at _ _ _, upr_at _ _ _, upr_at _ _ _⟩
    · rw [upr_ne _ _ x, upr_ne _ _ x, upr_ne _ _ x, e _ (by omega) (by omega), e (6 + 7 * v + 1) (by omega) (by omega), e (6 + 7 * v + 2) (by omega) (by omega)]
      exact g2 v c1 (by omega)
  · by_cases x : v = r 0
    · subst x
      rw [valveR_new hn.1 (by omega), valveR_new hn.1 (by omega), if_neg (by omega), if_neg (by omega), if_neg (by omega), if_neg (by omega)]
      unfold flr
      rw [if_pos (by omega), if_pos (by omega)]
      exact ⟨rfl, rfl⟩
    · rw [e _ (by omega) (by omega), e (6 + 7 * v + (5 + g)) (by omega) (by omega)]
      unfold flr
      rw [if_neg (by omega), if_neg (by omega)]
      exact g3 v g c1 (by omega) c3 c4
  · rw [e _ (by omega) (by omega), e (76 + 12 * d + 1) (by omega) (by omega), e (76 + 12 * d + 2) (by omega) (by omega), e (76 + 12 * d + 3) (by omega) (by omega), e (76 + 12 * d + 4) (by omega) (by omega), e (76 + 12 * d + 5) (by omega) (by omega)]
    exact g4 d c1 c2
  · rw [e _ (by omega) (by omega)]
    exact g5 d j c1 c2 c3 c4
theorem Rep.addD {α β : St} {r : Int → Int} (h : Rep α r) (hv : r 0 ≤ 10) (hn : 0 ≤ r 1 ∧ r 1 < 16) {f l t p n x y : Int} (hx : x = 2 * f + l) (hy : y = 2 * t + p) (b0 : β 0 = upr (α 0) 3 (r 1 + 1)) (b1 : β 1 = α 1) (b2 : β 2 = α 2) (b3 : β 3 = α 3) (b4 : β 4 = α 4) (b5 : β 5 = α 5) (b6 : β 6 = α 6)
    (b7 : β 7 = upr (α 7) (r 1) x) (b8 : β 8 = upr (α 8) (r 1) y) (b9 : β 9 = upr (α 9) (r 1) n) (b10 : β 10 = upr (α 10) (r 1) 0) (b11 : β 11 = flr (α 11) (r 1 * 6) ((r 1 + 1) * 6) 0) : Rep β (ductR r f l t p n) := by
  obtain ⟨⟨a1, a2, a3, a4, a5, a6⟩, g2, g3, g4, g5⟩ := h
  have e : ∀ i, i ≠ 1 → i < 76 + 12 * r 1 ∨ 76 + 12 * r 1 + 12 ≤ i → ductR r f l t p n i = r i := fun i q1 q2 => ductR_old hn.1 q1 q2
  unfold Rep
  rw [ductR_1, e 0 (by omega) (by omega), e 2 (by omega) (by omega), e 3 (by omega) (by omega), e 4 (by omega) (by omega), e 5 (by omega) (by omega)]
  rw [b0, b1, b2, b3, b4, b5, b6, b7, b8, b9, b10, b11]
  refine ⟨⟨a1, a2, a3, rfl, a5, a6⟩, fun v c1 c2 => ?_, fun v g c1 c2 c3 c4 => ?_, fun d c1 c2 => ?_, fun d j c1 c2 c3 c4 => ?_⟩
  · rw [e _ (by omega) (by omega), e (6 + 7 * v + 1) (by omega) (by omega), e (6 + 7 * v + 2) (by omega) (by omega)]
    exact g2 v c1 c2
  · rw [e _ (by omega) (by omega), e (6 + 7 * v + (5 + g)) (by omega) (by omega)]
    exact g3 v g c1 c2 c3 c4
  · by_cases z : d = r 1
    · subst z
      rw [ductR_new hn.1 (by omega), ductR_new hn.1 (by omega), ductR_new hn.1 (by omega), ductR_new hn.1 (by omega), ductR_new hn.1 (by omega), ductR_new hn.1 (by omega), upr_at, upr_at, upr_at, upr_at]
      exact ⟨hx, hy, rfl, rfl⟩
    · rw [upr_ne _ _ z, upr_ne _ _ z, upr_ne _ _ z, upr_ne _ _ z, e _ (by omega) (by omega), e (76 + 12 * d + 1) (by omega) (by omega), e (76 + 12 * d + 2) (by omega) (by omega), e (76 + 12 * d + 3) (by omega) (by omega), e (76 + 12 * d + 4) (by omega) (by omega), e (76 + 12 * d + 5) (by omega) (by omega)]
      exact g4 d c1 (by omega)
  · by_cases z : d = r 1
    · subst z
      rw [ductR_new hn.1 (by omega), if_neg (by omega), if_neg (by omega), if_neg (by omega), if_neg (by omega), if_neg (by omega)]
      exact if_pos (by omega)
    · rw [e _ (by omega) (by omega), ← g5 d j c1 (by omega) c3 c4]
      exact if_neg (by omega)
theorem Rep.remD {α β : St} {r : Int → Int} (h : Rep α r) (hv : r 0 ≤ 10) {d : Int} (hd : 0 ≤ d ∧ d < r 1) (b0 : β 0 = upr (α 0) 3 (r 1 - 1)) (b1 : β 1 = α 1) (b2 : β 2 = α 2) (b3 : β 3 = α 3) (b4 : β 4 = α 4) (b5 : β 5 = α 5) (b6 : β 6 = α 6)
    (b7 : β 7 = cpyr (α 7) (α 7) (d + 1) d (r 1 - 1 - d)) (b8 : β 8 = cpyr (α 8) (α 8) (d + 1) d (r 1 - 1 - d)) (b9 : β 9 = cpyr (α 9) (α 9) (d + 1) d (r 1 - 1 - d)) (b10 : β 10 = cpyr (α 10) (α 10) (d + 1) d (r 1 - 1 - d)) (b11 : β 11 = cpyr (α 11) (α 11) ((d + 1) * 6) (d * 6) ((r 1 - 1 - d) * 6)) : Rep β (removeR r d) := by
  obtain ⟨⟨a1, a2, a3, a4, a5, a6⟩, g2, g3, g4, g5⟩ := h
  have e : ∀ i, i ≠ 1 → i < 76 + 12 * d → removeR r d i = r i := fun i q1 q2 => removeR_lo hd q1 q2
  unfold Rep
  rw [removeR_1 hd, e 0 (by omega) (by omega), e 2 (by omega) (by omega), e 3 (by omega) (by omega), e 4 (by omega) (by omega), e 5 (by omega) (by omega)]
  rw [b0, b1, b2, b3, b4, b5, b6, b7, b8, b9, b10, b11]
  refine ⟨⟨a1, a2, a3, rfl, a5, a6⟩, fun v c1 c2 => ?_, fun v g c1 c2 c3 c4 => ?_, fun x c1 c2 => ?_, fun x j c1 c2 c3 c4 => ?_⟩
  · rw [e _ (by omega) (by omega), e (6 + 7 * v + 1) (by omega) (by omega), e (6 + 7 * v + 2) (by omega) (by omega)]
    exact g2 v c1 c2
  · rw [e _ (by omega) (by omega), e (6 + 7 * v + (5 + g)) (by omega) (by omega)]
    exact g3 v g c1 c2 c3 c4
  · unfold cpyr
    by_cases z : x < d
    · rw [if_neg (by omega), if_neg (by omega), if_neg (by omega), if_neg (by omega), e _ (by omega) (by omega), e (76 + 12 * x + 1) (by omega) (by omega), e (76 + 12 * x + 2) (by omega) (by omega), e (76 + 12 * x + 3) (by omega) (by omega), e (76 + 12 * x + 4) (by omega) (by omega), e (76 + 12 * x + 5) (by omega) (by omega)]
      exact g4 x c1 (by omega)
    · have s : ∀ q, 0 ≤ q → q < 12 → removeR r d (76 + 12 * x + q) = r (76 + 12 * (x + 1) + q) := fun q q1 q2 => by
        rw [removeR_hi hd (by omega) (by omega), show 76 + 12 * x + q + 12 = 76 + 12 * (x + 1) + q by omega]
      rw [if_pos (by omega), if_pos (by omega), if_pos (by omega), if_pos (by omega), s 0 (by omega) (by omega), s 1 (by omega) (by omega), s 2 (by omega) (by omega), s 3 (by omega) (by omega), s 4 (by omega) (by omega), s 5 (by omega) (by omega), show d + 1 + (x - d) = x + 1 by omega]
      exact g4 (x + 1) (by omega) (by omega)
  · unfold cpyr
    by_cases z : x < d
    · rw [if_neg (by omega), e _ (by omega) (by omega)]
      exact g5 x j c1 (by omega) c3 c4
    · rw [if_pos (by omega), removeR_hi hd (by omega) (by omega), show (d + 1) * 6 + (6 * x + j - d * 6) = 6 * (x + 1) + j by omega, show 76 + 12 * x + (6 + j) + 12 = 76 + 12 * (x + 1) + (6 + j) by omega]
      exact g5 (x + 1) j (by omega) (by omega) c3 c4
/-! counts over ends instead of valves -/
def livE (r : Int → Int) : Nat → Int
  | 0 => 0
  | e + 1 => livE r e + (if 0 < r (6 + 7 * ((e : Int) / 2) + (3 + (e : Int) % 2)) then 1 else 0)
def allE (r : Int → Int) : Nat → Int
  | 0 => 0
  | e + 1 => allE r e + r (6 + 7 * ((e : Int) / 2) + (3 + (e : Int) % 2))
def difE (r q : Int → Int) : Nat → Int
  | 0 => 0
  | e + 1 => difE r q e + (if r (6 + 7 * ((e : Int) / 2) + (3 + (e : Int) % 2)) = q (6 + 7 * ((e : Int) / 2) + (3 + (e : Int) % 2)) then 0 else 1)
theorem ends_at (m : Nat) : 6 + 7 * (((2 * m : Nat) : Int) / 2) + (3 + ((2 * m : Nat) : Int) % 2) = 6 + 7 * (m : Int) + 3 ∧ 6 + 7 * (((2 * m + 1 : Nat) : Int) / 2) + (3 + ((2 * m + 1 : Nat) : Int) % 2) = 6 + 7 * (m : Int) + 4 := by omega
theorem livE_2 (r : Int → Int) : ∀ m : Nat, livE r (2 * m) = livelyR r m
  | 0 => rfl
  | m + 1 => by
    rw [show 2 * (m + 1) = 2 * m + 1 + 1 by omega, livE, livE, livE_2 r m, livelyR, (ends_at m).1, (ends_at m).2]
    omega
theorem allE_2 (r : Int → Int) : ∀ m : Nat, allE r (2 * m) = allPR r m
  | 0 => rfl
  | m + 1 => by
    rw [show 2 * (m + 1) = 2 * m + 1 + 1 by omega, allE, allE, allE_2 r m, allPR, (ends_at m).1, (ends_at m).2]
    omega
theorem difE_2 (r q : Int → Int) : ∀ m : Nat, difE r q (2 * m) = diffR r q m
  | 0 => rfl
  | m + 1 => by
    rw [show 2 * (m + 1) = 2 * m + 1 + 1 by omega, difE, difE, difE_2 r q m, diffR, (ends_at m).1, (ends_at m).2]
theorem livE_b (r : Int → Int) : ∀ e : Nat, 0 ≤ livE r e ∧ livE r e ≤ e
  | 0 => by simp [livE]
  | e + 1 => by
    have := livE_b r e
    rw [livE]
    split <;> omega
theorem difE_b (r q : Int → Int) : ∀ e : Nat, 0 ≤ difE r q e ∧ difE r q e ≤ e
  | 0 => by simp [difE]
  | e + 1 => by
    have := difE_b r q e
    rw [difE]
    split <;> omega
theorem allE_b {r : Int → Int} (h : Wf r) : ∀ e : Nat, e ≤ 2 * r 0 → 0 ≤ allE r e ∧ allE r e ≤ 99 * e
  | 0, _ => by simp [allE]
  | e + 1, he => by
    have := allE_b h e (by omega)
    have q := h.lg (v := (e : Int) / 2) (g := (e : Int) % 2) (by omega) (by omega)
    rw [allE]
    omega
theorem goesR_same {r : Int → Int} {v g : Int} (h2 : r (6 + 7 * v + 2) = g) (h3 : -2147483648 ≤ r 3 ∧ r 3 < 2147483648) : goesR r v g = r := by
  funext i
  unfold goesR
  rw [if_pos h2, Int.add_zero, bmz_e h3, upr_if, upr_if]
  split
  · rename_i e; rw [e, h2]
  · split
    · rename_i e; rw [e]
    · rfl
