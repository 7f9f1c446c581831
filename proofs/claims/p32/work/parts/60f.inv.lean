/-! what holds of a net in the law; the states that are remembered, newest first -/
def GN (T : Int) (r : Int → Int) : Prop := Wf r ∧ (4 ≤ r 0 ∧ r 6 = 0 ∧ r 13 = 0) ∧ (0 ≤ r 2 ∧ r 2 ≤ T) ∧ (∀ v, 0 ≤ v → v < r 0 → AbV r v) ∧ ∀ i, i < 0 ∨ 268 ≤ i → r i = 0
theorem GN.mono {T T' : Int} {r : Int → Int} (h : GN T r) (ht : T ≤ T') : GN T' r := ⟨h.1, h.2.1, ⟨h.2.2.1.1, Int.le_trans h.2.2.1.2 ht⟩, h.2.2.2⟩
theorem blk_z {n : Int → Int} (h : ∀ i, i < 0 ∨ 268 ≤ i → n i = 0) : blk n 0 = n := by
  funext i
  by_cases hi : 0 ≤ i ∧ i < 268
  · rw [blk_in _ _ hi, Int.zero_add]
  · unfold blk
    rw [if_neg hi, h i (by omega)]
theorem GN.upd {T : Int} {r r' : Int → Int} (h : GN T r) (hw : Wf r') (e0 : r' 0 = r 0) (e2 : r' 2 = r 2) (e : ∀ v, 0 ≤ v → v < r 0 → r' (6 + 7 * v + 0) = r (6 + 7 * v + 0) ∧ r' (6 + 7 * v + 3) = r (6 + 7 * v + 3) ∧ r' (6 + 7 * v + 4) = r (6 + 7 * v + 4)) (eo : ∀ i, i < 0 ∨ 268 ≤ i → r' i = r i) : GN T r' := by
  obtain ⟨-, ⟨h4, h6, h13⟩, ht, ha, hz⟩ := h
  have q0 := (e 0 (by omega) (by omega)).1
  have q1 := (e 1 (by omega) (by omega)).1
  refine ⟨hw, ⟨by omega, q0.trans h6, q1.trans h13⟩, by rw [e2]; exact ht, fun v a b => ?_, fun i hi => (eo i hi).trans (hz i hi)⟩
  obtain ⟨-, g3, g4⟩ := e v a (by omega)
  have := ha v a (by omega)
  unfold AbV at this ⊢
  omega
theorem GN.valve {T c v : Int} {r : Int → Int} (h : GN T r) (hn : r 0 < 10) (hc : 0 ≤ c ∧ c ≤ 4) (hv : 10 ≤ v ∧ v ≤ 99) : GN T (valveR r c v) := by
  obtain ⟨hw, ⟨h4, h6, h13⟩, ht, ha, hz⟩ := h
  have h0 := hw.1
  have o := fun i a b => valveR_old (r := r) h0.1 (k := c) (s := v) (i := i) a b
  have e0 := valveR_0 r c v
  refine ⟨Wf_valveR hw hn hc hv, ⟨by omega, (o 6 (by omega) (by omega)).trans h6, (o 13 (by omega) (by omega)).trans h13⟩, by rw [o 2 (by omega) (by omega)]; exact ht, fun w a b => ?_, fun i hi => (o i (by omega) (by omega)).trans (hz i hi)⟩
  unfold AbV
  by_cases e : w = r 0
  · left
    have := valveR_new (r := r) h0.1 (k := c) (s := v) (j := 3) (by omega)
    rw [e, this]
    rfl
  · rw [o _ (by omega) (by omega), o (6 + 7 * w + 4) (by omega) (by omega)]
    exact ha w a (by omega)
theorem GN.duct {T f l t p n : Int} {r : Int → Int} (h : GN T r) (hn : r 1 < 16) (hf : 0 ≤ f ∧ f < r 0) (hl : 0 ≤ l ∧ l ≤ 1) (ht : 0 ≤ t ∧ t < r 0) (hp : 0 ≤ p ∧ p ≤ 1) (hnn : 1 ≤ n ∧ n ≤ 6) : GN T (ductR r f l t p n) := by
  have h0 := h.1.1
  have h1 := h.1.2.1
  have o := fun i a b => ductR_old (r := r) h1.1 (f := f) (l := l) (t := t) (p := p) (n := n) (i := i) a b
  exact h.upd (Wf_ductR h.1 hn hf hl ht hp hnn) (o 0 (by omega) (by omega)) (o 2 (by omega) (by omega)) (fun v a b => ⟨o _ (by omega) (by omega), o _ (by omega) (by omega), o _ (by omega) (by omega)⟩) (fun i hi => o _ (by omega) (by omega))
theorem removeR_o {r : Int → Int} {d i : Int} (hd : 0 ≤ d ∧ d < r 1) (h16 : r 1 ≤ 16) (hi : 268 ≤ i) : removeR r d i = r i := by
  unfold removeR
  rw [clr_out _ _ _ (by omega), sh12_out _ _ _ (by omega), upr_ne _ _ (by omega)]
theorem GN.remove {T d : Int} {r : Int → Int} (h : GN T r) (hd : 0 ≤ d ∧ d < r 1) : GN T (removeR r d) := by
  have h0 := h.1.1
  have h1 := h.1.2.1
  have o := fun i a b => removeR_lo (r := r) hd (i := i) a b
  refine h.upd (Wf_removeR h.1 hd) (o 0 (by omega) (by omega)) (o 2 (by omega) (by omega)) (fun v a b => ⟨o _ (by omega) (by omega), o _ (by omega) (by omega), o _ (by omega) (by omega)⟩) (fun i hi => ?_)
  rcases hi with hi | hi
  · exact o _ (by omega) (by omega)
  · exact removeR_o hd (by omega) hi
theorem GN.press {T v b : Int} {r : Int → Int} (h : GN T r) (hv : 0 ≤ v ∧ v < r 0) (hk : r (6 + 7 * v + 0) = 0) (hb : 0 ≤ b ∧ b ≤ 1) : GN T (upr r (6 + 7 * v + 2) b) := by
  have h0 := h.1.1
  exact h.upd (Wf_press h.1 hv hk hb) (upr_ne _ _ (by omega)) (upr_ne _ _ (by omega)) (fun w a b => ⟨upr_ne _ _ (by omega), upr_ne _ _ (by omega), upr_ne _ _ (by omega)⟩) (fun i hi => upr_ne _ _ (by omega))
theorem GN.leak {T d x : Int} {r : Int → Int} (h : GN T r) (hd : 0 ≤ d ∧ d < r 1) (hx : 0 ≤ x ∧ x ≤ 30) : GN T (upr r (76 + 12 * d + 5) x) := by
  have h0 := h.1.1
  have h1 := h.1.2.1
  exact h.upd (Wf_leak h.1 hd hx) (upr_ne _ _ (by omega)) (upr_ne _ _ (by omega)) (fun w a b => ⟨upr_ne _ _ (by omega), upr_ne _ _ (by omega), upr_ne _ _ (by omega)⟩) (fun i hi => upr_ne _ _ (by omega))
theorem GN.feed {T v x : Int} {r : Int → Int} (h : GN T r) (hv : 0 ≤ v ∧ v < r 0) (hx : 10 ≤ x ∧ x ≤ 99) : GN T (upr r (6 + 7 * v + 1) x) := by
  have h0 := h.1.1
  exact h.upd (Wf_supply h.1 hv hx) (upr_ne _ _ (by omega)) (upr_ne _ _ (by omega)) (fun w a b => ⟨upr_ne _ _ (by omega), upr_ne _ _ (by omega), upr_ne _ _ (by omega)⟩) (fun i hi => upr_ne _ _ (by omega))
theorem GN.set {T w x : Int} {r : Int → Int} (h : GN T r) (hw : w = 0 ∧ (0 ≤ x ∧ x ≤ 9) ∨ w = 1 ∧ (5 ≤ x ∧ x ≤ 90)) : GN T (upr r (4 + w) x) := by
  have h0 := h.1.1
  exact h.upd (Wf_set h.1 hw) (upr_ne _ _ (by omega)) (upr_ne _ _ (by omega)) (fun w a b => ⟨upr_ne _ _ (by omega), upr_ne _ _ (by omega), upr_ne _ _ (by omega)⟩) (fun i hi => upr_ne _ _ (by omega))
theorem tickR_2 {r : Int → Int} (h : Wf r) : tickR r 2 = bmz (r 2 + 1) := by
  have h0 := h.1
  have h1 := h.2.1
  have hs := Wf_scal h (i := 2) (bmz (r 2 + 1)) (Or.inl rfl)
  obtain ⟨hp, hpo⟩ := pushAllR_Wf hs
  have e0 : pushAllR (upr r 2 (bmz (r 2 + 1))) 0 = r 0 := (hpo 0 (by unfold isP; omega)).trans (upr_ne _ _ (by decide))
  obtain ⟨ht, hto⟩ := tick2R_Wf h
  have e1' : tick2R r 1 = r 1 := hto 1 (by omega)
  have a1 : tickR r 2 = tick2R r 2 := (enterAll_Wf ht (r 1).toNat (by omega)).2 2 (by omega)
  have a2 : tick2R r 2 = pushAllR (upr r 2 (bmz (r 2 + 1))) 2 := (reckAll_Wf hp (r 0).toNat (by omega)).2 2 (by omega)
  rw [a1, a2, hpo 2 (by unfold isP; omega), upr_at]
theorem GN.tick {T : Int} {r : Int → Int} (h : GN T r) (hT : T < 1000000) : GN (T + 1) (tickR r) := by
  obtain ⟨hw, ⟨h4, h6, h13⟩, ht, ha, hz⟩ := h
  have h0 := hw.1
  have h1 := hw.2.1
  obtain ⟨hw', ho⟩ := tickR_Wf hw
  have e0 := ho 0 (by omega)
  have e2 := tickR_2 hw
  rw [bmz_e (by omega)] at e2
  refine ⟨hw', ⟨by omega, (ho 6 (by omega)).trans h6, (ho 13 (by omega)).trans h13⟩, by omega, fun v a b => ?_, fun i hi => (ho i (by omega)).trans (hz i hi)⟩
  exact (tickR_Fr hw v a (by omega)).ab (hw'.2.2.2.2.1 v a (by omega))
theorem GN.run {T : Int} {r : Int → Int} (h : GN T r) : ∀ m : Nat, T + (m : Int) < 1000000 → GN (T + m) (runR r m)
  | 0, _ => by
    rw [show T + ((0 : Nat) : Int) = T by omega]
    exact h
  | m + 1, hm => by
    have := (GN.run h m (by omega)).tick (by omega)
    rw [show T + ((m + 1 : Nat) : Int) = T + (m : Int) + 1 by omega]
    exact this
theorem runR_2 {T : Int} {r : Int → Int} (h : GN T r) : ∀ m : Nat, T + (m : Int) < 1000000 → runR r m 2 = r 2 + (m : Int)
  | 0, _ => by
    show r 2 = _
    omega
  | m + 1, hm => by
    have ih := runR_2 h m (by omega)
    have g := h.run m (by omega)
    show tickR (runR r m) 2 = _
    rw [tickR_2 g.1, bmz_e (by have := g.2.2.1; omega), ih]
    omega
theorem runR_add (r : Int → Int) (a : Nat) : ∀ b : Nat, runR r (a + b) = runR (runR r a) b
  | 0 => rfl
  | b + 1 => by
    show tickR (runR r (a + b)) = tickR (runR (runR r a) b)
    rw [runR_add r a b]
/-- the states that are remembered, newest first -/
def DL (A : Abs) (L : List (Int → Int)) : Prop := aA A = (L.length : Int) ∧ L.length ≤ 14 ∧ ∀ (j : Nat) (x : Int → Int), L[j]? = some x → blk (dA A) (268 * (aA A - 1 - (j : Int))) = x
theorem DL.push {s a : Int} {t n d k i : Int → Int} {L : List (Int → Int)} (h : DL (s, a, t, n, d, k, i) L) (hz : ∀ i, i < 0 ∨ 268 ≤ i → n i = 0) (n' : Int → Int) : DL (s, remA a, t, n', remD a n d, k, i) ((n :: L).take 14) := by
  obtain ⟨h1, h2, h3⟩ := h
  have h1 : a = (L.length : Int) := h1
  have h3 : ∀ (j : Nat) (x : Int → Int), L[j]? = some x → blk d (268 * (a - 1 - (j : Int))) = x := h3
  have hl : ((n :: L).take 14).length = min 14 (L.length + 1) := by rw [List.length_take]; rfl
  refine ⟨?_, by rw [hl]; omega, fun j x hx => ?_⟩
  · show remA a = _
    rw [hl]
    unfold remA
    split <;> omega
  · show blk (remD a n d) (268 * (remA a - 1 - (j : Int))) = x
    rw [List.getElem?_take] at hx
    by_cases hj : j < 14
    · rw [if_pos hj] at hx
      cases j with
      | zero =>
        have e : n = x := Option.some.inj hx
        rw [← e, ← blk_z hz]
        unfold remD remA
        by_cases ha : a = 14
        · rw [if_pos ha, if_pos ha, blk_z hz, blk_hit _ _ (by omega), blk_z hz]
        · rw [if_neg ha, if_neg ha, blk_z hz, blk_hit _ _ (by omega), blk_z hz]
      | succ j =>
        have hx : L[j]? = some x := hx
        have hjl : j < L.length := (List.getElem?_eq_some_iff.mp hx).1
        have h3j := h3 j x hx
        unfold remD remA
        by_cases ha : a = 14
        · rw [if_pos ha, if_pos ha, cpy_miss _ _ (by omega), show 268 * ((14 : Int) - 1 - ((j + 1 : Nat) : Int)) = 268 * (12 - (j : Int)) by omega, shl_blk _ (by omega)]
          rw [← h3j]
          congr 1
          omega
        · rw [if_neg ha, if_neg ha, cpy_miss _ _ (by omega)]
          rw [← h3j]
          congr 1
          omega
    · rw [if_neg hj] at hx
      exact absurd hx (by simp)
theorem DL.pop {s a : Int} {t n d k i : Int → Int} {x : Int → Int} {L : List (Int → Int)} (h : DL (s, a, t, n, d, k, i) (x :: L)) : op_undo s a t n d k i = (0, a - 1, (s, a - 1, t, x, d, k, i)) ∧ DL (s, a - 1, t, x, d, k, i) L ∧ 1 ≤ a ∧ a ≤ 14 := by
  obtain ⟨h1, h2, h3⟩ := h
  have h1 : a = ((x :: L).length : Int) := h1
  rw [List.length_cons] at h1 h2
  have h3 : ∀ (j : Nat) (y : Int → Int), (x :: L)[j]? = some y → blk d (268 * (a - 1 - (j : Int))) = y := h3
  have e := h3 0 x rfl
  rw [show 268 * (a - 1 - ((0 : Nat) : Int)) = 268 * (a - 1) by omega] at e
  refine ⟨?_, ⟨?_, by omega, fun j y hy => ?_⟩, by omega, by omega⟩
  · unfold op_undo
    rw [if_neg (by omega), e]
  · show a - 1 = _
    omega
  · show blk d (268 * (a - 1 - 1 - (j : Int))) = y
    rw [← h3 (j + 1) y hy]
    congr 1
    omega
def Ch (T : Int) : Int → List (Int → Int) → Prop
  | _, [] => True
  | t, x :: L => (GN T x ∨ t = 0) ∧ Ch T (x 2) L
theorem Ch.take {T : Int} : ∀ (L : List (Int → Int)) (t : Int) (k : Nat), Ch T t L → Ch T t (L.take k)
  | [], _, k, _ => by rw [List.take_nil]; trivial
  | x :: L, t, 0, _ => trivial
  | x :: L, t, k + 1, h => ⟨h.1, Ch.take L (x 2) k h.2⟩
theorem Ch.mono {T T' : Int} (ht : T ≤ T') : ∀ (L : List (Int → Int)) (t : Int), Ch T t L → Ch T' t L
  | [], _, _ => trivial
  | x :: L, t, h => ⟨h.1.imp (fun g => g.mono ht) id, Ch.mono ht L (x 2) h.2⟩
def Inv (T : Int) (A : Abs) : Prop := AOkA A ∧ GN T (nA A) ∧ (∃ L, DL A L ∧ Ch T (nA A 2) L) ∧ ∀ j, j = 0 ∨ j = 1 → iA A j = 1 → GN T (blk (kA A) (268 * j))
theorem Inv.mono {T T' : Int} {A : Abs} (h : Inv T A) (ht : T ≤ T') : Inv T' A := by
  obtain ⟨h1, h2, ⟨L, h3, h4⟩, h5⟩ := h
  exact ⟨h1, h2.mono ht, ⟨L, h3, h4.mono ht⟩, fun j a b => (h5 j a b).mono ht⟩
theorem Inv.chg {T T' : Int} {s a : Int} {t n d k i n' : Int → Int} (h : Inv T (s, a, t, n, d, k, i)) (hT : T ≤ T') (hO : AOkA (s, remA a, t, n', remD a n d, k, i)) (hn : GN T' n') : Inv T' (s, remA a, t, n', remD a n d, k, i) := by
  obtain ⟨-, h2, ⟨L, h3, h4⟩, h5⟩ := h
  have h2 : GN T n := h2
  refine ⟨hO, hn, ⟨_, h3.push h2.2.2.2.2 n', ?_⟩, fun j a b => (h5 j a b).mono hT⟩
  show Ch T' (n' 2) ((n :: L).take 14)
  exact ⟨Or.inl (h2.mono hT), (Ch.mono hT _ _ (Ch.take L (n 2) 13 h4))⟩
/-- the same net, fewer states that are remembered -/
def SK (A : Abs) (n1 : Int → Int) (M : List (Int → Int)) (A1 : Abs) : Prop := A1.1 = A.1 ∧ A1.2.2.1 = A.2.2.1 ∧ kA A1 = kA A ∧ iA A1 = iA A ∧ nA A1 = n1 ∧ DL A1 M
theorem SK.push {A A1 : Abs} {n1 : Int → Int} {P M : List (Int → Int)} (h : SK A n1 ((P ++ M).take 14) A1) (hz : ∀ i, i < 0 ∨ 268 ≤ i → n1 i = 0) (n2 : Int → Int) : SK A n2 ((n1 :: P ++ M).take 14) (A1.1, remA (aA A1), A1.2.2.1, n2, remD (aA A1) (nA A1) (dA A1), kA A1, iA A1) := by
  obtain ⟨h1, h2, h3, h4, h5, h6⟩ := h
  subst h5
  have := DL.push (s := A1.1) (a := aA A1) (t := A1.2.2.1) (n := nA A1) (d := dA A1) (k := kA A1) (i := iA A1) h6 hz n2
  refine ⟨h1, h2, h3, h4, rfl, ?_⟩
  rw [show (nA A1 :: (P ++ M).take 14).take 14 = (nA A1 :: P ++ M).take 14 by rw [List.cons_append, List.take_succ_cons, List.take_succ_cons, List.take_take]; rfl] at this
  exact this
theorem SK.pop {A A1 : Abs} {n1 x : Int → Int} {M : List (Int → Int)} (h : SK A n1 (x :: M) A1) : SK A x M (st_tryUndo A1) ∧ an_tryUndo A1 = aA A1 - 1 ∧ 1 ≤ aA A1 ∧ aA A1 ≤ 14 := by
  obtain ⟨h1, h2, h3, h4, h5, h6⟩ := h
  obtain ⟨e, hD, g1, g2⟩ := DL.pop (s := A1.1) (a := aA A1) (t := A1.2.2.1) (n := nA A1) (d := dA A1) (k := kA A1) (i := iA A1) h6
  have es : st_tryUndo A1 = (A1.1, aA A1 - 1, A1.2.2.1, x, dA A1, kA A1, iA A1) := by unfold st_tryUndo; rw [e]
  refine ⟨?_, ?_, g1, g2⟩
  · rw [es]
    exact ⟨h1, h2, h3, h4, rfl, hD⟩
  · unfold an_tryUndo
    rw [e, rv_z, bmz_e (by omega)]
theorem SK.inv {T : Int} {A A1 : Abs} {L : List (Int → Int)} {j : Nat} (h : Inv T A) (hD : DL A L) (hC : Ch T (nA A 2) L) (hS : SK A (nA A) (L.take j) A1) (hO : AOkA A1) : Inv T A1 := by
  obtain ⟨h1, h2, h3, h4, h5, h6⟩ := hS
  refine ⟨hO, by rw [h5]; exact h.2.1, ⟨_, h6, by rw [h5]; exact hC.take _ _ _⟩, fun j a b => ?_⟩
  rw [h3]
  exact h.2.2.2 j a (by rw [← h4]; exact b)
