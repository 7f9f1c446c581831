/-! what the law's calls come to, as states -/
theorem Inv.valve {T : Int} {A : Abs} (h : Inv T A) (c v : Int) : Inv T (st_tryValve A c v) := by
  have hO := ok_valve h.1 c v
  unfold st_tryValve
  unfold op_valve at hO ⊢
  by_cases c1 : ¬ ((0 ≤ c ∧ c ≤ 4) ∧ (10 ≤ v ∧ v ≤ 99))
  · rw [if_pos c1]; exact h
  rw [if_neg c1] at hO ⊢
  by_cases c2 : ¬ nA A 0 < 10
  · rw [if_pos c2]; exact h
  rw [if_neg c2] at hO ⊢
  exact Inv.chg (s := A.1) (a := aA A) (t := A.2.2.1) (n := nA A) (d := dA A) (k := kA A) (i := iA A) h (Int.le_refl _) hO (h.2.1.valve (by omega) (by omega) (by omega))
theorem Inv.ducts {T : Int} {A : Abs} (h : Inv T A) (c g y q m : Int) : Inv T (st_ducts A c g y q m) := by
  have hO := ok_duct h.1 c g y q m
  unfold st_ducts
  unfold op_duct at hO ⊢
  by_cases c1 : ¬ (((0 ≤ c ∧ c < nA A 0) ∧ (0 ≤ g ∧ g ≤ 1)) ∧ ((0 ≤ y ∧ y < nA A 0) ∧ (0 ≤ q ∧ q ≤ 1)))
  · rw [if_pos c1]; exact h
  rw [if_neg c1] at hO ⊢
  by_cases c2 : ¬ (1 ≤ m ∧ m ≤ 6)
  · rw [if_pos c2]; exact h
  rw [if_neg c2] at hO ⊢
  by_cases c3 : ¬ nA A 1 < 16
  · rw [if_pos c3]; exact h
  rw [if_neg c3] at hO ⊢
  exact Inv.chg (s := A.1) (a := aA A) (t := A.2.2.1) (n := nA A) (d := dA A) (k := kA A) (i := iA A) h (Int.le_refl _) hO (h.2.1.duct (by omega) (by omega) (by omega) (by omega) (by omega) (by omega))
theorem Inv.drop {T : Int} {A : Abs} (h : Inv T A) (e : Int) : Inv T (st_tryDrop A e) := by
  have hO := ok_remove h.1 e
  unfold st_tryDrop
  unfold op_remove at hO ⊢
  by_cases c1 : ¬ (0 ≤ e ∧ e < nA A 1)
  · rw [if_pos c1]; exact h
  rw [if_neg c1] at hO ⊢
  exact Inv.chg (s := A.1) (a := aA A) (t := A.2.2.1) (n := nA A) (d := dA A) (k := kA A) (i := iA A) h (Int.le_refl _) hO (h.2.1.remove (by omega))
theorem Inv.leak {T : Int} {A : Abs} (h : Inv T A) (e l : Int) : Inv T (st_tryLeak A e l) := by
  have hO := ok_leak h.1 e l
  unfold st_tryLeak
  unfold op_leak at hO ⊢
  by_cases c1 : ¬ (0 ≤ e ∧ e < nA A 1)
  · rw [if_pos c1]; exact h
  rw [if_neg c1] at hO ⊢
  by_cases c2 : ¬ (0 ≤ l ∧ l ≤ 30)
  · rw [if_pos c2]; exact h
  rw [if_neg c2] at hO ⊢
  exact Inv.chg (s := A.1) (a := aA A) (t := A.2.2.1) (n := nA A) (d := dA A) (k := kA A) (i := iA A) h (Int.le_refl _) hO (h.2.1.leak (by omega) (by omega))
theorem Inv.feed {T : Int} {A : Abs} (h : Inv T A) (v m : Int) : Inv T (st_tryFeed A v m) := by
  have hO := ok_feed h.1 v m
  unfold st_tryFeed
  unfold op_feed at hO ⊢
  by_cases c1 : ¬ (0 ≤ v ∧ v < nA A 0)
  · rw [if_pos c1]; exact h
  rw [if_neg c1] at hO ⊢
  by_cases c2 : ¬ (10 ≤ m ∧ m ≤ 99)
  · rw [if_pos c2]; exact h
  rw [if_neg c2] at hO ⊢
  exact Inv.chg (s := A.1) (a := aA A) (t := A.2.2.1) (n := nA A) (d := dA A) (k := kA A) (i := iA A) h (Int.le_refl _) hO (h.2.1.feed (by omega) (by omega))
theorem Inv.lay {T : Int} {A : Abs} (h : Inv T A) (w v : Int) : Inv T (st_tryLay A w v) := by
  have hO := ok_set h.1 w v
  unfold st_tryLay
  unfold op_set at hO ⊢
  by_cases c1 : ¬ (w = 0 ∧ (0 ≤ v ∧ v ≤ 9) ∨ w = 1 ∧ (5 ≤ v ∧ v ≤ 90))
  · rw [if_pos c1]; exact h
  rw [if_neg c1] at hO ⊢
  exact Inv.chg (s := A.1) (a := aA A) (t := A.2.2.1) (n := nA A) (d := dA A) (k := kA A) (i := iA A) h (Int.le_refl _) hO (h.2.1.set (by omega))
theorem Inv.keys {T : Int} {A : Abs} (h : Inv T A) (v b : Int) (hb : b = 0 ∨ b = 1) : Inv T (st_keys A v b) := by
  have hO := ok_press h.1 v b hb
  unfold st_keys
  unfold op_press at hO ⊢
  by_cases c1 : ¬ (0 ≤ v ∧ v < nA A 0)
  · rw [if_pos c1]; exact h
  rw [if_neg c1] at hO ⊢
  by_cases c2 : ¬ nA A (6 + 7 * v + 0) = 0
  · rw [if_pos c2]; exact h
  rw [if_neg c2] at hO ⊢
  exact Inv.chg (s := A.1) (a := aA A) (t := A.2.2.1) (n := nA A) (d := dA A) (k := kA A) (i := iA A) h (Int.le_refl _) hO (h.2.1.press (by omega) (Classical.not_not.mp c2) (by omega))
theorem tk_val {A : Abs} (hO : AOkA A) {m : Int} (hm : 1 ≤ m ∧ m ≤ 99) : st_tryTicks A m = (A.1, remA (aA A), A.2.2.1, runR (nA A) m.toNat, remD (aA A) (nA A) (dA A), kA A, iA A) ∧ an_tryTicks A m = diffR (runR (nA A) m.toNat) (nA A) (nA A 0).toNat ∧ 0 ≤ an_tryTicks A m ∧ an_tryTicks A m ≤ 20 := by
  have h0 := hO.wf.1
  have hd := diffR_b (runR (nA A) m.toNat) (nA A) (nA A 0).toNat
  have e : op_ticks A.1 A.2.1 A.2.2.1 A.2.2.2.1 A.2.2.2.2.1 A.2.2.2.2.2.1 A.2.2.2.2.2.2 m = (0, diffR (runR (nA A) m.toNat) (nA A) (nA A 0).toNat, (A.1, remA (aA A), A.2.2.1, runR (nA A) m.toNat, remD (aA A) (nA A) (dA A), kA A, iA A)) := by unfold op_ticks; rw [if_neg (not_not_intro hm)]
  have ea : an_tryTicks A m = diffR (runR (nA A) m.toNat) (nA A) (nA A 0).toNat := by
    unfold an_tryTicks
    rw [e, rv_z, bmz_e (by omega)]
  exact ⟨by unfold st_tryTicks; rw [e], ea, by omega, by omega⟩
theorem Inv.ticks {T : Int} {A : Abs} (h : Inv T A) {m : Int} (hm : 1 ≤ m ∧ m ≤ 99) (hT : T + m < 1000000) : Inv (T + m) (st_tryTicks A m) := by
  have hO := ok_ticks h.1 m
  have e := (tk_val h.1 hm).1
  have hO : AOkA (st_tryTicks A m) := hO
  rw [e] at hO ⊢
  have g := h.2.1.run m.toNat (by omega)
  rw [show T + (m.toNat : Int) = T + m by omega] at g
  exact Inv.chg (s := A.1) (a := aA A) (t := A.2.2.1) (n := nA A) (d := dA A) (k := kA A) (i := iA A) h (by omega) hO g
theorem Inv.undo {T : Int} {A : Abs} (h : Inv T A) (h2 : nA A 2 ≠ 0) : Inv T (st_tryUndo A) := by
  have hO : AOkA (st_tryUndo A) := ok_undo h.1
  obtain ⟨h1, hn, ⟨L, hD, hC⟩, hk⟩ := h
  cases L with
  | nil =>
    have ha : aA A = 0 := hD.1
    have e : st_tryUndo A = A := by unfold st_tryUndo op_undo; rw [if_pos ha]
    rw [e]
    exact ⟨h1, hn, ⟨[], hD, hC⟩, hk⟩
  | cons x L =>
    obtain ⟨e, hD', -, -⟩ := DL.pop (s := A.1) (a := aA A) (t := A.2.2.1) (n := nA A) (d := dA A) (k := kA A) (i := iA A) hD
    have es : st_tryUndo A = (A.1, aA A - 1, A.2.2.1, x, dA A, kA A, iA A) := by unfold st_tryUndo; rw [e]
    rw [es] at hO ⊢
    have hx : GN T x := hC.1.resolve_right h2
    exact ⟨hO, hx, ⟨L, hD', hC.2⟩, hk⟩
theorem Inv.keep {T : Int} {A : Abs} (h : Inv T A) (q : Int) : Inv T (st_tryKeep A q) := by
  have hO := ok_save h.1 q
  unfold st_tryKeep
  unfold op_save at hO ⊢
  by_cases c1 : ¬ (0 ≤ q ∧ q ≤ 1)
  · rw [if_pos c1]; exact h
  rw [if_neg c1] at hO ⊢
  obtain ⟨-, hn, hL, hk⟩ := h
  refine ⟨hO, hn, hL, fun j hj hi => ?_⟩
  show GN T (blk (cpyr (nA A) (kA A) 0 (268 * q) 268) (268 * j))
  have hi : upr (iA A) q 1 j = 1 := hi
  by_cases e : j = q
  · rw [e, blk_hit _ _ rfl, blk_z hn.2.2.2.2]
    exact hn
  · rw [upr_ne _ _ e] at hi
    rcases (show j < q ∨ q < j by omega) with g | g
    · rw [cpy_miss _ _ (by omega)]
      exact hk j hj hi
    · rw [cpy_miss2 _ _ (by omega)]
      exact hk j hj hi
theorem Inv.back {T : Int} {A : Abs} (h : Inv T A) (q : Int) : Inv T (st_tryBack A q) := by
  have hO := ok_restore h.1 q
  unfold st_tryBack
  unfold op_restore at hO ⊢
  by_cases c1 : ¬ (0 ≤ q ∧ q ≤ 1)
  · rw [if_pos c1]; exact h
  rw [if_neg c1] at hO ⊢
  by_cases c2 : iA A q = 0
  · rw [if_pos c2]; exact h
  rw [if_neg c2] at hO ⊢
  have hq : q = 0 ∨ q = 1 := by omega
  have hi : iA A q = 0 ∨ iA A q = 1 := (h.1.2.2.2.2.2 q hq).1
  have hg : GN T (blk (kA A) (268 * q)) := h.2.2.2 q hq (hi.resolve_left c2)
  exact ⟨hO, hg, ⟨[], ⟨rfl, by decide, fun j x hx => by simp at hx⟩, trivial⟩, h.2.2.2⟩
/-- one thing done: what it answers, and the state behind it -/
def acO (x : Int) (A : Abs) : Int × Abs :=
  if x % 16 < 2 then (an_tryValve A (x / 16 % 5) (10 + x / 16 / 5 % 90), st_tryValve A (x / 16 % 5) (10 + x / 16 / 5 % 90))
  else if x % 16 < 6 then (an_ducts A (x / 16 % nA A 0) (x / 16 / 10 % 2) (x / 16 / 20 % nA A 0) (x / 16 / 200 % 2) (1 + x / 16 / 400 % 6), st_ducts A (x / 16 % nA A 0) (x / 16 / 10 % 2) (x / 16 / 20 % nA A 0) (x / 16 / 200 % 2) (1 + x / 16 / 400 % 6))
  else if x % 16 = 6 then (if x / 16 % 3 = 0 then (an_tryDrop A (if nA A 1 = 0 then 0 else x / 16 % nA A 1), st_tryDrop A (if nA A 1 = 0 then 0 else x / 16 % nA A 1)) else (an_tryLeak A (if nA A 1 = 0 then 0 else x / 16 % nA A 1) (x / 16 / 16 % 31), st_tryLeak A (if nA A 1 = 0 then 0 else x / 16 % nA A 1) (x / 16 / 16 % 31)))
  else if x % 16 < 9 then (an_keys A (x / 16 % nA A 0) (if x / 16 / 10 % 2 = 0 then 1 else 0), st_keys A (x / 16 % nA A 0) (if x / 16 / 10 % 2 = 0 then 1 else 0))
  else if x % 16 = 9 then (if x / 16 % 3 = 0 then (an_tryFeed A (x / 16 % nA A 0) (10 + x / 16 / 10 % 90), st_tryFeed A (x / 16 % nA A 0) (10 + x / 16 / 10 % 90)) else (an_tryLay A (x / 16 % 2) (x / 16 / 6 % 40), st_tryLay A (x / 16 % 2) (x / 16 / 6 % 40)))
  else if x % 16 = 10 then (if nA A 2 < 2 then (-1, A) else (an_tryUndo A, st_tryUndo A))
  else if x % 16 = 11 then (if x / 16 % 2 = 0 then (an_tryKeep A (x / 16 / 2 % 2), st_tryKeep A (x / 16 / 2 % 2)) else (an_tryBack A (x / 16 / 2 % 2), st_tryBack A (x / 16 / 2 % 2)))
  else (an_tryTicks A (1 + x / 16 % 9), st_tryTicks A (1 + x / 16 % 9))
theorem acO_inv {T x : Int} {A : Abs} (h : Inv T A) (hx : 0 ≤ x) (hT : T < 900000) : Inv (T + 9) (acO x A).2 ∧ (11 < x % 16 → ∀ v, 0 ≤ v → v < nA (acO x A).2 0 → FrV (nA (acO x A).2) v) := by
  have hm : T ≤ T + 9 := by omega
  unfold acO
  by_cases c0 : x % 16 < 2
  · rw [if_pos c0]; exact ⟨(h.valve _ _).mono hm, fun q => by omega⟩
  rw [if_neg c0]
  by_cases c1 : x % 16 < 6
  · rw [if_pos c1]; exact ⟨(h.ducts _ _ _ _ _).mono hm, fun q => by omega⟩
  rw [if_neg c1]
  by_cases c2 : x % 16 = 6
  · rw [if_pos c2]
    by_cases d : x / 16 % 3 = 0
    · rw [if_pos d]; exact ⟨(h.drop _).mono hm, fun q => by omega⟩
    · rw [if_neg d]; exact ⟨(h.leak _ _).mono hm, fun q => by omega⟩
  rw [if_neg c2]
  by_cases c3 : x % 16 < 9
  · rw [if_pos c3]; exact ⟨(h.keys _ _ (by split <;> omega)).mono hm, fun q => by omega⟩
  rw [if_neg c3]
  by_cases c4 : x % 16 = 9
  · rw [if_pos c4]
    by_cases d : x / 16 % 3 = 0
    · rw [if_pos d]; exact ⟨(h.feed _ _).mono hm, fun q => by omega⟩
    · rw [if_neg d]; exact ⟨(h.lay _ _).mono hm, fun q => by omega⟩
  rw [if_neg c4]
  by_cases c5 : x % 16 = 10
  · rw [if_pos c5]
    by_cases d : nA A 2 < 2
    · rw [if_pos d]; exact ⟨h.mono hm, fun q => by omega⟩
    · rw [if_neg d]; exact ⟨(h.undo (by omega)).mono hm, fun q => by omega⟩
  rw [if_neg c5]
  by_cases c6 : x % 16 = 11
  · rw [if_pos c6]
    by_cases d : x / 16 % 2 = 0
    · rw [if_pos d]; exact ⟨(h.keep _).mono hm, fun q => by omega⟩
    · rw [if_neg d]; exact ⟨(h.back _).mono hm, fun q => by omega⟩
  rw [if_neg c6]
  have hm2 : 1 ≤ 1 + x / 16 % 9 ∧ 1 + x / 16 % 9 ≤ 99 := by omega
  refine ⟨(h.ticks hm2 (by omega)).mono (by omega), fun _ => ?_⟩
  show ∀ v, 0 ≤ v → v < nA (st_tryTicks A (1 + x / 16 % 9)) 0 → FrV (nA (st_tryTicks A (1 + x / 16 % 9))) v
  rw [(tk_val h.1 hm2).1]
  show ∀ v, 0 ≤ v → v < runR (nA A) (1 + x / 16 % 9).toNat 0 → FrV (runR (nA A) (1 + x / 16 % 9).toNat) v
  obtain ⟨k, hk⟩ : ∃ k : Nat, (1 + x / 16 % 9).toNat = k + 1 := ⟨(1 + x / 16 % 9).toNat - 1, by omega⟩
  rw [hk]
  obtain ⟨g1, g2, -⟩ := runR_Wf h.1.wf k
  have e0 := (runR_Wf h.1.wf (k + 1)).2.1
  exact fun v a b => tickR_Fr g1 v a (by rw [e0] at b; omega)
/-! waiting and taking back -/
def cntN (n : Int) : Nat := ((n + 98) / 99).toNat
def wP (n : Int) (A : Abs) : Nat → Abs
  | 0 => A
  | c + 1 => st_tryTicks (wP n A c) (if 99 < n - 99 * (c : Int) then 99 else n - 99 * (c : Int))
def pS (A : Abs) : Nat → Abs
  | 0 => A
  | c + 1 => st_tryUndo (pS A c)
theorem pS_s (A : Abs) : ∀ c : Nat, pS A (c + 1) = pS (st_tryUndo A) c
  | 0 => rfl
  | c + 1 => by
    show st_tryUndo (pS A (c + 1)) = st_tryUndo (pS (st_tryUndo A) c)
    rw [pS_s A c]
theorem wP_SK {T n : Int} {A : Abs} {M : List (Int → Int)} (hO : AOkA A) (hD : DL A M) (hG : GN T (nA A)) (hn : 0 ≤ n ∧ T + n < 1000000) : ∀ c : Nat, 99 * (c : Int) < n + 99 → ∃ Q : List (Int → Int), Q.length = c ∧ SK A (runR (nA A) (if 99 * (c : Int) < n then 99 * (c : Int) else n).toNat) ((Q ++ M).take 14) (wP n A c) ∧ (runR (nA A) (if 99 * (c : Int) < n then 99 * (c : Int) else n).toNat :: Q).getLast? = some (nA A) ∧ AOkA (wP n A c)
  | 0, _ => by
    refine ⟨[], rfl, ?_, ?_, hO⟩
    · rw [show (if 99 * ((0 : Nat) : Int) < n then 99 * ((0 : Nat) : Int) else n).toNat = 0 by split <;> omega]
      refine ⟨rfl, rfl, rfl, rfl, rfl, ?_⟩
      rw [List.nil_append, List.take_of_length_le hD.2.1]
      exact hD
    · rw [show (if 99 * ((0 : Nat) : Int) < n then 99 * ((0 : Nat) : Int) else n).toNat = 0 by split <;> omega]
      rfl
  | c + 1, hc => by
    obtain ⟨Q, hQ, hS, hL, hOc⟩ := wP_SK hO hD hG hn c (by omega)
    have e1 : (if 99 * (c : Int) < n then 99 * (c : Int) else n) = 99 * (c : Int) := by rw [if_pos (by omega)]
    rw [e1] at hS hL
    have hp : 1 ≤ (if 99 < n - 99 * (c : Int) then 99 else n - 99 * (c : Int)) ∧ (if 99 < n - 99 * (c : Int) then 99 else n - 99 * (c : Int)) ≤ 99 := by split <;> omega
    have hg := hG.run (99 * (c : Int)).toNat (by omega)
    have hv := (tk_val hOc hp).1
    have hP := hS.push hg.2.2.2.2 (runR (nA A) (if 99 * ((c + 1 : Nat) : Int) < n then 99 * ((c + 1 : Nat) : Int) else n).toNat)
    have hr : runR (nA (wP n A c)) (if 99 < n - 99 * (c : Int) then 99 else n - 99 * (c : Int)).toNat = runR (nA A) (if 99 * ((c + 1 : Nat) : Int) < n then 99 * ((c + 1 : Nat) : Int) else n).toNat := by
      rw [hS.2.2.2.2.1, ← runR_add]
      congr 1
      split <;> split <;> omega
    rw [hr] at hv
    refine ⟨runR (nA A) (99 * (c : Int)).toNat :: Q, by rw [List.length_cons, hQ], ?_, ?_, ?_⟩
    · show SK A _ _ (st_tryTicks (wP n A c) _)
      rw [hv]
      exact hP
    · rw [List.getLast?_cons_cons]
      exact hL
    · exact ok_ticks hOc _
theorem pS_SK {A : Abs} {M : List (Int → Int)} : ∀ (Q : List (Int → Int)) (cur : Int → Int) (A1 : Abs) (e : Int → Int), SK A cur (Q ++ M) A1 → AOkA A1 → (cur :: Q).getLast? = some e → SK A e M (pS A1 Q.length) ∧ AOkA (pS A1 Q.length) ∧ ∀ c, c < Q.length → 0 ≤ an_tryUndo (pS A1 c) ∧ an_tryUndo (pS A1 c) ≤ 13
  | [], cur, A1, e, hS, hO, he => by
    have : cur = e := by simpa using he
    subst this
    exact ⟨hS, hO, fun c hc => absurd hc (by simp)⟩
  | x :: Q, cur, A1, e, hS, hO, he => by
    obtain ⟨h1, h2, h3, h4⟩ := SK.pop (M := Q ++ M) hS
    rw [List.getLast?_cons_cons] at he
    obtain ⟨g1, g2, g3⟩ := pS_SK Q x (st_tryUndo A1) e h1 (ok_undo hO) he
    rw [List.length_cons, pS_s]
    refine ⟨g1, g2, fun c hc => ?_⟩
    cases c with
    | zero =>
      show 0 ≤ an_tryUndo A1 ∧ an_tryUndo A1 ≤ 13
      omega
    | succ c =>
      rw [pS_s]
      exact g3 c (by omega)
