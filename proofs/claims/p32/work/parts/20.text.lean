/-! texts -/
def dg (t : Int → Int) (n p : Int) : Int := if p < n then t p - 48 else -1
abbrev ok1 (t : Int → Int) (n p lo hi : Int) : Prop := (0 ≤ dg t n p ∧ dg t n p ≤ 9) ∧ dg t n p ≤ hi ∧ lo ≤ dg t n p
abbrev ok2a (t : Int → Int) (n p lo hi : Int) : Prop := (0 ≤ dg t n p ∧ dg t n p ≤ 9) ∧ 10 * dg t n p ≤ hi ∧ lo ≤ 10 * dg t n p + 9
abbrev ok2b (t : Int → Int) (n p lo hi : Int) : Prop := (0 ≤ dg t n (p + 1) ∧ dg t n (p + 1) ≤ 9) ∧ 10 * dg t n p + dg t n (p + 1) ≤ hi ∧ lo ≤ 10 * dg t n p + dg t n (p + 1)
def figV (t : Int → Int) (n p a k lo hi : Int) : Int := if a = -1 then -1 else if k = 1 then (if ((0 ≤ dg t n p ∧ dg t n p ≤ 9) ∧ dg t n p ≤ hi ∧ lo ≤ dg t n p) then dg t n p else -1) else (if ((0 ≤ dg t n p ∧ dg t n p ≤ 9) ∧ 10 * dg t n p ≤ hi ∧ lo ≤ 10 * dg t n p + 9) ∧ ((0 ≤ dg t n (p + 1) ∧ dg t n (p + 1) ≤ 9) ∧ 10 * dg t n p + dg t n (p + 1) ≤ hi ∧ lo ≤ 10 * dg t n p + dg t n (p + 1)) then 10 * dg t n p + dg t n (p + 1) else -1)
def figP (t : Int → Int) (n p a k lo hi : Int) : Int := if a = -1 then p else if k = 1 then (if ((0 ≤ dg t n p ∧ dg t n p ≤ 9) ∧ dg t n p ≤ hi ∧ lo ≤ dg t n p) then p + 1 else p) else (if ((0 ≤ dg t n p ∧ dg t n p ≤ 9) ∧ 10 * dg t n p ≤ hi ∧ lo ≤ 10 * dg t n p + 9) then (if ((0 ≤ dg t n (p + 1) ∧ dg t n (p + 1) ≤ 9) ∧ 10 * dg t n p + dg t n (p + 1) ≤ hi ∧ lo ≤ 10 * dg t n p + dg t n (p + 1)) then p + 2 else p + 1) else p)
theorem figV_r (t : Int → Int) (n p a k : Int) {lo hi : Int} (h0 : 0 ≤ lo) (h9 : hi ≤ 99) (hl : lo ≤ hi) : figV t n p a k lo hi = -1 ∨ (a ≠ -1 ∧ lo ≤ figV t n p a k lo hi ∧ figV t n p a k lo hi ≤ hi) := by
  unfold figV
  by_cases ha : a = -1
  · exact Or.inl (if_pos ha)
  · rw [if_neg ha]
    by_cases hk : k = 1
    · rw [if_pos hk]
      by_cases h : ok1 t n p lo hi
      · rw [if_pos h]; exact Or.inr ⟨ha, h.2.2, h.2.1⟩
      · rw [if_neg h]; exact Or.inl rfl
    · rw [if_neg hk]
      by_cases h : ok2a t n p lo hi ∧ ok2b t n p lo hi
      · rw [if_pos h]; exact Or.inr ⟨ha, h.2.2.2, h.2.2.1⟩
      · rw [if_neg h]; exact Or.inl rfl
theorem figP_r (t : Int → Int) (n p a k lo hi : Int) : p ≤ figP t n p a k lo hi ∧ figP t n p a k lo hi ≤ p + 2 := by
  unfold figP
  repeat' split
  all_goals omega
def tabS (s : Int) : Nat := if s = 118 then 0 else if s = 100 then 1 else if s = 107 ∨ s = 114 then 2 else if s = 108 then 3 else if s = 116 then 4 else 5
def loB (k i : Nat) : Int := (tbL k).getD (2 * i) 0
def hiB (k i : Nat) : Int := (tbL k).getD (2 * i + 1) 0
def dgB (k i : Nat) : Int := if hiB k i > 9 then 2 else 1
/-- the number read last (or -1), and the place behind -/
def nums (t : Int → Int) (n : Int) (k : Nat) (p : Int) : Nat → Int × Int
  | 0 => (0, p)
  | i + 1 => (figV t n (nums t n k p i).2 (nums t n k p i).1 (dgB k i) (loB k i) (hiB k i), figP t n (nums t n k p i).2 (nums t n k p i).1 (dgB k i) (loB k i) (hiB k i))
def cntB (k : Nat) : Nat := (tbL k).length / 2
def cmdV (t : Int → Int) (n p : Int) : Int := (nums t n (tabS (t p)) (p + 1) (cntB (tabS (t p)))).1
def cmdP (t : Int → Int) (n p : Int) : Int := if tabS (t p) = 5 then p else (nums t n (tabS (t p)) (p + 1) (cntB (tabS (t p)))).2
abbrev cmdOk (t : Int → Int) (n p : Int) : Prop := tabS (t p) ≠ 5 ∧ cmdV t n p ≠ -1
def argV (t : Int → Int) (n p : Int) (i : Nat) : Int := (nums t n (tabS (t p)) (p + 1) (i + 1)).1
abbrev canD (r : Int → Int) (f l u p n : Int) : Prop := ((((0 ≤ f ∧ f < r 0) ∧ (0 ≤ l ∧ l ≤ 1)) ∧ ((0 ≤ u ∧ u < r 0) ∧ (0 ≤ p ∧ p ≤ 1))) ∧ (1 ≤ n ∧ n ≤ 6) ∧ r 1 < 16)
abbrev isK (r : Int → Int) (v : Int) : Prop := (0 ≤ v ∧ v < r 0) ∧ r (6 + 7 * v + 0) = 0
/-- does the command say something that would throw -/
def cmdNo (r : Int → Int) (s : Int) (a : Nat → Int) : Int :=
  if s = 118 then (if r 0 < 10 then 0 else 1)
  else if s = 100 then (if canD r (a 0) (a 1) (a 2) (a 3) (a 4) then 0 else 1)
  else if s = 107 ∨ s = 114 then (if isK r (a 0) then 0 else 1)
  else if s = 108 then (if 0 ≤ a 0 ∧ a 0 < r 1 then 0 else 1)
  else 0
def cmdDo (r : Int → Int) (s : Int) (a : Nat → Int) : Int → Int :=
  if cmdNo r s a = 1 then r
  else if s = 118 then valveR r (a 0) (a 1)
  else if s = 100 then ductR r (a 0) (a 1) (a 2) (a 3) (a 4)
  else if s = 107 ∨ s = 114 then upr r (6 + 7 * a 0 + 2) (if s = 107 then 1 else 0)
  else if s = 108 then upr r (76 + 12 * a 0 + 5) (a 1)
  else runR r (a 0).toNat
def runT (t : Int → Int) (n : Int) : Nat → Int → (Int → Int) → Int → Int × (Int → Int) × Int
  | 0, _, r, u => (-1, r, u)
  | f + 1, p, r, u => if p < n then (if cmdOk t n p then runT t n f (cmdP t n p) (cmdDo r (t p) (argV t n p)) (u + cmdNo r (t p) (argV t n p)) else (cmdP t n p, r, u)) else (-1, r, u)
def errT (t : Int → Int) (n : Int) : Nat → Int → Int
  | 0, _ => -1
  | f + 1, p => if p < n then (if cmdOk t n p then errT t n f (cmdP t n p) else cmdP t n p) else -1
theorem runT_err (t : Int → Int) (n : Int) : ∀ (f : Nat) (p : Int) (r : Int → Int) (u : Int), (runT t n f p r u).1 = errT t n f p
  | 0, _, _, _ => rfl
  | f + 1, p, r, u => by
    unfold runT errT
    split
    · split
      · exact runT_err t n f _ _ _
      · rfl
    · rfl
/-- the whole reading: where it is wrong (or -1), the net, how many were left out -/
def readT (t : Int → Int) (n : Int) : Int × (Int → Int) × Int := if n = 0 ∨ t 0 ≠ 87 then (0, newR, 0) else runT t n 120 1 newR 0
def errR (t : Int → Int) (n : Int) : Int := if n = 0 ∨ t 0 ≠ 87 then 0 else errT t n 120 1
theorem readT_err (t : Int → Int) (n : Int) : (readT t n).1 = errR t n := by
  unfold readT errR
  split
  · rfl
  · exact runT_err t n _ _ _ _
theorem nums_p (t : Int → Int) (n : Int) (k : Nat) (p : Int) : ∀ i : Nat, p ≤ (nums t n k p i).2 ∧ (nums t n k p i).2 ≤ p + 2 * i
  | 0 => by simp [nums]
  | i + 1 => by
    have h1 := nums_p t n k p i
    have h2 := figP_r t n (nums t n k p i).2 (nums t n k p i).1 (dgB k i) (loB k i) (hiB k i)
    unfold nums
    dsimp only
    omega
theorem cmdP_r (t : Int → Int) (n p : Int) : p ≤ cmdP t n p ∧ cmdP t n p ≤ p + 11 ∧ (tabS (t p) ≠ 5 → p + 1 ≤ cmdP t n p) := by
  unfold cmdP
  by_cases h : tabS (t p) = 5
  · rw [if_pos h]; exact ⟨by omega, by omega, fun q => absurd h q⟩
  · rw [if_neg h]
    have := nums_p t n (tabS (t p)) (p + 1) (cntB (tabS (t p)))
    have hc : cntB (tabS (t p)) ≤ 5 := by
      have key : ∀ k, k < 6 → cntB k ≤ 5 := by decide
      refine key _ ?_
      unfold tabS
      repeat' split
      all_goals decide
    omega
theorem bnds : ∀ k, k < 5 → ∀ i, i < cntB k → 0 ≤ loB k i ∧ hiB k i ≤ 99 ∧ loB k i ≤ hiB k i := by decide
/-- every number of a good command is in its range -/
theorem nums_ok (t : Int → Int) (n : Int) {k : Nat} (hk : k < 5) (p : Int) : ∀ c : Nat, c ≤ cntB k → (nums t n k p c).1 ≠ -1 → ∀ i, i < c → loB k i ≤ (nums t n k p (i + 1)).1 ∧ (nums t n k p (i + 1)).1 ≤ hiB k i
  | 0, _, _ => fun i hi => absurd hi (Nat.not_lt_zero i)
  | c + 1, hc, h => fun i hi => by
    obtain ⟨b1, b2, b3⟩ := bnds k hk c (by omega)
    have hr := figV_r t n (nums t n k p c).2 (nums t n k p c).1 (dgB k c) b1 b2 b3
    have e : (nums t n k p (c + 1)).1 = figV t n (nums t n k p c).2 (nums t n k p c).1 (dgB k c) (loB k c) (hiB k c) := rfl
    rw [← e] at hr
    rcases hr with q | ⟨q1, q2, q3⟩
    · exact absurd q h
    · by_cases hic : i = c
      · rw [hic]; exact ⟨q2, q3⟩
      · exact nums_ok t n hk p c (by omega) q1 i (by omega)
theorem cmdNo_01 (r : Int → Int) (s : Int) (a : Nat → Int) : cmdNo r s a = 0 ∨ cmdNo r s a = 1 := by
  unfold cmdNo
  repeat' split
  all_goals first | exact Or.inl rfl | exact Or.inr rfl
theorem Wf_cmdDo {t : Int → Int} {n p : Int} {r : Int → Int} (h : Wf r) (hok : cmdOk t n p) : Wf (cmdDo r (t p) (argV t n p)) := by
  obtain ⟨h5, hv⟩ := hok
  have hk : tabS (t p) < 5 := by
    unfold tabS at h5 ⊢
    repeat' split
    all_goals first | omega | skip
    all_goals simp_all
  have hall := nums_ok t n hk (p + 1) (cntB (tabS (t p))) (Nat.le_refl _) hv
  unfold cmdDo
  by_cases hno : cmdNo r (t p) (argV t n p) = 1
  · rw [if_pos hno]; exact h
  rw [if_neg hno]
  have hno0 : cmdNo r (t p) (argV t n p) = 0 := by rcases cmdNo_01 r (t p) (argV t n p) with q | q <;> omega
  unfold cmdNo at hno0
  by_cases s1 : t p = 118
  · have hk0 : tabS (t p) = 0 := by unfold tabS; rw [if_pos s1]
    rw [if_pos s1] at hno0 ⊢
    rw [hk0] at hall
    have a0 : 0 ≤ argV t n p 0 ∧ argV t n p 0 ≤ 4 := by unfold argV; rw [hk0]; exact hall 0 (by decide)
    have a1 : 10 ≤ argV t n p 1 ∧ argV t n p 1 ≤ 99 := by unfold argV; rw [hk0]; exact hall 1 (by decide)
    exact Wf_valveR h (by split at hno0 <;> omega) a0 a1
  rw [if_neg s1] at hno0 ⊢
  by_cases s2 : t p = 100
  · rw [if_pos s2] at hno0 ⊢
    by_cases hc : canD r (argV t n p 0) (argV t n p 1) (argV t n p 2) (argV t n p 3) (argV t n p 4)
    · obtain ⟨⟨⟨c1, c2⟩, c3, c4⟩, c5, c6⟩ := hc
      exact Wf_ductR h c6 c1 c2 c3 c4 c5
    · rw [if_neg hc] at hno0
      omega
  rw [if_neg s2] at hno0 ⊢
  by_cases s3 : t p = 107 ∨ t p = 114
  · rw [if_pos s3] at hno0 ⊢
    by_cases hc : isK r (argV t n p 0)
    · exact Wf_press h hc.1 hc.2 (by split <;> omega)
    · rw [if_neg hc] at hno0
      omega
  rw [if_neg s3] at hno0 ⊢
  by_cases s4 : t p = 108
  · have hk0 : tabS (t p) = 3 := by unfold tabS; rw [if_neg s1, if_neg s2, if_neg s3, if_pos s4]
    rw [if_pos s4] at hno0 ⊢
    rw [hk0] at hall
    have a1 : 0 ≤ argV t n p 1 ∧ argV t n p 1 ≤ 30 := by unfold argV; rw [hk0]; exact hall 1 (by decide)
    exact Wf_leak h (by split at hno0 <;> omega) a1
  rw [if_neg s4]
  exact (runR_Wf h _).1
