/-! the model's other changes of a row -/
def clr (r : Int → Int) (at0 : Int) : Nat → Int → Int
  | 0 => r
  | n + 1 => upr (clr r at0 n) (at0 + (n : Int)) 0
theorem clr_out (r : Int → Int) (at0 : Int) {i : Int} : ∀ n : Nat, i < at0 ∨ at0 + (n : Int) ≤ i → clr r at0 n i = r i
  | 0, _ => rfl
  | n + 1, h => by
    rw [clr, upr_ne _ _ (by omega)]
    exact clr_out r at0 n (by omega)
theorem clr_in (r : Int → Int) (at0 : Int) {i : Int} : ∀ n : Nat, at0 ≤ i → i < at0 + (n : Int) → clr r at0 n i = 0
  | 0, h, h2 => by omega
  | n + 1, h, h2 => by
    rw [clr]
    by_cases e : i = at0 + (n : Int)
    · rw [e, upr_at]
    · rw [upr_ne _ _ e]
      exact clr_in r at0 n h (by omega)
def valveR (r : Int → Int) (k s : Int) : Int → Int := upr (upr (upr (clr r (6 + 7 * r 0) 7) (6 + 7 * r 0 + 0) k) (6 + 7 * r 0 + 1) s) 0 (r 0 + 1)
def ductR (r : Int → Int) (f l t p n : Int) : Int → Int := upr (upr (upr (upr (upr (upr (clr r (76 + 12 * r 1) 12) (76 + 12 * r 1 + 0) f) (76 + 12 * r 1 + 1) l) (76 + 12 * r 1 + 2) t) (76 + 12 * r 1 + 3) p) (76 + 12 * r 1 + 4) n) 1 (r 1 + 1)
def sh12 (r : Int → Int) (at0 : Int) : Nat → Int → Int
  | 0 => r
  | n + 1 => upr (sh12 r at0 n) (at0 + (n : Int)) (sh12 r at0 n (at0 + (n : Int) + 12))
theorem sh12_out (r : Int → Int) (at0 : Int) {i : Int} : ∀ n : Nat, i < at0 ∨ at0 + (n : Int) ≤ i → sh12 r at0 n i = r i
  | 0, _ => rfl
  | n + 1, h => by
    rw [sh12, upr_ne _ _ (by omega)]
    exact sh12_out r at0 n (by omega)
theorem sh12_in (r : Int → Int) (at0 : Int) {i : Int} : ∀ n : Nat, at0 ≤ i → i < at0 + (n : Int) → sh12 r at0 n i = r (i + 12)
  | 0, h, h2 => by omega
  | n + 1, h, h2 => by
    rw [sh12]
    by_cases e : i = at0 + (n : Int)
    · rw [e, upr_at]
      exact sh12_out r at0 n (by omega)
    · rw [upr_ne _ _ e]
      exact sh12_in r at0 n h (by omega)
def removeR (r : Int → Int) (d : Int) : Int → Int := clr (sh12 (upr r 1 (r 1 - 1)) (76 + 12 * d) (12 * (r 1 - 1 - d)).toNat) (76 + 12 * (r 1 - 1)) 12
def needP (r : Int → Int) (d : Int) : Int := (r (6 + 7 * r (76 + 12 * d + 2) + 1) * r 5 + 99) / 100 + (r (76 + 12 * d + 4) * r 4 + r (76 + 12 * d + 5))
def needR (r : Int → Int) (d : Int) : Int := if needP r d ≤ 99 then needP r d else -1
def livelyR (r : Int → Int) : Nat → Int
  | 0 => 0
  | n + 1 => livelyR r n + ((if 0 < r (6 + 7 * (n : Int) + 3) then 1 else 0) + (if 0 < r (6 + 7 * (n : Int) + 4) then 1 else 0))
def allPR (r : Int → Int) : Nat → Int
  | 0 => 0
  | n + 1 => allPR r n + (r (6 + 7 * (n : Int) + 3) + r (6 + 7 * (n : Int) + 4))
theorem livelyR_b (r : Int → Int) : ∀ n : Nat, 0 ≤ livelyR r n ∧ livelyR r n ≤ 2 * n
  | 0 => by simp [livelyR]
  | n + 1 => by
    have := livelyR_b r n
    rw [livelyR]
    split <;> split <;> omega
theorem allPR_b {r : Int → Int} (h : Wf r) : ∀ n : Nat, n ≤ r 0 → 0 ≤ allPR r n ∧ allPR r n ≤ 198 * n
  | 0, _ => by simp [allPR]
  | n + 1, hn => by
    have := allPR_b h n (by omega)
    obtain ⟨-, -, -, q3, q4, -⟩ := h.2.2.2.2.1 (n : Int) (by omega) (by omega)
    rw [allPR]
    omega
/-- 268 places of a row from a place on, and nothing behind -/
def blk (f : Int → Int) (at0 : Int) : Int → Int := fun k => if 0 ≤ k ∧ k < 268 then f (at0 + k) else 0
theorem blk_in (f : Int → Int) (at0 : Int) {k : Int} (h : 0 ≤ k ∧ k < 268) : blk f at0 k = f (at0 + k) := if_pos h
def newR : Int → Int := fun k => if k = 4 then 2 else if k = 5 then 30 else 0
