/-! what the model's methods reckon, on a row of whole numbers -/
abbrev strongR (r : Int → Int) (v p : Int) : Prop := 0 < p ∧ r (6 + 7 * v + 1) * r 5 ≤ 100 * p
/-- the push whose place in the valve's cells is k works -/
abbrev worksR (r : Int → Int) (v k : Int) : Prop := strongR r v (r (6 + 7 * v + k))
def outR (r : Int → Int) (d : Int) : Int := if r (76 + 12 * d + 6) - r (76 + 12 * d + 4) * r 4 - r (76 + 12 * d + 5) < 0 then 0 else r (76 + 12 * d + 6) - r (76 + 12 * d + 4) * r 4 - r (76 + 12 * d + 5)
def zeroP (r : Int → Int) : Nat → Int → Int
  | 0 => r
  | n + 1 => upr (upr (zeroP r n) (6 + 7 * (n : Int) + 5) 0) (6 + 7 * (n : Int) + 5 + 1) 0
def pushR (r : Int → Int) (d : Int) : Int → Int := upr r (6 + 7 * r (76 + 12 * d + 2) + 5 + r (76 + 12 * d + 3)) (if r (6 + 7 * r (76 + 12 * d + 2) + 5 + r (76 + 12 * d + 3)) < outR r d then outR r d else r (6 + 7 * r (76 + 12 * d + 2) + 5 + r (76 + 12 * d + 3)))
def pushD (r : Int → Int) : Nat → Int → Int
  | 0 => r
  | n + 1 => pushR (pushD r n) (n : Int)
def pushAllR (r : Int → Int) : Int → Int := pushD (zeroP r (r 0).toNat) (r 1).toNat
def layR (r : Int → Int) (v leg p : Int) : Int → Int := upr (upr r (6 + 7 * v + 3 + leg) p) (6 + 7 * v + 3 + 1 - leg) 0
def goesR (r : Int → Int) (v leg : Int) : Int → Int := upr (upr r 3 (bmz (r 3 + if r (6 + 7 * v + 2) = leg then 0 else 1))) (6 + 7 * v + 2) leg
def reckonR (r : Int → Int) (v : Int) : Int → Int :=
  if r (6 + 7 * v + 0) = 0 then layR r v (1 - r (6 + 7 * v + 2)) (r (6 + 7 * v + 1))
  else if r (6 + 7 * v + 0) = 1 then layR r v (if worksR r v 5 ∨ worksR r v 6 then 1 else 0) (r (6 + 7 * v + 1))
  else if r (6 + 7 * v + 0) = 2 then
    (if worksR r v 5 ∧ ¬ worksR r v 6 then layR (goesR r v 1) v 1 (r (6 + 7 * v + 1))
     else if ¬ worksR r v 5 ∧ worksR r v 6 then layR (goesR r v 0) v 0 (r (6 + 7 * v + 1))
     else layR r v (r (6 + 7 * v + 2)) (r (6 + 7 * v + 1)))
  else if r (6 + 7 * v + 0) = 3 then upr (layR r v 0 (if r (6 + 7 * v + 5) < r (6 + 7 * v + 6) then r (6 + 7 * v + 5) else r (6 + 7 * v + 6))) (6 + 7 * v + 3 + 1) (if r (6 + 7 * v + 5) = 0 ∨ r (6 + 7 * v + 6) = 0 then r (6 + 7 * v + 5) + r (6 + 7 * v + 6) else 0)
  else layR r v (if 5 ≤ r (6 + 7 * v + 5) ∨ 5 ≤ r (6 + 7 * v + 6) then 0 else 1) (r (6 + 7 * v + 1))
def reckAll (r : Int → Int) : Nat → Int → Int
  | 0 => r
  | n + 1 => reckonR (reckAll r n) (n : Int)
def shiftR (r : Int → Int) (at0 : Int) : Nat → Int → Int
  | 0 => r
  | n + 1 => upr (shiftR r at0 n) (at0 + (n : Int)) (shiftR r at0 n (at0 + (n : Int) + 1))
def enterR (r : Int → Int) (d : Int) : Int → Int := upr (shiftR r (76 + 12 * d + 6) (r (76 + 12 * d + 4) - 1).toNat) (76 + 12 * d + 6 + (r (76 + 12 * d + 4) - 1)) (r (6 + 7 * r (76 + 12 * d + 0) + (3 + r (76 + 12 * d + 1))))
def enterAll (r : Int → Int) : Nat → Int → Int
  | 0 => r
  | n + 1 => enterR (enterAll r n) (n : Int)
def tick2R (r : Int → Int) : Int → Int := reckAll (pushAllR (upr r 2 (bmz (r 2 + 1)))) (r 0).toNat
def tickR (r : Int → Int) : Int → Int := enterAll (tick2R r) (r 1).toNat
def runR (r : Int → Int) : Nat → Int → Int
  | 0 => r
  | n + 1 => tickR (runR r n)
/-- a row that is a net -/
def WfV (r : Int → Int) (v : Int) : Prop := (0 ≤ r (6 + 7 * v + 0) ∧ r (6 + 7 * v + 0) ≤ 4) ∧ (10 ≤ r (6 + 7 * v + 1) ∧ r (6 + 7 * v + 1) ≤ 99) ∧ (0 ≤ r (6 + 7 * v + 2) ∧ r (6 + 7 * v + 2) ≤ 1) ∧ (0 ≤ r (6 + 7 * v + 3) ∧ r (6 + 7 * v + 3) ≤ 99) ∧ (0 ≤ r (6 + 7 * v + 4) ∧ r (6 + 7 * v + 4) ≤ 99) ∧ (0 ≤ r (6 + 7 * v + 5) ∧ r (6 + 7 * v + 5) ≤ 99) ∧ (0 ≤ r (6 + 7 * v + 6) ∧ r (6 + 7 * v + 6) ≤ 99) ∧
  (r (6 + 7 * v + 0) = 2 → r (6 + 7 * v + 2) = 0 → r (6 + 7 * v + 4) = 0) ∧ (r (6 + 7 * v + 0) = 2 → r (6 + 7 * v + 2) = 1 → r (6 + 7 * v + 3) = 0) ∧ (r (6 + 7 * v + 0) ≠ 0 → r (6 + 7 * v + 0) ≠ 2 → r (6 + 7 * v + 2) = 0)
def WfD (r : Int → Int) (d : Int) : Prop := (0 ≤ r (76 + 12 * d + 0) ∧ r (76 + 12 * d + 0) < r 0) ∧ (0 ≤ r (76 + 12 * d + 1) ∧ r (76 + 12 * d + 1) ≤ 1) ∧ (0 ≤ r (76 + 12 * d + 2) ∧ r (76 + 12 * d + 2) < r 0) ∧ (0 ≤ r (76 + 12 * d + 3) ∧ r (76 + 12 * d + 3) ≤ 1) ∧ (1 ≤ r (76 + 12 * d + 4) ∧ r (76 + 12 * d + 4) ≤ 6) ∧ (0 ≤ r (76 + 12 * d + 5) ∧ r (76 + 12 * d + 5) ≤ 30) ∧ ∀ k, 0 ≤ k → k < 6 → 0 ≤ r (76 + 12 * d + 6 + k) ∧ r (76 + 12 * d + 6 + k) ≤ 99
def Wf (r : Int → Int) : Prop := (0 ≤ r 0 ∧ r 0 ≤ 10) ∧ (0 ≤ r 1 ∧ r 1 ≤ 16) ∧ (0 ≤ r 4 ∧ r 4 ≤ 9) ∧ (5 ≤ r 5 ∧ r 5 ≤ 90) ∧ (∀ v, 0 ≤ v → v < r 0 → WfV r v) ∧ ∀ d, 0 ≤ d → d < r 1 → WfD r d
theorem mulb {x y : Int} {A B : Int} (hx : 0 ≤ x ∧ x ≤ A) (hy : 0 ≤ y ∧ y ≤ B) : 0 ≤ x * y ∧ x * y ≤ A * B := ⟨Int.mul_nonneg hx.1 hy.1, Int.mul_le_mul hx.2 hy.2 hy.1 (Int.le_trans hx.1 hx.2)⟩
abbrev R3 (z : Int) : Prop := -2147483648 ≤ z ∧ z < 2147483648
abbrev R6 (z : Int) : Prop := -9223372036854775808 ≤ z ∧ z < 9223372036854775808
