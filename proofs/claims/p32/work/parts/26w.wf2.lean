/-! nets: what is in range, and what keeps them -/
theorem Wf.pg {r : Int → Int} (h : Wf r) {v g : Int} (h0 : 0 ≤ v ∧ v < r 0) (hg : 0 ≤ g ∧ g ≤ 1) : 0 ≤ r (6 + 7 * v + (5 + g)) ∧ r (6 + 7 * v + (5 + g)) ≤ 99 := by
  obtain ⟨-, -, -, -, -, q5, q6, -⟩ := h.2.2.2.2.1 v h0.1 h0.2
  rcases (show g = 0 ∨ g = 1 by omega) with rfl | rfl
  · exact q5
  · exact q6
theorem Wf.lg {r : Int → Int} (h : Wf r) {v g : Int} (h0 : 0 ≤ v ∧ v < r 0) (hg : 0 ≤ g ∧ g ≤ 1) : 0 ≤ r (6 + 7 * v + (3 + g)) ∧ r (6 + 7 * v + (3 + g)) ≤ 99 := by
  obtain ⟨-, -, -, q3, q4, -⟩ := h.2.2.2.2.1 v h0.1 h0.2
  rcases (show g = 0 ∨ g = 1 by omega) with rfl | rfl
  · exact q3
  · exact q4
theorem Wf.su {r : Int → Int} (h : Wf r) {v : Int} (h0 : 0 ≤ v ∧ v < r 0) : 10 ≤ r (6 + 7 * v + 1) ∧ r (6 + 7 * v + 1) ≤ 99 := (h.2.2.2.2.1 v h0.1 h0.2).2.1
theorem Wf.si {r : Int → Int} (h : Wf r) {v : Int} (h0 : 0 ≤ v ∧ v < r 0) : 0 ≤ r (6 + 7 * v + 2) ∧ r (6 + 7 * v + 2) ≤ 1 := (h.2.2.2.2.1 v h0.1 h0.2).2.2.1
theorem cmdS_Wf {r : Int → Int} (h : Wf r) {g q : Int} (hq : 0 ≤ q ∧ q ≤ 99999) : Wf (cmdS r g q).2 := by
  unfold cmdS
  split
  · split
    · exact (runR_Wf h _).1
    · exact h
  split
  · split
    · rename_i e
      exact Wf_press h e.2.2.1 e.2.2.2 (by split <;> decide)
    · exact h
  split
  · split
    · rename_i e
      exact Wf_leak h e.2.1 e.2.2
    · exact h
  split
  · split
    · rename_i e
      exact Wf_supply h e.2.1 e.2.2
    · exact h
  split
  · split
    · rename_i e
      exact Wf_set h e.2
    · exact h
  split
  · split <;> exact h
  split
  · (repeat' split) <;> exact h
  split
  · split <;> exact h
  split
  · split <;> exact h
  exact h
theorem turnR_Wf {r : Int → Int} (h : Wf r) {x : Int} (hx : 0 ≤ x) : Wf (turnR r x) := by
  unfold turnR turnD
  split
  · split
    · exact Wf_valveR h (by assumption) (by omega) (by omega)
    · exact h
  split
  · split
    · rename_i e
      obtain ⟨⟨⟨c1, c2⟩, c3, c4⟩, c5, c6⟩ := e
      exact Wf_ductR h c6 c1 c2 c3 c4 c5
    · exact h
  split
  · split
    · rename_i e
      exact Wf_press h e.1 e.2 (by split <;> decide)
    · exact h
  split
  · split
    · rename_i e
      split
      · exact Wf_leak h e (by omega)
      · exact Wf_removeR h e
    · exact h
  split
  · split
    · rename_i e
      exact Wf_supply h e (by omega)
    · exact h
  exact (runR_Wf h _).1
theorem lUsh33 (x : Int) : 0 ≤ lUsh x 33 ∧ lUsh x 33 < 2147483648 := by
  unfold lUsh
  have e : (iI 33).toInt64.toUInt64 &&& Int64.toUInt64 63 = 33 := by decide
  rw [e]
  have h1 : ((lI x).toUInt64 >>> 33).toNat < 2147483648 := by
    rw [UInt64.toNat_shiftRight]
    have := (lI x).toUInt64.toNat_lt
    have e2 : (33 : UInt64).toNat % 64 = 33 := by decide
    rw [e2, Nat.shiftRight_eq_div_pow]
    omega
  have h2 : (((lI x).toUInt64 >>> 33).toInt64).toInt = (((lI x).toUInt64 >>> 33).toNat : Int) := by
    rw [UInt64.toInt64, Int64.toInt, BitVec.toInt_eq_toNat_of_lt]
    · rfl
    · show 2 * ((lI x).toUInt64 >>> 33).toNat < 2 ^ 64
      omega
  rw [h2]
  omega
theorem simR_Wf {n : Int → Int} (h : Wf n) (z : Int) : ∀ m : Nat, Wf (simR n z m)
  | 0 => h
  | m + 1 => turnR_Wf (simR_Wf h z m) (lUsh33 _).1
theorem needR_b {r : Int → Int} (h : Wf r) {d : Int} (h0 : 0 ≤ d ∧ d < r 1) : needR r d = -1 ∨ (1 ≤ needR r d ∧ needR r d ≤ 99) := by
  obtain ⟨-, -, q2, q3, q4, q5, -⟩ := h.2.2.2.2.2 d h0.1 h0.2
  have p1 := h.su q2
  have hn4 := h.2.2.1
  have hn5 := h.2.2.2.1
  have hm := mulb (x := r (6 + 7 * r (76 + 12 * d + 2) + 1)) (y := r 5) (A := 99) (B := 90) (by omega) (by omega)
  have hmm := mulb (x := r (6 + 7 * r (76 + 12 * d + 2) + 1) - 10) (y := r 5) (A := 99) (B := 90) (by omega) (by omega)
  rw [Int.sub_mul] at hmm
  have hm3 := mulb (x := r (76 + 12 * d + 4)) (y := r 4) (A := 6) (B := 9) (by omega) (by omega)
  unfold needR needP
  split <;> omega
