theorem SK.trans {A B A1 : Abs} {n0 n1 : Int → Int} {M0 M : List (Int → Int)} (h : SK A n0 M0 B) (h2 : SK B n1 M A1) : SK A n1 M A1 := ⟨h2.1.trans h.1, h2.2.1.trans h.2.1, h2.2.2.1.trans h.2.2.1, h2.2.2.2.1.trans h.2.2.2.1, h2.2.2.2.2.1, h2.2.2.2.2.2⟩
theorem rules_pure {T : Int} {A : Abs} (h : Inv T A) (hT : T < 900000) {b1 b2 : Int} (h1 : b1 = 0 ∨ b1 = 1) (h2 : b2 = 0 ∨ b2 = 1) :
    AOkA (st_keys A 0 b1) ∧ AOkA (st_keys (st_keys A 0 b1) 1 b2) ∧ AOkA (wP 60 (st_keys (st_keys A 0 b1) 1 b2) (cntN 60)) ∧
    (nA (wP 60 (st_keys (st_keys A 0 b1) 1 b2) (cntN 60)) = runR (upr (upr (nA A) (6 + 7 * 0 + 2) b1) (6 + 7 * 1 + 2) b2) 60 ∧ nA (wP 60 (st_keys (st_keys A 0 b1) 1 b2) (cntN 60)) 0 = nA A 0) ∧
    (∀ c, c < cntN 60 → 0 ≤ an_tryUndo (pS (wP 60 (st_keys (st_keys A 0 b1) 1 b2) (cntN 60)) c) ∧ an_tryUndo (pS (wP 60 (st_keys (st_keys A 0 b1) 1 b2) (cntN 60)) c) ≤ 13) ∧
    (0 ≤ an_tryUndo (pS (wP 60 (st_keys (st_keys A 0 b1) 1 b2) (cntN 60)) (cntN 60)) ∧ an_tryUndo (pS (wP 60 (st_keys (st_keys A 0 b1) 1 b2) (cntN 60)) (cntN 60)) ≤ 13) ∧
    (0 ≤ an_tryUndo (st_tryUndo (pS (wP 60 (st_keys (st_keys A 0 b1) 1 b2) (cntN 60)) (cntN 60))) ∧ an_tryUndo (st_tryUndo (pS (wP 60 (st_keys (st_keys A 0 b1) 1 b2) (cntN 60)) (cntN 60))) ≤ 13) ∧
    Inv T (st_tryUndo (st_tryUndo (pS (wP 60 (st_keys (st_keys A 0 b1) 1 b2) (cntN 60)) (cntN 60)))) ∧ nA (st_tryUndo (st_tryUndo (pS (wP 60 (st_keys (st_keys A 0 b1) 1 b2) (cntN 60)) (cntN 60)))) = nA A := by
  obtain ⟨L, hD, hC⟩ := h.2.2.1
  have hG := h.2.1
  obtain ⟨h4, k0, k1⟩ := hG.2.1
  have hO1 : AOkA (st_keys A 0 b1) := ok_press h.1 0 b1 h1
  obtain ⟨e1, -⟩ := ky_val h.1 (v := 0) (b := b1) ⟨by decide, by omega⟩ k0
  have g1 := hG.press (v := 0) (b := b1) ⟨by decide, by omega⟩ k0 (by omega)
  have hS0 : SK A (nA A) (([] ++ L).take 14) A := ⟨rfl, rfl, rfl, rfl, rfl, by rw [List.nil_append, List.take_of_length_le hD.2.1]; exact hD⟩
  have hS1 := hS0.push hG.2.2.2.2 (upr (nA A) (6 + 7 * 0 + 2) b1)
  rw [← e1] at hS1
  have n1 : nA (st_keys A 0 b1) = upr (nA A) (6 + 7 * 0 + 2) b1 := hS1.2.2.2.2.1
  generalize st_keys A 0 b1 = B1 at *
  have v1 : 0 ≤ (1 : Int) ∧ (1 : Int) < nA B1 0 := by rw [n1, upr_ne _ _ (by decide)]; omega
  have k1' : nA B1 (6 + 7 * 1 + 0) = 0 := by rw [n1, upr_ne _ _ (by decide)]; exact k1
  have hO2 : AOkA (st_keys B1 1 b2) := ok_press hO1 1 b2 h2
  obtain ⟨e2, -⟩ := ky_val hO1 (v := 1) (b := b2) v1 k1'
  have g1' : GN T (nA B1) := by rw [n1]; exact g1
  have g2 := g1'.press (v := 1) (b := b2) v1 k1' (by omega)
  have hS2 := hS1.push g1.2.2.2.2 (upr (nA B1) (6 + 7 * 1 + 2) b2)
  rw [← e2] at hS2
  have n2 : nA (st_keys B1 1 b2) = upr (nA B1) (6 + 7 * 1 + 2) b2 := hS2.2.2.2.2.1
  generalize st_keys B1 1 b2 = B2 at *
  have g2' : GN T (nA B2) := by rw [n2]; exact g2
  obtain ⟨Q, hQ, hS3, hL, hO3⟩ := wP_SK (T := T) (n := 60) hO2 hS2.2.2.2.2.2 g2' (by omega) (cntN 60) (by decide)
  have e60 : (if 99 * ((cntN 60 : Nat) : Int) < 60 then 99 * ((cntN 60 : Nat) : Int) else 60).toNat = 60 := by decide
  rw [e60] at hS3 hL
  have n3 : nA (wP 60 B2 (cntN 60)) = runR (nA B2) 60 := hS3.2.2.2.2.1
  generalize wP 60 B2 (cntN 60) = B3 at *
  have hl : Q.length = 1 := hQ
  have hsp : (Q ++ (upr (nA A) (6 + 7 * 0 + 2) b1 :: (nA A :: []) ++ L).take 14).take 14 = Q ++ (upr (nA A) (6 + 7 * 0 + 2) b1 :: nA A :: L.take 11) := by
    rw [List.take_append, List.take_of_length_le (by omega), hl]
    rw [List.take_take]
    rfl
  rw [hsp] at hS3
  obtain ⟨p1, p2, p3⟩ := pS_SK Q _ _ _ hS3 hO3 hL
  rw [hQ] at p1 p2 p3
  generalize hB4 : pS B3 (cntN 60) = B4 at *
  obtain ⟨q1, q2, q3, q4⟩ := p1.pop
  obtain ⟨r1, r2, r3, r4⟩ := q1.pop
  refine ⟨hO1, hO2, hO3, ⟨?_, ?_⟩, p3, ⟨by omega, by omega⟩, ⟨by omega, by omega⟩, SK.inv h hD hC (hS2.trans r1) (ok_undo (ok_undo p2)), r1.2.2.2.2.1⟩
  · rw [n3, n2, n1]
  · rw [n3]
    have := (runR_Wf g2'.1 60).2.1
    rw [this, n2, upr_ne _ _ (by decide), n1, upr_ne _ _ (by decide)]
theorem iAnd_1 {x : Int} (h : 0 ≤ x ∧ x < 4) : iAnd x 1 = x % 2 := by
  rcases (show x = 0 ∨ x = 1 ∨ x = 2 ∨ x = 3 by omega) with rfl | rfl | rfl | rfl <;> decide
theorem leakB_r (n : Int → Int) (e l v : Int) : -2147483648 ≤ leakB n e l v ∧ leakB n e l v < 2147483648 := by
  have := beatR_b (upr n (76 + 12 * e + 5) l) v
  unfold leakB
  omega
theorem beatR_r (n : Int → Int) (v : Int) : -2147483648 ≤ beatR n v ∧ beatR n v < 2147483648 := by
  have := beatR_b n v
  omega
theorem suspD_r {n : Int → Int} (h : Wf n) (v b : Int) : -2147483648 ≤ suspD n v b (n 1).toNat 0 ∧ suspD n v b (n 1).toNat 0 < 2147483648 := by
  have h1 := h.2.1
  have := suspD_b n v b (n 1).toNat 0
  omega
theorem ruleL_r (n : Int → Int) (c y v : Int) : -2147483648 ≤ ruleL n c y v 4 0 0 ∧ ruleL n c y v 4 0 0 < 2147483648 := by
  have := ruleL_b n c y v
  omega
theorem allPR_r {A : Abs} (hO : AOkA A) : -2147483648 ≤ allPR (nA A) (nA A 0).toNat ∧ allPR (nA A) (nA A 0).toNat < 2147483648 := by
  have h0 := hO.wf.1
  have := allPR_b hO.wf (nA A 0).toNat (by omega)
  omega
theorem restL_r (r : Int → Int) : -2147483648 ≤ restL 301 r 0 ∧ restL 301 r 0 < 2147483648 := by
  have := restL_b r
  omega
