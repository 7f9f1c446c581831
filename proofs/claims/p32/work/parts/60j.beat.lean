/-! beats, leaks, the duct that might leak -/
theorem upr_self (r : Int → Int) (j : Int) : upr r j (r j) = r := by
  funext i
  rw [upr_if]
  split
  · rename_i e
    rw [e]
  · rfl
theorem leakB_had (n : Int → Int) (e v : Int) : leakB n e (n (76 + 12 * e + 5)) v = beatR n v := by
  unfold leakB
  rw [upr_self]
theorem lk_val {A : Abs} (hO : AOkA A) {e l : Int} (he : 0 ≤ e ∧ e < nA A 1) (hl : 0 ≤ l ∧ l ≤ 30) : st_tryLeak A e l = (A.1, remA (aA A), A.2.2.1, upr (nA A) (76 + 12 * e + 5) l, remD (aA A) (nA A) (dA A), kA A, iA A) ∧ an_tryLeak A e l = nA A (76 + 12 * e + 5) := by
  obtain ⟨-, -, -, -, -, q5, -⟩ := hO.wf.2.2.2.2.2 e he.1 he.2
  have eo : op_leak A.1 A.2.1 A.2.2.1 A.2.2.2.1 A.2.2.2.2.1 A.2.2.2.2.2.1 A.2.2.2.2.2.2 e l = (0, nA A (76 + 12 * e + 5), (A.1, remA (aA A), A.2.2.1, upr (nA A) (76 + 12 * e + 5) l, remD (aA A) (nA A) (dA A), kA A, iA A)) := by unfold op_leak; rw [if_neg (not_not_intro he), if_neg (not_not_intro hl)]
  exact ⟨by unfold st_tryLeak; rw [eo], by unfold an_tryLeak; rw [eo, rv_z, bmz_e (by omega)]⟩
theorem ky_val {A : Abs} (hO : AOkA A) {v b : Int} (hv : 0 ≤ v ∧ v < nA A 0) (hk : nA A (6 + 7 * v + 0) = 0) : st_keys A v b = (A.1, remA (aA A), A.2.2.1, upr (nA A) (6 + 7 * v + 2) b, remD (aA A) (nA A) (dA A), kA A, iA A) ∧ 0 ≤ an_keys A v b ∧ an_keys A v b ≤ 1 := by
  have eo : op_press A.1 A.2.1 A.2.2.1 A.2.2.2.1 A.2.2.2.2.1 A.2.2.2.2.2.1 A.2.2.2.2.2.2 v b = (0, if nA A (6 + 7 * v + 2) = b then 0 else 1, (A.1, remA (aA A), A.2.2.1, upr (nA A) (6 + 7 * v + 2) b, remD (aA A) (nA A) (dA A), kA A, iA A)) := by unfold op_press; rw [if_neg (not_not_intro hv), if_neg (not_not_intro hk)]
  refine ⟨by unfold st_keys; rw [eo], ?_⟩
  unfold an_keys
  rw [eo, rv_z]
  split
  · decide
  · decide
/-- one more state, and back again -/
theorem one_back {T : Int} {A A1 : Abs} {n' : Int → Int} (h : Inv T A) (e : A1 = (A.1, remA (aA A), A.2.2.1, n', remD (aA A) (nA A) (dA A), kA A, iA A)) (hO1 : AOkA A1) : Inv T (st_tryUndo A1) ∧ nA (st_tryUndo A1) = nA A ∧ 0 ≤ an_tryUndo A1 ∧ an_tryUndo A1 ≤ 13 := by
  obtain ⟨L, hD, hC⟩ := h.2.2.1
  have hS : SK A (nA A) (([] ++ L).take 14) A := ⟨rfl, rfl, rfl, rfl, rfl, by rw [List.nil_append, List.take_of_length_le hD.2.1]; exact hD⟩
  have hP := hS.push h.2.1.2.2.2.2 n'
  rw [← e] at hP
  have e2 : (nA A :: [] ++ L).take 14 = nA A :: L.take 13 := rfl
  rw [e2] at hP
  obtain ⟨g1, g2, g3, g4⟩ := hP.pop
  exact ⟨SK.inv h hD hC g1 (ok_undo hO1), g1.2.2.2.2.1, by omega, by omega⟩
theorem suspI_iff (n : Int → Int) (v b e : Int) : ∀ (f : Nat) (l : Int), suspI n v b e f l = 1 ↔ ∃ k : Nat, k < f ∧ leakB n e (l + (k : Int)) v = b
  | 0, l => by
    unfold suspI
    exact ⟨fun h => absurd h (by decide), fun ⟨k, hk, _⟩ => absurd hk (by omega)⟩
  | f + 1, l => by
    unfold suspI
    by_cases c : leakB n e l v = b
    · rw [if_pos c]
      exact ⟨fun _ => ⟨0, by omega, by rw [show l + ((0 : Nat) : Int) = l by omega]; exact c⟩, fun _ => rfl⟩
    · rw [if_neg c, suspI_iff n v b e f (l + 1)]
      refine ⟨fun ⟨k, hk, hb⟩ => ⟨k + 1, by omega, by rw [show l + ((k + 1 : Nat) : Int) = l + 1 + (k : Int) by omega]; exact hb⟩, fun ⟨k, hk, hb⟩ => ?_⟩
      cases k with
      | zero => exact absurd (by rw [show l + ((0 : Nat) : Int) = l by omega] at hb; exact hb) c
      | succ k => exact ⟨k, by omega, by rw [show l + 1 + (k : Int) = l + ((k + 1 : Nat) : Int) by omega]; exact hb⟩
theorem suspD_spec (n : Int → Int) (v b : Int) : ∀ (f : Nat) (e : Int), (suspD n v b f e = -1 ∧ ∀ x, e ≤ x → x < e + (f : Int) → ¬ (n (76 + 12 * x + 5) = 0 ∧ suspI n v b x 30 1 = 1)) ∨ (e ≤ suspD n v b f e ∧ suspD n v b f e < e + (f : Int) ∧ (n (76 + 12 * suspD n v b f e + 5) = 0 ∧ suspI n v b (suspD n v b f e) 30 1 = 1) ∧ ∀ x, e ≤ x → x < suspD n v b f e → ¬ (n (76 + 12 * x + 5) = 0 ∧ suspI n v b x 30 1 = 1))
  | 0, e => Or.inl ⟨rfl, fun x a b => absurd b (by omega)⟩
  | f + 1, e => by
    unfold suspD
    by_cases c : n (76 + 12 * e + 5) = 0 ∧ suspI n v b e 30 1 = 1
    · rw [if_pos c]
      exact Or.inr ⟨by omega, by omega, c, fun x a b => absurd b (by omega)⟩
    · rw [if_neg c]
      rcases suspD_spec n v b f (e + 1) with ⟨h1, h2⟩ | ⟨h1, h2, h3, h4⟩
      · refine Or.inl ⟨h1, fun x a b => ?_⟩
        by_cases q : x = e
        · rw [q]; exact c
        · exact h2 x (by omega) (by omega)
      · refine Or.inr ⟨by omega, by omega, h3, fun x a b => ?_⟩
        by_cases q : x = e
        · rw [q]; exact c
        · exact h4 x (by omega) b
theorem beat_rest {r : Int → Int} (hw : Wf r) {v : Int} (hv : 0 ≤ v) (h : ¬ restL 301 r 0 = -1) (h2 : restL 301 r 0 < 100) : beatR r v = -1 := by
  rcases restL_spec 301 r 0 with g | ⟨j, g1, g2, g3⟩
  · exact absurd g h
  · exact rest_beat hw hv (i := j) (by omega) g3
/-! the rule of a valve -/
def btR (n : Int → Int) (x y v q : Int) : Int := if 0 < ruleRow n x y q (6 + 7 * v + 3) then iShl 1 q else 0
theorem ruleL_s (n : Int → Int) (x y v : Int) (f : Nat) (q b : Int) : ruleL n x y v (f + 1) q b = if restsR (ruleRow n x y q) then ruleL n x y v f (q + 1) (iOr b (btR n x y v q)) else -1 := rfl
theorem ruleL_spec (n : Int → Int) (x y v : Int) : ruleL n x y v 4 0 0 = -1 ∨ ((∀ q, 0 ≤ q → q < 4 → restsR (ruleRow n x y q)) ∧ ruleL n x y v 4 0 0 = iOr (iOr (iOr (iOr 0 (btR n x y v 0)) (btR n x y v 1)) (btR n x y v 2)) (btR n x y v 3)) := by
  have e0 : ruleL n x y v 4 0 0 = _ := ruleL_s n x y v 3 0 0
  by_cases c0 : restsR (ruleRow n x y 0)
  · rw [if_pos c0, ruleL_s n x y v 2] at e0
    by_cases c1 : restsR (ruleRow n x y (0 + 1))
    · rw [if_pos c1, ruleL_s n x y v 1] at e0
      by_cases c2 : restsR (ruleRow n x y (0 + 1 + 1))
      · rw [if_pos c2, ruleL_s n x y v 0] at e0
        by_cases c3 : restsR (ruleRow n x y (0 + 1 + 1 + 1))
        · rw [if_pos c3] at e0
          refine Or.inr ⟨fun q a b => ?_, e0⟩
          rcases (show q = 0 ∨ q = 1 ∨ q = 2 ∨ q = 3 by omega) with rfl | rfl | rfl | rfl
          · exact c0
          · exact c1
          · exact c2
          · exact c3
        · rw [if_neg c3] at e0; exact Or.inl e0
      · rw [if_neg c2] at e0; exact Or.inl e0
    · rw [if_neg c1] at e0; exact Or.inl e0
  · rw [if_neg c0] at e0; exact Or.inl e0
def b2 (c : Bool) (q : Int) : Int := if c = true then iShl 1 q else 0
theorem bits_4 : ∀ c0 c1 c2 c3 : Bool, ∀ h : Nat, h < 4 → iAnd (iShr (iOr (iOr (iOr (iOr 0 (b2 c0 0)) (b2 c1 1)) (b2 c2 2)) (b2 c3 3)) (h : Int)) 1 = if (match h with | 0 => c0 | 1 => c1 | 2 => c2 | _ => c3) = true then 1 else 0 := by decide +kernel
theorem btR_b (n : Int → Int) (x y v q : Int) : btR n x y v q = b2 (decide (0 < ruleRow n x y q (6 + 7 * v + 3))) q := by
  unfold btR b2
  by_cases c : 0 < ruleRow n x y q (6 + 7 * v + 3)
  · rw [if_pos c, if_pos (by simpa using c)]
  · rw [if_neg c, if_neg (by simpa using c)]
theorem rule_bit {n : Int → Int} {x y v h : Int} (hh : 0 ≤ h ∧ h < 4) (hr : ¬ ruleL n x y v 4 0 0 = -1) : iAnd (iShr (ruleL n x y v 4 0 0) h) 1 = (if 0 < ruleRow n x y h (6 + 7 * v + 3) then 1 else 0) ∧ restsR (ruleRow n x y h) := by
  rcases ruleL_spec n x y v with g | ⟨g1, g2⟩
  · exact absurd g hr
  refine ⟨?_, g1 h hh.1 hh.2⟩
  obtain ⟨k, rfl⟩ : ∃ k : Nat, h = k := ⟨h.toNat, by omega⟩
  rw [g2, btR_b, btR_b, btR_b, btR_b, bits_4 _ _ _ _ k (by omega)]
  rcases (show k = 0 ∨ k = 1 ∨ k = 2 ∨ k = 3 by omega) with rfl | rfl | rfl | rfl
  · by_cases c : 0 < ruleRow n x y ((0 : Nat) : Int) (6 + 7 * v + 3)
    · rw [if_pos c, if_pos (by simpa using c)]
    · rw [if_neg c, if_neg (by simpa using c)]
  · by_cases c : 0 < ruleRow n x y ((1 : Nat) : Int) (6 + 7 * v + 3)
    · rw [if_pos c, if_pos (by simpa using c)]
    · rw [if_neg c, if_neg (by simpa using c)]
  · by_cases c : 0 < ruleRow n x y ((2 : Nat) : Int) (6 + 7 * v + 3)
    · rw [if_pos c, if_pos (by simpa using c)]
    · rw [if_neg c, if_neg (by simpa using c)]
  · by_cases c : 0 < ruleRow n x y ((3 : Nat) : Int) (6 + 7 * v + 3)
    · rw [if_pos c, if_pos (by simpa using c)]
    · rw [if_neg c, if_neg (by simpa using c)]
/-- a key stays as it is -/
theorem reckonR_2k {q : Int → Int} {v : Int} (hk : ¬ q (6 + 7 * v + 0) = 2) : reckonR q v (6 + 7 * v + 2) = q (6 + 7 * v + 2) ∨ ¬ (0 ≤ q (6 + 7 * v + 2) ∧ q (6 + 7 * v + 2) ≤ 1) := by
  by_cases hb : 0 ≤ q (6 + 7 * v + 2) ∧ q (6 + 7 * v + 2) ≤ 1
  · left
    unfold reckonR
    by_cases k0 : q (6 + 7 * v + 0) = 0
    · rw [if_pos k0, layR_out _ (by omega) (by omega) (by omega)]
    rw [if_neg k0]
    by_cases k1 : q (6 + 7 * v + 0) = 1
    · rw [if_pos k1, layR_out _ (by split <;> decide) (by omega) (by omega)]
    rw [if_neg k1, if_neg hk]
    by_cases k3 : q (6 + 7 * v + 0) = 3
    · rw [if_pos k3, upr_ne _ _ (by omega), layR_out _ (by decide) (by omega) (by omega)]
    · rw [if_neg k3, layR_out _ (by split <;> decide) (by omega) (by omega)]
  · exact Or.inr hb
theorem reckAll_2k {r : Int → Int} (h : Wf r) {v : Int} (hv : 0 ≤ v) (hk : r (6 + 7 * v + 0) = 0) : ∀ n : Nat, (n : Int) ≤ r 0 → reckAll r n (6 + 7 * v + 2) = r (6 + 7 * v + 2)
  | 0, _ => rfl
  | n + 1, hn => by
    obtain ⟨hw, ho⟩ := reckAll_Wf h n (by omega)
    have e0 : reckAll r n 0 = r 0 := ho 0 (by omega)
    have hb := (hw.2.2.2.2.1 (n : Int) (by omega) (by omega)).2.2.1
    have ih := reckAll_2k h hv hk n (by omega)
    show reckonR (reckAll r n) (n : Int) (6 + 7 * v + 2) = _
    by_cases e : v = (n : Int)
    · subst e
      have hk2 : reckAll r n (6 + 7 * (n : Int) + 0) = r (6 + 7 * (n : Int) + 0) := ho _ (by omega)
      rcases reckonR_2k (q := reckAll r n) (v := (n : Int)) (by omega) with g | g
      · rw [g, ih]
      · exact absurd hb g
    · rw [reckonR_out _ hb (by omega) (by omega) (by omega) (by omega), ih]
theorem tick_2k {r : Int → Int} (h : Wf r) {v : Int} (hv : 0 ≤ v ∧ v < r 0) (hk : r (6 + 7 * v + 0) = 0) : tickR r (6 + 7 * v + 2) = r (6 + 7 * v + 2) := by
  have h0 := h.1
  have h1 := h.2.1
  have hs := Wf_scal h (i := 2) (bmz (r 2 + 1)) (Or.inl rfl)
  obtain ⟨hp, hpo⟩ := pushAllR_Wf hs
  have e0 : pushAllR (upr r 2 (bmz (r 2 + 1))) 0 = r 0 := (hpo 0 (by unfold isP; omega)).trans (upr_ne _ _ (by decide))
  have ek : pushAllR (upr r 2 (bmz (r 2 + 1))) (6 + 7 * v + 0) = r (6 + 7 * v + 0) := (hpo _ (by unfold isP; omega)).trans (upr_ne _ _ (by omega))
  have e2 : pushAllR (upr r 2 (bmz (r 2 + 1))) (6 + 7 * v + 2) = r (6 + 7 * v + 2) := (hpo _ (by unfold isP; omega)).trans (upr_ne _ _ (by omega))
  obtain ⟨ht, hto⟩ := tick2R_Wf h
  have e1' : tick2R r 1 = r 1 := hto 1 (by omega)
  have ho := (enterAll_Wf ht (r 1).toNat (by omega)).2
  have q1 : tickR r (6 + 7 * v + 2) = tick2R r (6 + 7 * v + 2) := ho _ (by omega)
  have q2 : tick2R r (6 + 7 * v + 2) = pushAllR (upr r 2 (bmz (r 2 + 1))) (6 + 7 * v + 2) := reckAll_2k hp hv.1 (ek.trans hk) (r 0).toNat (by omega)
  rw [q1, q2, e2]
theorem run_2k {r : Int → Int} (h : Wf r) {v : Int} (hv : 0 ≤ v ∧ v < r 0) (hk : r (6 + 7 * v + 0) = 0) : ∀ m : Nat, runR r m (6 + 7 * v + 2) = r (6 + 7 * v + 2) ∧ runR r m (6 + 7 * v + 0) = r (6 + 7 * v + 0)
  | 0 => ⟨rfl, rfl⟩
  | m + 1 => by
    obtain ⟨i1, i2⟩ := run_2k h hv hk m
    obtain ⟨g1, g2, -⟩ := runR_Wf h m
    have h0 := h.1
    refine ⟨?_, ?_⟩
    · show tickR (runR r m) (6 + 7 * v + 2) = _
      rw [tick_2k g1 (by omega) (i2.trans hk), i1]
    · show tickR (runR r m) (6 + 7 * v + 0) = _
      rw [(tickR_Wf g1).2 _ (by omega), i2]
theorem run_key {r : Int → Int} (h : Wf r) {v : Int} (hv : 0 ≤ v ∧ v < r 0) (hk : r (6 + 7 * v + 0) = 0) (m : Nat) : (0 < runR r (m + 1) (6 + 7 * v + 3)) ↔ r (6 + 7 * v + 2) = 1 := by
  obtain ⟨i1, i2⟩ := run_2k h hv hk (m + 1)
  obtain ⟨g1, g2, -⟩ := runR_Wf h m
  obtain ⟨w1, w2, -⟩ := runR_Wf h (m + 1)
  have hf : FrV (runR r (m + 1)) v := tickR_Fr g1 v hv.1 (by omega)
  obtain ⟨-, ⟨u0, u9⟩, ⟨s0, s1⟩, -⟩ := w1.2.2.2.2.1 v hv.1 (by omega)
  have f := hf.1 (i2.trans hk)
  rw [← i1]
  refine ⟨fun q => ?_, fun q => ?_⟩
  · rcases (show runR r (m + 1) (6 + 7 * v + 2) = 0 ∨ runR r (m + 1) (6 + 7 * v + 2) = 1 by omega) with c | c
    · have := (f.2 c).2
      omega
    · exact c
  · have := (f.1 q).1
    omega
theorem rule_01 {n : Int → Int} (h : Wf n) (h4 : 4 ≤ n 0) (k0 : n 6 = 0) (k1 : n 13 = 0) {v : Int} (hv : v = 0 ∨ v = 1) (hr : ¬ ruleL n 0 1 v 4 0 0 = -1) : ruleL n 0 1 v 4 0 0 = if v = 0 then 10 else 12 := by
  have w2 : ∀ a b, 0 ≤ a ∧ a ≤ 1 → 0 ≤ b ∧ b ≤ 1 → Wf (upr (upr n (6 + 7 * 0 + 2) a) (6 + 7 * 1 + 2) b) := fun a b ha hb => Wf_press (Wf_press h (v := 0) ⟨by decide, by omega⟩ k0 ha) (v := 1) ⟨by decide, by rw [upr_ne _ _ (by decide)]; omega⟩ (by rw [upr_ne _ _ (by decide)]; exact k1) hb
  have key : ∀ q, 0 ≤ q → q < 4 → ((0 < ruleRow n 0 1 q (6 + 7 * v + 3)) ↔ (if v = 0 then q % 2 else q / 2) = 1) := by
    intro q a b
    have hw := w2 (q % 2) (q / 2) (by omega) (by omega)
    unfold ruleRow
    rcases hv with rfl | rfl
    · rw [run_key hw (v := 0) ⟨by decide, by rw [upr_ne _ _ (by decide), upr_ne _ _ (by decide)]; omega⟩ (by rw [upr_ne _ _ (by decide), upr_ne _ _ (by decide)]; exact k0) 59]
      rw [upr_ne _ _ (by decide), upr_at, if_pos rfl]
    · rw [run_key hw (v := 1) ⟨by decide, by rw [upr_ne _ _ (by decide), upr_ne _ _ (by decide)]; omega⟩ (by rw [upr_ne _ _ (by decide), upr_ne _ _ (by decide)]; exact k1) 59]
      rw [upr_at, if_neg (by decide)]
  rcases ruleL_spec n 0 1 v with g | ⟨-, g2⟩
  · exact absurd g hr
  have t : ∀ q, 0 ≤ q → q < 4 → btR n 0 1 v q = if (if v = 0 then q % 2 else q / 2) = 1 then iShl 1 q else 0 := by
    intro q a b
    unfold btR
    have := key q a b
    by_cases c : (if v = 0 then q % 2 else q / 2) = 1
    · rw [if_pos c, if_pos (this.mpr c)]
    · rw [if_neg c, if_neg (fun z => c (this.mp z))]
  rw [g2, t 0 (by decide) (by decide), t 1 (by decide) (by decide), t 2 (by decide) (by decide), t 3 (by decide) (by decide)]
  rcases hv with rfl | rfl
  · decide
  · decide
