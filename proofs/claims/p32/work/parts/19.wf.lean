theorem Wf.valve1 {r r' : Int → Int} (h : Wf r) (v : Int) (hv : 0 ≤ v ∧ v < 10) (ho : ∀ i, i ≠ 2 → i ≠ 3 → (i < 6 + 7 * v ∨ 6 + 7 * v + 7 ≤ i) → r' i = r i) (hn : WfV r' v) : Wf r' := by
  obtain ⟨h0, h1, h4, h5, hv', hd⟩ := h
  unfold Wf
  rw [ho 0 (by omega) (by omega) (by omega), ho 1 (by omega) (by omega) (by omega), ho 4 (by omega) (by omega) (by omega), ho 5 (by omega) (by omega) (by omega)]
  refine ⟨h0, h1, h4, h5, fun w g1 g2 => ?_, fun d g1 g2 => ?_⟩
  · by_cases e : w = v
    · rw [e]; exact hn
    · exact (hv' w g1 g2).cong (fun k a b => ho _ (by omega) (by omega) (by omega))
  · exact (hd d g1 g2).cong (ho 0 (by omega) (by omega) (by omega)) (fun k a b => ho _ (by omega) (by omega) (by omega))
theorem Wf.duct1 {r r' : Int → Int} (h : Wf r) (d : Int) (hd0 : 0 ≤ d) (ho : ∀ i, i ≠ 2 → i ≠ 3 → (i < 76 + 12 * d ∨ 76 + 12 * d + 12 ≤ i) → r' i = r i) (hn : WfD r' d) : Wf r' := by
  obtain ⟨h0, h1, h4, h5, hv', hd⟩ := h
  unfold Wf
  rw [ho 0 (by omega) (by omega) (by omega), ho 1 (by omega) (by omega) (by omega), ho 4 (by omega) (by omega) (by omega), ho 5 (by omega) (by omega) (by omega)]
  refine ⟨h0, h1, h4, h5, fun w g1 g2 => ?_, fun x g1 g2 => ?_⟩
  · exact (hv' w g1 g2).cong (fun k a b => ho _ (by omega) (by omega) (by omega))
  · by_cases e : x = d
    · rw [e]; exact hn
    · exact (hd x g1 g2).cong (ho 0 (by omega) (by omega) (by omega)) (fun k a b => ho _ (by omega) (by omega) (by omega))
theorem Wf_supply {r : Int → Int} (h : Wf r) {v x : Int} (hv : 0 ≤ v ∧ v < r 0) (hx : 10 ≤ x ∧ x ≤ 99) : Wf (upr r (6 + 7 * v + 1) x) := by
  have h0 := h.1
  refine h.valve1 v (by omega) (fun i _ _ hi => upr_ne _ _ (by omega)) ?_
  obtain ⟨q0, q1, q2⟩ := h.2.2.2.2.1 v hv.1 hv.2
  unfold WfV
  rw [upr_at, upr_ne _ _ (by omega), upr_ne _ _ (by omega), upr_ne _ _ (by omega), upr_ne _ _ (by omega), upr_ne _ _ (by omega), upr_ne _ _ (by omega)]
  exact ⟨q0, hx, q2⟩
theorem Wf_press {r : Int → Int} (h : Wf r) {v x : Int} (hv : 0 ≤ v ∧ v < r 0) (hk : r (6 + 7 * v + 0) = 0) (hx : 0 ≤ x ∧ x ≤ 1) : Wf (upr r (6 + 7 * v + 2) x) := by
  have h0 := h.1
  refine h.valve1 v (by omega) (fun i _ _ hi => upr_ne _ _ (by omega)) ?_
  obtain ⟨q0, q1, q2, q3, q4, q5, q6, q7⟩ := h.2.2.2.2.1 v hv.1 hv.2
  unfold WfV
  rw [upr_at, upr_ne _ _ (by omega), upr_ne _ _ (by omega), upr_ne _ _ (by omega), upr_ne _ _ (by omega), upr_ne _ _ (by omega), upr_ne _ _ (by omega)]
  exact ⟨q0, q1, hx, q3, q4, q5, q6, by omega⟩
theorem Wf_leak {r : Int → Int} (h : Wf r) {d x : Int} (hd : 0 ≤ d ∧ d < r 1) (hx : 0 ≤ x ∧ x ≤ 30) : Wf (upr r (76 + 12 * d + 5) x) := by
  refine h.duct1 d (by omega) (fun i _ _ hi => upr_ne _ _ (by omega)) ?_
  obtain ⟨q0, q1, q2, q3, q4, q5, q6⟩ := h.2.2.2.2.2 d hd.1 hd.2
  unfold WfD
  rw [upr_at, upr_ne _ _ (by omega), upr_ne _ _ (by omega), upr_ne _ _ (by omega), upr_ne _ _ (by omega), upr_ne _ _ (by omega), upr_ne _ _ (by omega)]
  refine ⟨q0, q1, q2, q3, q4, hx, fun k a b => ?_⟩
  rw [upr_ne _ _ (by omega)]
  exact q6 k a b
theorem Wf_set {r : Int → Int} (h : Wf r) {w x : Int} (hw : w = 0 ∧ (0 ≤ x ∧ x ≤ 9) ∨ w = 1 ∧ (5 ≤ x ∧ x ≤ 90)) : Wf (upr r (4 + w) x) := by
  obtain ⟨h0, h1, h4, h5, hv, hd⟩ := h
  unfold Wf
  rw [upr_ne _ _ (show (0 : Int) ≠ 4 + w by omega), upr_ne _ _ (show (1 : Int) ≠ 4 + w by omega)]
  refine ⟨h0, h1, ?_, ?_, fun v a b => (hv v a b).cong (fun k e f => upr_ne _ _ (by omega)), fun d a b => (hd d a b).cong (upr_ne _ _ (by omega)) (fun k e f => upr_ne _ _ (by omega))⟩
  · rw [upr_if]; split <;> omega
  · rw [upr_if]; split <;> omega
theorem valveR_0 (r : Int → Int) (k s : Int) : valveR r k s 0 = r 0 + 1 := upr_at _ _ _
theorem valveR_old {r : Int → Int} (h : 0 ≤ r 0) {k s i : Int} (h0 : i ≠ 0) (hi : i < 6 + 7 * r 0 ∨ 6 + 7 * r 0 + 7 ≤ i) : valveR r k s i = r i := by
  unfold valveR
  rw [upr_ne _ _ h0, upr_ne _ _ (by omega), upr_ne _ _ (by omega), clr_out _ _ _ (by omega)]
theorem valveR_new {r : Int → Int} (h : 0 ≤ r 0) {k s j : Int} (hj : 0 ≤ j ∧ j < 7) : valveR r k s (6 + 7 * r 0 + j) = if j = 0 then k else if j = 1 then s else 0 := by
  unfold valveR
  rw [upr_ne _ _ (by omega), upr_if, upr_if]
  by_cases h1 : j = 1
  · rw [if_pos (by omega), if_neg (by omega), if_pos h1]
  · rw [if_neg (by omega)]
    by_cases h2 : j = 0
    · rw [if_pos (by omega), if_pos h2]
    · rw [if_neg (by omega), if_neg h2, if_neg h1]
      exact clr_in _ _ _ (by omega) (by omega)
theorem Wf_valveR {r : Int → Int} (h : Wf r) (hn : r 0 < 10) {k s : Int} (hk : 0 ≤ k ∧ k ≤ 4) (hs : 10 ≤ s ∧ s ≤ 99) : Wf (valveR r k s) := by
  obtain ⟨h0, h1, h4, h5, hv, hd⟩ := h
  have e : ∀ i, i ≠ 0 → (i < 6 + 7 * r 0 ∨ 6 + 7 * r 0 + 7 ≤ i) → valveR r k s i = r i := fun i a b => valveR_old h0.1 a b
  unfold Wf
  rw [valveR_0, e 1 (by omega) (by omega), e 4 (by omega) (by omega), e 5 (by omega) (by omega)]
  refine ⟨by omega, h1, h4, h5, fun v a b => ?_, fun d a b => ?_⟩
  · by_cases q : v = r 0
    · subst q
      unfold WfV
      have v0 := valveR_new (k := k) (s := s) h0.1 (j := 0) (by omega)
      have v1 := valveR_new (k := k) (s := s) h0.1 (j := 1) (by omega)
      have v2 := valveR_new (k := k) (s := s) h0.1 (j := 2) (by omega)
      have v3 := valveR_new (k := k) (s := s) h0.1 (j := 3) (by omega)
      have v4 := valveR_new (k := k) (s := s) h0.1 (j := 4) (by omega)
      have v5 := valveR_new (k := k) (s := s) h0.1 (j := 5) (by omega)
      have v6 := valveR_new (k := k) (s := s) h0.1 (j := 6) (by omega)
      rw [if_pos rfl] at v0
      rw [if_neg (by omega), if_pos rfl] at v1
      rw [if_neg (by omega), if_neg (by omega)] at v2
      rw [if_neg (by omega), if_neg (by omega)] at v3
      rw [if_neg (by omega), if_neg (by omega)] at v4
      rw [if_neg (by omega), if_neg (by omega)] at v5
      rw [if_neg (by omega), if_neg (by omega)] at v6
      rw [v0, v1, v2, v3, v4, v5, v6]
      omega
    · exact (hv v a (by omega)).cong (fun j c f => e _ (by omega) (by omega))
  · have hq := hd d a b
    have e' : ∀ j, 0 ≤ j → j < 12 → valveR r k s (76 + 12 * d + j) = r (76 + 12 * d + j) := fun j c f => e _ (by omega) (by omega)
    unfold WfD at hq ⊢
    rw [valveR_0, e' 0 (by omega) (by omega), e' 1 (by omega) (by omega), e' 2 (by omega) (by omega), e' 3 (by omega) (by omega), e' 4 (by omega) (by omega), e' 5 (by omega) (by omega)]
    obtain ⟨q0, q1, q2, q3, q4, q5, q6⟩ := hq
    refine ⟨by omega, q1, by omega, q3, q4, q5, fun j c f => ?_⟩
    have := e' (6 + j) (by omega) (by omega)
    rw [show 76 + 12 * d + (6 + j) = 76 + 12 * d + 6 + j by omega] at this
    rw [this]
    exact q6 j c f
theorem ductR_1 (r : Int → Int) (f l t p n : Int) : ductR r f l t p n 1 = r 1 + 1 := upr_at _ _ _
theorem ductR_old {r : Int → Int} (h : 0 ≤ r 1) {f l t p n i : Int} (h0 : i ≠ 1) (hi : i < 76 + 12 * r 1 ∨ 76 + 12 * r 1 + 12 ≤ i) : ductR r f l t p n i = r i := by
  unfold ductR
  rw [upr_ne _ _ h0, upr_ne _ _ (by omega), upr_ne _ _ (by omega), upr_ne _ _ (by omega), upr_ne _ _ (by omega), upr_ne _ _ (by omega), clr_out _ _ _ (by omega)]
theorem ductR_new {r : Int → Int} (h : 0 ≤ r 1) {f l t p n j : Int} (hj : 0 ≤ j ∧ j < 12) : ductR r f l t p n (76 + 12 * r 1 + j) = if j = 4 then n else if j = 3 then p else if j = 2 then t else if j = 1 then l else if j = 0 then f else 0 := by
  unfold ductR
  rw [upr_ne _ _ (by omega), upr_if, upr_if, upr_if, upr_if, upr_if]
  by_cases h4 : j = 4
  · rw [if_pos (by omega), if_pos h4]
  rw [if_neg (by omega), if_neg h4]
  by_cases h3 : j = 3
  · rw [if_pos (by omega), if_pos h3]
  rw [if_neg (by omega), if_neg h3]
  by_cases h2 : j = 2
  · rw [if_pos (by omega), if_pos h2]
  rw [if_neg (by omega), if_neg h2]
  by_cases h1 : j = 1
  · rw [if_pos (by omega), if_pos h1]
  rw [if_neg (by omega), if_neg h1]
  by_cases h0 : j = 0
  · rw [if_pos (by omega), if_pos h0]
  rw [if_neg (by omega), if_neg h0]
  exact clr_in _ _ _ (by omega) (by omega)
theorem Wf_ductR {r : Int → Int} (h : Wf r) (hn : r 1 < 16) {f l t p n : Int} (hf : 0 ≤ f ∧ f < r 0) (hl : 0 ≤ l ∧ l ≤ 1) (ht : 0 ≤ t ∧ t < r 0) (hp : 0 ≤ p ∧ p ≤ 1) (hnn : 1 ≤ n ∧ n ≤ 6) : Wf (ductR r f l t p n) := by
  obtain ⟨h0, h1, h4, h5, hv, hd⟩ := h
  have e : ∀ i, i ≠ 1 → (i < 76 + 12 * r 1 ∨ 76 + 12 * r 1 + 12 ≤ i) → ductR r f l t p n i = r i := fun i a b => ductR_old h1.1 a b
  unfold Wf
  rw [ductR_1, e 0 (by omega) (by omega), e 4 (by omega) (by omega), e 5 (by omega) (by omega)]
  refine ⟨h0, by omega, h4, h5, fun v a b => (hv v a b).cong (fun j c f => e _ (by omega) (by omega)), fun d a b => ?_⟩
  by_cases q : d = r 1
  · subst q
    unfold WfD
    have v0 := ductR_new (f := f) (l := l) (t := t) (p := p) (n := n) h1.1 (j := 0) (by omega)
    have v1 := ductR_new (f := f) (l := l) (t := t) (p := p) (n := n) h1.1 (j := 1) (by omega)
    have v2 := ductR_new (f := f) (l := l) (t := t) (p := p) (n := n) h1.1 (j := 2) (by omega)
    have v3 := ductR_new (f := f) (l := l) (t := t) (p := p) (n := n) h1.1 (j := 3) (by omega)
    have v4 := ductR_new (f := f) (l := l) (t := t) (p := p) (n := n) h1.1 (j := 4) (by omega)
    have v5 := ductR_new (f := f) (l := l) (t := t) (p := p) (n := n) h1.1 (j := 5) (by omega)
    rw [if_neg (by omega), if_neg (by omega), if_neg (by omega), if_neg (by omega), if_pos rfl] at v0
    rw [if_neg (by omega), if_neg (by omega), if_neg (by omega), if_pos rfl] at v1
    rw [if_neg (by omega), if_neg (by omega), if_pos rfl] at v2
    rw [if_neg (by omega), if_pos rfl] at v3
    rw [if_pos rfl] at v4
    rw [if_neg (by omega), if_neg (by omega), if_neg (by omega), if_neg (by omega), if_neg (by omega)] at v5
    rw [v0, v1, v2, v3, v4, v5, e 0 (by omega) (by omega)]
    refine ⟨hf, hl, ht, hp, hnn, by omega, fun j c g => ?_⟩
    have := ductR_new (f := f) (l := l) (t := t) (p := p) (n := n) h1.1 (j := 6 + j) (by omega)
    rw [show 76 + 12 * r 1 + (6 + j) = 76 + 12 * r 1 + 6 + j by omega] at this
    rw [this, if_neg (by omega), if_neg (by omega), if_neg (by omega), if_neg (by omega), if_neg (by omega)]
    omega
  · exact (hd d a (by omega)).cong (e 0 (by omega) (by omega)) (fun j c f => e _ (by omega) (by omega))
theorem removeR_1 {r : Int → Int} {d : Int} (hd : 0 ≤ d ∧ d < r 1) : removeR r d 1 = r 1 - 1 := by
  unfold removeR
  rw [clr_out _ _ _ (by omega), sh12_out _ _ _ (by omega), upr_at]
theorem removeR_lo {r : Int → Int} {d i : Int} (hd : 0 ≤ d ∧ d < r 1) (h1 : i ≠ 1) (hi : i < 76 + 12 * d) : removeR r d i = r i := by
  unfold removeR
  rw [clr_out _ _ _ (by omega), sh12_out _ _ _ (by omega), upr_ne _ _ h1]
theorem removeR_hi {r : Int → Int} {d i : Int} (hd : 0 ≤ d ∧ d < r 1) (hi : 76 + 12 * d ≤ i) (h2 : i < 76 + 12 * (r 1 - 1)) : removeR r d i = r (i + 12) := by
  unfold removeR
  rw [clr_out _ _ _ (by omega), sh12_in _ _ _ hi (by omega), upr_ne _ _ (by omega)]
theorem Wf_removeR {r : Int → Int} (h : Wf r) {d : Int} (hd : 0 ≤ d ∧ d < r 1) : Wf (removeR r d) := by
  obtain ⟨h0, h1, h4, h5, hv, hdd⟩ := h
  have e : ∀ i, i ≠ 1 → i < 76 + 12 * d → removeR r d i = r i := fun i a b => removeR_lo hd a b
  unfold Wf
  rw [removeR_1 hd, e 0 (by omega) (by omega), e 4 (by omega) (by omega), e 5 (by omega) (by omega)]
  refine ⟨h0, by omega, h4, h5, fun v a b => (hv v a b).cong (fun j c f => e _ (by omega) (by omega)), fun x a b => ?_⟩
  by_cases q : x < d
  · exact (hdd x a (by omega)).cong (e 0 (by omega) (by omega)) (fun j c f => e _ (by omega) (by omega))
  · have hq := hdd (x + 1) (by omega) (by omega)
    have e' : ∀ j, 0 ≤ j → j < 12 → removeR r d (76 + 12 * x + j) = r (76 + 12 * (x + 1) + j) := fun j c f => by
      rw [removeR_hi hd (by omega) (by omega), show 76 + 12 * x + j + 12 = 76 + 12 * (x + 1) + j by omega]
    unfold WfD at hq ⊢
    rw [e' 0 (by omega) (by omega), e' 1 (by omega) (by omega), e' 2 (by omega) (by omega), e' 3 (by omega) (by omega), e' 4 (by omega) (by omega), e' 5 (by omega) (by omega), e 0 (by omega) (by omega)]
    obtain ⟨q0, q1, q2, q3, q4, q5, q6⟩ := hq
    refine ⟨q0, q1, q2, q3, q4, q5, fun j c f => ?_⟩
    have := e' (6 + j) (by omega) (by omega)
    rw [show 76 + 12 * x + (6 + j) = 76 + 12 * x + 6 + j by omega, show 76 + 12 * (x + 1) + (6 + j) = 76 + 12 * (x + 1) + 6 + j by omega] at this
    rw [this]
    exact q6 j c f
theorem Wf_newR : Wf newR := by
  have e0 : newR 0 = 0 := rfl
  have e1 : newR 1 = 0 := rfl
  unfold Wf
  rw [e0, e1, show newR 4 = 2 from rfl, show newR 5 = 30 from rfl]
  exact ⟨by decide, by decide, by decide, by decide, fun v a b => by omega, fun d a b => by omega⟩
theorem Wf_blk {f : Int → Int} (h : Wf f) : Wf (blk f 0) := by
  have e : ∀ i, 0 ≤ i → i < 268 → blk f 0 i = f i := fun i a b => by rw [blk_in f 0 ⟨a, b⟩, show 0 + i = i by omega]
  obtain ⟨h0, h1, h4, h5, hv, hd⟩ := h
  unfold Wf
  rw [e 0 (by omega) (by omega), e 1 (by omega) (by omega), e 4 (by omega) (by omega), e 5 (by omega) (by omega)]
  exact ⟨h0, h1, h4, h5, fun v a b => (hv v a b).cong (fun j c g => e _ (by omega) (by omega)), fun d a b => (hd d a b).cong (e 0 (by omega) (by omega)) (fun j c g => e _ (by omega) (by omega))⟩
