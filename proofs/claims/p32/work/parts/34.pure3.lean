/-! which places of a row a tick changes -/
def Dfr (r q : Int → Int) : Prop := ∃ j, 6 ≤ j ∧ j < 268 ∧ q j ≠ r j
def LDf (r q : Int → Int) (v : Int) : Prop := ¬ (q (6 + 7 * v + 3) = r (6 + 7 * v + 3) ∧ q (6 + 7 * v + 4) = r (6 + 7 * v + 4))
def ADf (r q : Int → Int) (d : Int) : Prop := ∃ k, 0 ≤ k ∧ k < 6 ∧ q (76 + 12 * d + (6 + k)) ≠ r (76 + 12 * d + (6 + k))
def PDf (r q : Int → Int) : Prop := ∃ v g, (0 ≤ v ∧ v < r 0) ∧ (0 ≤ g ∧ g ≤ 1) ∧ q (6 + 7 * v + (5 + g)) ≠ r (6 + 7 * v + (5 + g))
theorem pushD_far {r : Int → Int} (h : Wf r) {i : Int} (hi : 6 + 7 * r 0 ≤ i) : ∀ n : Nat, n ≤ r 1 → pushD r n i = r i
  | 0, _ => rfl
  | n + 1, hn => by
    obtain ⟨a, b⟩ := pushD_Wf h n (by omega)
    have e0 : pushD r n 0 = r 0 := b 0 (by unfold isP; omega)
    have e1 : pushD r n 1 = r 1 := b 1 (by unfold isP; omega)
    obtain ⟨-, -, q2, q3, -⟩ := a.2.2.2.2.2 n (by omega) (by omega)
    rw [pushD]
    unfold pushR
    rw [upr_ne _ _ (by omega)]
    exact pushD_far h hi n (by omega)
theorem zeroP_far (r : Int → Int) {i : Int} {m : Nat} (hi : 6 + 7 * (m : Int) ≤ i) : ∀ n : Nat, n ≤ m → zeroP r n i = r i
  | 0, _ => rfl
  | n + 1, hn => by
    rw [zeroP, upr_ne _ _ (by omega), upr_ne _ _ (by omega)]
    exact zeroP_far r hi n (by omega)
theorem pushAllR_far {r : Int → Int} (h : Wf r) {i : Int} (hi : 6 + 7 * r 0 ≤ i) : pushAllR r i = r i := by
  have h0 := h.1
  have h1 := h.2.1
  have hz := Wf_zeroP h (n := (r 0).toNat) (by omega)
  have e1 : zeroP r (r 0).toNat 1 = r 1 := zeroP_out r (by unfold isP; omega) _ (by omega)
  have e0 : zeroP r (r 0).toNat 0 = r 0 := zeroP_out r (by unfold isP; omega) _ (by omega)
  unfold pushAllR
  rw [pushD_far hz (by omega) (r 1).toNat (by omega)]
  exact zeroP_far r (m := (r 0).toNat) (by omega) _ (Nat.le_refl _)
theorem Dfr_push {r : Int → Int} (h : Wf r) (t : Int) : Dfr r (pushAllR (upr r 2 t)) ↔ PDf (upr r 2 t) (pushAllR (upr r 2 t)) := by
  have hn := h.1
  have hw := Wf_scal h (i := 2) t (Or.inl rfl)
  have e0 : upr r 2 t 0 = r 0 := upr_ne _ _ (by omega)
  constructor
  · rintro ⟨j, j1, j2, j3⟩
    by_cases hp : isP j
    · by_cases hf : 6 + 7 * r 0 ≤ j
      · rw [pushAllR_far hw (by omega), upr_ne _ _ (by omega)] at j3
        exact absurd rfl j3
      · unfold isP at hp
        refine ⟨(j - 6) / 7, (j - 6) % 7 - 5, ⟨by omega, by omega⟩, ⟨by omega, by omega⟩, ?_⟩
        rw [show 6 + 7 * ((j - 6) / 7) + (5 + ((j - 6) % 7 - 5)) = j by omega, upr_ne r _ (by omega)]
        exact j3
    · rw [(pushAllR_Wf hw).2 j hp, upr_ne _ _ (by omega)] at j3
      exact absurd rfl j3
  · rintro ⟨v, g, v1, g1, q⟩
    refine ⟨6 + 7 * v + (5 + g), by omega, by omega, ?_⟩
    rw [upr_ne r _ (by omega)] at q
    exact q
theorem LDf_side {r : Int → Int} (h : Wf r) {v : Int} (hv : 0 ≤ v ∧ v < r 0) (hs : reckonR r v (6 + 7 * v + 2) ≠ r (6 + 7 * v + 2)) : LDf r (reckonR r v) v := by
  obtain ⟨q0, q1, q2, q3, q4, q5, q6, q7, q8, q9⟩ := h.2.2.2.2.1 v hv.1 hv.2
  unfold reckonR at hs ⊢
  by_cases k0 : r (6 + 7 * v + 0) = 0
  · rw [if_pos k0, layR_out _ (by omega) (by omega) (by omega)] at hs
    exact absurd rfl hs
  rw [if_neg k0] at hs ⊢
  by_cases k1 : r (6 + 7 * v + 0) = 1
  · rw [if_pos k1, layR_out _ (by split <;> omega) (by omega) (by omega)] at hs
    exact absurd rfl hs
  rw [if_neg k1] at hs ⊢
  by_cases k2 : r (6 + 7 * v + 0) = 2
  · rw [if_pos k2] at hs ⊢
    by_cases c1 : worksR r v 5 ∧ ¬ worksR r v 6
    · rw [if_pos c1] at hs ⊢
      rw [layR_out _ (by omega) (by omega) (by omega), goesR_2] at hs
      have := q7 k2 (by omega)
      rintro ⟨-, e2⟩
      rw [layR_4 _ _ _ (by omega), if_pos rfl] at e2
      omega
    · rw [if_neg c1] at hs ⊢
      by_cases c2 : ¬ worksR r v 5 ∧ worksR r v 6
      · rw [if_pos c2] at hs ⊢
        rw [layR_out _ (by omega) (by omega) (by omega), goesR_2] at hs
        have := q8 k2 (by omega)
        rintro ⟨e1, -⟩
        rw [layR_3 _ _ _ (by omega), if_pos rfl] at e1
        omega
      · rw [if_neg c2, layR_out _ (by omega) (by omega) (by omega)] at hs
        exact absurd rfl hs
  rw [if_neg k2] at hs ⊢
  by_cases k3 : r (6 + 7 * v + 0) = 3
  · rw [if_pos k3, upr_ne _ _ (by omega), layR_out _ (by omega) (by omega) (by omega)] at hs
    exact absurd rfl hs
  · rw [if_neg k3, layR_out _ (by split <;> omega) (by omega) (by omega)] at hs
    exact absurd rfl hs
theorem Dfr_valve {r c : Int → Int} (h : Wf c) {v : Int} (hv : 0 ≤ v ∧ v < c 0) (e2 : c (6 + 7 * v + 2) = r (6 + 7 * v + 2)) (e3 : c (6 + 7 * v + 3) = r (6 + 7 * v + 3)) (e4 : c (6 + 7 * v + 4) = r (6 + 7 * v + 4)) : Dfr r (reckonR c v) ↔ Dfr r c ∨ LDf c (reckonR c v) v := by
  have hn := h.1
  obtain ⟨q0, q1, q2, -⟩ := h.2.2.2.2.1 v hv.1 hv.2
  constructor
  · rintro ⟨j, j1, j2, j3⟩
    by_cases k3 : j = 6 + 7 * v + 3
    · subst k3; right; rintro ⟨a, -⟩; exact j3 (a.trans e3)
    by_cases k4 : j = 6 + 7 * v + 4
    · subst k4; right; rintro ⟨-, a⟩; exact j3 (a.trans e4)
    by_cases k2 : j = 6 + 7 * v + 2
    · subst k2; right; exact LDf_side h hv (fun a => j3 (a.trans e2))
    · left; rw [reckonR_out c q2 (by omega) k2 k3 k4] at j3
      exact ⟨j, j1, j2, j3⟩
  · rintro (⟨j, j1, j2, j3⟩ | hl)
    · by_cases k3 : j = 6 + 7 * v + 3
      · subst k3; exact absurd e3 j3
      by_cases k4 : j = 6 + 7 * v + 4
      · subst k4; exact absurd e4 j3
      by_cases k2 : j = 6 + 7 * v + 2
      · subst k2; exact absurd e2 j3
      · refine ⟨j, j1, j2, ?_⟩
        rw [reckonR_out c q2 (by omega) k2 k3 k4]
        exact j3
    · by_cases a3 : reckonR c v (6 + 7 * v + 3) = r (6 + 7 * v + 3)
      · by_cases a4 : reckonR c v (6 + 7 * v + 4) = r (6 + 7 * v + 4)
        · exact absurd ⟨a3.trans e3.symm, a4.trans e4.symm⟩ hl
        · exact ⟨_, by omega, by omega, a4⟩
      · exact ⟨_, by omega, by omega, a3⟩
theorem Dfr_duct {r c : Int → Int} (h : Wf c) {d : Int} (hd : 0 ≤ d ∧ d < c 1) (e : ∀ i, 76 + 12 * d + 6 ≤ i → i < 76 + 12 * d + 12 → c i = r i) : Dfr r (enterR c d) ↔ Dfr r c ∨ ADf c (enterR c d) d := by
  have hn := h.2.1
  obtain ⟨-, -, -, -, q4, -⟩ := h.2.2.2.2.2 d hd.1 hd.2
  constructor
  · rintro ⟨j, j1, j2, j3⟩
    by_cases k : 76 + 12 * d + 6 ≤ j ∧ j < 76 + 12 * d + 12
    · right
      refine ⟨j - (76 + 12 * d + 6), by omega, by omega, ?_⟩
      rw [show 76 + 12 * d + (6 + (j - (76 + 12 * d + 6))) = j by omega, e j k.1 k.2]
      exact j3
    · left
      rw [enterR_out q4.1 (by omega)] at j3
      exact ⟨j, j1, j2, j3⟩
  · rintro (⟨j, j1, j2, j3⟩ | ⟨k, k1, k2, k3⟩)
    · refine ⟨j, j1, j2, ?_⟩
      have k : ¬ (76 + 12 * d + 6 ≤ j ∧ j < 76 + 12 * d + 12) := fun k => j3 (e j k.1 k.2)
      rw [enterR_out q4.1 (by omega)]
      exact j3
    · refine ⟨76 + 12 * d + (6 + k), by omega, by omega, ?_⟩
      rw [← e (76 + 12 * d + (6 + k)) (by omega) (by omega)]
      exact k3
theorem rests_iff (r : Int → Int) : restsR r ↔ ¬ Dfr r (tickR r) := by
  constructor
  · rintro h ⟨j, j1, j2, j3⟩
    have := h (j - 6).toNat (by omega)
    rw [show 6 + ((j - 6).toNat : Int) = j by omega] at this
    exact j3 this.symm
  · intro h j hj
    by_cases e : r (6 + (j : Int)) = tickR r (6 + (j : Int))
    · exact e
    · exact absurd ⟨6 + (j : Int), by omega, by omega, fun q => e q.symm⟩ h
theorem Wf.pg2 {r : Int → Int} (h : Wf r) {e : Int} (h0 : 0 ≤ e ∧ e < 2 * r 0) : 0 ≤ r (6 + 7 * (e / 2) + (5 + e % 2)) ∧ r (6 + 7 * (e / 2) + (5 + e % 2)) ≤ 99 := h.pg (by omega) (by omega)
def wallR (r : Int → Int) (v : Int) : Int → Int := if worksR r v 5 ∧ ¬ worksR r v 6 then goesR r v 1 else if ¬ worksR r v 5 ∧ worksR r v 6 then goesR r v 0 else r
theorem reckon_wall {r : Int → Int} {v : Int} (hk : r (6 + 7 * v + 0) = 2) : reckonR r v = layR (wallR r v) v (wallR r v (6 + 7 * v + 2)) (wallR r v (6 + 7 * v + 1)) := by
  unfold reckonR wallR
  rw [if_neg (by omega), if_neg (by omega), if_pos hk]
  split
  · rw [goesR_2]
    by_cases e : 6 + 7 * v + 1 = 3
    · omega
    · rw [goesR_out _ e (by omega)]
  · split
    · rw [goesR_2]
      by_cases e : 6 + 7 * v + 1 = 3
      · omega
      · rw [goesR_out _ e (by omega)]
    · rfl
