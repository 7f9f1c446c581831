/-! the class's state, against what the model holds -/
theorem Rep.congr {α : St} {r r' : Int → Int} (h : Rep α r) (hn : r 0 ≤ 10) (hd : r 1 ≤ 16) (e : ∀ i, 0 ≤ i → i < 268 → r' i = r i) : Rep α r' := by
  obtain ⟨g1, g2, g3, g4, g5⟩ := h
  unfold Rep
  rw [e 0 (by omega) (by omega), e 1 (by omega) (by omega), e 2 (by omega) (by omega), e 3 (by omega) (by omega), e 4 (by omega) (by omega), e 5 (by omega) (by omega)]
  refine ⟨g1, fun v a b => ?_, fun v g a b c d => ?_, fun d a b => ?_, fun d k a b c f => ?_⟩
  · rw [e _ (by omega) (by omega), e (6 + 7 * v + 1) (by omega) (by omega), e (6 + 7 * v + 2) (by omega) (by omega)]; exact g2 v a b
  · rw [e _ (by omega) (by omega), e (6 + 7 * v + (5 + g)) (by omega) (by omega)]; exact g3 v g a b c d
  · rw [e _ (by omega) (by omega), e (76 + 12 * d + 1) (by omega) (by omega), e (76 + 12 * d + 2) (by omega) (by omega), e (76 + 12 * d + 3) (by omega) (by omega), e (76 + 12 * d + 4) (by omega) (by omega), e (76 + 12 * d + 5) (by omega) (by omega)]; exact g4 d a b
  · rw [e _ (by omega) (by omega)]; exact g5 d k a b c f
def MemR (σ : St) (a : Int) (d : Int → Int) : Prop := σ 17 0 = a ∧ (0 ≤ σ 17 1 ∧ σ 17 1 < 14) ∧ ∀ j, 0 ≤ j → j < a → Rep (getN σ (19 + 13 * ((σ 17 1 + j) % 14).toNat)) (blk d (268 * j))
theorem getN_out (σ : St) {n m : Nat} (α : St) (h : m + 13 ≤ n ∨ n + 13 ≤ m) : getN (setN σ n α) m = getN σ m := by
  funext k
  unfold getN
  by_cases hk : k < 13
  · rw [if_pos hk, if_pos hk, setN_out _ _ _ (by omega)]
  · rw [if_neg hk, if_neg hk]
theorem getN_setc (σ : St) {m c : Nat} (r : Int → Int) (h : c < m ∨ m + 13 ≤ c) : getN (setc σ c r) m = getN σ m := by
  funext k
  unfold getN
  by_cases hk : k < 13
  · rw [if_pos hk, if_pos hk, setc_ne _ _ (by omega)]
  · rw [if_neg hk, if_neg hk]
theorem getN_cong {σ σ' : St} {m : Nat} (h : ∀ k, k < 13 → σ' (m + k) = σ (m + k)) : getN σ' m = getN σ m := by
  funext k
  unfold getN
  by_cases hk : k < 13
  · rw [if_pos hk, if_pos hk, h k hk]
  · rw [if_neg hk, if_neg hk]
theorem getN_at (σ : St) (n : Nat) (α : St) {r : Int → Int} (h : Rep α r) : Rep (getN (setN σ n α) n) r := by
  have e : ∀ k, k < 13 → getN (setN σ n α) n k = α k := fun k hk => by
    unfold getN
    rw [if_pos hk, setN_at _ _ _ hk]
  refine h.upd rfl rfl ?_ (fun v a b => ?_) (fun v g a b c d => ?_) (fun d a b => ?_) (fun d k a b c f => ?_)
  · rw [e 0 (by decide), e 1 (by decide)]; exact ⟨h.1.1, h.1.2.1, rfl, rfl, h.1.2.2.2.2.1, h.1.2.2.2.2.2⟩
  · rw [e 2 (by decide), e 3 (by decide), e 4 (by decide)]; exact h.2.1 v a b
  · rw [e 5 (by decide), e 6 (by decide)]; exact h.2.2.1 v g a b c d
  · rw [e 7 (by decide), e 8 (by decide), e 9 (by decide), e 10 (by decide)]; exact h.2.2.2.1 d a b
  · rw [e 11 (by decide)]; exact h.2.2.2.2 d k a b c f
theorem MemR.cong {σ σ' : St} {a : Int} {d : Int → Int} (h : MemR σ a d) (e : ∀ c, 17 ≤ c → c < 201 → σ' c = σ c) : MemR σ' a d := by
  obtain ⟨h1, h2, h3⟩ := h
  unfold MemR
  rw [e 17 (by omega) (by omega)]
  refine ⟨h1, h2, fun j a b => ?_⟩
  rw [getN_cong (σ := σ) (fun k hk => e _ (by omega) (by omega))]
  exact h3 j a b
theorem MemR.zero {σ : St} (d : Int → Int) (h0 : σ 17 0 = 0) (h1 : σ 17 1 = 0) : MemR σ 0 d := ⟨h0, by rw [h1]; decide, fun j a b => by omega⟩
theorem cpy_hit (n d : Int → Int) {p q : Int} (i : Int) (h : p = q) (hi : 0 ≤ i ∧ i < 268) : blk (cpyr n d 0 p 268) q i = n i := by
  subst h
  rw [blk_in _ _ hi]
  unfold cpyr
  rw [if_pos (by omega), show 0 + (p + i - p) = i by omega]
theorem cpy_miss (n d : Int → Int) {p q : Int} (h : q + 268 ≤ p) : blk (cpyr n d 0 p 268) q = blk d q := by
  funext i
  unfold blk
  by_cases hi : 0 ≤ i ∧ i < 268
  · rw [if_pos hi, if_pos hi]
    unfold cpyr
    rw [if_neg (by omega)]
  · rw [if_neg hi, if_neg hi]
theorem cpy_miss2 (n d : Int → Int) {p q : Int} (h : p + 268 ≤ q) : blk (cpyr n d 0 p 268) q = blk d q := by
  funext i
  unfold blk
  by_cases hi : 0 ≤ i ∧ i < 268
  · rw [if_pos hi, if_pos hi]
    unfold cpyr
    rw [if_neg (by omega)]
  · rw [if_neg hi, if_neg hi]
theorem shl_blk (d : Int → Int) {j : Int} (h : 0 ≤ j ∧ j < 13) : blk (shlR d) (268 * j) = blk d (268 * (j + 1)) := by
  funext i
  unfold blk
  by_cases hi : 0 ≤ i ∧ i < 268
  · rw [if_pos hi, if_pos hi]
    unfold shlR shlN
    rw [if_pos (by omega)]
    exact congrArg d (by omega)
  · rw [if_neg hi, if_neg hi]
theorem MemR.keep1 {σ α2 : St} {a o : Int} {n d : Int → Int} {N0 : Nat} (h : MemR σ a d) (ha : 0 ≤ a ∧ a < 14) (hW : Wf n) (hR : Rep α2 n) (ho : σ 17 1 = o) (hN : N0 = 19 + 13 * ((o + a) % 14).toNat) : MemR (setc (setN σ N0 α2) 17 (upr (σ 17) 0 (a + 1))) (remA a) (remD a n d) := by
  obtain ⟨h1, h2, h3⟩ := h
  subst ho
  have e17 : setc (setN σ N0 α2) 17 (upr (σ 17) 0 (a + 1)) 17 = upr (σ 17) 0 (a + 1) := setc_at _ _ _
  have eA : remA a = a + 1 := if_neg (by omega)
  have eD : remD a n d = cpyr n d 0 (268 * a) 268 := if_neg (by omega)
  unfold MemR
  rw [e17, eA, eD, upr_at, upr_ne _ _ (by omega)]
  refine ⟨rfl, h2, fun j j0 j1 => ?_⟩
  rw [getN_setc _ _ (by omega)]
  by_cases hj : j = a
  · subst hj
    rw [← hN]
    exact (getN_at σ N0 α2 hR).congr hW.1.2 hW.2.1.2 (fun i a b => cpy_hit n d i rfl ⟨a, b⟩)
  · rw [getN_out _ _ (by omega), cpy_miss _ _ (by omega)]
    exact h3 j j0 (by omega)
theorem MemR.keep2 {σ α2 : St} {a o : Int} {n d : Int → Int} {N0 : Nat} (h : MemR σ a d) (ha : a = 14) (hW : Wf n) (hR : Rep α2 n) (ho : σ 17 1 = o) (hN : N0 = 19 + 13 * ((o + a) % 14).toNat) : MemR (setc (setN σ N0 α2) 17 (upr (σ 17) 1 ((o + 1) % 14))) (remA a) (remD a n d) := by
  obtain ⟨h1, h2, h3⟩ := h
  subst ha
  have e17 : setc (setN σ N0 α2) 17 (upr (σ 17) 1 ((o + 1) % 14)) 17 = upr (σ 17) 1 ((o + 1) % 14) := setc_at _ _ _
  have eA : remA 14 = 14 := rfl
  have eD : remD 14 n d = cpyr n (shlR d) 0 3484 268 := rfl
  unfold MemR
  rw [e17, eA, eD, upr_at, upr_ne _ _ (by omega)]
  refine ⟨h1, by omega, fun j j0 j1 => ?_⟩
  rw [getN_setc _ _ (by omega)]
  by_cases hj : j = 13
  · subst hj
    rw [show 19 + 13 * (((o + 1) % 14 + 13) % 14).toNat = N0 by omega]
    exact (getN_at σ N0 α2 hR).congr hW.1.2 hW.2.1.2 (fun i a b => cpy_hit n _ i rfl ⟨a, b⟩)
  · rw [getN_out _ _ (by omega), cpy_miss _ _ (by omega), shl_blk _ (by omega), show 19 + 13 * (((o + 1) % 14 + j) % 14).toNat = 19 + 13 * ((σ 17 1 + (j + 1)) % 14).toNat by omega]
    exact h3 (j + 1) (by omega) (by omega)
theorem MemR.drop {σ : St} {a : Int} {d : Int → Int} (h : MemR σ a d) (ha : 1 ≤ a) : MemR (setc σ 17 (upr (σ 17) 0 (a - 1))) (a - 1) d := by
  obtain ⟨h1, h2, h3⟩ := h
  unfold MemR
  rw [setc_at, upr_at, upr_ne _ _ (by omega)]
  refine ⟨rfl, h2, fun j j0 j1 => ?_⟩
  rw [getN_setc _ _ (by omega)]
  exact h3 j j0 (by omega)
def CRep (σ : St) (s a : Int) (t n d k i : Int → Int) : Prop :=
  σ 1 1 = s ∧ (∀ j, 0 ≤ j → j < s → σ 2 j = t j) ∧ Rep (getN σ 4) n ∧ MemR σ a d ∧ (∀ j, j = 0 ∨ j = 1 → σ 202 j = i j ∧ (i j = 1 → Rep (getN σ (229 + 13 * j.toNat)) (blk k (268 * j))))
theorem CRep.cong {σ σ' : St} {s a : Int} {t n d k i : Int → Int} (h : CRep σ s a t n d k i) (e1 : σ' 1 1 = σ 1 1) (e : ∀ c, c = 2 ∨ 4 ≤ c ∧ c < 203 ∨ 229 ≤ c ∧ c < 255 → σ' c = σ c) : CRep σ' s a t n d k i := by
  obtain ⟨h1, h2, h3, h4, h5⟩ := h
  refine ⟨e1.trans h1, fun j a b => by rw [e 2 (by omega)]; exact h2 j a b, ?_, h4.cong (fun c a b => e c (by omega)), fun j hj => ?_⟩
  · rw [getN_cong (σ := σ) (fun k hk => e _ (by omega))]; exact h3
  · rw [e 202 (by omega)]
    refine ⟨(h5 j hj).1, fun q => ?_⟩
    rw [getN_cong (σ := σ) (fun k hk => e _ (by omega))]
    exact (h5 j hj).2 q
theorem CRep.now {σ α : St} {s a : Int} {t n n' d k i : Int → Int} (h : CRep σ s a t n d k i) (hR : Rep α n') : CRep (setN σ 4 α) s a t n' d k i := by
  obtain ⟨h1, h2, h3, h4, h5⟩ := h
  have e : ∀ c, c < 4 ∨ 17 ≤ c → setN σ 4 α c = σ c := fun c hc => setN_out _ _ _ (by omega)
  refine ⟨by rw [e 1 (by omega)]; exact h1, fun j a b => by rw [e 2 (by omega)]; exact h2 j a b, getN_at _ _ _ hR, h4.cong (fun c a b => e c (by omega)), fun j hj => ?_⟩
  rw [e 202 (by omega), getN_out _ _ (by omega)]
  exact h5 j hj
theorem CRep.oth {σ β : St} {s a : Int} {t n d k i : Int → Int} (h : CRep σ s a t n d k i) {m : Nat} (hm : m = 203 ∨ m = 216) : CRep (setN σ m β) s a t n d k i := h.cong (by rw [setN_out _ _ _ (by omega)]) (fun c hc => setN_out _ _ _ (by omega))
theorem CRep.mem {σ σ' : St} {s a a' : Int} {t n d d' k i : Int → Int} (h : CRep σ s a t n d k i) (hM : MemR σ' a' d') (e : ∀ c, c < 17 ∨ 201 ≤ c → σ' c = σ c) : CRep σ' s a' t n d' k i := by
  obtain ⟨h1, h2, h3, h4, h5⟩ := h
  refine ⟨by rw [e 1 (by omega)]; exact h1, fun j a b => by rw [e 2 (by omega)]; exact h2 j a b, ?_, hM, fun j hj => ?_⟩
  · rw [getN_cong (σ := σ) (fun k hk => e _ (by omega))]; exact h3
  · rw [e 202 (by omega)]
    refine ⟨(h5 j hj).1, fun q => ?_⟩
    rw [getN_cong (σ := σ) (fun k hk => e _ (by omega))]
    exact (h5 j hj).2 q
/-- what the model's rows are, whatever the calls were -/
def AOk (s a : Int) (t n d k i : Int → Int) : Prop := (0 ≤ s ∧ s ≤ 120) ∧ (0 ≤ a ∧ a ≤ 14) ∧ (∀ j, 0 ≤ j → j < s → 0 ≤ t j ∧ t j ≤ 255) ∧ Wf n ∧ (∀ j, 0 ≤ j → j < a → Wf (blk d (268 * j))) ∧ (∀ j, j = 0 ∨ j = 1 → (i j = 0 ∨ i j = 1) ∧ (i j = 1 → Wf (blk k (268 * j))))
