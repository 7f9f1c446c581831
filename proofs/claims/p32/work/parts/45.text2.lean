/-! texts, as the class reads them -/
theorem nums_stop (t : Int → Int) (n : Int) (k : Nat) (p : Int) {i : Nat} (h : (nums t n k p i).1 = -1) : ∀ j : Nat, nums t n k p (i + j) = (-1, (nums t n k p i).2)
  | 0 => by rw [← h]; rfl
  | j + 1 => by
    rw [show i + (j + 1) = (i + j) + 1 by omega, nums, nums_stop t n k p h j]
    dsimp only
    unfold figV figP
    rw [if_pos rfl, if_pos rfl]
theorem figV_a (t : Int → Int) (n p k lo hi : Int) {a b : Int} (ha : a ≠ -1) (hb : b ≠ -1) : figV t n p a k lo hi = figV t n p b k lo hi := by
  unfold figV
  rw [if_neg ha, if_neg hb]
theorem figP_a (t : Int → Int) (n p k lo hi : Int) {a b : Int} (ha : a ≠ -1) (hb : b ≠ -1) : figP t n p a k lo hi = figP t n p b k lo hi := by
  unfold figP
  rw [if_neg ha, if_neg hb]
theorem tab_len : ∀ k, k < 6 → (tbL k).length = 2 * cntB k ∧ cntB k ≤ 5 := by decide
theorem tab_lo {k i : Nat} {j : Int} (h : j = 2 * (i : Int)) : (tbL k).getD j.toNat 0 = loB k i := by
  unfold loB
  rw [show j.toNat = 2 * i by omega]
theorem tab_hi {k i : Nat} {j : Int} (h : j = 2 * (i : Int) + 1) : (tbL k).getD j.toNat 0 = hiB k i := by
  unfold hiB
  rw [show j.toNat = 2 * i + 1 by omega]
theorem tabS_6 (s : Int) : tabS s < 6 := by
  unfold tabS
  repeat' split
  all_goals decide
theorem cntB_0 : ∀ k, k < 6 → (cntB k = 0 ↔ k = 5) := by decide
/-- the class's places while it reads: at p, letter l, the numbers N -/
def tS (σ : St) (p l : Int) (N : Int → Int) : St := fun c => if c = 1 then upr (upr (σ 1) 2 p) 3 l else if c = 3 then N else σ c
theorem tS_1 (σ : St) (p l : Int) (N : Int → Int) : tS σ p l N 1 1 = σ 1 1 := rfl
theorem tS_2 (σ : St) (p l : Int) (N : Int → Int) : tS σ p l N 1 2 = p := rfl
theorem tS_3 (σ : St) (p l : Int) (N : Int → Int) : tS σ p l N 1 3 = l := rfl
theorem tS_s (σ : St) (p l : Int) (N : Int → Int) : tS σ p l N 2 = σ 2 := rfl
theorem tS_n (σ : St) (p l : Int) (N : Int → Int) : tS σ p l N 3 = N := rfl
theorem tS_p2 (σ : St) (p l x : Int) (N : Int → Int) : setc (tS σ p l N) 1 (upr (tS σ p l N 1) ((2 : Nat) : Int) x) = tS σ x l N := by
  funext c i
  unfold setc tS upr
  by_cases h : c = 1
  · subst h
    show (if i = ((2 : Nat) : Int) then x else if i = 3 then l else if i = 2 then p else σ 1 i) = (if i = 3 then l else if i = 2 then x else σ 1 i)
    split <;> split <;> first | rfl | omega | (split <;> first | rfl | omega)
  · simp [h]
theorem tS_p3 (σ : St) (p l x : Int) (N : Int → Int) : setc (tS σ p l N) 1 (upr (tS σ p l N 1) ((3 : Nat) : Int) x) = tS σ p x N := by
  funext c i
  unfold setc tS upr
  by_cases h : c = 1
  · subst h
    show (if i = ((3 : Nat) : Int) then x else if i = 3 then l else if i = 2 then p else σ 1 i) = (if i = 3 then x else if i = 2 then p else σ 1 i)
    split <;> first | rfl | omega | (split <;> first | rfl | omega | (split <;> first | rfl | omega))
  · simp [h]
theorem tS_o3 (σ : St) (p l : Int) (N N' : Int → Int) : setc (tS σ p l N) 3 N' = tS σ p l N' := by
  funext c
  unfold setc tS
  by_cases h : c = 3
  · subst h; rfl
  · simp [h]
theorem tS_eta (σ : St) : tS σ (σ 1 2) (σ 1 3) (σ 3) = σ := by
  funext c
  unfold tS
  by_cases h : c = 1
  · subst h
    funext i
    rw [if_pos rfl, upr_if, upr_if]
    split
    · rename_i e; rw [e]
    · split
      · rename_i e; rw [e]
      · rfl
  · rw [if_neg h]
    split
    · rename_i e; rw [e]
    · rfl
theorem tS_setN (σ : St) (p l : Int) (N : Int → Int) (α : St) : setN (tS σ p l N) 4 α = tS (setN σ 4 α) p l N := by
  funext c
  unfold setN tS
  by_cases h : 4 ≤ c ∧ c < 4 + 13
  · rw [if_pos h, if_neg (by omega), if_neg (by omega)]
    exact (if_pos h).symm
  · rw [if_neg h]
    by_cases h1 : c = 1
    · subst h1; rfl
    · rw [if_neg h1, if_neg h1]
      by_cases h3 : c = 3
      · rw [if_pos h3, if_pos h3]
      · rw [if_neg h3, if_neg h3]
        exact (if_neg h).symm
theorem CRep.txt {σ : St} {s a p l : Int} {N t n d k i : Int → Int} (h : CRep σ s a t n d k i) : CRep (tS σ p l N) s a t n d k i := h.cong rfl (fun c hc => by
  unfold tS
  rw [if_neg (by omega), if_neg (by omega)])
