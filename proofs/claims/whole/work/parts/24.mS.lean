/-! the model: refusal w, size s, acts a, spot p, out u; text t, now n, trial x, further f, diary d, kept k, isKept i -/
def oS (ρ : Int → Int) (w s a p u : Int) : Int → Int := fun j => if j = 0 then w else if j = 2 then s else if j = 7 then a else if j = 10 then p else if j = 11 then u else ρ j
def mS (σ : St) (w s a p u : Int) (t n x f d k i : Int → Int) : St := fun c => if c = 255 then oS (σ 255) w s a p u else if c = 256 then t else if c = 257 then n else if c = 258 then x else if c = 259 then f else if c = 260 then d else if c = 261 then k else if c = 262 then i else σ c
theorem mS_w (σ : St) (w s a p u : Int) (t n x f d k i : Int → Int) : mS σ w s a p u t n x f d k i 255 0 = w := rfl
theorem mS_s (σ : St) (w s a p u : Int) (t n x f d k i : Int → Int) : mS σ w s a p u t n x f d k i 255 2 = s := rfl
theorem mS_a (σ : St) (w s a p u : Int) (t n x f d k i : Int → Int) : mS σ w s a p u t n x f d k i 255 7 = a := rfl
theorem mS_p (σ : St) (w s a p u : Int) (t n x f d k i : Int → Int) : mS σ w s a p u t n x f d k i 255 10 = p := rfl
theorem mS_u (σ : St) (w s a p u : Int) (t n x f d k i : Int → Int) : mS σ w s a p u t n x f d k i 255 11 = u := rfl
theorem mS_t (σ : St) (w s a p u : Int) (t n x f d k i : Int → Int) : mS σ w s a p u t n x f d k i 256 = t := rfl
theorem mS_n (σ : St) (w s a p u : Int) (t n x f d k i : Int → Int) : mS σ w s a p u t n x f d k i 257 = n := rfl
theorem mS_x (σ : St) (w s a p u : Int) (t n x f d k i : Int → Int) : mS σ w s a p u t n x f d k i 258 = x := rfl
theorem mS_f (σ : St) (w s a p u : Int) (t n x f d k i : Int → Int) : mS σ w s a p u t n x f d k i 259 = f := rfl
theorem mS_d (σ : St) (w s a p u : Int) (t n x f d k i : Int → Int) : mS σ w s a p u t n x f d k i 260 = d := rfl
theorem mS_k (σ : St) (w s a p u : Int) (t n x f d k i : Int → Int) : mS σ w s a p u t n x f d k i 261 = k := rfl
theorem mS_i (σ : St) (w s a p u : Int) (t n x f d k i : Int → Int) : mS σ w s a p u t n x f d k i 262 = i := rfl
theorem mS_o256 (σ : St) (w s a p u : Int) (t n x f d k i : Int → Int) (t' : Int → Int) : setc (mS σ w s a p u t n x f d k i) 256 t' = mS σ w s a p u t' n x f d k i := by
  funext c; unfold setc mS; by_cases h : c = 256
  · subst h; rfl
  · simp [h]
theorem mS_i256 (σ : St) (w s a p u : Int) (t n x f d k i : Int → Int) : mS σ w s a p u t n x f d k i = setc (mS σ w s a p u t n x f d k i) 256 t := (mS_o256 σ w s a p u t n x f d k i t).symm
theorem mS_o257 (σ : St) (w s a p u : Int) (t n x f d k i : Int → Int) (n' : Int → Int) : setc (mS σ w s a p u t n x f d k i) 257 n' = mS σ w s a p u t n' x f d k i := by
  funext c; unfold setc mS; by_cases h : c = 257
  · subst h; rfl
  · simp [h]
theorem mS_i257 (σ : St) (w s a p u : Int) (t n x f d k i : Int → Int) : mS σ w s a p u t n x f d k i = setc (mS σ w s a p u t n x f d k i) 257 n := (mS_o257 σ w s a p u t n x f d k i n).symm
theorem mS_o258 (σ : St) (w s a p u : Int) (t n x f d k i : Int → Int) (x' : Int → Int) : setc (mS σ w s a p u t n x f d k i) 258 x' = mS σ w s a p u t n x' f d k i := by
  funext c; unfold setc mS; by_cases h : c = 258
  · subst h; rfl
  · simp [h]
theorem mS_i258 (σ : St) (w s a p u : Int) (t n x f d k i : Int → Int) : mS σ w s a p u t n x f d k i = setc (mS σ w s a p u t n x f d k i) 258 x := (mS_o258 σ w s a p u t n x f d k i x).symm
theorem mS_o259 (σ : St) (w s a p u : Int) (t n x f d k i : Int → Int) (f' : Int → Int) : setc (mS σ w s a p u t n x f d k i) 259 f' = mS σ w s a p u t n x f' d k i := by
  funext c; unfold setc mS; by_cases h : c = 259
  · subst h; rfl
  · simp [h]
theorem mS_i259 (σ : St) (w s a p u : Int) (t n x f d k i : Int → Int) : mS σ w s a p u t n x f d k i = setc (mS σ w s a p u t n x f d k i) 259 f := (mS_o259 σ w s a p u t n x f d k i f).symm
theorem mS_o260 (σ : St) (w s a p u : Int) (t n x f d k i : Int → Int) (d' : Int → Int) : setc (mS σ w s a p u t n x f d k i) 260 d' = mS σ w s a p u t n x f d' k i := by
  funext c; unfold setc mS; by_cases h : c = 260
  · subst h; rfl
  · simp [h]
theorem mS_i260 (σ : St) (w s a p u : Int) (t n x f d k i : Int → Int) : mS σ w s a p u t n x f d k i = setc (mS σ w s a p u t n x f d k i) 260 d := (mS_o260 σ w s a p u t n x f d k i d).symm
theorem mS_o261 (σ : St) (w s a p u : Int) (t n x f d k i : Int → Int) (k' : Int → Int) : setc (mS σ w s a p u t n x f d k i) 261 k' = mS σ w s a p u t n x f d k' i := by
  funext c; unfold setc mS; by_cases h : c = 261
  · subst h; rfl
  · simp [h]
theorem mS_i261 (σ : St) (w s a p u : Int) (t n x f d k i : Int → Int) : mS σ w s a p u t n x f d k i = setc (mS σ w s a p u t n x f d k i) 261 k := (mS_o261 σ w s a p u t n x f d k i k).symm
theorem mS_o262 (σ : St) (w s a p u : Int) (t n x f d k i : Int → Int) (i' : Int → Int) : setc (mS σ w s a p u t n x f d k i) 262 i' = mS σ w s a p u t n x f d k i' := by
  funext c; unfold setc mS; by_cases h : c = 262
  · subst h; rfl
  · simp [h]
theorem mS_i262 (σ : St) (w s a p u : Int) (t n x f d k i : Int → Int) : mS σ w s a p u t n x f d k i = setc (mS σ w s a p u t n x f d k i) 262 i := (mS_o262 σ w s a p u t n x f d k i i).symm
theorem mS_f0 (σ : St) (w s a p u : Int) (t n x f d k i : Int → Int) (w' : Int) : setc (mS σ w s a p u t n x f d k i) 255 (upr (mS σ w s a p u t n x f d k i 255) ((0 : Nat) : Int) w') = mS σ w' s a p u t n x f d k i := by
  funext c q; unfold setc; by_cases h : c = 255
  · subst h; show upr (oS (σ 255) w s a p u) ((0 : Nat) : Int) w' q = oS (σ 255) w' s a p u q
    unfold upr oS
    by_cases e : q = 0
    · subst e; rfl
    · rw [if_neg (by omega)]
      skip
      by_cases e0 : q = 0 <;> by_cases e2 : q = 2 <;> by_cases e7 : q = 7 <;> by_cases e10 : q = 10 <;> by_cases e11 : q = 11 <;> first | omega | simp [*]
  · unfold mS; simp [h]
theorem mS_f2 (σ : St) (w s a p u : Int) (t n x f d k i : Int → Int) (s' : Int) : setc (mS σ w s a p u t n x f d k i) 255 (upr (mS σ w s a p u t n x f d k i 255) ((2 : Nat) : Int) s') = mS σ w s' a p u t n x f d k i := by
  funext c q; unfold setc; by_cases h : c = 255
  · subst h; show upr (oS (σ 255) w s a p u) ((2 : Nat) : Int) s' q = oS (σ 255) w s' a p u q
    unfold upr oS
    by_cases e : q = 2
    · subst e; rfl
    · rw [if_neg (by omega)]
      skip
      by_cases e0 : q = 0 <;> by_cases e2 : q = 2 <;> by_cases e7 : q = 7 <;> by_cases e10 : q = 10 <;> by_cases e11 : q = 11 <;> first | omega | simp [*]
  · unfold mS; simp [h]
theorem mS_f7 (σ : St) (w s a p u : Int) (t n x f d k i : Int → Int) (a' : Int) : setc (mS σ w s a p u t n x f d k i) 255 (upr (mS σ w s a p u t n x f d k i 255) ((7 : Nat) : Int) a') = mS σ w s a' p u t n x f d k i := by
  funext c q; unfold setc; by_cases h : c = 255
  · subst h; show upr (oS (σ 255) w s a p u) ((7 : Nat) : Int) a' q = oS (σ 255) w s a' p u q
    unfold upr oS
    by_cases e : q = 7
    · subst e; rfl
    · rw [if_neg (by omega)]
      skip
      by_cases e0 : q = 0 <;> by_cases e2 : q = 2 <;> by_cases e7 : q = 7 <;> by_cases e10 : q = 10 <;> by_cases e11 : q = 11 <;> first | omega | simp [*]
  · unfold mS; simp [h]
theorem mS_f10 (σ : St) (w s a p u : Int) (t n x f d k i : Int → Int) (p' : Int) : setc (mS σ w s a p u t n x f d k i) 255 (upr (mS σ w s a p u t n x f d k i 255) ((10 : Nat) : Int) p') = mS σ w s a p' u t n x f d k i := by
  funext c q; unfold setc; by_cases h : c = 255
  · subst h; show upr (oS (σ 255) w s a p u) ((10 : Nat) : Int) p' q = oS (σ 255) w s a p' u q
    unfold upr oS
    by_cases e : q = 10
    · subst e; rfl
    · rw [if_neg (by omega)]
      skip
      by_cases e0 : q = 0 <;> by_cases e2 : q = 2 <;> by_cases e7 : q = 7 <;> by_cases e10 : q = 10 <;> by_cases e11 : q = 11 <;> first | omega | simp [*]
  · unfold mS; simp [h]
theorem mS_f11 (σ : St) (w s a p u : Int) (t n x f d k i : Int → Int) (u' : Int) : setc (mS σ w s a p u t n x f d k i) 255 (upr (mS σ w s a p u t n x f d k i 255) ((11 : Nat) : Int) u') = mS σ w s a p u' t n x f d k i := by
  funext c q; unfold setc; by_cases h : c = 255
  · subst h; show upr (oS (σ 255) w s a p u) ((11 : Nat) : Int) u' q = oS (σ 255) w s a p u' q
    unfold upr oS
    by_cases e : q = 11
    · subst e; rfl
    · rw [if_neg (by omega)]
      skip
      by_cases e0 : q = 0 <;> by_cases e2 : q = 2 <;> by_cases e7 : q = 7 <;> by_cases e10 : q = 10 <;> by_cases e11 : q = 11 <;> first | omega | simp [*]
  · unfold mS; simp [h]
theorem mS_lo (σ : St) (w s a p u : Int) (t n x f d k i : Int → Int) {c : Nat} (h : c < 255) : mS σ w s a p u t n x f d k i c = σ c := by
  unfold mS
  rw [if_neg (by omega), if_neg (by omega), if_neg (by omega), if_neg (by omega), if_neg (by omega), if_neg (by omega), if_neg (by omega), if_neg (by omega)]
theorem mS_out (σ : St) (w s a p u : Int) (t n x f d k i : Int → Int) : mS σ w s a p u t n x f d k i 263 = σ 263 := rfl
theorem mS_eta (σ : St) : mS σ (σ 255 0) (σ 255 2) (σ 255 7) (σ 255 10) (σ 255 11) (σ 256) (σ 257) (σ 258) (σ 259) (σ 260) (σ 261) (σ 262) = σ := by
  funext c; unfold mS
  by_cases h : c = 255
  · subst h; rw [if_pos rfl]; funext q; unfold oS
    by_cases e0 : q = 0
    · subst e0; rfl
    by_cases e2 : q = 2
    · subst e2; rfl
    by_cases e7 : q = 7
    · subst e7; rfl
    by_cases e10 : q = 10
    · subst e10; rfl
    by_cases e11 : q = 11
    · subst e11; rfl
    simp [*]
  · rw [if_neg h]
    repeat' split
    all_goals (first | rfl | (rename_i e; rw [e]))
theorem mS_mT (σ : St) (w s a p u : Int) (t n x f d k i : Int → Int) (p' u' : Int) (x' f' : Int → Int) : mT (mS σ w s a p u t n x f d k i) p' u' x' f' = mS σ w s a p' u' t n x' f' d k i := by
  funext c; unfold mT; by_cases h : c = 255
  · subst h; funext q; show upr (upr (oS (σ 255) w s a p u) 10 p') 11 u' q = oS (σ 255) w s a p' u' q
    unfold upr oS
    by_cases e0 : q = 0 <;> by_cases e2 : q = 2 <;> by_cases e7 : q = 7 <;> by_cases e10 : q = 10 <;> by_cases e11 : q = 11 <;> first | omega | simp [*]
  · rw [if_neg h]; unfold mS
    by_cases h8 : c = 258
    · subst h8; rfl
    · rw [if_neg h8]
      by_cases h9 : c = 259
      · subst h9; rfl
      · rw [if_neg h9]; simp [h, h8, h9]
theorem mS_set (σ : St) (w s a p u : Int) (t n x f d k i : Int → Int) {c : Nat} (h : c < 255 ∨ 263 ≤ c) (y : Int → Int) : setc (mS σ w s a p u t n x f d k i) c y = mS (setc σ c y) w s a p u t n x f d k i := by
  have e5 : setc σ c y 255 = σ 255 := setc_ne σ y (by omega)
  funext q; unfold mS
  rw [e5]
  by_cases e : q = c
  · subst e
    rw [setc_at, setc_at, if_neg (by omega), if_neg (by omega), if_neg (by omega), if_neg (by omega), if_neg (by omega), if_neg (by omega), if_neg (by omega), if_neg (by omega)]
  · rw [setc_ne _ _ e, setc_ne _ _ e]
