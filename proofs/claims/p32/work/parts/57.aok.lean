/-! what the model's rows are stays so, whatever the call was -/
def AOkA (A : Abs) : Prop := AOk A.1 A.2.1 A.2.2.1 A.2.2.2.1 A.2.2.2.2.1 A.2.2.2.2.2.1 A.2.2.2.2.2.2
theorem blk_hit (n d : Int → Int) {p q : Int} (h : p = q) : blk (cpyr n d 0 p 268) q = blk n 0 := by
  funext i
  by_cases hi : 0 ≤ i ∧ i < 268
  · rw [cpy_hit n d i h hi, blk_in _ _ hi, Int.zero_add]
  · unfold blk
    rw [if_neg hi, if_neg hi]
theorem AOk.chg {s a : Int} {t n n' d k i : Int → Int} (h : AOk s a t n d k i) (hn : Wf n') : AOk s (remA a) t n' (remD a n d) k i := by
  obtain ⟨h1, h2, h3, h4, h5, h6⟩ := h
  refine ⟨h1, by unfold remA; split <;> omega, h3, hn, fun j j0 j1 => ?_, h6⟩
  unfold remA at j1
  unfold remD
  by_cases e : a = 14
  · rw [if_pos e] at j1 ⊢
    by_cases ej : j = 13
    · subst ej
      rw [blk_hit _ _ (by decide)]
      exact Wf_blk h4
    · rw [cpy_miss _ _ (by omega), shl_blk _ (by omega)]
      exact h5 (j + 1) (by omega) (by omega)
  · rw [if_neg e] at j1 ⊢
    by_cases ej : j = a
    · subst ej
      rw [blk_hit _ _ rfl]
      exact Wf_blk h4
    · rw [cpy_miss _ _ (by omega)]
      exact h5 j j0 (by omega)
theorem runT_Wf (t : Int → Int) (n : Int) : ∀ (f : Nat) (p : Int) (r : Int → Int) (u : Int), Wf r → Wf (runT t n f p r u).2.1
  | 0, _, _, _, h => h
  | f + 1, p, r, u, h => by
    unfold runT
    split
    · by_cases c : cmdOk t n p
      · rw [if_pos c]
        exact runT_Wf t n f _ _ _ (Wf_cmdDo h c)
      · rw [if_neg c]
        exact h
    · exact h
theorem readT_Wf (t : Int → Int) (n : Int) : Wf (readT t n).2.1 := by
  unfold readT
  split
  · exact Wf_newR
  · exact runT_Wf t n 120 1 newR 0 Wf_newR

theorem ok_errorPosition {s a : Int} {t n d k i : Int → Int} (hO : AOk s a t n d k i) : AOkA (op_errorPosition s a t n d k i).2.2 := by
  unfold op_errorPosition
  repeat' split
  all_goals exact hO

theorem ok_about {s a : Int} {t n d k i : Int → Int} (hO : AOk s a t n d k i) (w : Int) : AOkA (op_about s a t n d k i w).2.2 := by
  unfold op_about
  repeat' split
  all_goals exact hO

theorem ok_valveOf {s a : Int} {t n d k i : Int → Int} (hO : AOk s a t n d k i) (v w : Int) : AOkA (op_valveOf s a t n d k i v w).2.2 := by
  unfold op_valveOf
  repeat' split
  all_goals exact hO

theorem ok_leg {s a : Int} {t n d k i : Int → Int} (hO : AOk s a t n d k i) (v g : Int) : AOkA (op_leg s a t n d k i v g).2.2 := by
  unfold op_leg
  repeat' split
  all_goals exact hO

theorem ok_push {s a : Int} {t n d k i : Int → Int} (hO : AOk s a t n d k i) (v g w : Int) : AOkA (op_push s a t n d k i v g w).2.2 := by
  unfold op_push
  repeat' split
  all_goals exact hO

theorem ok_ductOf {s a : Int} {t n d k i : Int → Int} (hO : AOk s a t n d k i) (e w : Int) : AOkA (op_ductOf s a t n d k i e w).2.2 := by
  unfold op_ductOf
  repeat' split
  all_goals exact hO

theorem ok_setting {s a : Int} {t n d k i : Int → Int} (hO : AOk s a t n d k i) (w : Int) : AOkA (op_setting s a t n d k i w).2.2 := by
  unfold op_setting
  repeat' split
  all_goals exact hO

theorem ok_restIn {s a : Int} {t n d k i : Int → Int} (hO : AOk s a t n d k i) : AOkA (op_restIn s a t n d k i).2.2 := by
  unfold op_restIn
  repeat' split
  all_goals exact hO

theorem ok_beat {s a : Int} {t n d k i : Int → Int} (hO : AOk s a t n d k i) (v : Int) : AOkA (op_beat s a t n d k i v).2.2 := by
  unfold op_beat
  repeat' split
  all_goals exact hO

theorem ok_rule {s a : Int} {t n d k i : Int → Int} (hO : AOk s a t n d k i) (c y v : Int) : AOkA (op_rule s a t n d k i c y v).2.2 := by
  unfold op_rule
  repeat' split
  all_goals exact hO

theorem ok_ifLeak {s a : Int} {t n d k i : Int → Int} (hO : AOk s a t n d k i) (e l v : Int) : AOkA (op_ifLeak s a t n d k i e l v).2.2 := by
  unfold op_ifLeak
  repeat' split
  all_goals exact hO

theorem ok_suspect {s a : Int} {t n d k i : Int → Int} (hO : AOk s a t n d k i) (v b : Int) : AOkA (op_suspect s a t n d k i v b).2.2 := by
  unfold op_suspect
  repeat' split
  all_goals exact hO

theorem ok_tightest {s a : Int} {t n d k i : Int → Int} (hO : AOk s a t n d k i) : AOkA (op_tightest s a t n d k i).2.2 := by
  unfold op_tightest
  repeat' split
  all_goals exact hO

theorem ok_runScript {s a : Int} {t n d k i : Int → Int} (hO : AOk s a t n d k i) (m b : Int) : AOkA (op_runScript s a t n d k i m b).2.2 := by
  unfold op_runScript
  repeat' split
  all_goals exact hO

theorem ok_simulate {s a : Int} {t n d k i : Int → Int} (hO : AOk s a t n d k i) (b m : Int) : AOkA (op_simulate s a t n d k i b m).2.2 := by
  unfold op_simulate
  repeat' split
  all_goals exact hO

theorem ok_append {s a : Int} {t n d k i : Int → Int} (hO : AOk s a t n d k i) (c : Int) : AOkA (op_append s a t n d k i c).2.2 := by
  unfold op_append
  by_cases c0 : ¬ (0 ≤ c ∧ c ≤ 255)
  · rw [if_pos c0]; exact hO
  rw [if_neg c0]
  by_cases c1 : s = 120
  · rw [if_pos c1]; exact hO
  rw [if_neg c1]
  obtain ⟨h1, h2, h3, h4, h5, h6⟩ := hO
  refine ⟨by show 0 ≤ s + 1 ∧ s + 1 ≤ 120; omega, h2, fun j j0 j1 => ?_, h4, h5, h6⟩
  have j1 : j < s + 1 := j1
  show 0 ≤ upr t s c j ∧ upr t s c j ≤ 255
  rw [upr_if]
  split
  · omega
  · exact h3 j j0 (by omega)

theorem ok_clearText {s a : Int} {t n d k i : Int → Int} (hO : AOk s a t n d k i) : AOkA (op_clearText s a t n d k i).2.2 := by
  unfold op_clearText
  obtain ⟨h1, h2, h3, h4, h5, h6⟩ := hO
  exact ⟨by show (0 : Int) ≤ 0 ∧ (0 : Int) ≤ 120; omega, h2, fun j j0 j1 => by have j1 : j < 0 := j1; omega, h4, h5, h6⟩

theorem ok_load {s a : Int} {t n d k i : Int → Int} (hO : AOk s a t n d k i) : AOkA (op_load s a t n d k i).2.2 := by
  unfold op_load
  by_cases c0 : ¬ errR t s = -1
  · rw [if_pos c0]; exact hO
  rw [if_neg c0]
  obtain ⟨h1, h2, h3, h4, h5, h6⟩ := hO
  refine ⟨h1, by show (0 : Int) ≤ 0 ∧ (0 : Int) ≤ 14; omega, h3, readT_Wf t s, fun j j0 j1 => by have j1 : j < 0 := j1; omega, fun j hj => ?_⟩
  have e : upr (upr i 0 0) 1 0 j = 0 := by
    rw [upr_if, upr_if]
    rcases hj with rfl | rfl
    · rfl
    · rfl
  refine ⟨Or.inl e, fun x => ?_⟩
  have x : upr (upr i 0 0) 1 0 j = 1 := x
  omega

theorem ok_valve {s a : Int} {t n d k i : Int → Int} (hO : AOk s a t n d k i) (c v : Int) : AOkA (op_valve s a t n d k i c v).2.2 := by
  unfold op_valve
  by_cases c0 : ¬ ((0 ≤ c ∧ c ≤ 4) ∧ (10 ≤ v ∧ v ≤ 99))
  · rw [if_pos c0]; exact hO
  rw [if_neg c0]
  by_cases c1 : ¬ n 0 < 10
  · rw [if_pos c1]; exact hO
  rw [if_neg c1]
  exact AOk.chg hO (Wf_valveR hO.2.2.2.1 (by omega) (by omega) (by omega))

theorem ok_duct {s a : Int} {t n d k i : Int → Int} (hO : AOk s a t n d k i) (c g y q m : Int) : AOkA (op_duct s a t n d k i c g y q m).2.2 := by
  unfold op_duct
  by_cases c0 : ¬ (((0 ≤ c ∧ c < n 0) ∧ (0 ≤ g ∧ g ≤ 1)) ∧ ((0 ≤ y ∧ y < n 0) ∧ (0 ≤ q ∧ q ≤ 1)))
  · rw [if_pos c0]; exact hO
  rw [if_neg c0]
  by_cases c1 : ¬ (1 ≤ m ∧ m ≤ 6)
  · rw [if_pos c1]; exact hO
  rw [if_neg c1]
  by_cases c2 : ¬ n 1 < 16
  · rw [if_pos c2]; exact hO
  rw [if_neg c2]
  exact AOk.chg hO (Wf_ductR hO.2.2.2.1 (by omega) (by omega) (by omega) (by omega) (by omega) (by omega))

theorem ok_remove {s a : Int} {t n d k i : Int → Int} (hO : AOk s a t n d k i) (e : Int) : AOkA (op_remove s a t n d k i e).2.2 := by
  unfold op_remove
  by_cases c0 : ¬ (0 ≤ e ∧ e < n 1)
  · rw [if_pos c0]; exact hO
  rw [if_neg c0]
  exact AOk.chg hO (Wf_removeR hO.2.2.2.1 (by omega))

theorem ok_press {s a : Int} {t n d k i : Int → Int} (hO : AOk s a t n d k i) (v b : Int) (hb01 : b = 0 ∨ b = 1) : AOkA (op_press s a t n d k i v b).2.2 := by
  unfold op_press
  by_cases c0 : ¬ (0 ≤ v ∧ v < n 0)
  · rw [if_pos c0]; exact hO
  rw [if_neg c0]
  by_cases c1 : ¬ n (6 + 7 * v + 0) = 0
  · rw [if_pos c1]; exact hO
  rw [if_neg c1]
  exact AOk.chg hO (Wf_press hO.2.2.2.1 (by omega) (by omega) (by omega))

theorem ok_leak {s a : Int} {t n d k i : Int → Int} (hO : AOk s a t n d k i) (e l : Int) : AOkA (op_leak s a t n d k i e l).2.2 := by
  unfold op_leak
  by_cases c0 : ¬ (0 ≤ e ∧ e < n 1)
  · rw [if_pos c0]; exact hO
  rw [if_neg c0]
  by_cases c1 : ¬ (0 ≤ l ∧ l ≤ 30)
  · rw [if_pos c1]; exact hO
  rw [if_neg c1]
  exact AOk.chg hO (Wf_leak hO.2.2.2.1 (by omega) (by omega))

theorem ok_feed {s a : Int} {t n d k i : Int → Int} (hO : AOk s a t n d k i) (v m : Int) : AOkA (op_feed s a t n d k i v m).2.2 := by
  unfold op_feed
  by_cases c0 : ¬ (0 ≤ v ∧ v < n 0)
  · rw [if_pos c0]; exact hO
  rw [if_neg c0]
  by_cases c1 : ¬ (10 ≤ m ∧ m ≤ 99)
  · rw [if_pos c1]; exact hO
  rw [if_neg c1]
  exact AOk.chg hO (Wf_supply hO.2.2.2.1 (by omega) (by omega))

theorem ok_set {s a : Int} {t n d k i : Int → Int} (hO : AOk s a t n d k i) (w v : Int) : AOkA (op_set s a t n d k i w v).2.2 := by
  unfold op_set
  by_cases c0 : ¬ (w = 0 ∧ (0 ≤ v ∧ v ≤ 9) ∨ w = 1 ∧ (5 ≤ v ∧ v ≤ 90))
  · rw [if_pos c0]; exact hO
  rw [if_neg c0]
  exact AOk.chg hO (Wf_set hO.2.2.2.1 (by omega))

theorem ok_ticks {s a : Int} {t n d k i : Int → Int} (hO : AOk s a t n d k i) (m : Int) : AOkA (op_ticks s a t n d k i m).2.2 := by
  unfold op_ticks
  by_cases c0 : ¬ (1 ≤ m ∧ m ≤ 99)
  · rw [if_pos c0]; exact hO
  rw [if_neg c0]
  exact AOk.chg hO ((runR_Wf hO.2.2.2.1 _).1)

theorem ok_undo {s a : Int} {t n d k i : Int → Int} (hO : AOk s a t n d k i) : AOkA (op_undo s a t n d k i).2.2 := by
  unfold op_undo
  by_cases c0 : a = 0
  · rw [if_pos c0]; exact hO
  rw [if_neg c0]
  obtain ⟨h1, h2, h3, h4, h5, h6⟩ := hO
  exact ⟨h1, by show 0 ≤ a - 1 ∧ a - 1 ≤ 14; omega, h3, h5 _ (by omega) (by omega), fun j j0 j1 => h5 j j0 (by have j1 : j < a - 1 := j1; omega), h6⟩

theorem ok_save {s a : Int} {t n d k i : Int → Int} (hO : AOk s a t n d k i) (q : Int) : AOkA (op_save s a t n d k i q).2.2 := by
  unfold op_save
  by_cases c0 : ¬ (0 ≤ q ∧ q ≤ 1)
  · rw [if_pos c0]; exact hO
  rw [if_neg c0]
  obtain ⟨h1, h2, h3, h4, h5, h6⟩ := hO
  refine ⟨h1, h2, h3, h4, h5, fun j hj => ?_⟩
  show (upr i q 1 j = 0 ∨ upr i q 1 j = 1) ∧ (upr i q 1 j = 1 → Wf (blk (cpyr n k 0 (268 * q) 268) (268 * j)))
  rw [upr_if]
  by_cases e : j = q
  · subst e
    rw [if_pos rfl, blk_hit _ _ rfl]
    exact ⟨Or.inr rfl, fun _ => Wf_blk h4⟩
  · rw [if_neg e]
    have hb : blk (cpyr n k 0 (268 * q) 268) (268 * j) = blk k (268 * j) := by
      rcases (show j < q ∨ q < j by omega) with g | g
      · exact cpy_miss _ _ (by omega)
      · exact cpy_miss2 _ _ (by omega)
    rw [hb]
    exact h6 j hj

theorem ok_restore {s a : Int} {t n d k i : Int → Int} (hO : AOk s a t n d k i) (q : Int) : AOkA (op_restore s a t n d k i q).2.2 := by
  unfold op_restore
  by_cases c0 : ¬ (0 ≤ q ∧ q ≤ 1)
  · rw [if_pos c0]; exact hO
  rw [if_neg c0]
  by_cases c1 : i q = 0
  · rw [if_pos c1]; exact hO
  rw [if_neg c1]
  obtain ⟨h1, h2, h3, h4, h5, h6⟩ := hO
  have hq := h6 q (by omega)
  exact ⟨h1, by show (0 : Int) ≤ 0 ∧ (0 : Int) ≤ 14; omega, h3, hq.2 (by omega), fun j j0 j1 => by have j1 : j < 0 := j1; omega, h6⟩
