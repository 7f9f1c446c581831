/-! the law's loop -/
def mR (τ : St) (w s a p u : Int) (t n x f d k i : Int → Int) : Prop := τ 255 = oS (τ 255) w s a p u ∧ τ 256 = t ∧ τ 257 = n ∧ τ 258 = x ∧ τ 259 = f ∧ τ 260 = d ∧ τ 261 = k ∧ τ 262 = i
theorem oS_2 (ρ : Int → Int) (w s a p u : Int) : oS (oS ρ w s a p u) w s a p u = oS ρ w s a p u := by
  funext q
  unfold oS
  repeat' split
  all_goals rfl
theorem mR_of (σ : St) (w s a p u : Int) (t n x f d k i : Int → Int) : mR (mS σ w s a p u t n x f d k i) w s a p u t n x f d k i := ⟨(oS_2 (σ 255) w s a p u).symm, rfl, rfl, rfl, rfl, rfl, rfl, rfl⟩
theorem mR.cong {σ σ1 : St} {w s a p u : Int} {t n x f d k i : Int → Int} (h : mR σ w s a p u t n x f d k i) (e : ∀ c, 255 ≤ c → c < 263 → σ1 c = σ c) : mR σ1 w s a p u t n x f d k i := by
  unfold mR
  rw [e 255 (by decide) (by decide), e 256 (by decide) (by decide), e 257 (by decide) (by decide), e 258 (by decide) (by decide), e 259 (by decide) (by decide), e 260 (by decide) (by decide), e 261 (by decide) (by decide), e 262 (by decide) (by decide)]
  exact h
theorem mR_eq {σ : St} {w s a p u : Int} {t n x f d k i : Int → Int} (h : mR σ w s a p u t n x f d k i) : σ = mS σ w s a p u t n x f d k i := by
  obtain ⟨h0, h1, h2, h3, h4, h5, h6, h7⟩ := h
  funext c
  unfold mS
  by_cases e0 : c = 255
  · rw [if_pos e0, e0]; exact h0
  rw [if_neg e0]
  by_cases e1 : c = 256
  · rw [if_pos e1, e1]; exact h1
  rw [if_neg e1]
  by_cases e2 : c = 257
  · rw [if_pos e2, e2]; exact h2
  rw [if_neg e2]
  by_cases e3 : c = 258
  · rw [if_pos e3, e3]; exact h3
  rw [if_neg e3]
  by_cases e4 : c = 259
  · rw [if_pos e4, e4]; exact h4
  rw [if_neg e4]
  by_cases e5 : c = 260
  · rw [if_pos e5, e5]; exact h5
  rw [if_neg e5]
  by_cases e6 : c = 261
  · rw [if_pos e6, e6]; exact h6
  rw [if_neg e6]
  by_cases e7 : c = 262
  · rw [if_pos e7, e7]; exact h7
  rw [if_neg e7]
def LI (τ : St) (w s a p u : Int) (t n x f d k i : Int → Int) : Prop := mR τ w s a p u t n x f d k i ∧ CRep τ s a t n d k i ∧ AOk s a t n d k i
theorem LI_next {σ1 : St} {o : Rs} {p u : Int} {x f : Int → Int} (hC : CRep σ1 o.2.2.1 o.2.2.2.1 o.2.2.2.2.1 o.2.2.2.2.2.1 o.2.2.2.2.2.2.1 o.2.2.2.2.2.2.2.1 o.2.2.2.2.2.2.2.2) (hO : AOkA o.2.2) : LI (mA σ1 o.1 p u x f o.2.2) o.1 o.2.2.1 o.2.2.2.1 p u o.2.2.2.2.1 o.2.2.2.2.2.1 x f o.2.2.2.2.2.2.1 o.2.2.2.2.2.2.2.1 o.2.2.2.2.2.2.2.2 :=
  ⟨mR_of _ _ _ _ _ _ _ _ _ _ _ _ _, hC.cong (congrFun (mS_lo _ _ _ _ _ _ _ _ _ _ _ _ _ (by omega)) 1) (fun c hc => mS_lo _ _ _ _ _ _ _ _ _ _ _ _ _ (by omega)), hO⟩
theorem mA_w (σ : St) (w p u : Int) (x f : Int → Int) (A : Abs) : mA σ w p u x f A 255 0 = w := rfl
theorem mA_out (σ : St) (w p u : Int) (x f : Int → Int) (A : Abs) : mA σ w p u x f A 263 = σ 263 := rfl
/-- the script, as the law reads it -/
def LE (γ : Gm) (φ : Fx) (b0 L : Nat) (xs : Nat → Int32) : Prop := va_X b0 L xs φ.2.2.2.1 φ.2.2.2.1.heap ∧ b0 < φ.2.2.2.1.heap.size ∧ ¬ Ar γ b0 ∧ L ≤ 3072
def XS (xs : Nat → Int32) (j : Int) : Int := (xs j.toNat).toInt
theorem XS_r (xs : Nat → Int32) (j : Int) : -2147483648 ≤ XS xs j ∧ XS xs j < 2147483648 := iI_rng _
section VLL
variable {γ : Gm} {φ : Fx} {own : String} {cc : ByteArray} {nL lev a b : Nat} {Q : State → Prop} {σ : St} {pc : Nat} {lv : List (Nat × Value)} {st : List Value}
theorem v_sld (C : Cx γ φ own cc nL lev) {b0 L : Nat} {xs : Nat → Int32} (E : LE γ φ b0 L xs) {j : Int} (hj : 0 ≤ j ∧ j < L) (d : decode cc pc = .ok (.iaload, 1)) (k : Vw γ φ nL a b Q σ (pc + 1) lv (.int (iI (XS xs j)) :: st)) : Vw γ φ nL a b Q σ pc lv (.int (iI j) :: .ref b0 :: st) := fun H locs ls hW hS hl => by
  have hL := E.2.2.2
  refine va_sld C.2.1 C.2.2.1 E.1 E.2.1 E.2.2.1 hS (iI_in hj (by omega)) d ?_
  rw [iI_cl (by omega)]
  have h := k H locs ls hW hS hl
  rw [show iI (XS xs j) = xs j.toNat from iI_asI _] at h
  exact h
theorem v_slen (C : Cx γ φ own cc nL lev) {b0 L : Nat} {xs : Nat → Int32} (E : LE γ φ b0 L xs) (d : decode cc pc = .ok (.arraylength, 1)) (k : Vw γ φ nL a b Q σ (pc + 1) lv (.int (iI (L : Int)) :: st)) : Vw γ φ nL a b Q σ pc lv (.ref b0 :: st) := fun H locs ls hW hS hl => by
  refine va_slen C.2.1 C.2.2.1 E.1 E.2.1 E.2.2.1 hS d ?_
  have h := k H locs ls hW hS hl
  rw [show iI (L : Int) = Int32.ofNat L from Int32.ofInt_eq_ofNat] at h
  exact h
theorem v_icmp_eqT (C : Cx γ φ own cc nL lev) {x y : Int} {off : Int} (tgt : Nat) (d : decode cc pc = .ok (.if_icmp .eq off, 3)) (ht : (pc : Int) + off = (tgt : Int)) (e : x = y) (k : Vw γ φ nL a b Q σ tgt lv st) : Vw γ φ nL a b Q σ pc lv (.int (iI y) :: .int (iI x) :: st) := fun H locs ls hW hS hl => lv_icmp_eq C.2.1 C.2.2.1 d ht (fun _ => k H locs ls hW hS hl) (fun h => absurd (by rw [e]) h)
end VLL

theorem cd_append (s a : Int) (t n d k i : Int → Int) (c : Int) : 0 ≤ (op_append s a t n d k i c).1 ∧ (op_append s a t n d k i c).1 ≤ 3 := by
  unfold op_append
  repeat' split
  all_goals (dsimp only; decide)

theorem cd_clearText (s a : Int) (t n d k i : Int → Int) : 0 ≤ (op_clearText s a t n d k i).1 ∧ (op_clearText s a t n d k i).1 ≤ 3 := by
  unfold op_clearText
  dsimp only; decide

theorem cd_errorPosition (s a : Int) (t n d k i : Int → Int) : 0 ≤ (op_errorPosition s a t n d k i).1 ∧ (op_errorPosition s a t n d k i).1 ≤ 3 := by
  unfold op_errorPosition
  dsimp only; decide

theorem cd_load (s a : Int) (t n d k i : Int → Int) : 0 ≤ (op_load s a t n d k i).1 ∧ (op_load s a t n d k i).1 ≤ 3 := by
  unfold op_load
  repeat' split
  all_goals (dsimp only; decide)

theorem cd_about (s a : Int) (t n d k i : Int → Int) (w : Int) : 0 ≤ (op_about s a t n d k i w).1 ∧ (op_about s a t n d k i w).1 ≤ 3 := by
  unfold op_about
  repeat' split
  all_goals (dsimp only; decide)

theorem cd_valveOf (s a : Int) (t n d k i : Int → Int) (v w : Int) : 0 ≤ (op_valveOf s a t n d k i v w).1 ∧ (op_valveOf s a t n d k i v w).1 ≤ 3 := by
  unfold op_valveOf
  repeat' split
  all_goals (dsimp only; decide)

theorem cd_leg (s a : Int) (t n d k i : Int → Int) (v g : Int) : 0 ≤ (op_leg s a t n d k i v g).1 ∧ (op_leg s a t n d k i v g).1 ≤ 3 := by
  unfold op_leg
  repeat' split
  all_goals (dsimp only; decide)

theorem cd_push (s a : Int) (t n d k i : Int → Int) (v g w : Int) : 0 ≤ (op_push s a t n d k i v g w).1 ∧ (op_push s a t n d k i v g w).1 ≤ 3 := by
  unfold op_push
  repeat' split
  all_goals (dsimp only; decide)

theorem cd_ductOf (s a : Int) (t n d k i : Int → Int) (e w : Int) : 0 ≤ (op_ductOf s a t n d k i e w).1 ∧ (op_ductOf s a t n d k i e w).1 ≤ 3 := by
  unfold op_ductOf
  repeat' split
  all_goals (dsimp only; decide)

theorem cd_setting (s a : Int) (t n d k i : Int → Int) (w : Int) : 0 ≤ (op_setting s a t n d k i w).1 ∧ (op_setting s a t n d k i w).1 ≤ 3 := by
  unfold op_setting
  repeat' split
  all_goals (dsimp only; decide)

theorem cd_valve (s a : Int) (t n d k i : Int → Int) (c v : Int) : 0 ≤ (op_valve s a t n d k i c v).1 ∧ (op_valve s a t n d k i c v).1 ≤ 3 := by
  unfold op_valve
  repeat' split
  all_goals (dsimp only; decide)

theorem cd_duct (s a : Int) (t n d k i : Int → Int) (c g y q m : Int) : 0 ≤ (op_duct s a t n d k i c g y q m).1 ∧ (op_duct s a t n d k i c g y q m).1 ≤ 3 := by
  unfold op_duct
  repeat' split
  all_goals (dsimp only; decide)

theorem cd_remove (s a : Int) (t n d k i : Int → Int) (e : Int) : 0 ≤ (op_remove s a t n d k i e).1 ∧ (op_remove s a t n d k i e).1 ≤ 3 := by
  unfold op_remove
  repeat' split
  all_goals (dsimp only; decide)

theorem cd_press (s a : Int) (t n d k i : Int → Int) (v b : Int) : 0 ≤ (op_press s a t n d k i v b).1 ∧ (op_press s a t n d k i v b).1 ≤ 3 := by
  unfold op_press
  repeat' split
  all_goals (dsimp only; decide)

theorem cd_leak (s a : Int) (t n d k i : Int → Int) (e l : Int) : 0 ≤ (op_leak s a t n d k i e l).1 ∧ (op_leak s a t n d k i e l).1 ≤ 3 := by
  unfold op_leak
  repeat' split
  all_goals (dsimp only; decide)

theorem cd_feed (s a : Int) (t n d k i : Int → Int) (v m : Int) : 0 ≤ (op_feed s a t n d k i v m).1 ∧ (op_feed s a t n d k i v m).1 ≤ 3 := by
  unfold op_feed
  repeat' split
  all_goals (dsimp only; decide)

theorem cd_set (s a : Int) (t n d k i : Int → Int) (w v : Int) : 0 ≤ (op_set s a t n d k i w v).1 ∧ (op_set s a t n d k i w v).1 ≤ 3 := by
  unfold op_set
  repeat' split
  all_goals (dsimp only; decide)

theorem cd_ticks (s a : Int) (t n d k i : Int → Int) (m : Int) : 0 ≤ (op_ticks s a t n d k i m).1 ∧ (op_ticks s a t n d k i m).1 ≤ 3 := by
  unfold op_ticks
  repeat' split
  all_goals (dsimp only; decide)

theorem cd_undo (s a : Int) (t n d k i : Int → Int) : 0 ≤ (op_undo s a t n d k i).1 ∧ (op_undo s a t n d k i).1 ≤ 3 := by
  unfold op_undo
  repeat' split
  all_goals (dsimp only; decide)

theorem cd_restIn (s a : Int) (t n d k i : Int → Int) : 0 ≤ (op_restIn s a t n d k i).1 ∧ (op_restIn s a t n d k i).1 ≤ 3 := by
  unfold op_restIn
  dsimp only; decide

theorem cd_beat (s a : Int) (t n d k i : Int → Int) (v : Int) : 0 ≤ (op_beat s a t n d k i v).1 ∧ (op_beat s a t n d k i v).1 ≤ 3 := by
  unfold op_beat
  repeat' split
  all_goals (dsimp only; decide)

theorem cd_rule (s a : Int) (t n d k i : Int → Int) (c y v : Int) : 0 ≤ (op_rule s a t n d k i c y v).1 ∧ (op_rule s a t n d k i c y v).1 ≤ 3 := by
  unfold op_rule
  repeat' split
  all_goals (dsimp only; decide)

theorem cd_ifLeak (s a : Int) (t n d k i : Int → Int) (e l v : Int) : 0 ≤ (op_ifLeak s a t n d k i e l v).1 ∧ (op_ifLeak s a t n d k i e l v).1 ≤ 3 := by
  unfold op_ifLeak
  repeat' split
  all_goals (dsimp only; decide)

theorem cd_suspect (s a : Int) (t n d k i : Int → Int) (v b : Int) : 0 ≤ (op_suspect s a t n d k i v b).1 ∧ (op_suspect s a t n d k i v b).1 ≤ 3 := by
  unfold op_suspect
  repeat' split
  all_goals (dsimp only; decide)

theorem cd_tightest (s a : Int) (t n d k i : Int → Int) : 0 ≤ (op_tightest s a t n d k i).1 ∧ (op_tightest s a t n d k i).1 ≤ 3 := by
  unfold op_tightest
  dsimp only; decide

theorem cd_runScript (s a : Int) (t n d k i : Int → Int) (m b : Int) : 0 ≤ (op_runScript s a t n d k i m b).1 ∧ (op_runScript s a t n d k i m b).1 ≤ 3 := by
  unfold op_runScript
  repeat' split
  all_goals (dsimp only; decide)

theorem cd_simulate (s a : Int) (t n d k i : Int → Int) (b m : Int) : 0 ≤ (op_simulate s a t n d k i b m).1 ∧ (op_simulate s a t n d k i b m).1 ≤ 3 := by
  unfold op_simulate
  repeat' split
  all_goals (dsimp only; decide)

theorem cd_save (s a : Int) (t n d k i : Int → Int) (q : Int) : 0 ≤ (op_save s a t n d k i q).1 ∧ (op_save s a t n d k i q).1 ≤ 3 := by
  unfold op_save
  repeat' split
  all_goals (dsimp only; decide)

theorem cd_restore (s a : Int) (t n d k i : Int → Int) (q : Int) : 0 ≤ (op_restore s a t n d k i q).1 ∧ (op_restore s a t n d k i q).1 ≤ 3 := by
  unfold op_restore
  repeat' split
  all_goals (dsimp only; decide)
