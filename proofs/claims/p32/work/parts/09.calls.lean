/-! calls over Vw -/
section VCL
variable {γ : Gm} {φ : Fx} {own : String} {cc : ByteArray} {nL lev a b : Nat} {Q : State → Prop} {σ σc : St} {pc : Nat} {lv lv2 : List (Nat × Value)} {st st0 : List Value}
theorem v_go (arr : Array Value) {post : Option Value → St → Prop}
    (run : ∀ H locs ls, Wd γ σ H → va_S (Ar γ) φ.2.2.2.1.heap H locs → lv_has ls nL lv → va_Run φ.1 γ.1 φ.2.1 φ.2.2.1 φ.2.2.2.1 φ.2.2.2.2.1 φ.2.2.2.2.2.1 φ.2.2.2.2.2.2.1 φ.2.2.2.2.2.2.2.1 φ.2.2.2.2.2.2.2.2 H locs a b 0 0 (F0 φ.2.2.2.2.1 pc ls st0) st (Qcc γ post arr) (Ar γ))
    (k : ∀ v σ', post v σ' → Vw γ φ nL a b Q σ' (pc + 3) lv (v.toList ++ st)) : Vw γ φ nL a b Q σ pc lv st0 := by
  intro H locs ls hW hS hl T hT X
  obtain ⟨v, st₀, t, T', L, h0, X', hL, e1, e2, ⟨v', σ', hv, hp, hWd, hF⟩, go⟩ := run H locs ls hW hS hl T hT X
  cases hv
  obtain ⟨k1, k2, k3⟩ := vx_keep h0 e1 hS (fun _ _ h => h) (fun _ h => h) hL hF
  obtain ⟨t2, s2, q2⟩ := k v σ' hp T'.heap (locs ++ L) ls (by rw [e1]; exact hWd) k3 hl T' rfl X'
  exact ⟨t2, go _ s2, q2⟩
variable {y : MethodName} {bytes : ByteArray} {maxL lev2 n ix : Nat} {rt : Option FieldType} {as : List Value} {post : Option Value → St → Prop}
theorem cb_of (C : Cx γ φ own cc nL lev) (hy : Cy γ y bytes maxL rt n) (hl : lev2 + 1 ≤ lev) (hm : maxL ≤ 40) :
    ((rmL lev2 0 0).cells = 0 ∧ (rmL lev2 0 0).slots = 0 ∧ (rmL lev2 0 0).frames + 1 ≤ φ.2.2.1.frames ∧ 8 + (maxL + 11) + (rmL lev2 0 0).locals ≤ φ.2.2.1.locals ∧ (∀ w ∈ ([.code y bytes maxL rt] : List Cond), ∀ (a' : Array Value) (U : State), φ.2.2.2.1.WarmedH U.vm → w.before a' U = true) ∧ Cond.code y bytes maxL rt ∈ ([.code y bytes maxL rt] : List Cond)) := by
  obtain ⟨-, -, -, -, -, hG, -, hf, hlo⟩ := C
  refine ⟨rfl, rfl, ?_, ?_, fun w hw a' U hW => ?_, List.mem_cons_self⟩
  · show 10 + lev2 + 1 ≤ _
    omega
  · show 8 + (maxL + 11) + (400 + 60 * lev2) ≤ _
    omega
  · rw [List.mem_singleton] at hw
    subst hw
    exact hy.2.2.1 _ _ (State.WarmedH.trans hG.1 hW)
theorem v_cs (C : Cx γ φ own cc nL lev) (hy : CyS γ y bytes maxL rt n) (hlink : Wrd γ (.methodLink own ix y)) (hM : Ct γ y bytes maxL rt lev2 as σ post) (d : decode cc pc = .ok (.invokestatic ix, 3)) (hn : as.length = n) (hst : st0 = as.reverse ++ st) (hl : lev2 + 1 ≤ lev) (hm : maxL ≤ 40) (hw : (st.map fun v => v.category).sum ≤ 8) (ha : a + 0 ≤ φ.2.2.1.cells ∧ b + 0 ≤ φ.2.2.1.slots)
    (k : ∀ v σ', post v σ' → Vw γ φ nL a b Q σ' (pc + 3) lv (v.toList ++ st)) : Vw γ φ nL a b Q σ pc lv st0 := by
  refine v_go as.toArray (fun H locs ls hW hS hl9 => ?_) k
  obtain ⟨⟨h1, h2, h3, h4⟩, h5⟩ := hy
  obtain ⟨q1, q2, q3, q4, q5, q6⟩ := cb_of C ⟨h1, h2, h3, h4⟩ hl hm
  have W0 := C.2.2.2.2.2.1.1
  exact va_runS (Ts := []) ⟨C.2.1, C.2.2.1, C.2.2.2.1, C.2.2.2.2.1, fun w h => nomatch h⟩ hM ⟨⟨q1, q2, q3, q4, q5, q6, h3 _ _ W0, h4 _ _ W0, h1, h2, hlink _ _ W0⟩, h5 _ _ W0⟩ ⟨Pcc.blind _ _ _, fun U hU hWU => ⟨rfl, C.2.2.2.2.2.1.next hS hU hWU, by rw [hU]; exact hW⟩⟩ rfl hn hl9.1 hst (lv_room hw) d ha
theorem v_csN {host : String} (C : Cx γ φ own cc nL lev) (hy : CyS γ y bytes maxL rt n) (hlink : WrdN γ (.methodLinkNest own ix y host)) (hM : Ct γ y bytes maxL rt lev2 as σ post) (d : decode cc pc = .ok (.invokestatic ix, 3)) (hn : as.length = n) (hst : st0 = as.reverse ++ st) (hl : lev2 + 1 ≤ lev) (hm : maxL ≤ 40) (hw : (st.map fun v => v.category).sum ≤ 8) (ha : a + 0 ≤ φ.2.2.1.cells ∧ b + 0 ≤ φ.2.2.1.slots)
    (k : ∀ v σ', post v σ' → Vw γ φ nL a b Q σ' (pc + 3) lv (v.toList ++ st)) : Vw γ φ nL a b Q σ pc lv st0 := by
  refine v_go as.toArray (fun H locs ls hW hS hl9 => ?_) k
  obtain ⟨⟨h1, h2, h3, h4⟩, h5⟩ := hy
  obtain ⟨q1, q2, q3, q4, q5, q6⟩ := cb_of C ⟨h1, h2, h3, h4⟩ hl hm
  have W0 := C.2.2.2.2.2.1.1
  exact va_runSN (Ts := []) ⟨C.2.1, C.2.2.1, C.2.2.2.1, C.2.2.2.2.1, fun w h => nomatch h⟩ hM ⟨⟨⟨q1, q2, q3, q4, q5, q6⟩, h3 _ _ W0, h4 _ _ W0, h1, h2, va_Nw.use rfl (hlink _ W0)⟩, h5 _ _ W0, trivial⟩ ⟨Pcc.blind _ _ _, fun U hU hWU => ⟨rfl, C.2.2.2.2.2.1.next hS hU hWU, by rw [hU]; exact hW⟩⟩ rfl hn hl9.1 hst (lv_room hw) d ha
theorem v_cv {c0 ci : Nat} {q : vw_C} (C : Cx γ φ own cc nL lev) (hy : CyV γ y bytes maxL rt n) (hlink : Wrd γ (.methodLink own ix y)) (hs : sh c0 = (5, ci)) (hcl : classes[ci]? = some q) (hq : q.1 = y.cls) (hM : Ct γ y bytes maxL rt lev2 (.ref (bs γ + c0) :: as) σ post) (d : decode cc pc = .ok (.invokevirtual ix, 3)) (hn : as.length = n) (hst : st0 = as.reverse ++ .ref (bs γ + c0) :: st) (hl : lev2 + 1 ≤ lev) (hm : maxL ≤ 40) (hw : (st.map fun v => v.category).sum ≤ 8) (ha : a + 0 ≤ φ.2.2.1.cells ∧ b + 0 ≤ φ.2.2.1.slots)
    (k : ∀ v σ', post v σ' → Vw γ φ nL a b Q σ' (pc + 3) lv (v.toList ++ st)) : Vw γ φ nL a b Q σ pc lv st0 := by
  refine v_go (Value.ref (bs γ + c0) :: as).toArray (fun H locs ls hW hS hl9 => ?_) k
  obtain ⟨⟨h1, h2, h3, h4⟩, h5, h6⟩ := hy
  obtain ⟨q1, q2, q3, q4, q5, q6⟩ := cb_of C ⟨h1, h2, h3, h4⟩ hl hm
  have W0 := C.2.2.2.2.2.1.1
  have he := wl_get γ σ (sh_lt (c := c0) (by rw [hs]; simp))
  rw [hs] at he
  have hrec := va_recv C.K hW.1 hcl he
  rw [hq] at hrec
  exact va_runV (Ts := []) ⟨C.2.1, C.2.2.1, C.2.2.2.1, C.2.2.2.2.1, fun w h => nomatch h⟩ hM ⟨⟨q1, q2, q3, q4, q5, q6, h3 _ _ W0, h4 _ _ W0, h1, h2, hlink _ _ W0⟩, h5 _ _ W0, h6 _ _ W0⟩ ⟨Pcc.blind _ _ _, hrec, fun U hU hWU => ⟨rfl, C.2.2.2.2.2.1.next hS hU hWU, by rw [hU]; exact hW⟩⟩ rfl hn hl9.1 hst (lv_room hw) d ha
/-- what the world says of its numbers -/
theorem v_ok (k : Ok σ → Vw γ φ nL a b Q σ pc lv st) : Vw γ φ nL a b Q σ pc lv st := fun H locs ls hW hS hl => k hW.2 H locs ls hW hS hl
-- what the answer is, named
theorem k_I {post : Int → St → Prop} (k : ∀ z σ', post z σ' → Vw γ φ nL a b Q σ' pc lv (.int (iI z) :: st)) : ∀ v σ', pI post v σ' → Vw γ φ nL a b Q σ' pc lv (v.toList ++ st) := by
  rintro v σ' ⟨z, rfl, h⟩
  exact k z σ' h
theorem k_L {post : Int → St → Prop} (k : ∀ z σ', post z σ' → Vw γ φ nL a b Q σ' pc lv (.long (lI z) :: st)) : ∀ v σ', pL post v σ' → Vw γ φ nL a b Q σ' pc lv (v.toList ++ st) := by
  rintro v σ' ⟨z, rfl, h⟩
  exact k z σ' h
theorem k_R {post : Nat → St → Prop} (k : ∀ z σ', post z σ' → Vw γ φ nL a b Q σ' pc lv (.ref z :: st)) : ∀ v σ', pR post v σ' → Vw γ φ nL a b Q σ' pc lv (v.toList ++ st) := by
  rintro v σ' ⟨z, rfl, h⟩
  exact k z σ' h
theorem k_V {post : St → Prop} (k : ∀ σ', post σ' → Vw γ φ nL a b Q σ' pc lv st) : ∀ v σ', pV post v σ' → Vw γ φ nL a b Q σ' pc lv (v.toList ++ st) := by
  rintro v σ' ⟨rfl, h⟩
  exact k σ' h
theorem zc {x y : Nat} : 0 + 0 ≤ x ∧ 0 + 0 ≤ y := ⟨Nat.zero_le _, Nat.zero_le _⟩
-- Math.max, Math.min, System.arraycopy
theorem v_max (C : Cx γ φ own cc nL lev) (hw : WMax γ own ix) {x y : Int} (hx : -2147483648 ≤ x ∧ x < 2147483648) (hy : -2147483648 ≤ y ∧ y < 2147483648) (d : decode cc pc = .ok (.invokestatic ix, 3)) (hr : (st.map fun v => v.category).sum ≤ 100) (ha : a ≤ φ.2.2.1.cells ∧ b ≤ φ.2.2.1.slots)
    (k : Vw γ φ nL a b Q σ (pc + 3) lv (.int (iI (if x < y then y else x)) :: st)) : Vw γ φ nL a b Q σ pc lv (.int (iI y) :: .int (iI x) :: st) := fun H locs ls hW hS hl => by
  have W0 := C.2.2.2.2.2.1.1
  have hf := C.2.2.2.2.2.2.2.1
  have hlo := C.2.2.2.2.2.2.2.2
  refine va_mmax C.2.1 C.2.2.1 (C.2.2.2.1.trans hl.1.symm) C.2.2.2.2.1 (hw.1 _ _ W0) (hw.2.1 _ _ W0) (hw.2.2.1 _ _ W0) (hw.2.2.2 _ _ W0) (by omega) (by omega) ha.1 ha.2 d ?_
  have e : (if iI x < iI y then iI y else iI x) = iI (if x < y then y else x) := by
    by_cases h : x < y
    · rw [if_pos h, if_pos ((iI_lt hx hy).mpr h)]
    · rw [if_neg h, if_neg (fun q => h ((iI_lt hx hy).mp q))]
  rw [e]
  exact k H locs ls hW hS hl
theorem v_min (C : Cx γ φ own cc nL lev) (hw : WMin γ own ix) {x y : Int} (hx : -2147483648 ≤ x ∧ x < 2147483648) (hy : -2147483648 ≤ y ∧ y < 2147483648) (d : decode cc pc = .ok (.invokestatic ix, 3)) (hr : (st.map fun v => v.category).sum ≤ 100) (ha : a ≤ φ.2.2.1.cells ∧ b ≤ φ.2.2.1.slots)
    (k : Vw γ φ nL a b Q σ (pc + 3) lv (.int (iI (if y < x then y else x)) :: st)) : Vw γ φ nL a b Q σ pc lv (.int (iI y) :: .int (iI x) :: st) := fun H locs ls hW hS hl => by
  have W0 := C.2.2.2.2.2.1.1
  have hf := C.2.2.2.2.2.2.2.1
  have hlo := C.2.2.2.2.2.2.2.2
  refine va_mmin C.2.1 C.2.2.1 (C.2.2.2.1.trans hl.1.symm) C.2.2.2.2.1 (hw.1 _ _ W0) (hw.2.1 _ _ W0) (hw.2.2.1 _ _ W0) (hw.2.2.2 _ _ W0) (by omega) (by omega) ha.1 ha.2 d ?_
  have e : (if iI y < iI x then iI y else iI x) = iI (if y < x then y else x) := by
    by_cases h : y < x
    · rw [if_pos h, if_pos ((iI_lt hy hx).mpr h)]
    · rw [if_neg h, if_neg (fun q => h ((iI_lt hy hx).mp q))]
  rw [e]
  exact k H locs ls hW hS hl
def cpyr (f g : Int → Int) (sp dp n : Int) : Int → Int := fun k => if dp ≤ k ∧ k < dp + n then f (sp + (k - dp)) else g k
theorem cpyr_r {c0 c1 : Nat} {sp dp n : Int} (h : Ok σ) (hd : 0 ≤ dp ∧ dp + n ≤ ((sh c1).2 : Int)) : Ok (setc σ c1 (cpyr (σ c0) (σ c1) sp dp n)) := by
  refine ⟨fun c j => ?_, fun c j hk ho => ?_⟩
  · by_cases hc : c = c1
    · subst hc
      rw [setc_at]
      by_cases hj : dp ≤ j ∧ j < dp + n
      · rw [show cpyr (σ c0) (σ c) sp dp n j = σ c0 (sp + (j - dp)) from if_pos hj]
        exact h.1 _ _
      · rw [show cpyr (σ c0) (σ c) sp dp n j = σ c j from if_neg hj]
        exact h.1 _ _
    · rw [setc_ne _ _ hc]
      exact h.1 _ _
  · by_cases hc : c = c1
    · subst hc
      rw [setc_at, show cpyr (σ c0) (σ c) sp dp n j = σ c j from if_neg (by omega)]
      exact h.2 _ _ hk ho
    · rw [setc_ne _ _ hc]
      exact h.2 _ _ hk ho
theorem v_copy (C : Cx γ φ own cc nL lev) (hw : WCpy γ own ix) {c0 c1 n0 n1 : Nat} {sp dp n : Int} (hs0 : sh c0 = (0, n0)) (hs1 : sh c1 = (0, n1)) (hb : n0 ≤ 4000 ∧ n1 ≤ 4000) (h1 : 0 ≤ sp ∧ 0 ≤ dp ∧ 0 ≤ n) (h2 : sp + n ≤ n0 ∧ dp + n ≤ n1) (d : decode cc pc = .ok (.invokestatic ix, 3)) (hr : (st.map fun v => v.category).sum ≤ 100)
    (k : Vw γ φ nL a b Q (setc σ c1 (cpyr (σ c0) (σ c1) sp dp n)) (pc + 3) lv st) : Vw γ φ nL a b Q σ pc lv (.int (iI n) :: .int (iI dp) :: .ref (bs γ + c1) :: .int (iI sp) :: .ref (bs γ + c0) :: st) := fun H locs ls hW hS hl => by
  have W0 := C.2.2.2.2.2.1.1
  have hf := C.2.2.2.2.2.2.2.1
  have hlo := C.2.2.2.2.2.2.2.2
  have he0 := wl_get γ σ (sh_lt (c := c0) (by rw [hs0]; simp))
  rw [hs0] at he0
  have he1 := wl_get γ σ (sh_lt (c := c1) (by rw [hs1]; simp))
  rw [hs1] at he1
  have esp : (iI sp).toNatClampNeg = sp.toNat := iI_cl (by omega)
  have edp : (iI dp).toNatClampNeg = dp.toNat := iI_cl (by omega)
  have en : (iI n).toNatClampNeg = n.toNat := iI_cl (by omega)
  have nn : nativeFrameWords "java/lang/System" "arraycopy" 5 + 11 ≤ 200 := by decide +kernel
  refine va_copyi C.2.1 C.2.2.1 (C.2.2.2.1.trans hl.1.symm) C.2.2.2.2.1 (hw.1 _ _ W0) (hw.2.1 _ _ W0) (hw.2.2.1 _ _ W0) (hw.2.2.2 _ _ W0) C.K hW.1 (wl_D γ σ) hS c0 c1 0 0 (ty := .int) he0 he1 rfl rfl rfl (by rw [iI_0, iI_lt (by omega) (by omega)]; omega) (by rw [iI_0, iI_lt (by omega) (by omega)]; omega) (by rw [iI_0, iI_lt (by omega) (by omega)]; omega) (by rw [esp, en]; show _ ≤ n0; omega) (by rw [edp, en]; show _ ≤ n1; omega) (fun _ _ => rfl) (by omega) (by omega) d ?_
  intro H1 locs1 hP1 _ hS1
  refine k H1 locs1 ls ⟨?_, ?_⟩ hS1 hl
  · have e := wl_set γ σ c1 (cpyr (σ c0) (σ c1) sp dp n)
    rw [hs1] at e
    rw [← e]
    have key : (fun i : Nat => iI (cpyr (σ c0) (σ c1) sp dp n (i : Int))) = va_cpy (fun j => iI (σ c0 (j : Int))) (fun j => iI (σ c1 (j : Int))) (iI sp).toNatClampNeg (iI dp).toNatClampNeg (iI n).toNatClampNeg := by
      funext i
      unfold cpyr va_cpy
      rw [esp, edp, en]
      by_cases h : dp ≤ i ∧ i < dp + n
      · rw [if_pos h, if_pos (by omega)]
        show iI _ = iI _
        congr 2
        omega
      · rw [if_neg h, if_neg (by omega)]
    show va_P γ.2.2.2.1 classes (List.set (wl γ σ) c1 (bs γ + c1, .inl (γ.2.2.2.2.1 0, n1, .inl (fun i : Nat => iI (cpyr (σ c0) (σ c1) sp dp n (i : Int)))))) H1
    rw [key]
    exact hP1
  · exact cpyr_r hW.2 ⟨by omega, by rw [hs1]; exact h2.2⟩
end VCL
