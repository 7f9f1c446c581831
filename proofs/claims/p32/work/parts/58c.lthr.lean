/-! the law's own methods: they catch what the class throws -/
def Cww (γ : Gm) (y : MethodName) (cc : ByteArray) (maxL : Nat) (rt : Option FieldType) (hh : List (Nat × Nat × Nat × Nat)) (lev : Nat) (as : List Value) (σ : St) (post : Option Value → St → Prop) : Prop :=
  vx_Met γ.1 y [.codeWith y cc maxL rt hh] (rmL lev 1 6) (Pcc γ as σ) (Qcc γ post) (Xcc γ (fun _ _ => False)) 1 6 (Ar γ)
theorem Cww.of {γ : Gm} (G : Glo γ) {y : MethodName} {cc : ByteArray} {maxL lev : Nat} {rt : Option FieldType} {hh : List (Nat × Nat × Nat × Nat)} {as : List Value} {σ : St} {post : Option Value → St → Prop} (hy : plainName y.cls = true) (hL : (lg_sl as).length ≤ maxL)
    (body : ∀ φ : Fx, Cx γ φ y.cls cc maxL lev → (1 ≤ φ.2.2.1.cells ∧ 6 ≤ φ.2.2.1.slots) → φ.2.2.2.2.2.2.2.2.exceptionTable.toList = tableOf hh → φ.2.2.2.2.2.2.2.1.sig.returnType = rt → Vw γ φ maxL 0 0 (QX γ φ post (fun _ _ => False)) σ 0 (lv_args 0 as) []) : Cww γ y cc maxL rt hh lev as σ post := by
  refine vx_ofWH (cc := cc) (maxL := maxL) (ret := rt) (hh := hh) hy rfl ?_
  intro p e s m args below meth c s₁ B hml hv
  obtain ⟨rfl, hG, hWd⟩ := hv
  have hown : s.vm.findClass y.cls = some m.cls := findClass_of_methodNamed B.named
  have htab := vx_table (x := y) B (atoms_spec (ws := [.codeWith y cc maxL rt hh]) B.pre _ List.mem_cons_self)
  have h := body (p, e, rmL lev 1 6, s, m, as.toArray, below, meth, c) ⟨G, B.exec, B.bytes, hml, hown, hG, B.notSynchronized, Nat.le_refl _, Nat.le_refl _⟩ ⟨Nat.le_refl _, Nat.le_refl _⟩ htab B.returns s.heap [] _ hWd va_S.rf (lv_entry as hL)
  rw [lg_entry_eq]
  exact h
/-- where a walk stands, something thrown over it -/
def VX (γ : Gm) (φ : Fx) (nL a b : Nat) (Q : State → Prop) (E : String) (σ : St) (pc : Nat) (lv : List (Nat × Value)) (st : List Value) : Prop :=
  ∀ (H : Heap) (locs : List Loc) (ls : Array Slot) (q : Addr) (ce : Cell), Wd γ σ H → va_S (Ar γ) φ.2.2.2.1.heap H locs → lv_has ls nL lv → H[q]? = some ce → ce.vm = .none → φ.2.2.2.1.vm.findClass E = some ce.cls →
    vx_W φ.1 γ.1 φ.2.1 φ.2.2.1 φ.2.2.2.1 φ.2.2.2.2.1 φ.2.2.2.2.2.1 φ.2.2.2.2.2.2.1 φ.2.2.2.2.2.2.2.1 φ.2.2.2.2.2.2.2.2 H locs a b Q (F0 φ.2.2.2.2.1 pc ls st) q
section VLW
variable {γ : Gm} {φ : Fx} {own : String} {cc : ByteArray} {nL lev a b : Nat} {Q : State → Prop} {σ : St} {pc : Nat} {lv : List (Nat × Value)} {st st0 : List Value} {post : Option Value → St → Prop} {xp : String → St → Prop}
theorem v_wide {a' b' : Nat} (h1 : a ≤ a') (h2 : b ≤ b') (k : Vw γ φ nL a' b' Q σ pc lv st) : Vw γ φ nL a b Q σ pc lv st := fun H locs ls hW hS hl => W.widen h1 h2 (k H locs ls hW hS hl)
theorem v_iretW {rt : FieldType} (C : Cx γ φ own cc nL lev) (hab : a ≤ 1 ∧ b ≤ 6) (hr : φ.2.2.2.2.2.2.2.1.sig.returnType = some rt) {x : Int} (hn : narrow rt (.int (iI x)) = .int (iI x)) (d : decode cc pc = .ok (.ireturn, 1)) (hp : post (some (.int (iI x))) σ) : Vw γ φ nL a b (QX γ φ post xp) σ pc lv [.int (iI x)] := fun H locs ls hW hS hl => vx_ret (W.widen (k := 1) (n := 6) hab.1 hab.2 (W.zret C.2.1 C.2.2.1 hr hn (fun t ht hWt => ⟨_, σ, rfl, hp, by rw [ht]; exact hW, hS.F ht⟩) hS.2.2 d C.2.2.2.2.2.2.1))
theorem v_goX (arr : Array Value) {post2 : Option Value → St → Prop} {xp2 : String → St → Prop}
    (run : ∀ H locs ls, Wd γ σ H → va_S (Ar γ) φ.2.2.2.1.heap H locs → lv_has ls nL lv → vx_Run φ.1 γ.1 φ.2.1 φ.2.2.1 φ.2.2.2.1 φ.2.2.2.2.1 φ.2.2.2.2.2.1 φ.2.2.2.2.2.2.1 φ.2.2.2.2.2.2.2.1 φ.2.2.2.2.2.2.2.2 H locs a b 1 6 (F0 φ.2.2.2.2.1 pc ls st0) st (Qcc γ post2 arr) (Xcc γ xp2) (Ar γ))
    (kx : ∀ E σ', xp2 E σ' → VX γ φ nL (a + 1) (b + 6) Q E σ' pc lv st)
    (k : ∀ v σ', post2 v σ' → Vw γ φ nL (a + 1) (b + 6) Q σ' (pc + 3) lv (v.toList ++ st)) : Vw γ φ nL a b Q σ pc lv st0 := by
  intro H locs ls hW hS hl T hT X
  rcases run H locs ls hW hS hl T hT X with ⟨v, st₀, t, T', L, h0, X', hL, e1, e2, ⟨v', σ', hv, hp, hWd, hF⟩, go⟩ | ⟨q, st₀, t, T', L, E, ce, h0, X', hL, e1, e2, ⟨σ', hxp, hWd, hF⟩, hce, hcv, hcl, stp⟩
  · cases hv
    obtain ⟨k1, k2, k3⟩ := vx_keep h0 e1 hS (fun _ _ h => h) (fun _ h => h) hL hF
    obtain ⟨t2, s2, q2⟩ := k v σ' hp T'.heap (locs ++ L) ls (by rw [e1]; exact hWd) k3 hl T' rfl X'
    exact ⟨t2, go _ s2, q2⟩
  · obtain ⟨k1, k2, k3⟩ := vx_keep h0 e1 hS (fun _ _ h => h) (fun _ h => h) hL hF
    obtain ⟨t2, a1, b1⟩ := kx E σ' hxp T'.heap (locs ++ L) ls q ce (by rw [e1]; exact hWd) k3 hl (by rw [e1]; exact hce) hcv hcl T' rfl X'
    exact ⟨t2, stp.trans a1, b1⟩
variable {y : MethodName} {bytes : ByteArray} {maxL lev2 n ix : Nat} {rt : Option FieldType} {as : List Value} {post2 : Option Value → St → Prop} {xp2 : String → St → Prop}
theorem v_cvX {c0 ci : Nat} {q : vw_C} (C : Cx γ φ own cc nL lev) (hy : CyV γ y bytes maxL rt n) (hlink : Wrd γ (.methodLink own ix y)) (hs : sh c0 = (5, ci)) (hcl : classes[ci]? = some q) (hq : q.1 = y.cls) (hM : Cxx γ y bytes maxL rt lev2 (.ref (bs γ + c0) :: as) σ post2 xp2) (d : decode cc pc = .ok (.invokevirtual ix, 3)) (hn : as.length = n) (hst : st0 = as.reverse ++ .ref (bs γ + c0) :: st) (hl : lev2 + 1 ≤ lev) (hm : maxL ≤ 40) (hw : (st.map fun v => v.category).sum ≤ 8) (ha : a + 1 ≤ φ.2.2.1.cells ∧ b + 6 ≤ φ.2.2.1.slots)
    (kx : ∀ E σ', xp2 E σ' → VX γ φ nL (a + 1) (b + 6) Q E σ' pc lv st)
    (k : ∀ v σ', post2 v σ' → Vw γ φ nL (a + 1) (b + 6) Q σ' (pc + 3) lv (v.toList ++ st)) : Vw γ φ nL a b Q σ pc lv st0 := by
  refine v_goX (Value.ref (bs γ + c0) :: as).toArray (fun H locs ls hW hS hl9 => ?_) kx k
  obtain ⟨⟨h1, h2, h3, h4⟩, h5, h6⟩ := hy
  obtain ⟨q1, q2, q3, q4, q5, q6⟩ := cbX_of C ⟨h1, h2, h3, h4⟩ hl hm
  have W0 := C.2.2.2.2.2.1.1
  have he := wl_get γ σ (sh_lt (c := c0) (by rw [hs]; simp))
  rw [hs] at he
  have hrec := va_recv C.K hW.1 hcl he
  rw [hq] at hrec
  exact vx_runV (Ts := []) ⟨C.2.1, C.2.2.1, C.2.2.2.1, C.2.2.2.2.1, fun w h => nomatch h⟩ hM ⟨⟨q1, q2, q3, q4, q5, q6, h3 _ _ W0, h4 _ _ W0, h1, h2, hlink _ _ W0⟩, h5 _ _ W0, h6 _ _ W0⟩ ⟨Pcc.blind _ _ _, hrec, fun U hU hWU => ⟨rfl, C.2.2.2.2.2.1.next hS hU hWU, by rw [hU]; exact hW⟩⟩ rfl hn hl9.1 hst (lv_room hw) d ha
/-- a call of one of the law's own methods -/
theorem v_csW {hh : List (Nat × Nat × Nat × Nat)} (C : Cx γ φ own cc nL lev) (hy : (y.cls ≠ "java/lang/invoke/MethodHandle" ∧ y.cls ≠ "java/lang/invoke/VarHandle") ∧ (∀ sig, parseMethodDescriptor y.desc = some sig → n = sig.parameters.length) ∧ Wrd γ (.codeWith y bytes maxL rt hh) ∧ Wrd γ (.initialized y.cls) ∧ Wrd γ (.static y)) (hlink : Wrd γ (.methodLink own ix y)) (hM : Cww γ y bytes maxL rt hh lev2 as σ post2) (d : decode cc pc = .ok (.invokestatic ix, 3)) (hn : as.length = n) (hst : st0 = as.reverse ++ st) (hl : lev2 + 1 ≤ lev) (hm : maxL ≤ 40) (hw : (st.map fun v => v.category).sum ≤ 8) (ha : a + 1 ≤ φ.2.2.1.cells ∧ b + 6 ≤ φ.2.2.1.slots)
    (k : ∀ v σ', post2 v σ' → Vw γ φ nL (a + 1) (b + 6) Q σ' (pc + 3) lv (v.toList ++ st)) : Vw γ φ nL a b Q σ pc lv st0 := by
  refine v_goX as.toArray (xp2 := fun _ _ => False) (fun H locs ls hW hS hl9 => ?_) (fun _ _ h => h.elim) k
  obtain ⟨h1, h2, h3, h4, h5⟩ := hy
  have W0 := C.2.2.2.2.2.1.1
  have hf := C.2.2.2.2.2.2.2.1
  have hlo := C.2.2.2.2.2.2.2.2
  refine vx_runSX (hh := hh) (Ts := []) ⟨C.2.1, C.2.2.1, C.2.2.2.1, C.2.2.2.2.1, fun w h => nomatch h⟩ hM ⟨⟨rfl, rfl, ?_, ?_, fun w hw a' U hW9 => ?_, List.mem_cons_self⟩, h3 _ _ W0, h4 _ _ W0, h1, h2, hlink _ _ W0, h5 _ _ W0⟩ ⟨Pcc.blind _ _ _, fun U hU hWU => ⟨rfl, C.2.2.2.2.2.1.next hS hU hWU, by rw [hU]; exact hW⟩⟩ rfl hn hl9.1 hst (lv_room hw) d ha
  · show 10 + lev2 + 1 ≤ _
    omega
  · show 8 + (maxL + 11) + (400 + 60 * lev2) ≤ _
    omega
  · rw [List.mem_singleton] at hw
    subst hw
    exact h3 _ _ (State.WarmedH.trans W0 hW9)
/-- caught by the row x; the rows ahead name other classes -/
theorem v_cat {hh : List (Nat × Nat × Nat × Nat)} {E : String} (C : Cx γ φ own cc nL lev) (ht : φ.2.2.2.2.2.2.2.2.exceptionTable.toList = tableOf hh) (pre : List ExceptionTableEntry) (x : ExceptionTableEntry) (suf : List ExceptionTableEntry) (hs : tableOf hh = pre ++ x :: suf)
    (hp : ∀ z ∈ pre, z.catchType ≠ 0 ∧ ∃ nm : String, Wrd γ (.classLink own z.catchType nm) ∧ va_Nc E nm γ.2.1) (hx : covers x pc = true) (h0 : x.catchType ≠ 0) (hl : Wrd γ (.classLink own x.catchType E)) (hc : Wrd γ (.castable E E))
    (k : ∀ q : Nat, Vw γ φ nL a b Q σ x.handlerPc lv [.ref q]) : VX γ φ nL a b Q E σ pc lv st := fun H locs ls q ce hW hS hl9 hce hcv hcl => by
  have W0 := C.2.2.2.2.2.1.1
  exact vx_catch C.2.2.2.2.1 pre x suf (ht.trans hs) (fun z hz => Or.inr ⟨(hp z hz).1, by
    obtain ⟨-, nm, g1, g2⟩ := hp z hz
    exact ⟨nm, g1 _ _ W0, va_Nc.moved W0.alike g2⟩⟩) hx h0 (hl _ _ W0) (hc _ _ W0) hce hcv hcl (k q H locs ls hW hS hl9)
end VLW
/-- none of the three exceptions is another -/
def GNc (γ : Gm) : Prop := (va_Nc eS eA γ.2.1 ∧ va_Nc eI eA γ.2.1) ∧ (va_Nc eA eS γ.2.1 ∧ va_Nc eI eS γ.2.1) ∧ (va_Nc eA eI γ.2.1 ∧ va_Nc eS eI γ.2.1)
theorem wL_A {γ : Gm} (G : Glo γ) : Wrd γ (.classLink RL 16 eA) := wL_16 G
theorem wK_A {γ : Gm} (G : Glo γ) : Wrd γ (.castable eA eA) := wrd_K G 208 (by decide +kernel)
theorem wL_S {γ : Gm} (G : Glo γ) : Wrd γ (.classLink RL 19 eS) := wL_19 G
theorem wK_S {γ : Gm} (G : Glo γ) : Wrd γ (.castable eS eS) := wrd_K G 273 (by decide +kernel)
theorem wL_I {γ : Gm} (G : Glo γ) : Wrd γ (.classLink RL 13 eI) := wL_13 G
theorem wK_I {γ : Gm} (G : Glo γ) : Wrd γ (.castable eI eI) := wrd_K G 768 (by decide +kernel)
