/-! methods that may throw -/
def Xcc (γ : Gm) (xp : String → St → Prop) : String → State → State → Prop := fun E st t => ∃ σ' : St, xp E σ' ∧ Wd γ σ' t.heap ∧ va_F (Ar γ) st t
def Cxx (γ : Gm) (y : MethodName) (cc : ByteArray) (maxL : Nat) (rt : Option FieldType) (lev : Nat) (as : List Value) (σ : St) (post : Option Value → St → Prop) (xp : String → St → Prop) : Prop :=
  vx_Met γ.1 y [.code y cc maxL rt] (rmL lev 1 6) (Pcc γ as σ) (Qcc γ post) (Xcc γ xp) 1 6 (Ar γ)
def QX (γ : Gm) (φ : Fx) (post : Option Value → St → Prop) (xp : String → St → Prop) : State → Prop := vx_MQ φ.2.2.2.2.2.2.1 (Qcc γ post) (Xcc γ xp) φ.2.2.2.2.2.1 φ.2.2.2.1 1 6 (Ar γ)
/-- what a body that may throw has besides: room for one exception, no handlers -/
def Cq (φ : Fx) : Prop := 1 ≤ φ.2.2.1.cells ∧ 6 ≤ φ.2.2.1.slots ∧ (∀ x ∈ φ.2.2.2.2.2.2.2.2.exceptionTable.toList, False)
theorem Wd.grow {γ : Gm} {σ : St} {H H1 : Heap} (h : Wd γ σ H) (hq : ∀ q : Nat, q < H.size → H1[q]? = H[q]?) : Wd γ σ H1 := ⟨h.1.kept (fun k q hk => hq _ (h.1 k q hk).lt), h.2⟩
theorem Cxx.of {γ : Gm} (G : Glo γ) {y : MethodName} {cc : ByteArray} {maxL lev : Nat} {rt : Option FieldType} {as : List Value} {σ : St} {post : Option Value → St → Prop} {xp : String → St → Prop} (hy : plainName y.cls = true) (hL : (lg_sl as).length ≤ maxL)
    (body : ∀ φ : Fx, Cx γ φ y.cls cc maxL lev → Cq φ → φ.2.2.2.2.2.2.2.1.sig.returnType = rt → Vw γ φ maxL 0 0 (QX γ φ post xp) σ 0 (lv_args 0 as) []) : Cxx γ y cc maxL rt lev as σ post xp := by
  refine vx_ofW (cc := cc) (maxL := maxL) (ret := rt) hy rfl ?_
  intro p e s m args below meth c s₁ B hml ht hv
  obtain ⟨rfl, hG, hWd⟩ := hv
  have hown : s.vm.findClass y.cls = some m.cls := findClass_of_methodNamed B.named
  have h := body (p, e, rmL lev 1 6, s, m, as.toArray, below, meth, c) ⟨G, B.exec, B.bytes, hml, hown, hG, B.notSynchronized, Nat.le_refl _, Nat.le_refl _⟩ ⟨Nat.le_refl _, Nat.le_refl _, ht⟩ B.returns s.heap [] _ hWd va_S.rf (lv_entry as hL)
  rw [lg_entry_eq]
  exact h
theorem cbX_of {γ : Gm} {φ : Fx} {own : String} {cc : ByteArray} {nL lev : Nat} {y : MethodName} {bytes : ByteArray} {maxL lev2 n : Nat} {rt : Option FieldType} (C : Cx γ φ own cc nL lev) (hy : Cy γ y bytes maxL rt n) (hl : lev2 + 1 ≤ lev) (hm : maxL ≤ 40) :
    ((rmL lev2 1 6).cells = 1 ∧ (rmL lev2 1 6).slots = 6 ∧ (rmL lev2 1 6).frames + 1 ≤ φ.2.2.1.frames ∧ 8 + (maxL + 11) + (rmL lev2 1 6).locals ≤ φ.2.2.1.locals ∧ (∀ w ∈ ([.code y bytes maxL rt] : List Cond), ∀ (a' : Array Value) (U : State), φ.2.2.2.1.WarmedH U.vm → w.before a' U = true) ∧ Cond.code y bytes maxL rt ∈ ([.code y bytes maxL rt] : List Cond)) := by
  obtain ⟨-, -, -, -, -, hG, -, hf, hlo⟩ := C
  refine ⟨rfl, rfl, ?_, ?_, fun w hw a' U hW => ?_, List.mem_cons_self⟩
  · show 10 + lev2 + 1 ≤ _
    omega
  · show 8 + (maxL + 11) + (400 + 60 * lev2) ≤ _
    omega
  · rw [List.mem_singleton] at hw
    subst hw
    exact hy.2.2.1 _ _ (State.WarmedH.trans hG.1 hW)
section VTX
variable {γ : Gm} {φ : Fx} {own : String} {cc : ByteArray} {nL lev a b : Nat} {Q : State → Prop} {σ : St} {pc : Nat} {lv : List (Nat × Value)} {st st0 : List Value} {post : Option Value → St → Prop} {xp : String → St → Prop}
theorem v_iretX {rt : FieldType} (C : Cx γ φ own cc nL lev) (hr : φ.2.2.2.2.2.2.2.1.sig.returnType = some rt) {x : Int} (hn : narrow rt (.int (iI x)) = .int (iI x)) (d : decode cc pc = .ok (.ireturn, 1)) (hp : post (some (.int (iI x))) σ) : Vw γ φ nL 0 0 (QX γ φ post xp) σ pc lv [.int (iI x)] := fun H locs ls hW hS hl => vx_ret (W.widen (k := 1) (n := 6) (by omega) (by omega) (W.zret C.2.1 C.2.2.1 hr hn (fun t ht hWt => ⟨_, σ, rfl, hp, by rw [ht]; exact hW, hS.F ht⟩) hS.2.2 d C.2.2.2.2.2.2.1))
theorem v_vretX (C : Cx γ φ own cc nL lev) (hr : φ.2.2.2.2.2.2.2.1.sig.returnType = none) (d : decode cc pc = .ok (.return_, 1)) (hp : post none σ) : Vw γ φ nL 0 0 (QX γ φ post xp) σ pc lv [] := fun H locs ls hW hS hl => vx_ret (W.widen (k := 1) (n := 6) (by omega) (by omega) (W.vret C.2.1 C.2.2.1 hr (fun t ht hWt => ⟨_, σ, rfl, hp, by rw [ht]; exact hW, hS.F ht⟩) hS.2.2 d C.2.2.2.2.2.2.1))
theorem v_thr (C : Cx γ φ own cc nL lev) (hq : Cq φ) {cls : String} {names : List String} {ik ic : Nat} (hcls : Bundle.fit cls = true) (hnames : ∀ n ∈ names, Bundle.fit n = true) (hln : names.length ≤ 4)
    (hk : Wrd γ (.classLink own ik cls)) (hini : Wrd γ (.initialized cls)) (hat : ∀ w ∈ vx_at0 own ic cls names, Wrd γ w) (hgood : ∀ w ∈ Cond.classLink own ik cls :: Cond.initialized cls :: vx_at0 own ic cls names, vx_ot w = true)
    (d0 : decode cc pc = .ok (.new ik, 3)) (d3 : decode cc (pc + 3) = .ok (.dup, 1)) (d4 : decode cc (pc + 4) = .ok (.invokespecial ic, 3)) (d7 : decode cc (pc + 7) = .ok (.athrow, 1))
    (hst : (st.map fun v => v.category).sum ≤ 40) (hp : xp cls σ) : Vw γ φ nL 0 0 (QX γ φ post xp) σ pc lv st := fun H locs ls hW hS hl => by
  have W0 := C.2.2.2.2.2.1.1
  have hf := C.2.2.2.2.2.2.2.1
  have hlo := C.2.2.2.2.2.2.2.2
  have hkp : ∀ q : Nat, q < γ.2.1.heap.size → ¬ Ar γ q → φ.2.2.2.1.heap[q]? = γ.2.1.heap[q]? := fun q hq9 _ => C.2.2.2.2.2.1.2.2 q hq9
  refine vx_throw0 C.2.1 C.2.2.1 C.1.1 (A := Ar γ) (names := names) C.2.2.2.2.1 hcls hnames (hk _ _ W0) (hini _ _ W0) (fun w h => hat w h _ _ W0) hgood
    (vx_Zq.moved W0.alike (vx_Zq.kept C.1.2.2.2.2.1 hkp)) (vx_Zq.moved W0.alike (vx_Zq.kept C.1.2.2.2.2.2 hkp)) hS (hl.1.trans C.2.2.2.1.symm) d0 d3 d4 d7 (fun x hx => (hq.2.2 x hx).elim) (by omega) (by omega) (by have := hq.1; omega) (by have := hq.2.1; omega) C.2.2.2.2.2.2.1 ?_ hS.2.2 (by omega) (by omega)
  intro t hal hz hqq
  refine ⟨σ, hp, hW.grow hqq, Nat.le_trans hS.1 hz, fun q h1 h2 => ?_⟩
  rw [hqq q (Nat.lt_of_lt_of_le h1 hS.1)]
  exact hS.2.1 q h1 h2
/-- a call that throws: it goes on to the caller -/
theorem v_csT {y : MethodName} {bytes : ByteArray} {maxL lev2 n ix : Nat} {rt : Option FieldType} {as : List Value} {post2 : Option Value → St → Prop} {xp2 : String → St → Prop} (C : Cx γ φ own cc nL lev) (hq : Cq φ) (hy : CyS γ y bytes maxL rt n) (hlink : Wrd γ (.methodLink own ix y)) (hM : Cxx γ y bytes maxL rt lev2 as σ post2 xp2) (d : decode cc pc = .ok (.invokestatic ix, 3)) (hn : as.length = n) (hst : st0 = as.reverse ++ st) (hl : lev2 + 1 ≤ lev) (hm : maxL ≤ 40) (hw : (st.map fun v => v.category).sum ≤ 8)
    (hno : ∀ v σ', post2 v σ' → False) (hx : ∀ E σ', xp2 E σ' → xp E σ') : Vw γ φ nL 0 0 (QX γ φ post xp) σ pc lv st0 := by
  intro H locs ls hW hS hl9 T hT X
  obtain ⟨⟨h1, h2, h3, h4⟩, h5⟩ := hy
  obtain ⟨q1, q2, q3, q4, q5, q6⟩ := cbX_of C ⟨h1, h2, h3, h4⟩ hl hm
  have W0 := C.2.2.2.2.2.1.1
  have run := vx_runS (args := φ.2.2.2.2.2.1) (cells := 0) (slots := 0) (H := H) (locs := locs) (below := φ.2.2.2.2.2.2.1) (meth := φ.2.2.2.2.2.2.2.1) (e := φ.2.1) (Ts := []) (rest := st) (g := F0 φ.2.2.2.2.1 pc ls st0) ⟨C.2.1, C.2.2.1, C.2.2.2.1, C.2.2.2.2.1, fun w h => nomatch h⟩ hM ⟨⟨q1, q2, q3, q4, q5, q6, h3 _ _ W0, h4 _ _ W0, h1, h2, hlink _ _ W0⟩, h5 _ _ W0⟩ ⟨Pcc.blind _ _ _, fun U hU hWU => ⟨rfl, C.2.2.2.2.2.1.next hS hU hWU, by rw [hU]; exact hW⟩⟩ rfl hn hl9.1 hst (lv_room hw) d ⟨by have := hq.1; omega, by have := hq.2.1; omega⟩
  rcases run T hT X with ⟨v, st₀, t, T', L, h0, X', hL, e1, e2, ⟨v', σ', hv, hp, hWd, hF⟩, go⟩ | ⟨q, st₀, t, T', L, E, ce, h0, X', hL, e1, e2, ⟨σ', hxp, hWd, hF⟩, hce, hcv, hcl, stp⟩
  · exact (hno _ _ hp).elim
  · obtain ⟨k1, k2, k3⟩ := vx_keep h0 e1 hS (fun _ _ h => h) (fun _ h => h) hL hF
    have ho := vx_out (p := φ.1) (l := γ.1) (e := φ.2.1) (R := φ.2.2.1) (s := φ.2.2.2.1) (m := φ.2.2.2.2.1) (args := φ.2.2.2.2.2.1) (below := φ.2.2.2.2.2.2.1) (meth := φ.2.2.2.2.2.2.2.1) (c := φ.2.2.2.2.2.2.2.2) (H := T'.heap) (locs := locs ++ L) (cells := 0 + 1) (slots := 0 + 6) (Qc := Qcc γ post) (XC := Xcc γ xp) (ls := ls) (rest := st) (pc := pc) (mc := 1) (ms := 6) (free := Ar γ) (fun x hx => (hq.2.2 x hx).elim) C.2.2.2.2.2.2.1 (by rw [e1]; exact hce) hcv hcl (fun t' ht' _ => ⟨σ', hx _ _ hxp, by rw [ht', e1]; exact hWd, k3.F ht'⟩) k3.2.2 (by omega) (by omega)
    obtain ⟨t2, a1, b1⟩ := ho T' rfl X'
    exact ⟨t2, stp.trans a1, b1⟩
end VTX
/-! the three exceptions of the class -/
def eA : String := "java/lang/IllegalArgumentException"
def eS : String := "java/lang/IllegalStateException"
def eI : String := "java/lang/IndexOutOfBoundsException"
theorem wrd_D {γ : Gm} (G : Glo γ) {x : MethodName} (k : Nat) (hm : lw_tbl[k]? = some (.declares x)) : Wrd γ (.declares x) := fun _ _ hW => va_Nw.use rfl (va_Nw.warmD hW (va_Nw.of rfl (G.2.1 _ (List.mem_of_getElem? hm))))
theorem wrd_K {γ : Gm} (G : Glo γ) {a b : String} (k : Nat) (hm : lw_tbl[k]? = some (.castable a b)) : Wrd γ (.castable a b) := fun _ _ hW => va_Nw.use rfl (va_Nw.warmC hW (va_Nw.of rfl (G.2.1 _ (List.mem_of_getElem? hm))))
theorem at_of {γ : Gm} (G : Glo γ) {L B : List Cond} (h1 : ∀ w ∈ L.filter goodWord, w ∈ lw_tbl) (h2 : ∀ w ∈ L.filter (fun w => !goodWord w), w ∈ B) (h3 : ∀ w ∈ B, Wrd γ w) : ∀ w ∈ L, Wrd γ w := by
  intro w hw
  by_cases g : goodWord w = true
  · exact fun a' U hW => word_at hW (good_of_word g) (G.2.1 w (h1 w (List.mem_filter.mpr ⟨hw, g⟩)))
  · refine h3 w (h2 w (List.mem_filter.mpr ⟨hw, ?_⟩))
    show (!goodWord w) = true
    cases hgw : goodWord w
    · rfl
    · exact absurd hgw g
theorem xA_1 : ∀ w ∈ (vx_at0 RX5 50 eA ["java/lang/RuntimeException", "java/lang/Exception"]).filter goodWord, w ∈ lw_tbl := by decide +kernel
theorem xA_2 : ∀ w ∈ (vx_at0 RX5 50 eA ["java/lang/RuntimeException", "java/lang/Exception"]).filter (fun w => !goodWord w), w ∈ ([.declares ⟨"java/lang/RuntimeException", "<init>", "()V"⟩, .declares ⟨"java/lang/Exception", "<init>", "()V"⟩, .declares ⟨"java/lang/Throwable", "<init>", "()V"⟩, .castable eA eA] : List Cond) := by decide +kernel
theorem xA_3 {γ : Gm} (G : Glo γ) : ∀ w ∈ ([.declares ⟨"java/lang/RuntimeException", "<init>", "()V"⟩, .declares ⟨"java/lang/Exception", "<init>", "()V"⟩, .declares ⟨"java/lang/Throwable", "<init>", "()V"⟩, .castable eA eA] : List Cond), Wrd γ w := List.forall_mem_cons.mpr ⟨wrd_D G 209 (by decide +kernel), List.forall_mem_cons.mpr ⟨wrd_D G 211 (by decide +kernel), List.forall_mem_cons.mpr ⟨wrd_D G 213 (by decide +kernel), List.forall_mem_cons.mpr ⟨wrd_K G 208 (by decide +kernel), fun _ h => nomatch h⟩⟩⟩⟩
theorem xA_4 : ∀ w ∈ Cond.classLink RX5 48 eA :: Cond.initialized eA :: vx_at0 RX5 50 eA ["java/lang/RuntimeException", "java/lang/Exception"], vx_ot w = true := by decide +kernel
theorem v_tA {γ : Gm} {φ : Fx} {cc : ByteArray} {nL lev : Nat} {σ : St} {pc : Nat} {lv : List (Nat × Value)} {st : List Value} {post : Option Value → St → Prop} {xp : String → St → Prop} (C : Cx γ φ RX5 cc nL lev) (hq : Cq φ) (d0 : decode cc pc = .ok (.new 48, 3)) (d3 : decode cc (pc + 3) = .ok (.dup, 1)) (d4 : decode cc (pc + 4) = .ok (.invokespecial 50, 3)) (d7 : decode cc (pc + 7) = .ok (.athrow, 1)) (hst : (st.map fun v => v.category).sum ≤ 40) (hp : xp eA σ) : Vw γ φ nL 0 0 (QX γ φ post xp) σ pc lv st :=
  v_thr C hq (cls := eA) (names := ["java/lang/RuntimeException", "java/lang/Exception"]) (by decide +kernel) (by decide +kernel) (by decide) (wrd_of C.1 206 (by decide +kernel) (by decide +kernel)) (wrd_of C.1 18 (by decide +kernel) (by decide +kernel)) (at_of C.1 xA_1 xA_2 (xA_3 C.1)) xA_4 d0 d3 d4 d7 hst hp
theorem xS_1 : ∀ w ∈ (vx_at0 RX5 57 eS ["java/lang/RuntimeException", "java/lang/Exception"]).filter goodWord, w ∈ lw_tbl := by decide +kernel
theorem xS_2 : ∀ w ∈ (vx_at0 RX5 57 eS ["java/lang/RuntimeException", "java/lang/Exception"]).filter (fun w => !goodWord w), w ∈ ([.declares ⟨"java/lang/RuntimeException", "<init>", "()V"⟩, .declares ⟨"java/lang/Exception", "<init>", "()V"⟩, .declares ⟨"java/lang/Throwable", "<init>", "()V"⟩, .castable eS eS] : List Cond) := by decide +kernel
theorem xS_3 {γ : Gm} (G : Glo γ) : ∀ w ∈ ([.declares ⟨"java/lang/RuntimeException", "<init>", "()V"⟩, .declares ⟨"java/lang/Exception", "<init>", "()V"⟩, .declares ⟨"java/lang/Throwable", "<init>", "()V"⟩, .castable eS eS] : List Cond), Wrd γ w := List.forall_mem_cons.mpr ⟨wrd_D G 209 (by decide +kernel), List.forall_mem_cons.mpr ⟨wrd_D G 211 (by decide +kernel), List.forall_mem_cons.mpr ⟨wrd_D G 213 (by decide +kernel), List.forall_mem_cons.mpr ⟨wrd_K G 273 (by decide +kernel), fun _ h => nomatch h⟩⟩⟩⟩
theorem xS_4 : ∀ w ∈ Cond.classLink RX5 55 eS :: Cond.initialized eS :: vx_at0 RX5 57 eS ["java/lang/RuntimeException", "java/lang/Exception"], vx_ot w = true := by decide +kernel
theorem v_tS {γ : Gm} {φ : Fx} {cc : ByteArray} {nL lev : Nat} {σ : St} {pc : Nat} {lv : List (Nat × Value)} {st : List Value} {post : Option Value → St → Prop} {xp : String → St → Prop} (C : Cx γ φ RX5 cc nL lev) (hq : Cq φ) (d0 : decode cc pc = .ok (.new 55, 3)) (d3 : decode cc (pc + 3) = .ok (.dup, 1)) (d4 : decode cc (pc + 4) = .ok (.invokespecial 57, 3)) (d7 : decode cc (pc + 7) = .ok (.athrow, 1)) (hst : (st.map fun v => v.category).sum ≤ 40) (hp : xp eS σ) : Vw γ φ nL 0 0 (QX γ φ post xp) σ pc lv st :=
  v_thr C hq (cls := eS) (names := ["java/lang/RuntimeException", "java/lang/Exception"]) (by decide +kernel) (by decide +kernel) (by decide) (wrd_of C.1 271 (by decide +kernel) (by decide +kernel)) (wrd_of C.1 19 (by decide +kernel) (by decide +kernel)) (at_of C.1 xS_1 xS_2 (xS_3 C.1)) xS_4 d0 d3 d4 d7 hst hp
theorem xI_1 : ∀ w ∈ (vx_at0 RX5 116 eI ["java/lang/RuntimeException", "java/lang/Exception"]).filter goodWord, w ∈ lw_tbl := by decide +kernel
theorem xI_2 : ∀ w ∈ (vx_at0 RX5 116 eI ["java/lang/RuntimeException", "java/lang/Exception"]).filter (fun w => !goodWord w), w ∈ ([.declares ⟨"java/lang/RuntimeException", "<init>", "()V"⟩, .declares ⟨"java/lang/Exception", "<init>", "()V"⟩, .declares ⟨"java/lang/Throwable", "<init>", "()V"⟩, .castable eI eI] : List Cond) := by decide +kernel
theorem xI_3 {γ : Gm} (G : Glo γ) : ∀ w ∈ ([.declares ⟨"java/lang/RuntimeException", "<init>", "()V"⟩, .declares ⟨"java/lang/Exception", "<init>", "()V"⟩, .declares ⟨"java/lang/Throwable", "<init>", "()V"⟩, .castable eI eI] : List Cond), Wrd γ w := List.forall_mem_cons.mpr ⟨wrd_D G 209 (by decide +kernel), List.forall_mem_cons.mpr ⟨wrd_D G 211 (by decide +kernel), List.forall_mem_cons.mpr ⟨wrd_D G 213 (by decide +kernel), List.forall_mem_cons.mpr ⟨wrd_K G 768 (by decide +kernel), fun _ h => nomatch h⟩⟩⟩⟩
theorem xI_4 : ∀ w ∈ Cond.classLink RX5 114 eI :: Cond.initialized eI :: vx_at0 RX5 116 eI ["java/lang/RuntimeException", "java/lang/Exception"], vx_ot w = true := by decide +kernel
theorem v_tI {γ : Gm} {φ : Fx} {cc : ByteArray} {nL lev : Nat} {σ : St} {pc : Nat} {lv : List (Nat × Value)} {st : List Value} {post : Option Value → St → Prop} {xp : String → St → Prop} (C : Cx γ φ RX5 cc nL lev) (hq : Cq φ) (d0 : decode cc pc = .ok (.new 114, 3)) (d3 : decode cc (pc + 3) = .ok (.dup, 1)) (d4 : decode cc (pc + 4) = .ok (.invokespecial 116, 3)) (d7 : decode cc (pc + 7) = .ok (.athrow, 1)) (hst : (st.map fun v => v.category).sum ≤ 40) (hp : xp eI σ) : Vw γ φ nL 0 0 (QX γ φ post xp) σ pc lv st :=
  v_thr C hq (cls := eI) (names := ["java/lang/RuntimeException", "java/lang/Exception"]) (by decide +kernel) (by decide +kernel) (by decide) (wrd_of C.1 766 (by decide +kernel) (by decide +kernel)) (wrd_of C.1 33 (by decide +kernel) (by decide +kernel)) (at_of C.1 xI_1 xI_2 (xI_3 C.1)) xI_4 d0 d3 d4 d7 hst hp
